set_option maxHeartbeats 4000000 in
set_option maxRecDepth 100000 in
theorem d_sum5 {l : Launch} {G : jG} {nh : Nat} {fh : Nat → Option va_E} (ln : Int) (tk : Int) (st : Int) (bh : Int) (va : Int) (pa : Int) (fl : Int) (sz : Int) (tp : Int → Int) (cd : Int → Int) (ti : Int) (q0 : 0 ≤ ln) (q1 : ln ≤ 400) (q2 : 0 ≤ tk) (q3 : tk ≤ 355) (q4 : 0 ≤ st) (q5 : st ≤ bh) (q6 : bh ≤ ln) (q7 : 0 ≤ va) (q8 : va ≤ 1001) (q9 : 0 ≤ pa) (q10 : pa ≤ 50) (q11 : zr fl) (q12 : 0 ≤ sz) (q13 : sz ≤ 412) (q14 : TokL tk st bh) (q15 : Rg tp 400 0 255) (q16 : Rg cd 412 (-2147483648) 2147483647) (q17 : TkX tp ln ti tk st bh va) (q18 : 0 ≤ ti) (hk54 : fh 54 = some (.inr (5, [.ref 55, .int (zI ln), .int (zI tk), .int (zI st), .int (zI bh), .int (zI va), .int (zI pa), .int (zI fl), .ref 56, .int (zI sz)]))) (hk55 : fh 55 = some (.inl (0, 400, .inl (zA tp)))) (hk56 : fh 56 = some (.inl (0, 412, .inl (zA cd)))) : JM l G yX5_sum MX5_sum { frames := 20, cells := 0, slots := 0, locals := 446 } [.ref 54, .int (zI 5)] (nh, fh) (fun rr h9 => (∃ tk2 : Int, ∃ st2 : Int, ∃ bh2 : Int, ∃ va2 : Int, ∃ pa2 : Int, ∃ sz2 : Int, ∃ cd2 : Int → Int, ∃ ti2 : Int, rr = some (.int (zI 1)) ∧ h9 = (nh, hc fh [(54, .inr (5, [.ref 55, .int (zI ln), .int (zI tk2), .int (zI st2), .int (zI bh2), .int (zI va2), .int (zI pa2), .int (zI fl), .ref 56, .int (zI sz2)])), (56, .inl (0, 412, .inl (zA cd2)))]) ∧ (0 ≤ tk2) ∧ (tk2 ≤ 355) ∧ (0 ≤ st2) ∧ (st2 ≤ bh2) ∧ (bh2 ≤ ln) ∧ (0 ≤ va2) ∧ (va2 ≤ 1001) ∧ (0 ≤ pa2) ∧ (pa2 ≤ 50) ∧ (0 ≤ sz2) ∧ (sz2 ≤ 412) ∧ (TokL tk2 st2 bh2) ∧ (Rg cd2 412 (-2147483648) 2147483647) ∧ (sz2 + st ≤ sz + st2) ∧ (st ≤ st2) ∧ (TkX tp ln ti2 tk2 st2 bh2 va2) ∧ (0 ≤ ti2) ∧ (SmR (CTk tp ln) (LF tp ln) 3 ti pa 1 ti2 pa2)) ∨ (∃ tk2 : Int, ∃ st2 : Int, ∃ bh2 : Int, ∃ va2 : Int, ∃ pa2 : Int, ∃ sz2 : Int, ∃ cd2 : Int → Int, ∃ fl2 : Int, ∃ ti2 : Int, rr = some (.int (zI 0)) ∧ h9 = (nh, hc fh [(54, .inr (5, [.ref 55, .int (zI ln), .int (zI tk2), .int (zI st2), .int (zI bh2), .int (zI va2), .int (zI pa2), .int (zI fl2), .ref 56, .int (zI sz2)])), (56, .inl (0, 412, .inl (zA cd2)))]) ∧ (0 ≤ tk2) ∧ (tk2 ≤ 355) ∧ (0 ≤ st2) ∧ (st2 ≤ bh2) ∧ (bh2 ≤ ln) ∧ (0 ≤ va2) ∧ (va2 ≤ 1001) ∧ (0 ≤ pa2) ∧ (pa2 ≤ 50) ∧ (0 ≤ sz2) ∧ (sz2 ≤ 412) ∧ (TokL tk2 st2 bh2) ∧ (Rg cd2 412 (-2147483648) 2147483647) ∧ (0 ≤ fl2) ∧ (fl2 ≤ 400) ∧ (FlX tp ln ti2 fl2) ∧ (SmR (CTk tp ln) (LF tp ln) 3 ti pa 0 ti2 0))) := by
  refine JM.of (by decide) rfl (fun h => by cases h) (Nat.le_of_ble_eq_true rfl) ⟨2, rfl⟩ ?_
  refine J_hc0 (J_ls (ls2 := [some (.ref 54), some (.int (zI 5)), none, none]) rfl ?_)
  refine J_aload_n dX5_sum_0 rfl rfl ?_
  refine J_iload_n dX5_sum_1 rfl rfl ?_
  refine J_callV (st := []) dX5_sum_2 cv_X5_89 (d_term5 ln tk st bh va pa fl sz tp cd ti q0 q1 q2 q3 q4 q5 q6 q7 q8 q9 q10 q11 q12 q13 q14 q15 q16 q17 q18 hk54 hk55 hk56) hk54 rfl rfl (Nat.le_of_ble_eq_true rfl) ⟨(Nat.le_of_ble_eq_true rfl), (Nat.le_of_ble_eq_true rfl)⟩ ⟨(Nat.le_of_ble_eq_true rfl), (Nat.le_of_ble_eq_true rfl)⟩ (fun r h9 hp => ?_)
  rcases hp with ⟨z1, z2, z3, z4, z5, z6, f7, z8, rfl, rfl, h9, h10, h11, h12, h13, h14, h15, h16, h17, h18, h19, h20, h21, h22, h23, h24, h25, h26⟩ | ⟨z27, z28, z29, z30, z31, z32, f33, z34, z35, rfl, rfl, h36, h37, h38, h39, h40, h41, h42, h43, h44, h45, h46, h47, h48, h49, h50, h51, h52⟩
  · refine J_nf (nh2 := nh) (ck2 := 0) (sk2 := 0) (st2 := [.int (zI 1)]) rfl rfl rfl rfl ?_
    refine J_app (L3 := [(54, .inr (5, [.ref 55, .int (zI ln), .int (zI z1), .int (zI z2), .int (zI z3), .int (zI z4), .int (zI z5), .int (zI fl), .ref 56, .int (zI z6)])), (56, .inl (0, 412, .inl (zA f7)))]) rfl ?_
    refine Z_if_ne (tgt := 10) dX5_sum_5 (by decide) v_4dcc24baa7 (fun h53 => ?_) (fun h53 => absurd h53 v_3a47bfd896)
    refine Z_iconst (n := 0) dX5_sum_10 ?_
    refine J_istore_n dX5_sum_11 rfl (Nat.le_of_ble_eq_true rfl) rfl ?_
    refine J_ls (ls2 := [some (.ref 54), some (.int (zI 5)), some (.int (zI 0)), none]) rfl ?_
    have lp12 : ∀ (N12 : Nat) (i_12 : Int) (tx_12 : Int) (sx_12 : Int) (bx_12 : Int) (vx_12 : Int) (px_12 : Int) (zx_12 : Int) (cx_12 : Int → Int) (ti_12 : Int), (0 ≤ i_12) → (i_12 ≤ 400) → (zx_12 + st ≤ sz + sx_12) → (st ≤ sx_12) → (0 ≤ tx_12) → (tx_12 ≤ 355) → (0 ≤ sx_12) → (sx_12 ≤ bx_12) → (bx_12 ≤ ln) → (0 ≤ vx_12) → (vx_12 ≤ 1001) → (TokL tx_12 sx_12 bx_12) → (Rg cx_12 412 (-2147483648) 2147483647) → (0 ≤ zx_12) → (zx_12 ≤ 412) → (0 ≤ px_12) → (px_12 ≤ 50) → (st + i_12 ≤ sx_12) → (TkX tp ln ti_12 tx_12 sx_12 bx_12 vx_12) → (0 ≤ ti_12) → (SeP (TmR (CTk tp ln) (LF tp ln) 3) opA (CTk tp ln) ti pa ti_12 px_12) → (400 - i_12).toNat < N12 → J l G MX5_sum { frames := 20, cells := 0, slots := 0, locals := 446 } jE (jMQ G { frames := 20, cells := 0, slots := 0, locals := 446 } (fun rr h9 => (∃ tk2 : Int, ∃ st2 : Int, ∃ bh2 : Int, ∃ va2 : Int, ∃ pa2 : Int, ∃ sz2 : Int, ∃ cd2 : Int → Int, ∃ ti2 : Int, rr = some (.int (zI 1)) ∧ h9 = (nh, hc fh [(54, .inr (5, [.ref 55, .int (zI ln), .int (zI tk2), .int (zI st2), .int (zI bh2), .int (zI va2), .int (zI pa2), .int (zI fl), .ref 56, .int (zI sz2)])), (56, .inl (0, 412, .inl (zA cd2)))]) ∧ (0 ≤ tk2) ∧ (tk2 ≤ 355) ∧ (0 ≤ st2) ∧ (st2 ≤ bh2) ∧ (bh2 ≤ ln) ∧ (0 ≤ va2) ∧ (va2 ≤ 1001) ∧ (0 ≤ pa2) ∧ (pa2 ≤ 50) ∧ (0 ≤ sz2) ∧ (sz2 ≤ 412) ∧ (TokL tk2 st2 bh2) ∧ (Rg cd2 412 (-2147483648) 2147483647) ∧ (sz2 + st ≤ sz + st2) ∧ (st ≤ st2) ∧ (TkX tp ln ti2 tk2 st2 bh2 va2) ∧ (0 ≤ ti2) ∧ (SmR (CTk tp ln) (LF tp ln) 3 ti pa 1 ti2 pa2)) ∨ (∃ tk2 : Int, ∃ st2 : Int, ∃ bh2 : Int, ∃ va2 : Int, ∃ pa2 : Int, ∃ sz2 : Int, ∃ cd2 : Int → Int, ∃ fl2 : Int, ∃ ti2 : Int, rr = some (.int (zI 0)) ∧ h9 = (nh, hc fh [(54, .inr (5, [.ref 55, .int (zI ln), .int (zI tk2), .int (zI st2), .int (zI bh2), .int (zI va2), .int (zI pa2), .int (zI fl2), .ref 56, .int (zI sz2)])), (56, .inl (0, 412, .inl (zA cd2)))]) ∧ (0 ≤ tk2) ∧ (tk2 ≤ 355) ∧ (0 ≤ st2) ∧ (st2 ≤ bh2) ∧ (bh2 ≤ ln) ∧ (0 ≤ va2) ∧ (va2 ≤ 1001) ∧ (0 ≤ pa2) ∧ (pa2 ≤ 50) ∧ (0 ≤ sz2) ∧ (sz2 ≤ 412) ∧ (TokL tk2 st2 bh2) ∧ (Rg cd2 412 (-2147483648) 2147483647) ∧ (0 ≤ fl2) ∧ (fl2 ≤ 400) ∧ (FlX tp ln ti2 fl2) ∧ (SmR (CTk tp ln) (LF tp ln) 3 ti pa 0 ti2 0)))) (nh, hc fh [(54, .inr (5, [.ref 55, .int (zI ln), .int (zI tx_12), .int (zI sx_12), .int (zI bx_12), .int (zI vx_12), .int (zI px_12), .int (zI fl), .ref 56, .int (zI zx_12)])), (56, .inl (0, 412, .inl (zA cx_12)))]) 0 0 12 [some (.ref 54), some (.int (zI 5)), some (.int (zI i_12)), none] [] := by
      intro N12
      induction N12 with
      | zero => intro i_12 tx_12 sx_12 bx_12 vx_12 px_12 zx_12 cx_12 ti_12 i12_0 i12_1 i12_2 i12_3 i12_4 i12_5 i12_6 i12_7 i12_8 i12_9 i12_10 i12_11 i12_12 i12_13 i12_14 i12_15 i12_16 i12_17 i12_18 i12_19 i12_20 hm; exact absurd hm (Nat.not_lt_zero _)
      | succ N12 ih12 =>
        intro i_12 tx_12 sx_12 bx_12 vx_12 px_12 zx_12 cx_12 ti_12 i12_0 i12_1 i12_2 i12_3 i12_4 i12_5 i12_6 i12_7 i12_8 i12_9 i12_10 i12_11 i12_12 i12_13 i12_14 i12_15 i12_16 i12_17 i12_18 i12_19 i12_20 hm12
        refine J_iload_n dX5_sum_12 rfl rfl ?_
        refine Z_sipush (n := 400) dX5_sum_13 (by decide +kernel) ?_
        refine Z_icmp_ge (tgt := 79) dX5_sum_16 (by decide) (v_d7389cde0f i12_0 i12_1) v_d8dcd4dd52 (fun h54 => ?_) (fun h54 => ?_)
        · have g55 : tx_12 = 17 := TkX.lo i12_18 (v_96ef693267 q1 q4 i12_7 i12_8 i12_17 h54)
          refine Z_iconst (n := 1) dX5_sum_79 ?_
          exact J_iret dX5_sum_80 rfl (jbn v_316afd7d0b v_bbcfac9b7d) (Nat.le_of_ble_eq_true rfl) (Nat.le_of_ble_eq_true rfl) (Or.inl ⟨tx_12, sx_12, bx_12, vx_12, px_12, zx_12, cx_12, ti_12, rfl, rfl, i12_4, i12_5, i12_6, i12_7, i12_8, i12_9, i12_10, i12_15, i12_16, i12_13, i12_14, i12_11, i12_12, i12_2, i12_3, i12_18, i12_19, (SeP.end i12_20 (fun w => Or.elim w (fun w => absurd ((TkX.sg i12_18 (v := 143) (by decide)).mp w) (v_01b9cf9fa7 g55)) (fun w => absurd ((TkX.sg i12_18 (v := 145) (by decide)).mp w) (v_03a7f166d3 g55))))⟩)
        · refine J_aload_n dX5_sum_19 rfl rfl ?_
          refine Z_bipush (n := 43) dX5_sum_20 (by decide +kernel) ?_
          refine J_callV (st := []) dX5_sum_22 cv_X5_50 (d_isSign 43 ln tx_12 sx_12 bx_12 vx_12 px_12 fl zx_12 v_8b70ad274a v_ff10987188 i12_4 i12_5 rfl) rfl rfl rfl (Nat.le_of_ble_eq_true rfl) ⟨(Nat.le_of_ble_eq_true rfl), (Nat.le_of_ble_eq_true rfl)⟩ ⟨(Nat.le_of_ble_eq_true rfl), (Nat.le_of_ble_eq_true rfl)⟩ (fun r h9 hp => ?_)
          rcases hp with ⟨rfl, rfl, h56⟩ | ⟨rfl, rfl, h57⟩
          · refine J_nf (nh2 := nh) (ck2 := 0) (sk2 := 0) (st2 := [.int (zI 1)]) rfl rfl rfl rfl ?_
            refine Z_if_ne (tgt := 37) dX5_sum_25 (by decide) v_4dcc24baa7 (fun h58 => ?_) (fun h58 => absurd h58 v_3a47bfd896)
            refine J_aload_n dX5_sum_37 rfl rfl ?_
            refine Z_bipush (n := 43) dX5_sum_38 (by decide +kernel) ?_
            refine J_callV (st := []) dX5_sum_40 cv_X5_50 (d_isSign 43 ln tx_12 sx_12 bx_12 vx_12 px_12 fl zx_12 v_8b70ad274a v_ff10987188 i12_4 i12_5 rfl) rfl rfl rfl (Nat.le_of_ble_eq_true rfl) ⟨(Nat.le_of_ble_eq_true rfl), (Nat.le_of_ble_eq_true rfl)⟩ ⟨(Nat.le_of_ble_eq_true rfl), (Nat.le_of_ble_eq_true rfl)⟩ (fun r h9 hp => ?_)
            rcases hp with ⟨rfl, rfl, h59⟩ | ⟨rfl, rfl, h60⟩
            · refine J_nf (nh2 := nh) (ck2 := 0) (sk2 := 0) (st2 := [.int (zI 1)]) rfl rfl rfl rfl ?_
              refine Z_if_eq (tgt := 50) dX5_sum_43 (by decide) v_4dcc24baa7 (fun h61 => absurd h61 v_3a47bfd896) (fun h61 => ?_)
              refine Z_iconst (n := 2) dX5_sum_46 ?_
              refine J_goto (tgt := 51) dX5_sum_47 (by decide) ?_
              refine J_istore_n dX5_sum_51 rfl (Nat.le_of_ble_eq_true rfl) rfl ?_
              refine J_ls (ls2 := [some (.ref 54), some (.int (zI 5)), some (.int (zI i_12)), some (.int (zI 2))]) rfl ?_
              refine J_aload_n dX5_sum_52 rfl rfl ?_
              have g62 := TokL.lt i12_11 (v_7a588369ee h56)
              refine J_callV (st := []) dX5_sum_53 cv_X5_43 (d_advance (ti_12 + 1) ln tx_12 sx_12 bx_12 vx_12 px_12 fl zx_12 tp q0 q1 (v_d253cb2c59 i12_6 g62) i12_8 i12_9 i12_10 q15 (TkX.ps i12_18 (v_2b02420001 i12_19)) rfl hk55) rfl rfl rfl (Nat.le_of_ble_eq_true rfl) ⟨(Nat.le_of_ble_eq_true rfl), (Nat.le_of_ble_eq_true rfl)⟩ ⟨(Nat.le_of_ble_eq_true rfl), (Nat.le_of_ble_eq_true rfl)⟩ (fun r h9 hp => ?_)
              obtain ⟨z63, z64, z65, z66, rfl, rfl, h67, h68, h69, h70, h71, h72, h73, h74, h75⟩ := hp
              refine J_nf (nh2 := nh) (ck2 := 0) (sk2 := 0) (st2 := []) rfl rfl rfl rfl ?_
              refine J_app (L3 := [(54, .inr (5, [.ref 55, .int (zI ln), .int (zI z63), .int (zI z64), .int (zI z65), .int (zI z66), .int (zI px_12), .int (zI fl), .ref 56, .int (zI zx_12)])), (54, .inr (5, [.ref 55, .int (zI ln), .int (zI tx_12), .int (zI sx_12), .int (zI bx_12), .int (zI vx_12), .int (zI px_12), .int (zI fl), .ref 56, .int (zI zx_12)])), (56, .inl (0, 412, .inl (zA cx_12)))]) rfl ?_
              refine J_mask (L2 := [(54, .inr (5, [.ref 55, .int (zI ln), .int (zI z63), .int (zI z64), .int (zI z65), .int (zI z66), .int (zI px_12), .int (zI fl), .ref 56, .int (zI zx_12)])), (56, .inl (0, 412, .inl (zA cx_12)))]) (ks := [54, 54, 56]) [true, false, true] rfl (by decide +kernel) rfl ?_
              refine J_aload_n dX5_sum_56 rfl rfl ?_
              refine J_iload_n dX5_sum_57 rfl rfl ?_
              refine J_callV (st := []) dX5_sum_58 cv_X5_89 (d_term5 ln z63 z64 z65 z66 px_12 fl zx_12 tp cx_12 (ti_12 + 1) q0 q1 h67 h68 (v_9b2e2070a2 i12_6 g62 h69) h70 h71 h72 h73 i12_15 i12_16 q11 i12_13 i12_14 h74 q15 i12_12 h75 (v_da458fa48a i12_19) rfl hk55 rfl) rfl rfl rfl (Nat.le_of_ble_eq_true rfl) ⟨(Nat.le_of_ble_eq_true rfl), (Nat.le_of_ble_eq_true rfl)⟩ ⟨(Nat.le_of_ble_eq_true rfl), (Nat.le_of_ble_eq_true rfl)⟩ (fun r h9 hp => ?_)
              rcases hp with ⟨z76, z77, z78, z79, z80, z81, f82, z83, rfl, rfl, h84, h85, h86, h87, h88, h89, h90, h91, h92, h93, h94, h95, h96, h97, h98, h99, h100, h101⟩ | ⟨z102, z103, z104, z105, z106, z107, f108, z109, z110, rfl, rfl, h111, h112, h113, h114, h115, h116, h117, h118, h119, h120, h121, h122, h123, h124, h125, h126, h127⟩
              · refine J_nf (nh2 := nh) (ck2 := 0) (sk2 := 0) (st2 := [.int (zI 1)]) rfl rfl rfl rfl ?_
                refine J_app (L3 := [(54, .inr (5, [.ref 55, .int (zI ln), .int (zI z76), .int (zI z77), .int (zI z78), .int (zI z79), .int (zI z80), .int (zI fl), .ref 56, .int (zI z81)])), (56, .inl (0, 412, .inl (zA f82))), (54, .inr (5, [.ref 55, .int (zI ln), .int (zI z63), .int (zI z64), .int (zI z65), .int (zI z66), .int (zI px_12), .int (zI fl), .ref 56, .int (zI zx_12)])), (56, .inl (0, 412, .inl (zA cx_12)))]) rfl ?_
                refine J_mask (L2 := [(54, .inr (5, [.ref 55, .int (zI ln), .int (zI z76), .int (zI z77), .int (zI z78), .int (zI z79), .int (zI z80), .int (zI fl), .ref 56, .int (zI z81)])), (56, .inl (0, 412, .inl (zA f82)))]) (ks := [54, 56, 54, 56]) [true, true, false, false] rfl (by decide +kernel) rfl ?_
                refine Z_if_ne (tgt := 66) dX5_sum_61 (by decide) v_4dcc24baa7 (fun h128 => ?_) (fun h128 => absurd h128 v_3a47bfd896)
                refine J_aload_n dX5_sum_66 rfl rfl ?_
                refine J_iload_n dX5_sum_67 rfl rfl ?_
                refine Z_iconst (n := 0) dX5_sum_68 ?_
                refine J_callV (st := []) dX5_sum_69 cv_X5_72 (d_emit 2 0 ln z76 z77 z78 z79 z80 fl z81 f82 v_9ea63c5f56 v_b17331891f h93 h94 h96 rfl rfl) rfl rfl rfl (Nat.le_of_ble_eq_true rfl) ⟨(Nat.le_of_ble_eq_true rfl), (Nat.le_of_ble_eq_true rfl)⟩ ⟨(Nat.le_of_ble_eq_true rfl), (Nat.le_of_ble_eq_true rfl)⟩ (fun r h9 hp => ?_)
                obtain ⟨z129, f130, rfl, rfl, h131, h132, h133, h134, h135⟩ := hp
                refine J_nf (nh2 := nh) (ck2 := 0) (sk2 := 0) (st2 := [.int (zI z81)]) rfl rfl rfl rfl ?_
                refine J_app (L3 := [(54, .inr (5, [.ref 55, .int (zI ln), .int (zI z76), .int (zI z77), .int (zI z78), .int (zI z79), .int (zI z80), .int (zI fl), .ref 56, .int (zI z129)])), (56, .inl (0, 412, .inl (zA f130))), (54, .inr (5, [.ref 55, .int (zI ln), .int (zI z76), .int (zI z77), .int (zI z78), .int (zI z79), .int (zI z80), .int (zI fl), .ref 56, .int (zI z81)])), (56, .inl (0, 412, .inl (zA f82)))]) rfl ?_
                refine J_mask (L2 := [(54, .inr (5, [.ref 55, .int (zI ln), .int (zI z76), .int (zI z77), .int (zI z78), .int (zI z79), .int (zI z80), .int (zI fl), .ref 56, .int (zI z129)])), (56, .inl (0, 412, .inl (zA f130)))]) (ks := [54, 56, 54, 56]) [true, true, false, false] rfl (by decide +kernel) rfl ?_
                refine J_pop dX5_sum_72 rfl ?_
                refine Z_iinc (c := i_12 + 1) (ls2 := [some (.ref 54), some (.int (zI 5)), some (.int (zI (i_12 + 1))), some (.int (zI 2))]) dX5_sum_73 rfl (Nat.le_of_ble_eq_true rfl) rfl rfl rfl ?_
                refine J_goto (tgt := 12) dX5_sum_76 (by decide) ?_
                refine J_drop (ls2 := [some (.ref 54), some (.int (zI 5)), some (.int (zI (i_12 + 1))), none]) [true, true, true, false] rfl ?_
                exact ih12 (i_12 + 1) z76 z77 z78 z79 z80 z129 f130 z83 (v_da458fa48a i12_0) (v_6924477667 h54) (v_5af1455273 i12_2 g62 h69 h97 h134) (v_269579bf42 i12_3 g62 h69 h98) h84 h85 h86 h87 h88 h89 h90 h95 h135 h131 h132 h91 h92 (v_974edc800f i12_17 g62 h69 h98) h99 h100 (SeP.add i12_20 (Or.inl ((TkX.sg i12_18 (v := 143) (by decide)).mpr (v_b4c0db470d h56))) h101) (meas_lt v_ceb2ed6d2b (v_44ddc35e90 h54) hm12)
              · refine J_nf (nh2 := nh) (ck2 := 0) (sk2 := 0) (st2 := [.int (zI 0)]) rfl rfl rfl rfl ?_
                refine J_app (L3 := [(54, .inr (5, [.ref 55, .int (zI ln), .int (zI z102), .int (zI z103), .int (zI z104), .int (zI z105), .int (zI z106), .int (zI z109), .ref 56, .int (zI z107)])), (56, .inl (0, 412, .inl (zA f108))), (54, .inr (5, [.ref 55, .int (zI ln), .int (zI z63), .int (zI z64), .int (zI z65), .int (zI z66), .int (zI px_12), .int (zI fl), .ref 56, .int (zI zx_12)])), (56, .inl (0, 412, .inl (zA cx_12)))]) rfl ?_
                refine J_mask (L2 := [(54, .inr (5, [.ref 55, .int (zI ln), .int (zI z102), .int (zI z103), .int (zI z104), .int (zI z105), .int (zI z106), .int (zI z109), .ref 56, .int (zI z107)])), (56, .inl (0, 412, .inl (zA f108)))]) (ks := [54, 56, 54, 56]) [true, true, false, false] rfl (by decide +kernel) rfl ?_
                refine Z_if_ne (tgt := 66) dX5_sum_61 (by decide) v_b17331891f (fun h136 => absurd h136 (fun q => q v_2ca2bbca1f)) (fun h136 => ?_)
                refine Z_iconst (n := 0) dX5_sum_64 ?_
                exact J_iret dX5_sum_65 rfl (jbn v_939070ca3f v_316afd7d0b) (Nat.le_of_ble_eq_true rfl) (Nat.le_of_ble_eq_true rfl) (Or.inr ⟨z102, z103, z104, z105, z106, z107, f108, z109, z110, rfl, rfl, h111, h112, h113, h114, h115, h116, h117, h118, h119, h120, h121, h122, h123, h124, h125, (h126), (SeP.bad i12_20 (Or.inl ((TkX.sg i12_18 (v := 143) (by decide)).mpr (v_b4c0db470d h56))) h127)⟩)
            · exact False.elim (v_a48d9a0d20 h56 h60)
          · refine J_nf (nh2 := nh) (ck2 := 0) (sk2 := 0) (st2 := [.int (zI 0)]) rfl rfl rfl rfl ?_
            refine Z_if_ne (tgt := 37) dX5_sum_25 (by decide) v_b17331891f (fun h137 => absurd h137 (fun q => q v_2ca2bbca1f)) (fun h137 => ?_)
            refine J_aload_n dX5_sum_28 rfl rfl ?_
            refine Z_bipush (n := 45) dX5_sum_29 (by decide +kernel) ?_
            refine J_callV (st := []) dX5_sum_31 cv_X5_50 (d_isSign 45 ln tx_12 sx_12 bx_12 vx_12 px_12 fl zx_12 v_8bc5410605 v_46bbb1acae i12_4 i12_5 rfl) rfl rfl rfl (Nat.le_of_ble_eq_true rfl) ⟨(Nat.le_of_ble_eq_true rfl), (Nat.le_of_ble_eq_true rfl)⟩ ⟨(Nat.le_of_ble_eq_true rfl), (Nat.le_of_ble_eq_true rfl)⟩ (fun r h9 hp => ?_)
            rcases hp with ⟨rfl, rfl, h138⟩ | ⟨rfl, rfl, h139⟩
            · refine J_nf (nh2 := nh) (ck2 := 0) (sk2 := 0) (st2 := [.int (zI 1)]) rfl rfl rfl rfl ?_
              refine Z_if_eq (tgt := 79) dX5_sum_34 (by decide) v_4dcc24baa7 (fun h140 => absurd h140 v_3a47bfd896) (fun h140 => ?_)
              refine J_aload_n dX5_sum_37 rfl rfl ?_
              refine Z_bipush (n := 43) dX5_sum_38 (by decide +kernel) ?_
              refine J_callV (st := []) dX5_sum_40 cv_X5_50 (d_isSign 43 ln tx_12 sx_12 bx_12 vx_12 px_12 fl zx_12 v_8b70ad274a v_ff10987188 i12_4 i12_5 rfl) rfl rfl rfl (Nat.le_of_ble_eq_true rfl) ⟨(Nat.le_of_ble_eq_true rfl), (Nat.le_of_ble_eq_true rfl)⟩ ⟨(Nat.le_of_ble_eq_true rfl), (Nat.le_of_ble_eq_true rfl)⟩ (fun r h9 hp => ?_)
              rcases hp with ⟨rfl, rfl, h141⟩ | ⟨rfl, rfl, h142⟩
              · exact False.elim (v_1d6e974349 h138 h141)
              · refine J_nf (nh2 := nh) (ck2 := 0) (sk2 := 0) (st2 := [.int (zI 0)]) rfl rfl rfl rfl ?_
                refine Z_if_eq (tgt := 50) dX5_sum_43 (by decide) v_b17331891f (fun h143 => ?_) (fun h143 => absurd h143 (fun q => q v_2ca2bbca1f))
                refine Z_iconst (n := 3) dX5_sum_50 ?_
                refine J_istore_n dX5_sum_51 rfl (Nat.le_of_ble_eq_true rfl) rfl ?_
                refine J_ls (ls2 := [some (.ref 54), some (.int (zI 5)), some (.int (zI i_12)), some (.int (zI 3))]) rfl ?_
                refine J_aload_n dX5_sum_52 rfl rfl ?_
                have g144 := TokL.lt i12_11 (v_1c70dbbeab h138)
                refine J_callV (st := []) dX5_sum_53 cv_X5_43 (d_advance (ti_12 + 1) ln tx_12 sx_12 bx_12 vx_12 px_12 fl zx_12 tp q0 q1 (v_d253cb2c59 i12_6 g144) i12_8 i12_9 i12_10 q15 (TkX.ps i12_18 (v_2b02420001 i12_19)) rfl hk55) rfl rfl rfl (Nat.le_of_ble_eq_true rfl) ⟨(Nat.le_of_ble_eq_true rfl), (Nat.le_of_ble_eq_true rfl)⟩ ⟨(Nat.le_of_ble_eq_true rfl), (Nat.le_of_ble_eq_true rfl)⟩ (fun r h9 hp => ?_)
                obtain ⟨z145, z146, z147, z148, rfl, rfl, h149, h150, h151, h152, h153, h154, h155, h156, h157⟩ := hp
                refine J_nf (nh2 := nh) (ck2 := 0) (sk2 := 0) (st2 := []) rfl rfl rfl rfl ?_
                refine J_app (L3 := [(54, .inr (5, [.ref 55, .int (zI ln), .int (zI z145), .int (zI z146), .int (zI z147), .int (zI z148), .int (zI px_12), .int (zI fl), .ref 56, .int (zI zx_12)])), (54, .inr (5, [.ref 55, .int (zI ln), .int (zI tx_12), .int (zI sx_12), .int (zI bx_12), .int (zI vx_12), .int (zI px_12), .int (zI fl), .ref 56, .int (zI zx_12)])), (56, .inl (0, 412, .inl (zA cx_12)))]) rfl ?_
                refine J_mask (L2 := [(54, .inr (5, [.ref 55, .int (zI ln), .int (zI z145), .int (zI z146), .int (zI z147), .int (zI z148), .int (zI px_12), .int (zI fl), .ref 56, .int (zI zx_12)])), (56, .inl (0, 412, .inl (zA cx_12)))]) (ks := [54, 54, 56]) [true, false, true] rfl (by decide +kernel) rfl ?_
                refine J_aload_n dX5_sum_56 rfl rfl ?_
                refine J_iload_n dX5_sum_57 rfl rfl ?_
                refine J_callV (st := []) dX5_sum_58 cv_X5_89 (d_term5 ln z145 z146 z147 z148 px_12 fl zx_12 tp cx_12 (ti_12 + 1) q0 q1 h149 h150 (v_9b2e2070a2 i12_6 g144 h151) h152 h153 h154 h155 i12_15 i12_16 q11 i12_13 i12_14 h156 q15 i12_12 h157 (v_da458fa48a i12_19) rfl hk55 rfl) rfl rfl rfl (Nat.le_of_ble_eq_true rfl) ⟨(Nat.le_of_ble_eq_true rfl), (Nat.le_of_ble_eq_true rfl)⟩ ⟨(Nat.le_of_ble_eq_true rfl), (Nat.le_of_ble_eq_true rfl)⟩ (fun r h9 hp => ?_)
                rcases hp with ⟨z158, z159, z160, z161, z162, z163, f164, z165, rfl, rfl, h166, h167, h168, h169, h170, h171, h172, h173, h174, h175, h176, h177, h178, h179, h180, h181, h182, h183⟩ | ⟨z184, z185, z186, z187, z188, z189, f190, z191, z192, rfl, rfl, h193, h194, h195, h196, h197, h198, h199, h200, h201, h202, h203, h204, h205, h206, h207, h208, h209⟩
                · refine J_nf (nh2 := nh) (ck2 := 0) (sk2 := 0) (st2 := [.int (zI 1)]) rfl rfl rfl rfl ?_
                  refine J_app (L3 := [(54, .inr (5, [.ref 55, .int (zI ln), .int (zI z158), .int (zI z159), .int (zI z160), .int (zI z161), .int (zI z162), .int (zI fl), .ref 56, .int (zI z163)])), (56, .inl (0, 412, .inl (zA f164))), (54, .inr (5, [.ref 55, .int (zI ln), .int (zI z145), .int (zI z146), .int (zI z147), .int (zI z148), .int (zI px_12), .int (zI fl), .ref 56, .int (zI zx_12)])), (56, .inl (0, 412, .inl (zA cx_12)))]) rfl ?_
                  refine J_mask (L2 := [(54, .inr (5, [.ref 55, .int (zI ln), .int (zI z158), .int (zI z159), .int (zI z160), .int (zI z161), .int (zI z162), .int (zI fl), .ref 56, .int (zI z163)])), (56, .inl (0, 412, .inl (zA f164)))]) (ks := [54, 56, 54, 56]) [true, true, false, false] rfl (by decide +kernel) rfl ?_
                  refine Z_if_ne (tgt := 66) dX5_sum_61 (by decide) v_4dcc24baa7 (fun h210 => ?_) (fun h210 => absurd h210 v_3a47bfd896)
                  refine J_aload_n dX5_sum_66 rfl rfl ?_
                  refine J_iload_n dX5_sum_67 rfl rfl ?_
                  refine Z_iconst (n := 0) dX5_sum_68 ?_
                  refine J_callV (st := []) dX5_sum_69 cv_X5_72 (d_emit 3 0 ln z158 z159 z160 z161 z162 fl z163 f164 v_1cc5223c3a v_b17331891f h175 h176 h178 rfl rfl) rfl rfl rfl (Nat.le_of_ble_eq_true rfl) ⟨(Nat.le_of_ble_eq_true rfl), (Nat.le_of_ble_eq_true rfl)⟩ ⟨(Nat.le_of_ble_eq_true rfl), (Nat.le_of_ble_eq_true rfl)⟩ (fun r h9 hp => ?_)
                  obtain ⟨z211, f212, rfl, rfl, h213, h214, h215, h216, h217⟩ := hp
                  refine J_nf (nh2 := nh) (ck2 := 0) (sk2 := 0) (st2 := [.int (zI z163)]) rfl rfl rfl rfl ?_
                  refine J_app (L3 := [(54, .inr (5, [.ref 55, .int (zI ln), .int (zI z158), .int (zI z159), .int (zI z160), .int (zI z161), .int (zI z162), .int (zI fl), .ref 56, .int (zI z211)])), (56, .inl (0, 412, .inl (zA f212))), (54, .inr (5, [.ref 55, .int (zI ln), .int (zI z158), .int (zI z159), .int (zI z160), .int (zI z161), .int (zI z162), .int (zI fl), .ref 56, .int (zI z163)])), (56, .inl (0, 412, .inl (zA f164)))]) rfl ?_
                  refine J_mask (L2 := [(54, .inr (5, [.ref 55, .int (zI ln), .int (zI z158), .int (zI z159), .int (zI z160), .int (zI z161), .int (zI z162), .int (zI fl), .ref 56, .int (zI z211)])), (56, .inl (0, 412, .inl (zA f212)))]) (ks := [54, 56, 54, 56]) [true, true, false, false] rfl (by decide +kernel) rfl ?_
                  refine J_pop dX5_sum_72 rfl ?_
                  refine Z_iinc (c := i_12 + 1) (ls2 := [some (.ref 54), some (.int (zI 5)), some (.int (zI (i_12 + 1))), some (.int (zI 3))]) dX5_sum_73 rfl (Nat.le_of_ble_eq_true rfl) rfl rfl rfl ?_
                  refine J_goto (tgt := 12) dX5_sum_76 (by decide) ?_
                  refine J_drop (ls2 := [some (.ref 54), some (.int (zI 5)), some (.int (zI (i_12 + 1))), none]) [true, true, true, false] rfl ?_
                  exact ih12 (i_12 + 1) z158 z159 z160 z161 z162 z211 f212 z165 (v_da458fa48a i12_0) (v_6924477667 h54) (v_5af1455273 i12_2 g144 h151 h179 h216) (v_269579bf42 i12_3 g144 h151 h180) h166 h167 h168 h169 h170 h171 h172 h177 h217 h213 h214 h173 h174 (v_974edc800f i12_17 g144 h151 h180) h181 h182 (SeP.add i12_20 (Or.inr ((TkX.sg i12_18 (v := 145) (by decide)).mpr (v_7912200c83 h138))) h183) (meas_lt v_ceb2ed6d2b (v_44ddc35e90 h54) hm12)
                · refine J_nf (nh2 := nh) (ck2 := 0) (sk2 := 0) (st2 := [.int (zI 0)]) rfl rfl rfl rfl ?_
                  refine J_app (L3 := [(54, .inr (5, [.ref 55, .int (zI ln), .int (zI z184), .int (zI z185), .int (zI z186), .int (zI z187), .int (zI z188), .int (zI z191), .ref 56, .int (zI z189)])), (56, .inl (0, 412, .inl (zA f190))), (54, .inr (5, [.ref 55, .int (zI ln), .int (zI z145), .int (zI z146), .int (zI z147), .int (zI z148), .int (zI px_12), .int (zI fl), .ref 56, .int (zI zx_12)])), (56, .inl (0, 412, .inl (zA cx_12)))]) rfl ?_
                  refine J_mask (L2 := [(54, .inr (5, [.ref 55, .int (zI ln), .int (zI z184), .int (zI z185), .int (zI z186), .int (zI z187), .int (zI z188), .int (zI z191), .ref 56, .int (zI z189)])), (56, .inl (0, 412, .inl (zA f190)))]) (ks := [54, 56, 54, 56]) [true, true, false, false] rfl (by decide +kernel) rfl ?_
                  refine Z_if_ne (tgt := 66) dX5_sum_61 (by decide) v_b17331891f (fun h218 => absurd h218 (fun q => q v_2ca2bbca1f)) (fun h218 => ?_)
                  refine Z_iconst (n := 0) dX5_sum_64 ?_
                  exact J_iret dX5_sum_65 rfl (jbn v_939070ca3f v_316afd7d0b) (Nat.le_of_ble_eq_true rfl) (Nat.le_of_ble_eq_true rfl) (Or.inr ⟨z184, z185, z186, z187, z188, z189, f190, z191, z192, rfl, rfl, h193, h194, h195, h196, h197, h198, h199, h200, h201, h202, h203, h204, h205, h206, h207, (h208), (SeP.bad i12_20 (Or.inr ((TkX.sg i12_18 (v := 145) (by decide)).mpr (v_7912200c83 h138))) h209)⟩)
            · refine J_nf (nh2 := nh) (ck2 := 0) (sk2 := 0) (st2 := [.int (zI 0)]) rfl rfl rfl rfl ?_
              refine Z_if_eq (tgt := 79) dX5_sum_34 (by decide) v_b17331891f (fun h219 => ?_) (fun h219 => absurd h219 (fun q => q v_2ca2bbca1f))
              refine Z_iconst (n := 1) dX5_sum_79 ?_
              exact J_iret dX5_sum_80 rfl (jbn v_316afd7d0b v_bbcfac9b7d) (Nat.le_of_ble_eq_true rfl) (Nat.le_of_ble_eq_true rfl) (Or.inl ⟨tx_12, sx_12, bx_12, vx_12, px_12, zx_12, cx_12, ti_12, rfl, rfl, i12_4, i12_5, i12_6, i12_7, i12_8, i12_9, i12_10, i12_15, i12_16, i12_13, i12_14, i12_11, i12_12, i12_2, i12_3, i12_18, i12_19, (SeP.end i12_20 (fun w => Or.elim w (fun w => absurd ((TkX.sg i12_18 (v := 143) (by decide)).mp w) (v_4e9b5acef3 h57)) (fun w => absurd ((TkX.sg i12_18 (v := 145) (by decide)).mp w) (v_fa17f015bb h139))))⟩)
    exact lp12 _ 0 z1 z2 z3 z4 z5 z6 f7 z8 v_939070ca3f v_5ab96f7b5e h22 h23 h9 h10 h11 h12 h13 h14 h15 h20 h21 h18 h19 h16 h17 (v_3c1faf939c h23) h24 h25 (SeP.one h26) (Nat.lt_succ_self _)
  · refine J_nf (nh2 := nh) (ck2 := 0) (sk2 := 0) (st2 := [.int (zI 0)]) rfl rfl rfl rfl ?_
    refine J_app (L3 := [(54, .inr (5, [.ref 55, .int (zI ln), .int (zI z27), .int (zI z28), .int (zI z29), .int (zI z30), .int (zI z31), .int (zI z34), .ref 56, .int (zI z32)])), (56, .inl (0, 412, .inl (zA f33)))]) rfl ?_
    refine Z_if_ne (tgt := 10) dX5_sum_5 (by decide) v_b17331891f (fun h220 => absurd h220 (fun q => q v_2ca2bbca1f)) (fun h220 => ?_)
    refine Z_iconst (n := 0) dX5_sum_8 ?_
    exact J_iret dX5_sum_9 rfl (jbn v_939070ca3f v_316afd7d0b) (Nat.le_of_ble_eq_true rfl) (Nat.le_of_ble_eq_true rfl) (Or.inr ⟨z27, z28, z29, z30, z31, z32, f33, z34, z35, rfl, rfl, h36, h37, h38, h39, h40, h41, h42, h43, h44, h45, h46, h47, h48, h49, h50, (h51), (SeR.b h52)⟩)
set_option maxHeartbeats 4000000 in
set_option maxRecDepth 100000 in
theorem d_bracketedTest5 {l : Launch} {G : jG} {nh : Nat} {fh : Nat → Option va_E} (ln : Int) (tk : Int) (st : Int) (bh : Int) (va : Int) (pa : Int) (fl : Int) (sz : Int) (tp : Int → Int) (cd : Int → Int) (ti : Int) (q0 : 0 ≤ ln) (q1 : ln ≤ 400) (q2 : 0 ≤ tk) (q3 : tk ≤ 355) (q4 : 0 ≤ st) (q5 : st ≤ bh) (q6 : bh ≤ ln) (q7 : 0 ≤ va) (q8 : va ≤ 1001) (q9 : 0 ≤ pa) (q10 : pa ≤ 50) (q11 : zr fl) (q12 : 0 ≤ sz) (q13 : sz ≤ 412) (q14 : TokL tk st bh) (q15 : Rg tp 400 0 255) (q16 : Rg cd 412 (-2147483648) 2147483647) (q17 : TkX tp ln ti tk st bh va) (q18 : 0 ≤ ti) (hk54 : fh 54 = some (.inr (5, [.ref 55, .int (zI ln), .int (zI tk), .int (zI st), .int (zI bh), .int (zI va), .int (zI pa), .int (zI fl), .ref 56, .int (zI sz)]))) (hk55 : fh 55 = some (.inl (0, 400, .inl (zA tp)))) (hk56 : fh 56 = some (.inl (0, 412, .inl (zA cd)))) : JM l G yX5_bracketedTest MX5_bracketedTest { frames := 20, cells := 0, slots := 0, locals := 448 } [.ref 54, .int (zI 5)] (nh, fh) (fun rr h9 => (∃ tk2 : Int, ∃ st2 : Int, ∃ bh2 : Int, ∃ va2 : Int, ∃ pa2 : Int, ∃ sz2 : Int, ∃ cd2 : Int → Int, ∃ ti2 : Int, rr = some (.int (zI 1)) ∧ h9 = (nh, hc fh [(54, .inr (5, [.ref 55, .int (zI ln), .int (zI tk2), .int (zI st2), .int (zI bh2), .int (zI va2), .int (zI pa2), .int (zI fl), .ref 56, .int (zI sz2)])), (56, .inl (0, 412, .inl (zA cd2)))]) ∧ (0 ≤ tk2) ∧ (tk2 ≤ 355) ∧ (0 ≤ st2) ∧ (st2 ≤ bh2) ∧ (bh2 ≤ ln) ∧ (0 ≤ va2) ∧ (va2 ≤ 1001) ∧ (0 ≤ pa2) ∧ (pa2 ≤ 50) ∧ (0 ≤ sz2) ∧ (sz2 ≤ 412) ∧ (TokL tk2 st2 bh2) ∧ (Rg cd2 412 (-2147483648) 2147483647) ∧ (sz2 + st ≤ sz + st2) ∧ (st ≤ st2) ∧ (TkX tp ln ti2 tk2 st2 bh2 va2) ∧ (0 ≤ ti2) ∧ (BtR (CTk tp ln) (LF tp ln) 3 ti pa 1 ti2 pa2)) ∨ (∃ tk2 : Int, ∃ st2 : Int, ∃ bh2 : Int, ∃ va2 : Int, ∃ pa2 : Int, ∃ sz2 : Int, ∃ cd2 : Int → Int, ∃ fl2 : Int, ∃ ti2 : Int, rr = some (.int (zI 0)) ∧ h9 = (nh, hc fh [(54, .inr (5, [.ref 55, .int (zI ln), .int (zI tk2), .int (zI st2), .int (zI bh2), .int (zI va2), .int (zI pa2), .int (zI fl2), .ref 56, .int (zI sz2)])), (56, .inl (0, 412, .inl (zA cd2)))]) ∧ (0 ≤ tk2) ∧ (tk2 ≤ 355) ∧ (0 ≤ st2) ∧ (st2 ≤ bh2) ∧ (bh2 ≤ ln) ∧ (0 ≤ va2) ∧ (va2 ≤ 1001) ∧ (0 ≤ pa2) ∧ (pa2 ≤ 50) ∧ (0 ≤ sz2) ∧ (sz2 ≤ 412) ∧ (TokL tk2 st2 bh2) ∧ (Rg cd2 412 (-2147483648) 2147483647) ∧ (0 ≤ fl2) ∧ (fl2 ≤ 400) ∧ (FlX tp ln ti2 fl2) ∧ (BtR (CTk tp ln) (LF tp ln) 3 ti pa 0 ti2 0))) := by
  refine JM.of (by decide) rfl (fun h => by cases h) (Nat.le_of_ble_eq_true rfl) ⟨0, rfl⟩ ?_
  refine J_hc0 (J_ls (ls2 := [some (.ref 54), some (.int (zI 5))]) rfl ?_)
  refine J_iload_n dX5_bracketedTest_0 rfl rfl ?_
  refine Z_bipush (n := 8) dX5_bracketedTest_1 (by decide +kernel) ?_
  refine Z_icmp_lt (tgt := 11) dX5_bracketedTest_3 (by decide) v_3961fe0d0d v_665891e294 (fun h1 => ?_) (fun h1 => absurd h1 (fun q => q v_ae46e08265))
  refine J_aload_n dX5_bracketedTest_11 rfl rfl ?_
  refine J_callV (st := []) dX5_bracketedTest_12 cv_X5_43 (d_advance (ti + 1) ln tk st bh va pa fl sz tp q0 q1 (v_21976c7318 q4 q5) q6 q7 q8 q15 (TkX.ps q17 (v_2b02420001 q18)) hk54 hk55) hk54 rfl rfl (Nat.le_of_ble_eq_true rfl) ⟨(Nat.le_of_ble_eq_true rfl), (Nat.le_of_ble_eq_true rfl)⟩ ⟨(Nat.le_of_ble_eq_true rfl), (Nat.le_of_ble_eq_true rfl)⟩ (fun r h9 hp => ?_)
  obtain ⟨z2, z3, z4, z5, rfl, rfl, h6, h7, h8, h9, h10, h11, h12, h13, h14⟩ := hp
  refine J_nf (nh2 := nh) (ck2 := 0) (sk2 := 0) (st2 := []) rfl rfl rfl rfl ?_
  refine J_app (L3 := [(54, .inr (5, [.ref 55, .int (zI ln), .int (zI z2), .int (zI z3), .int (zI z4), .int (zI z5), .int (zI pa), .int (zI fl), .ref 56, .int (zI sz)]))]) rfl ?_
  refine J_aload_n dX5_bracketedTest_15 rfl rfl ?_
  refine J_iload_n dX5_bracketedTest_16 rfl rfl ?_
  refine Z_iconst (n := 1) dX5_bracketedTest_17 ?_
  refine Z_iadd (c := 6) dX5_bracketedTest_18 v_93e4dd8c33 ?_
  refine J_callV (st := []) dX5_bracketedTest_19 cv_X5_67 (d_test6 ln z2 z3 z4 z5 pa fl sz tp cd (ti + 1) q0 q1 h6 h7 (v_7eaccd6eb1 q4 q5 h8) h9 h10 h11 h12 q9 q10 q11 q12 q13 h13 q15 q16 h14 (v_da458fa48a q18) rfl hk55 hk56) rfl rfl rfl (Nat.le_of_ble_eq_true rfl) ⟨(Nat.le_of_ble_eq_true rfl), (Nat.le_of_ble_eq_true rfl)⟩ ⟨(Nat.le_of_ble_eq_true rfl), (Nat.le_of_ble_eq_true rfl)⟩ (fun r h9 hp => ?_)
  rcases hp with ⟨z15, z16, z17, z18, z19, z20, f21, z22, rfl, rfl, h23, h24, h25, h26, h27, h28, h29, h30, h31, h32, h33, h34, h35, h36, h37, h38, h39, h40⟩ | ⟨z41, z42, z43, z44, z45, z46, f47, z48, z49, rfl, rfl, h50, h51, h52, h53, h54, h55, h56, h57, h58, h59, h60, h61, h62, h63, h64, h65, h66⟩
  · refine J_nf (nh2 := nh) (ck2 := 0) (sk2 := 0) (st2 := [.int (zI 1)]) rfl rfl rfl rfl ?_
    refine J_app (L3 := [(54, .inr (5, [.ref 55, .int (zI ln), .int (zI z15), .int (zI z16), .int (zI z17), .int (zI z18), .int (zI z19), .int (zI fl), .ref 56, .int (zI z20)])), (56, .inl (0, 412, .inl (zA f21))), (54, .inr (5, [.ref 55, .int (zI ln), .int (zI z2), .int (zI z3), .int (zI z4), .int (zI z5), .int (zI pa), .int (zI fl), .ref 56, .int (zI sz)]))]) rfl ?_
    refine J_mask (L2 := [(54, .inr (5, [.ref 55, .int (zI ln), .int (zI z15), .int (zI z16), .int (zI z17), .int (zI z18), .int (zI z19), .int (zI fl), .ref 56, .int (zI z20)])), (56, .inl (0, 412, .inl (zA f21)))]) (ks := [54, 56, 54]) [true, true, false] rfl (by decide +kernel) rfl ?_
    refine Z_if_ne (tgt := 27) dX5_bracketedTest_22 (by decide) v_4dcc24baa7 (fun h67 => ?_) (fun h67 => absurd h67 v_3a47bfd896)
    refine J_aload_n dX5_bracketedTest_27 rfl rfl ?_
    refine Z_bipush (n := 41) dX5_bracketedTest_28 (by decide +kernel) ?_
    refine J_callV (st := []) dX5_bracketedTest_30 cv_X5_50 (d_isSign 41 ln z15 z16 z17 z18 z19 fl z20 v_eff0eb06dc v_d0aa1234d6 h23 h24 rfl) rfl rfl rfl (Nat.le_of_ble_eq_true rfl) ⟨(Nat.le_of_ble_eq_true rfl), (Nat.le_of_ble_eq_true rfl)⟩ ⟨(Nat.le_of_ble_eq_true rfl), (Nat.le_of_ble_eq_true rfl)⟩ (fun r h9 hp => ?_)
    rcases hp with ⟨rfl, rfl, h68⟩ | ⟨rfl, rfl, h69⟩
    · refine J_nf (nh2 := nh) (ck2 := 0) (sk2 := 0) (st2 := [.int (zI 1)]) rfl rfl rfl rfl ?_
      refine Z_if_ne (tgt := 41) dX5_bracketedTest_33 (by decide) v_4dcc24baa7 (fun h70 => ?_) (fun h70 => absurd h70 v_3a47bfd896)
      refine J_aload_n dX5_bracketedTest_41 rfl rfl ?_
      have g71 := TokL.lt h34 (v_5f6578b310 h68)
      refine J_callV (st := []) dX5_bracketedTest_42 cv_X5_43 (d_advance (z22 + 1) ln z15 z16 z17 z18 z19 fl z20 tp q0 q1 (v_d253cb2c59 h25 g71) h27 h28 h29 q15 (TkX.ps h38 (v_2b02420001 h39)) rfl hk55) rfl rfl rfl (Nat.le_of_ble_eq_true rfl) ⟨(Nat.le_of_ble_eq_true rfl), (Nat.le_of_ble_eq_true rfl)⟩ ⟨(Nat.le_of_ble_eq_true rfl), (Nat.le_of_ble_eq_true rfl)⟩ (fun r h9 hp => ?_)
      obtain ⟨z72, z73, z74, z75, rfl, rfl, h76, h77, h78, h79, h80, h81, h82, h83, h84⟩ := hp
      refine J_nf (nh2 := nh) (ck2 := 0) (sk2 := 0) (st2 := []) rfl rfl rfl rfl ?_
      refine J_app (L3 := [(54, .inr (5, [.ref 55, .int (zI ln), .int (zI z72), .int (zI z73), .int (zI z74), .int (zI z75), .int (zI z19), .int (zI fl), .ref 56, .int (zI z20)])), (54, .inr (5, [.ref 55, .int (zI ln), .int (zI z15), .int (zI z16), .int (zI z17), .int (zI z18), .int (zI z19), .int (zI fl), .ref 56, .int (zI z20)])), (56, .inl (0, 412, .inl (zA f21)))]) rfl ?_
      refine J_mask (L2 := [(54, .inr (5, [.ref 55, .int (zI ln), .int (zI z72), .int (zI z73), .int (zI z74), .int (zI z75), .int (zI z19), .int (zI fl), .ref 56, .int (zI z20)])), (56, .inl (0, 412, .inl (zA f21)))]) (ks := [54, 54, 56]) [true, false, true] rfl (by decide +kernel) rfl ?_
      refine Z_iconst (n := 1) dX5_bracketedTest_45 ?_
      exact J_iret dX5_bracketedTest_46 rfl (jbn v_316afd7d0b v_bbcfac9b7d) (Nat.le_of_ble_eq_true rfl) (Nat.le_of_ble_eq_true rfl) (Or.inl ⟨z72, z73, z74, z75, z19, z20, f21, (z22 + 1), rfl, rfl, h76, h77, (v_9b2e2070a2 h25 g71 h78), h79, h80, h81, h82, h30, h31, h32, h33, h83, h35, (v_a156850946 q5 h8 h36 g71 h78), (v_b3d66fcd45 q5 h8 h37 g71 h78), h84, (v_da458fa48a h39), (BrR.y h40 ((TkX.sg h38 (v := 141) (by decide)).mpr (v_1cbafa89df h68)))⟩)
    · refine J_nf (nh2 := nh) (ck2 := 0) (sk2 := 0) (st2 := [.int (zI 0)]) rfl rfl rfl rfl ?_
      refine Z_if_ne (tgt := 41) dX5_bracketedTest_33 (by decide) v_b17331891f (fun h85 => absurd h85 (fun q => q v_2ca2bbca1f)) (fun h85 => ?_)
      refine J_aload_n dX5_bracketedTest_36 rfl rfl ?_
      refine J_callV (st := []) dX5_bracketedTest_37 cv_X5_54 (d_wrong ln z15 z16 z17 z18 z19 fl z20 h25 (v_1adcfdfee5 q1 h26 h27) rfl) rfl rfl rfl (Nat.le_of_ble_eq_true rfl) ⟨(Nat.le_of_ble_eq_true rfl), (Nat.le_of_ble_eq_true rfl)⟩ ⟨(Nat.le_of_ble_eq_true rfl), (Nat.le_of_ble_eq_true rfl)⟩ (fun r h9 hp => ?_)
      obtain ⟨rfl, rfl⟩ := hp
      refine J_nf (nh2 := nh) (ck2 := 0) (sk2 := 0) (st2 := [.int (zI 0)]) rfl rfl rfl rfl ?_
      refine J_app (L3 := [(54, .inr (5, [.ref 55, .int (zI ln), .int (zI z15), .int (zI z16), .int (zI z17), .int (zI z18), .int (zI z19), .int (zI z16), .ref 56, .int (zI z20)])), (54, .inr (5, [.ref 55, .int (zI ln), .int (zI z15), .int (zI z16), .int (zI z17), .int (zI z18), .int (zI z19), .int (zI fl), .ref 56, .int (zI z20)])), (56, .inl (0, 412, .inl (zA f21)))]) rfl ?_
      refine J_mask (L2 := [(54, .inr (5, [.ref 55, .int (zI ln), .int (zI z15), .int (zI z16), .int (zI z17), .int (zI z18), .int (zI z19), .int (zI z16), .ref 56, .int (zI z20)])), (56, .inl (0, 412, .inl (zA f21)))]) (ks := [54, 54, 56]) [true, false, true] rfl (by decide +kernel) rfl ?_
      exact J_iret dX5_bracketedTest_40 rfl (jbn v_939070ca3f v_316afd7d0b) (Nat.le_of_ble_eq_true rfl) (Nat.le_of_ble_eq_true rfl) (Or.inr ⟨z15, z16, z17, z18, z19, z20, f21, z16, z22, rfl, rfl, h23, h24, h25, h26, h27, h28, h29, h30, h31, h32, h33, h34, h35, h25, (v_1adcfdfee5 q1 h26 h27), ((TkX.s h38)), (BrR.w h40 (fun w => absurd ((TkX.sg h38 (v := 141) (by decide)).mp w) (v_b624d93a99 h69)))⟩)
  · refine J_nf (nh2 := nh) (ck2 := 0) (sk2 := 0) (st2 := [.int (zI 0)]) rfl rfl rfl rfl ?_
    refine J_app (L3 := [(54, .inr (5, [.ref 55, .int (zI ln), .int (zI z41), .int (zI z42), .int (zI z43), .int (zI z44), .int (zI z45), .int (zI z48), .ref 56, .int (zI z46)])), (56, .inl (0, 412, .inl (zA f47))), (54, .inr (5, [.ref 55, .int (zI ln), .int (zI z2), .int (zI z3), .int (zI z4), .int (zI z5), .int (zI pa), .int (zI fl), .ref 56, .int (zI sz)]))]) rfl ?_
    refine J_mask (L2 := [(54, .inr (5, [.ref 55, .int (zI ln), .int (zI z41), .int (zI z42), .int (zI z43), .int (zI z44), .int (zI z45), .int (zI z48), .ref 56, .int (zI z46)])), (56, .inl (0, 412, .inl (zA f47)))]) (ks := [54, 56, 54]) [true, true, false] rfl (by decide +kernel) rfl ?_
    refine Z_if_ne (tgt := 27) dX5_bracketedTest_22 (by decide) v_b17331891f (fun h86 => absurd h86 (fun q => q v_2ca2bbca1f)) (fun h86 => ?_)
    refine Z_iconst (n := 0) dX5_bracketedTest_25 ?_
    exact J_iret dX5_bracketedTest_26 rfl (jbn v_939070ca3f v_316afd7d0b) (Nat.le_of_ble_eq_true rfl) (Nat.le_of_ble_eq_true rfl) (Or.inr ⟨z41, z42, z43, z44, z45, z46, f47, z48, z49, rfl, rfl, h50, h51, h52, h53, h54, h55, h56, h57, h58, h59, h60, h61, h62, h63, h64, (h65), (BrR.b h66)⟩)
set_option maxHeartbeats 4000000 in
set_option maxRecDepth 100000 in
theorem d_plain5 {l : Launch} {G : jG} {nh : Nat} {fh : Nat → Option va_E} (ln : Int) (tk : Int) (st : Int) (bh : Int) (va : Int) (pa : Int) (fl : Int) (sz : Int) (tp : Int → Int) (cd : Int → Int) (ti : Int) (q0 : 0 ≤ ln) (q1 : ln ≤ 400) (q2 : 0 ≤ tk) (q3 : tk ≤ 355) (q4 : 0 ≤ st) (q5 : st ≤ bh) (q6 : bh ≤ ln) (q7 : 0 ≤ va) (q8 : va ≤ 1001) (q9 : 0 ≤ pa) (q10 : pa ≤ 50) (q11 : zr fl) (q12 : 0 ≤ sz) (q13 : sz ≤ 412) (q14 : TokL tk st bh) (q15 : Rg tp 400 0 255) (q16 : Rg cd 412 (-2147483648) 2147483647) (q17 : TkX tp ln ti tk st bh va) (q18 : 0 ≤ ti) (hk54 : fh 54 = some (.inr (5, [.ref 55, .int (zI ln), .int (zI tk), .int (zI st), .int (zI bh), .int (zI va), .int (zI pa), .int (zI fl), .ref 56, .int (zI sz)]))) (hk55 : fh 55 = some (.inl (0, 400, .inl (zA tp)))) (hk56 : fh 56 = some (.inl (0, 412, .inl (zA cd)))) : JM l G yX5_plain MX5_plain { frames := 21, cells := 0, slots := 0, locals := 469 } [.ref 54, .int (zI 5)] (nh, fh) (fun rr h9 => (∃ tk2 : Int, ∃ st2 : Int, ∃ bh2 : Int, ∃ va2 : Int, ∃ pa2 : Int, ∃ sz2 : Int, ∃ cd2 : Int → Int, ∃ ti2 : Int, rr = some (.int (zI 1)) ∧ h9 = (nh, hc fh [(54, .inr (5, [.ref 55, .int (zI ln), .int (zI tk2), .int (zI st2), .int (zI bh2), .int (zI va2), .int (zI pa2), .int (zI fl), .ref 56, .int (zI sz2)])), (56, .inl (0, 412, .inl (zA cd2)))]) ∧ (0 ≤ tk2) ∧ (tk2 ≤ 355) ∧ (0 ≤ st2) ∧ (st2 ≤ bh2) ∧ (bh2 ≤ ln) ∧ (0 ≤ va2) ∧ (va2 ≤ 1001) ∧ (0 ≤ pa2) ∧ (pa2 ≤ 50) ∧ (0 ≤ sz2) ∧ (sz2 ≤ 412) ∧ (TokL tk2 st2 bh2) ∧ (Rg cd2 412 (-2147483648) 2147483647) ∧ (sz2 + st ≤ sz + st2) ∧ (st ≤ st2) ∧ (TkX tp ln ti2 tk2 st2 bh2 va2) ∧ (0 ≤ ti2) ∧ (PnR (CTk tp ln) (LF tp ln) 3 ti pa 1 ti2 pa2)) ∨ (∃ tk2 : Int, ∃ st2 : Int, ∃ bh2 : Int, ∃ va2 : Int, ∃ pa2 : Int, ∃ sz2 : Int, ∃ cd2 : Int → Int, ∃ fl2 : Int, ∃ ti2 : Int, rr = some (.int (zI 0)) ∧ h9 = (nh, hc fh [(54, .inr (5, [.ref 55, .int (zI ln), .int (zI tk2), .int (zI st2), .int (zI bh2), .int (zI va2), .int (zI pa2), .int (zI fl2), .ref 56, .int (zI sz2)])), (56, .inl (0, 412, .inl (zA cd2)))]) ∧ (0 ≤ tk2) ∧ (tk2 ≤ 355) ∧ (0 ≤ st2) ∧ (st2 ≤ bh2) ∧ (bh2 ≤ ln) ∧ (0 ≤ va2) ∧ (va2 ≤ 1001) ∧ (0 ≤ pa2) ∧ (pa2 ≤ 50) ∧ (0 ≤ sz2) ∧ (sz2 ≤ 412) ∧ (TokL tk2 st2 bh2) ∧ (Rg cd2 412 (-2147483648) 2147483647) ∧ (0 ≤ fl2) ∧ (fl2 ≤ 400) ∧ (FlX tp ln ti2 fl2) ∧ (PnR (CTk tp ln) (LF tp ln) 3 ti pa 0 ti2 0))) := by
  refine JM.of (by decide) rfl (fun h => by cases h) (Nat.le_of_ble_eq_true rfl) ⟨2, rfl⟩ ?_
  refine J_hc0 (J_ls (ls2 := [some (.ref 54), some (.int (zI 5)), none, none]) rfl ?_)
  refine Z_iconst (n := 0) dX5_plain_0 ?_
  refine J_istore_n dX5_plain_1 rfl (Nat.le_of_ble_eq_true rfl) rfl ?_
  refine J_ls (ls2 := [some (.ref 54), some (.int (zI 5)), some (.int (zI 0)), none]) rfl ?_
  refine Z_iconst (n := 0) dX5_plain_2 ?_
  refine J_istore_n dX5_plain_3 rfl (Nat.le_of_ble_eq_true rfl) rfl ?_
  refine J_ls (ls2 := [some (.ref 54), some (.int (zI 5)), some (.int (zI 0)), some (.int (zI 0))]) rfl ?_
  refine J_touch (k := 54) (e := .inr (5, [.ref 55, .int (zI ln), .int (zI tk), .int (zI st), .int (zI bh), .int (zI va), .int (zI pa), .int (zI fl), .ref 56, .int (zI sz)])) hk54 ?_
  have lp4 : ∀ (N4 : Nat) (dn_4 : Int) (i_4 : Int) (tx_4 : Int) (sx_4 : Int) (bx_4 : Int) (vx_4 : Int) (ti_4 : Int), (0 ≤ i_4) → (i_4 ≤ 400) → (0 ≤ dn_4) → (dn_4 ≤ 1) → (st + dn_4 ≤ sx_4) → (st + i_4 ≤ sx_4) → (0 ≤ tx_4) → (tx_4 ≤ 355) → (0 ≤ sx_4) → (sx_4 ≤ bx_4) → (bx_4 ≤ ln) → (0 ≤ vx_4) → (vx_4 ≤ 1001) → (TokL tx_4 sx_4 bx_4) → (TkX tp ln ti_4 tx_4 sx_4 bx_4 vx_4) → (ti ≤ ti_4) → (NtX (CTk tp ln) ti ti_4) → (400 - i_4).toNat < N4 → J l G MX5_plain { frames := 21, cells := 0, slots := 0, locals := 469 } jE (jMQ G { frames := 21, cells := 0, slots := 0, locals := 469 } (fun rr h9 => (∃ tk2 : Int, ∃ st2 : Int, ∃ bh2 : Int, ∃ va2 : Int, ∃ pa2 : Int, ∃ sz2 : Int, ∃ cd2 : Int → Int, ∃ ti2 : Int, rr = some (.int (zI 1)) ∧ h9 = (nh, hc fh [(54, .inr (5, [.ref 55, .int (zI ln), .int (zI tk2), .int (zI st2), .int (zI bh2), .int (zI va2), .int (zI pa2), .int (zI fl), .ref 56, .int (zI sz2)])), (56, .inl (0, 412, .inl (zA cd2)))]) ∧ (0 ≤ tk2) ∧ (tk2 ≤ 355) ∧ (0 ≤ st2) ∧ (st2 ≤ bh2) ∧ (bh2 ≤ ln) ∧ (0 ≤ va2) ∧ (va2 ≤ 1001) ∧ (0 ≤ pa2) ∧ (pa2 ≤ 50) ∧ (0 ≤ sz2) ∧ (sz2 ≤ 412) ∧ (TokL tk2 st2 bh2) ∧ (Rg cd2 412 (-2147483648) 2147483647) ∧ (sz2 + st ≤ sz + st2) ∧ (st ≤ st2) ∧ (TkX tp ln ti2 tk2 st2 bh2 va2) ∧ (0 ≤ ti2) ∧ (PnR (CTk tp ln) (LF tp ln) 3 ti pa 1 ti2 pa2)) ∨ (∃ tk2 : Int, ∃ st2 : Int, ∃ bh2 : Int, ∃ va2 : Int, ∃ pa2 : Int, ∃ sz2 : Int, ∃ cd2 : Int → Int, ∃ fl2 : Int, ∃ ti2 : Int, rr = some (.int (zI 0)) ∧ h9 = (nh, hc fh [(54, .inr (5, [.ref 55, .int (zI ln), .int (zI tk2), .int (zI st2), .int (zI bh2), .int (zI va2), .int (zI pa2), .int (zI fl2), .ref 56, .int (zI sz2)])), (56, .inl (0, 412, .inl (zA cd2)))]) ∧ (0 ≤ tk2) ∧ (tk2 ≤ 355) ∧ (0 ≤ st2) ∧ (st2 ≤ bh2) ∧ (bh2 ≤ ln) ∧ (0 ≤ va2) ∧ (va2 ≤ 1001) ∧ (0 ≤ pa2) ∧ (pa2 ≤ 50) ∧ (0 ≤ sz2) ∧ (sz2 ≤ 412) ∧ (TokL tk2 st2 bh2) ∧ (Rg cd2 412 (-2147483648) 2147483647) ∧ (0 ≤ fl2) ∧ (fl2 ≤ 400) ∧ (FlX tp ln ti2 fl2) ∧ (PnR (CTk tp ln) (LF tp ln) 3 ti pa 0 ti2 0)))) (nh, hc fh [(54, .inr (5, [.ref 55, .int (zI ln), .int (zI tx_4), .int (zI sx_4), .int (zI bx_4), .int (zI vx_4), .int (zI pa), .int (zI fl), .ref 56, .int (zI sz)]))]) 0 0 4 [some (.ref 54), some (.int (zI 5)), some (.int (zI dn_4)), some (.int (zI i_4))] [] := by
    intro N4
    induction N4 with
    | zero => intro dn_4 i_4 tx_4 sx_4 bx_4 vx_4 ti_4 i4_0 i4_1 i4_2 i4_3 i4_4 i4_5 i4_6 i4_7 i4_8 i4_9 i4_10 i4_11 i4_12 i4_13 i4_14 i4_15 i4_16 hm; exact absurd hm (Nat.not_lt_zero _)
    | succ N4 ih4 =>
      intro dn_4 i_4 tx_4 sx_4 bx_4 vx_4 ti_4 i4_0 i4_1 i4_2 i4_3 i4_4 i4_5 i4_6 i4_7 i4_8 i4_9 i4_10 i4_11 i4_12 i4_13 i4_14 i4_15 i4_16 hm4
      refine J_iload_n dX5_plain_4 rfl rfl ?_
      refine Z_sipush (n := 400) dX5_plain_5 (by decide +kernel) ?_
      refine Z_icmp_ge (tgt := 40) dX5_plain_8 (by decide) (v_d7389cde0f i4_0 i4_1) v_d8dcd4dd52 (fun h1 => ?_) (fun h1 => ?_)
      · have g2 : tx_4 = 17 := TkX.lo i4_14 (v_af0392b8e9 q1 q4 i4_5 i4_9 i4_10 h1)
        refine J_aload_n dX5_plain_40 rfl rfl ?_
        refine Z_bipush (n := 40) dX5_plain_41 (by decide +kernel) ?_
        refine J_callV (st := []) dX5_plain_43 cv_X5_50 (d_isSign 40 ln tx_4 sx_4 bx_4 vx_4 pa fl sz v_3958fe4c87 v_fdd2493dbb i4_6 i4_7 rfl) rfl rfl rfl (Nat.le_of_ble_eq_true rfl) ⟨(Nat.le_of_ble_eq_true rfl), (Nat.le_of_ble_eq_true rfl)⟩ ⟨(Nat.le_of_ble_eq_true rfl), (Nat.le_of_ble_eq_true rfl)⟩ (fun r h9 hp => ?_)
        rcases hp with ⟨rfl, rfl, h3⟩ | ⟨rfl, rfl, h4⟩
        · exact False.elim (v_ba9b7c0e8b g2 h3)
        · refine J_nf (nh2 := nh) (ck2 := 0) (sk2 := 0) (st2 := [.int (zI 0)]) rfl rfl rfl rfl ?_
          refine Z_if_eq (tgt := 59) dX5_plain_46 (by decide) v_b17331891f (fun h5 => ?_) (fun h5 => absurd h5 (fun q => q v_2ca2bbca1f))
          refine J_aload_n dX5_plain_59 rfl rfl ?_
          refine J_iload_n dX5_plain_60 rfl rfl ?_
          refine J_callV (st := []) dX5_plain_61 cv_X5_63 (d_sum5 ln tx_4 sx_4 bx_4 vx_4 pa fl sz tp cd ti_4 q0 q1 i4_6 i4_7 i4_8 i4_9 i4_10 i4_11 i4_12 q9 q10 q11 q12 q13 i4_13 q15 q16 i4_14 (v_21976c7318 q18 i4_15) rfl hk55 hk56) rfl rfl rfl (Nat.le_of_ble_eq_true rfl) ⟨(Nat.le_of_ble_eq_true rfl), (Nat.le_of_ble_eq_true rfl)⟩ ⟨(Nat.le_of_ble_eq_true rfl), (Nat.le_of_ble_eq_true rfl)⟩ (fun r h9 hp => ?_)
          rcases hp with ⟨z6, z7, z8, z9, z10, z11, f12, z13, rfl, rfl, h14, h15, h16, h17, h18, h19, h20, h21, h22, h23, h24, h25, h26, h27, h28, h29, h30, h31⟩ | ⟨z32, z33, z34, z35, z36, z37, f38, z39, z40, rfl, rfl, h41, h42, h43, h44, h45, h46, h47, h48, h49, h50, h51, h52, h53, h54, h55, h56, h57⟩
          · refine J_nf (nh2 := nh) (ck2 := 0) (sk2 := 0) (st2 := [.int (zI 1)]) rfl rfl rfl rfl ?_
            refine J_app (L3 := [(54, .inr (5, [.ref 55, .int (zI ln), .int (zI z6), .int (zI z7), .int (zI z8), .int (zI z9), .int (zI z10), .int (zI fl), .ref 56, .int (zI z11)])), (56, .inl (0, 412, .inl (zA f12))), (54, .inr (5, [.ref 55, .int (zI ln), .int (zI tx_4), .int (zI sx_4), .int (zI bx_4), .int (zI vx_4), .int (zI pa), .int (zI fl), .ref 56, .int (zI sz)]))]) rfl ?_
            refine J_mask (L2 := [(54, .inr (5, [.ref 55, .int (zI ln), .int (zI z6), .int (zI z7), .int (zI z8), .int (zI z9), .int (zI z10), .int (zI fl), .ref 56, .int (zI z11)])), (56, .inl (0, 412, .inl (zA f12)))]) (ks := [54, 56, 54]) [true, true, false] rfl (by decide +kernel) rfl ?_
            refine Z_if_ne (tgt := 69) dX5_plain_64 (by decide) v_4dcc24baa7 (fun h58 => ?_) (fun h58 => absurd h58 v_3a47bfd896)
            refine J_aload_n dX5_plain_69 rfl rfl ?_
            refine Z_bipush (n := 60) dX5_plain_70 (by decide +kernel) ?_
            refine J_callV (st := []) dX5_plain_72 cv_X5_50 (d_isSign 60 ln z6 z7 z8 z9 z10 fl z11 v_eb2f5e1e3a v_382af52349 h14 h15 rfl) rfl rfl rfl (Nat.le_of_ble_eq_true rfl) ⟨(Nat.le_of_ble_eq_true rfl), (Nat.le_of_ble_eq_true rfl)⟩ ⟨(Nat.le_of_ble_eq_true rfl), (Nat.le_of_ble_eq_true rfl)⟩ (fun r h9 hp => ?_)
            rcases hp with ⟨rfl, rfl, h59⟩ | ⟨rfl, rfl, h60⟩
            · refine J_nf (nh2 := nh) (ck2 := 0) (sk2 := 0) (st2 := [.int (zI 1)]) rfl rfl rfl rfl ?_
              refine Z_if_eq (tgt := 83) dX5_plain_75 (by decide) v_4dcc24baa7 (fun h61 => absurd h61 v_3a47bfd896) (fun h61 => ?_)
              refine Z_bipush (n := 6) dX5_plain_78 (by decide +kernel) ?_
              refine J_goto (tgt := 99) dX5_plain_80 (by decide) ?_
              refine J_istore_n dX5_plain_99 rfl (Nat.le_of_ble_eq_true rfl) rfl ?_
              refine J_ls (ls2 := [some (.ref 54), some (.int (zI 5)), some (.int (zI dn_4)), some (.int (zI 6))]) rfl ?_
              refine J_iload_n dX5_plain_100 rfl rfl ?_
              refine Z_bipush (n := 8) dX5_plain_101 (by decide +kernel) ?_
              refine Z_icmp_ne (tgt := 120) dX5_plain_103 (by decide) v_8f5ecbc95e v_665891e294 (fun h62 => ?_) (fun h62 => absurd h62 v_ada6685030)
              refine J_aload_n dX5_plain_120 rfl rfl ?_
              have g63 := TokL.lt h25 (v_f5333b39e4 h59)
              refine J_callV (st := []) dX5_plain_121 cv_X5_43 (d_advance (z13 + 1) ln z6 z7 z8 z9 z10 fl z11 tp q0 q1 (v_d253cb2c59 h16 g63) h18 h19 h20 q15 (TkX.ps h29 (v_2b02420001 h30)) rfl hk55) rfl rfl rfl (Nat.le_of_ble_eq_true rfl) ⟨(Nat.le_of_ble_eq_true rfl), (Nat.le_of_ble_eq_true rfl)⟩ ⟨(Nat.le_of_ble_eq_true rfl), (Nat.le_of_ble_eq_true rfl)⟩ (fun r h9 hp => ?_)
              obtain ⟨z64, z65, z66, z67, rfl, rfl, h68, h69, h70, h71, h72, h73, h74, h75, h76⟩ := hp
              refine J_nf (nh2 := nh) (ck2 := 0) (sk2 := 0) (st2 := []) rfl rfl rfl rfl ?_
              refine J_app (L3 := [(54, .inr (5, [.ref 55, .int (zI ln), .int (zI z64), .int (zI z65), .int (zI z66), .int (zI z67), .int (zI z10), .int (zI fl), .ref 56, .int (zI z11)])), (54, .inr (5, [.ref 55, .int (zI ln), .int (zI z6), .int (zI z7), .int (zI z8), .int (zI z9), .int (zI z10), .int (zI fl), .ref 56, .int (zI z11)])), (56, .inl (0, 412, .inl (zA f12)))]) rfl ?_
              refine J_mask (L2 := [(54, .inr (5, [.ref 55, .int (zI ln), .int (zI z64), .int (zI z65), .int (zI z66), .int (zI z67), .int (zI z10), .int (zI fl), .ref 56, .int (zI z11)])), (56, .inl (0, 412, .inl (zA f12)))]) (ks := [54, 54, 56]) [true, false, true] rfl (by decide +kernel) rfl ?_
              refine J_aload_n dX5_plain_124 rfl rfl ?_
              refine J_iload_n dX5_plain_125 rfl rfl ?_
              refine J_callV (st := []) dX5_plain_126 cv_X5_63 (d_sum5 ln z64 z65 z66 z67 z10 fl z11 tp f12 (z13 + 1) q0 q1 h68 h69 (v_9b2e2070a2 h16 g63 h70) h71 h72 h73 h74 h21 h22 q11 h23 h24 h75 q15 h26 h76 (v_da458fa48a h30) rfl hk55 rfl) rfl rfl rfl (Nat.le_of_ble_eq_true rfl) ⟨(Nat.le_of_ble_eq_true rfl), (Nat.le_of_ble_eq_true rfl)⟩ ⟨(Nat.le_of_ble_eq_true rfl), (Nat.le_of_ble_eq_true rfl)⟩ (fun r h9 hp => ?_)
              rcases hp with ⟨z77, z78, z79, z80, z81, z82, f83, z84, rfl, rfl, h85, h86, h87, h88, h89, h90, h91, h92, h93, h94, h95, h96, h97, h98, h99, h100, h101, h102⟩ | ⟨z103, z104, z105, z106, z107, z108, f109, z110, z111, rfl, rfl, h112, h113, h114, h115, h116, h117, h118, h119, h120, h121, h122, h123, h124, h125, h126, h127, h128⟩
              · exact False.elim (v_a6bcc94d33 q1 q4 i4_5 h1 h18 h28 g63)
              · exact False.elim (v_a6bcc94d33 q1 q4 i4_5 h1 h18 h28 g63)
            · refine J_nf (nh2 := nh) (ck2 := 0) (sk2 := 0) (st2 := [.int (zI 0)]) rfl rfl rfl rfl ?_
              refine Z_if_eq (tgt := 83) dX5_plain_75 (by decide) v_b17331891f (fun h129 => ?_) (fun h129 => absurd h129 (fun q => q v_2ca2bbca1f))
              refine J_aload_n dX5_plain_83 rfl rfl ?_
              refine Z_bipush (n := 62) dX5_plain_84 (by decide +kernel) ?_
              refine J_callV (st := []) dX5_plain_86 cv_X5_50 (d_isSign 62 ln z6 z7 z8 z9 z10 fl z11 v_722c6b3941 v_3996c1d9a8 h14 h15 rfl) rfl rfl rfl (Nat.le_of_ble_eq_true rfl) ⟨(Nat.le_of_ble_eq_true rfl), (Nat.le_of_ble_eq_true rfl)⟩ ⟨(Nat.le_of_ble_eq_true rfl), (Nat.le_of_ble_eq_true rfl)⟩ (fun r h9 hp => ?_)
              rcases hp with ⟨rfl, rfl, h130⟩ | ⟨rfl, rfl, h131⟩
              · refine J_nf (nh2 := nh) (ck2 := 0) (sk2 := 0) (st2 := [.int (zI 1)]) rfl rfl rfl rfl ?_
                refine Z_if_eq (tgt := 97) dX5_plain_89 (by decide) v_4dcc24baa7 (fun h132 => absurd h132 v_3a47bfd896) (fun h132 => ?_)
                refine Z_bipush (n := 7) dX5_plain_92 (by decide +kernel) ?_
                refine J_goto (tgt := 99) dX5_plain_94 (by decide) ?_
                refine J_istore_n dX5_plain_99 rfl (Nat.le_of_ble_eq_true rfl) rfl ?_
                refine J_ls (ls2 := [some (.ref 54), some (.int (zI 5)), some (.int (zI dn_4)), some (.int (zI 7))]) rfl ?_
                refine J_iload_n dX5_plain_100 rfl rfl ?_
                refine Z_bipush (n := 8) dX5_plain_101 (by decide +kernel) ?_
                refine Z_icmp_ne (tgt := 120) dX5_plain_103 (by decide) v_c3fe1a091f v_665891e294 (fun h133 => ?_) (fun h133 => absurd h133 v_d62b89f05c)
                refine J_aload_n dX5_plain_120 rfl rfl ?_
                have g134 := TokL.lt h25 (v_3ec9e003c7 h130)
                refine J_callV (st := []) dX5_plain_121 cv_X5_43 (d_advance (z13 + 1) ln z6 z7 z8 z9 z10 fl z11 tp q0 q1 (v_d253cb2c59 h16 g134) h18 h19 h20 q15 (TkX.ps h29 (v_2b02420001 h30)) rfl hk55) rfl rfl rfl (Nat.le_of_ble_eq_true rfl) ⟨(Nat.le_of_ble_eq_true rfl), (Nat.le_of_ble_eq_true rfl)⟩ ⟨(Nat.le_of_ble_eq_true rfl), (Nat.le_of_ble_eq_true rfl)⟩ (fun r h9 hp => ?_)
                obtain ⟨z135, z136, z137, z138, rfl, rfl, h139, h140, h141, h142, h143, h144, h145, h146, h147⟩ := hp
                refine J_nf (nh2 := nh) (ck2 := 0) (sk2 := 0) (st2 := []) rfl rfl rfl rfl ?_
                refine J_app (L3 := [(54, .inr (5, [.ref 55, .int (zI ln), .int (zI z135), .int (zI z136), .int (zI z137), .int (zI z138), .int (zI z10), .int (zI fl), .ref 56, .int (zI z11)])), (54, .inr (5, [.ref 55, .int (zI ln), .int (zI z6), .int (zI z7), .int (zI z8), .int (zI z9), .int (zI z10), .int (zI fl), .ref 56, .int (zI z11)])), (56, .inl (0, 412, .inl (zA f12)))]) rfl ?_
                refine J_mask (L2 := [(54, .inr (5, [.ref 55, .int (zI ln), .int (zI z135), .int (zI z136), .int (zI z137), .int (zI z138), .int (zI z10), .int (zI fl), .ref 56, .int (zI z11)])), (56, .inl (0, 412, .inl (zA f12)))]) (ks := [54, 54, 56]) [true, false, true] rfl (by decide +kernel) rfl ?_
                refine J_aload_n dX5_plain_124 rfl rfl ?_
                refine J_iload_n dX5_plain_125 rfl rfl ?_
                refine J_callV (st := []) dX5_plain_126 cv_X5_63 (d_sum5 ln z135 z136 z137 z138 z10 fl z11 tp f12 (z13 + 1) q0 q1 h139 h140 (v_9b2e2070a2 h16 g134 h141) h142 h143 h144 h145 h21 h22 q11 h23 h24 h146 q15 h26 h147 (v_da458fa48a h30) rfl hk55 rfl) rfl rfl rfl (Nat.le_of_ble_eq_true rfl) ⟨(Nat.le_of_ble_eq_true rfl), (Nat.le_of_ble_eq_true rfl)⟩ ⟨(Nat.le_of_ble_eq_true rfl), (Nat.le_of_ble_eq_true rfl)⟩ (fun r h9 hp => ?_)
                rcases hp with ⟨z148, z149, z150, z151, z152, z153, f154, z155, rfl, rfl, h156, h157, h158, h159, h160, h161, h162, h163, h164, h165, h166, h167, h168, h169, h170, h171, h172, h173⟩ | ⟨z174, z175, z176, z177, z178, z179, f180, z181, z182, rfl, rfl, h183, h184, h185, h186, h187, h188, h189, h190, h191, h192, h193, h194, h195, h196, h197, h198, h199⟩
                · exact False.elim (v_a6bcc94d33 q1 q4 i4_5 h1 h18 h28 g134)
                · exact False.elim (v_a6bcc94d33 q1 q4 i4_5 h1 h18 h28 g134)
              · refine J_nf (nh2 := nh) (ck2 := 0) (sk2 := 0) (st2 := [.int (zI 0)]) rfl rfl rfl rfl ?_
                refine Z_if_eq (tgt := 97) dX5_plain_89 (by decide) v_b17331891f (fun h200 => ?_) (fun h200 => absurd h200 (fun q => q v_2ca2bbca1f))
                refine Z_bipush (n := 8) dX5_plain_97 (by decide +kernel) ?_
                refine J_istore_n dX5_plain_99 rfl (Nat.le_of_ble_eq_true rfl) rfl ?_
                refine J_ls (ls2 := [some (.ref 54), some (.int (zI 5)), some (.int (zI dn_4)), some (.int (zI 8))]) rfl ?_
                refine J_iload_n dX5_plain_100 rfl rfl ?_
                refine Z_bipush (n := 8) dX5_plain_101 (by decide +kernel) ?_
                refine Z_icmp_ne (tgt := 120) dX5_plain_103 (by decide) v_665891e294 v_665891e294 (fun h201 => absurd h201 (fun q => q v_c1b8243509)) (fun h201 => ?_)
                refine J_aload_n dX5_plain_106 rfl rfl ?_
                refine Z_bipush (n := 61) dX5_plain_107 (by decide +kernel) ?_
                refine J_callV (st := []) dX5_plain_109 cv_X5_50 (d_isSign 61 ln z6 z7 z8 z9 z10 fl z11 v_b92a3c53b8 v_7b9730a51b h14 h15 rfl) rfl rfl rfl (Nat.le_of_ble_eq_true rfl) ⟨(Nat.le_of_ble_eq_true rfl), (Nat.le_of_ble_eq_true rfl)⟩ ⟨(Nat.le_of_ble_eq_true rfl), (Nat.le_of_ble_eq_true rfl)⟩ (fun r h9 hp => ?_)
                rcases hp with ⟨rfl, rfl, h202⟩ | ⟨rfl, rfl, h203⟩
                · refine J_nf (nh2 := nh) (ck2 := 0) (sk2 := 0) (st2 := [.int (zI 1)]) rfl rfl rfl rfl ?_
                  refine Z_if_ne (tgt := 120) dX5_plain_112 (by decide) v_4dcc24baa7 (fun h204 => ?_) (fun h204 => absurd h204 v_3a47bfd896)
                  refine J_aload_n dX5_plain_120 rfl rfl ?_
                  have g205 := TokL.lt h25 (v_23eeeea057 h202)
                  refine J_callV (st := []) dX5_plain_121 cv_X5_43 (d_advance (z13 + 1) ln z6 z7 z8 z9 z10 fl z11 tp q0 q1 (v_d253cb2c59 h16 g205) h18 h19 h20 q15 (TkX.ps h29 (v_2b02420001 h30)) rfl hk55) rfl rfl rfl (Nat.le_of_ble_eq_true rfl) ⟨(Nat.le_of_ble_eq_true rfl), (Nat.le_of_ble_eq_true rfl)⟩ ⟨(Nat.le_of_ble_eq_true rfl), (Nat.le_of_ble_eq_true rfl)⟩ (fun r h9 hp => ?_)
                  obtain ⟨z206, z207, z208, z209, rfl, rfl, h210, h211, h212, h213, h214, h215, h216, h217, h218⟩ := hp
                  refine J_nf (nh2 := nh) (ck2 := 0) (sk2 := 0) (st2 := []) rfl rfl rfl rfl ?_
                  refine J_app (L3 := [(54, .inr (5, [.ref 55, .int (zI ln), .int (zI z206), .int (zI z207), .int (zI z208), .int (zI z209), .int (zI z10), .int (zI fl), .ref 56, .int (zI z11)])), (54, .inr (5, [.ref 55, .int (zI ln), .int (zI z6), .int (zI z7), .int (zI z8), .int (zI z9), .int (zI z10), .int (zI fl), .ref 56, .int (zI z11)])), (56, .inl (0, 412, .inl (zA f12)))]) rfl ?_
                  refine J_mask (L2 := [(54, .inr (5, [.ref 55, .int (zI ln), .int (zI z206), .int (zI z207), .int (zI z208), .int (zI z209), .int (zI z10), .int (zI fl), .ref 56, .int (zI z11)])), (56, .inl (0, 412, .inl (zA f12)))]) (ks := [54, 54, 56]) [true, false, true] rfl (by decide +kernel) rfl ?_
                  refine J_aload_n dX5_plain_124 rfl rfl ?_
                  refine J_iload_n dX5_plain_125 rfl rfl ?_
                  refine J_callV (st := []) dX5_plain_126 cv_X5_63 (d_sum5 ln z206 z207 z208 z209 z10 fl z11 tp f12 (z13 + 1) q0 q1 h210 h211 (v_9b2e2070a2 h16 g205 h212) h213 h214 h215 h216 h21 h22 q11 h23 h24 h217 q15 h26 h218 (v_da458fa48a h30) rfl hk55 rfl) rfl rfl rfl (Nat.le_of_ble_eq_true rfl) ⟨(Nat.le_of_ble_eq_true rfl), (Nat.le_of_ble_eq_true rfl)⟩ ⟨(Nat.le_of_ble_eq_true rfl), (Nat.le_of_ble_eq_true rfl)⟩ (fun r h9 hp => ?_)
                  rcases hp with ⟨z219, z220, z221, z222, z223, z224, f225, z226, rfl, rfl, h227, h228, h229, h230, h231, h232, h233, h234, h235, h236, h237, h238, h239, h240, h241, h242, h243, h244⟩ | ⟨z245, z246, z247, z248, z249, z250, f251, z252, z253, rfl, rfl, h254, h255, h256, h257, h258, h259, h260, h261, h262, h263, h264, h265, h266, h267, h268, h269, h270⟩
                  · exact False.elim (v_a6bcc94d33 q1 q4 i4_5 h1 h18 h28 g205)
                  · exact False.elim (v_a6bcc94d33 q1 q4 i4_5 h1 h18 h28 g205)
                · refine J_nf (nh2 := nh) (ck2 := 0) (sk2 := 0) (st2 := [.int (zI 0)]) rfl rfl rfl rfl ?_
                  refine Z_if_ne (tgt := 120) dX5_plain_112 (by decide) v_b17331891f (fun h271 => absurd h271 (fun q => q v_2ca2bbca1f)) (fun h271 => ?_)
                  refine J_aload_n dX5_plain_115 rfl rfl ?_
                  refine J_callV (st := []) dX5_plain_116 cv_X5_54 (d_wrong ln z6 z7 z8 z9 z10 fl z11 h16 (v_1adcfdfee5 q1 h17 h18) rfl) rfl rfl rfl (Nat.le_of_ble_eq_true rfl) ⟨(Nat.le_of_ble_eq_true rfl), (Nat.le_of_ble_eq_true rfl)⟩ ⟨(Nat.le_of_ble_eq_true rfl), (Nat.le_of_ble_eq_true rfl)⟩ (fun r h9 hp => ?_)
                  obtain ⟨rfl, rfl⟩ := hp
                  refine J_nf (nh2 := nh) (ck2 := 0) (sk2 := 0) (st2 := [.int (zI 0)]) rfl rfl rfl rfl ?_
                  refine J_app (L3 := [(54, .inr (5, [.ref 55, .int (zI ln), .int (zI z6), .int (zI z7), .int (zI z8), .int (zI z9), .int (zI z10), .int (zI z7), .ref 56, .int (zI z11)])), (54, .inr (5, [.ref 55, .int (zI ln), .int (zI z6), .int (zI z7), .int (zI z8), .int (zI z9), .int (zI z10), .int (zI fl), .ref 56, .int (zI z11)])), (56, .inl (0, 412, .inl (zA f12)))]) rfl ?_
                  refine J_mask (L2 := [(54, .inr (5, [.ref 55, .int (zI ln), .int (zI z6), .int (zI z7), .int (zI z8), .int (zI z9), .int (zI z10), .int (zI z7), .ref 56, .int (zI z11)])), (56, .inl (0, 412, .inl (zA f12)))]) (ks := [54, 54, 56]) [true, false, true] rfl (by decide +kernel) rfl ?_
                  exact J_iret dX5_plain_119 rfl (jbn v_939070ca3f v_316afd7d0b) (Nat.le_of_ble_eq_true rfl) (Nat.le_of_ble_eq_true rfl) (Or.inr ⟨z6, z7, z8, z9, z10, z11, f12, z7, z13, rfl, rfl, h14, h15, h16, h17, h18, h19, h20, h21, h22, h23, h24, h25, h26, h16, (v_1adcfdfee5 q1 h17 h18), ((TkX.s h29)), (PlR.w (v_d464d4c634 i4_15) i4_16 (fun w => absurd ((TkX.wd i4_14 (v := 6) (c := 7) (by decide) (by decide) (by decide)).mp w) (v_bd75728820 g2)) (fun w => absurd ((TkX.sg i4_14 (v := 140) (by decide)).mp w) (v_c9b196b50c g2)) h31 (fun w => Or.elim w (fun w => absurd ((TkX.sg h29 (v := 160) (by decide)).mp w) (v_62784191f6 h60)) (fun w => Or.elim w (fun w => absurd ((TkX.sg h29 (v := 161) (by decide)).mp w) (v_e6bfb52c99 h203)) (fun w => absurd ((TkX.sg h29 (v := 162) (by decide)).mp w) (v_b61acea494 h131)))))⟩)
          · refine J_nf (nh2 := nh) (ck2 := 0) (sk2 := 0) (st2 := [.int (zI 0)]) rfl rfl rfl rfl ?_
            refine J_app (L3 := [(54, .inr (5, [.ref 55, .int (zI ln), .int (zI z32), .int (zI z33), .int (zI z34), .int (zI z35), .int (zI z36), .int (zI z39), .ref 56, .int (zI z37)])), (56, .inl (0, 412, .inl (zA f38))), (54, .inr (5, [.ref 55, .int (zI ln), .int (zI tx_4), .int (zI sx_4), .int (zI bx_4), .int (zI vx_4), .int (zI pa), .int (zI fl), .ref 56, .int (zI sz)]))]) rfl ?_
            refine J_mask (L2 := [(54, .inr (5, [.ref 55, .int (zI ln), .int (zI z32), .int (zI z33), .int (zI z34), .int (zI z35), .int (zI z36), .int (zI z39), .ref 56, .int (zI z37)])), (56, .inl (0, 412, .inl (zA f38)))]) (ks := [54, 56, 54]) [true, true, false] rfl (by decide +kernel) rfl ?_
            refine Z_if_ne (tgt := 69) dX5_plain_64 (by decide) v_b17331891f (fun h272 => absurd h272 (fun q => q v_2ca2bbca1f)) (fun h272 => ?_)
            refine Z_iconst (n := 0) dX5_plain_67 ?_
            exact J_iret dX5_plain_68 rfl (jbn v_939070ca3f v_316afd7d0b) (Nat.le_of_ble_eq_true rfl) (Nat.le_of_ble_eq_true rfl) (Or.inr ⟨z32, z33, z34, z35, z36, z37, f38, z39, z40, rfl, rfl, h41, h42, h43, h44, h45, h46, h47, h48, h49, h50, h51, h52, h53, h54, h55, (h56), (PlR.b1 (v_d464d4c634 i4_15) i4_16 (fun w => absurd ((TkX.wd i4_14 (v := 6) (c := 7) (by decide) (by decide) (by decide)).mp w) (v_bd75728820 g2)) (fun w => absurd ((TkX.sg i4_14 (v := 140) (by decide)).mp w) (v_c9b196b50c g2)) h57)⟩)
      · refine J_aload_n dX5_plain_11 rfl rfl ?_
        refine J_get (v := .int (zI tx_4)) dX5_plain_12 fl_X5_19 rfl rfl ?_
        refine Z_bipush (n := 6) dX5_plain_15 (by decide +kernel) ?_
        refine Z_icmp_ne (tgt := 40) dX5_plain_17 (by decide) (v_96bf6f782e i4_6 i4_7) v_8f5ecbc95e (fun h273 => ?_) (fun h273 => ?_)
        · refine J_aload_n dX5_plain_40 rfl rfl ?_
          refine Z_bipush (n := 40) dX5_plain_41 (by decide +kernel) ?_
          refine J_callV (st := []) dX5_plain_43 cv_X5_50 (d_isSign 40 ln tx_4 sx_4 bx_4 vx_4 pa fl sz v_3958fe4c87 v_fdd2493dbb i4_6 i4_7 rfl) rfl rfl rfl (Nat.le_of_ble_eq_true rfl) ⟨(Nat.le_of_ble_eq_true rfl), (Nat.le_of_ble_eq_true rfl)⟩ ⟨(Nat.le_of_ble_eq_true rfl), (Nat.le_of_ble_eq_true rfl)⟩ (fun r h9 hp => ?_)
          rcases hp with ⟨rfl, rfl, h274⟩ | ⟨rfl, rfl, h275⟩
          · refine J_nf (nh2 := nh) (ck2 := 0) (sk2 := 0) (st2 := [.int (zI 1)]) rfl rfl rfl rfl ?_
            refine Z_if_eq (tgt := 59) dX5_plain_46 (by decide) v_4dcc24baa7 (fun h276 => absurd h276 v_3a47bfd896) (fun h276 => ?_)
            refine J_aload_n dX5_plain_49 rfl rfl ?_
            refine J_iload_n dX5_plain_50 rfl rfl ?_
            refine J_callV (st := []) dX5_plain_51 cv_X5_86 (d_bracketedTest5 ln tx_4 sx_4 bx_4 vx_4 pa fl sz tp cd ti_4 q0 q1 i4_6 i4_7 i4_8 i4_9 i4_10 i4_11 i4_12 q9 q10 q11 q12 q13 i4_13 q15 q16 i4_14 (v_21976c7318 q18 i4_15) rfl hk55 hk56) rfl rfl rfl (Nat.le_of_ble_eq_true rfl) ⟨(Nat.le_of_ble_eq_true rfl), (Nat.le_of_ble_eq_true rfl)⟩ ⟨(Nat.le_of_ble_eq_true rfl), (Nat.le_of_ble_eq_true rfl)⟩ (fun r h9 hp => ?_)
            rcases hp with ⟨z277, z278, z279, z280, z281, z282, f283, z284, rfl, rfl, h285, h286, h287, h288, h289, h290, h291, h292, h293, h294, h295, h296, h297, h298, h299, h300, h301, h302⟩ | ⟨z303, z304, z305, z306, z307, z308, f309, z310, z311, rfl, rfl, h312, h313, h314, h315, h316, h317, h318, h319, h320, h321, h322, h323, h324, h325, h326, h327, h328⟩
            · refine J_nf (nh2 := nh) (ck2 := 0) (sk2 := 0) (st2 := [.int (zI 1)]) rfl rfl rfl rfl ?_
              refine J_app (L3 := [(54, .inr (5, [.ref 55, .int (zI ln), .int (zI z277), .int (zI z278), .int (zI z279), .int (zI z280), .int (zI z281), .int (zI fl), .ref 56, .int (zI z282)])), (56, .inl (0, 412, .inl (zA f283))), (54, .inr (5, [.ref 55, .int (zI ln), .int (zI tx_4), .int (zI sx_4), .int (zI bx_4), .int (zI vx_4), .int (zI pa), .int (zI fl), .ref 56, .int (zI sz)]))]) rfl ?_
              refine J_mask (L2 := [(54, .inr (5, [.ref 55, .int (zI ln), .int (zI z277), .int (zI z278), .int (zI z279), .int (zI z280), .int (zI z281), .int (zI fl), .ref 56, .int (zI z282)])), (56, .inl (0, 412, .inl (zA f283)))]) (ks := [54, 56, 54]) [true, true, false] rfl (by decide +kernel) rfl ?_
              refine Z_if_ne (tgt := 141) dX5_plain_54 (by decide) v_4dcc24baa7 (fun h329 => ?_) (fun h329 => absurd h329 v_3a47bfd896)
              refine J_iload_n dX5_plain_141 rfl rfl ?_
              refine Z_if_eq (tgt := 153) dX5_plain_142 (by decide) (v_5f10a759cd i4_2 i4_3) (fun h330 => ?_) (fun h330 => ?_)
              · refine Z_iconst (n := 1) dX5_plain_153 ?_
                exact J_iret dX5_plain_154 rfl (jbn v_316afd7d0b v_bbcfac9b7d) (Nat.le_of_ble_eq_true rfl) (Nat.le_of_ble_eq_true rfl) (Or.inl ⟨z277, z278, z279, z280, z281, z282, f283, z284, rfl, rfl, h285, h286, h287, h288, h289, h290, h291, h292, h293, h294, h295, h296, h297, (v_f7907ed2b5 i4_2 i4_4 h298), (v_4790cfd5f0 i4_2 i4_4 h299), h300, h301, (PlR.br (v_d464d4c634 i4_15) i4_16 (fun w => absurd ((TkX.wd i4_14 (v := 6) (c := 7) (by decide) (by decide) (by decide)).mp w) (v_e35e61c023 h274)) ((TkX.sg i4_14 (v := 140) (by decide)).mpr (v_b392e93b1e h274)) h302)⟩)
              · refine J_aload_n dX5_plain_145 rfl rfl ?_
                refine Z_bipush (n := 9) dX5_plain_146 (by decide +kernel) ?_
                refine Z_iconst (n := 0) dX5_plain_148 ?_
                refine J_callV (st := []) dX5_plain_149 cv_X5_72 (d_emit 9 0 ln z277 z278 z279 z280 z281 fl z282 f283 v_00f9f00cc1 v_b17331891f h294 h295 h297 rfl rfl) rfl rfl rfl (Nat.le_of_ble_eq_true rfl) ⟨(Nat.le_of_ble_eq_true rfl), (Nat.le_of_ble_eq_true rfl)⟩ ⟨(Nat.le_of_ble_eq_true rfl), (Nat.le_of_ble_eq_true rfl)⟩ (fun r h9 hp => ?_)
                obtain ⟨z331, f332, rfl, rfl, h333, h334, h335, h336, h337⟩ := hp
                refine J_nf (nh2 := nh) (ck2 := 0) (sk2 := 0) (st2 := [.int (zI z282)]) rfl rfl rfl rfl ?_
                refine J_app (L3 := [(54, .inr (5, [.ref 55, .int (zI ln), .int (zI z277), .int (zI z278), .int (zI z279), .int (zI z280), .int (zI z281), .int (zI fl), .ref 56, .int (zI z331)])), (56, .inl (0, 412, .inl (zA f332))), (54, .inr (5, [.ref 55, .int (zI ln), .int (zI z277), .int (zI z278), .int (zI z279), .int (zI z280), .int (zI z281), .int (zI fl), .ref 56, .int (zI z282)])), (56, .inl (0, 412, .inl (zA f283)))]) rfl ?_
                refine J_mask (L2 := [(54, .inr (5, [.ref 55, .int (zI ln), .int (zI z277), .int (zI z278), .int (zI z279), .int (zI z280), .int (zI z281), .int (zI fl), .ref 56, .int (zI z331)])), (56, .inl (0, 412, .inl (zA f332)))]) (ks := [54, 56, 54, 56]) [true, true, false, false] rfl (by decide +kernel) rfl ?_
                refine J_pop dX5_plain_152 rfl ?_
                refine Z_iconst (n := 1) dX5_plain_153 ?_
                exact J_iret dX5_plain_154 rfl (jbn v_316afd7d0b v_bbcfac9b7d) (Nat.le_of_ble_eq_true rfl) (Nat.le_of_ble_eq_true rfl) (Or.inl ⟨z277, z278, z279, z280, z281, z331, f332, z284, rfl, rfl, h285, h286, h287, h288, h289, h290, h291, h292, h293, h333, h334, h296, h337, (v_6cbc4edc5d i4_2 i4_4 h298 h330 h336), (v_4790cfd5f0 i4_2 i4_4 h299), h300, h301, (PlR.br (v_d464d4c634 i4_15) i4_16 (fun w => absurd ((TkX.wd i4_14 (v := 6) (c := 7) (by decide) (by decide) (by decide)).mp w) (v_e35e61c023 h274)) ((TkX.sg i4_14 (v := 140) (by decide)).mpr (v_b392e93b1e h274)) h302)⟩)
            · refine J_nf (nh2 := nh) (ck2 := 0) (sk2 := 0) (st2 := [.int (zI 0)]) rfl rfl rfl rfl ?_
              refine J_app (L3 := [(54, .inr (5, [.ref 55, .int (zI ln), .int (zI z303), .int (zI z304), .int (zI z305), .int (zI z306), .int (zI z307), .int (zI z310), .ref 56, .int (zI z308)])), (56, .inl (0, 412, .inl (zA f309))), (54, .inr (5, [.ref 55, .int (zI ln), .int (zI tx_4), .int (zI sx_4), .int (zI bx_4), .int (zI vx_4), .int (zI pa), .int (zI fl), .ref 56, .int (zI sz)]))]) rfl ?_
              refine J_mask (L2 := [(54, .inr (5, [.ref 55, .int (zI ln), .int (zI z303), .int (zI z304), .int (zI z305), .int (zI z306), .int (zI z307), .int (zI z310), .ref 56, .int (zI z308)])), (56, .inl (0, 412, .inl (zA f309)))]) (ks := [54, 56, 54]) [true, true, false] rfl (by decide +kernel) rfl ?_
              refine Z_if_ne (tgt := 141) dX5_plain_54 (by decide) v_b17331891f (fun h338 => absurd h338 (fun q => q v_2ca2bbca1f)) (fun h338 => ?_)
              refine Z_iconst (n := 0) dX5_plain_57 ?_
              exact J_iret dX5_plain_58 rfl (jbn v_939070ca3f v_316afd7d0b) (Nat.le_of_ble_eq_true rfl) (Nat.le_of_ble_eq_true rfl) (Or.inr ⟨z303, z304, z305, z306, z307, z308, f309, z310, z311, rfl, rfl, h312, h313, h314, h315, h316, h317, h318, h319, h320, h321, h322, h323, h324, h325, h326, (h327), (PlR.br (v_d464d4c634 i4_15) i4_16 (fun w => absurd ((TkX.wd i4_14 (v := 6) (c := 7) (by decide) (by decide) (by decide)).mp w) (v_e35e61c023 h274)) ((TkX.sg i4_14 (v := 140) (by decide)).mpr (v_b392e93b1e h274)) h328)⟩)
          · refine J_nf (nh2 := nh) (ck2 := 0) (sk2 := 0) (st2 := [.int (zI 0)]) rfl rfl rfl rfl ?_
            refine Z_if_eq (tgt := 59) dX5_plain_46 (by decide) v_b17331891f (fun h339 => ?_) (fun h339 => absurd h339 (fun q => q v_2ca2bbca1f))
            refine J_aload_n dX5_plain_59 rfl rfl ?_
            refine J_iload_n dX5_plain_60 rfl rfl ?_
            refine J_callV (st := []) dX5_plain_61 cv_X5_63 (d_sum5 ln tx_4 sx_4 bx_4 vx_4 pa fl sz tp cd ti_4 q0 q1 i4_6 i4_7 i4_8 i4_9 i4_10 i4_11 i4_12 q9 q10 q11 q12 q13 i4_13 q15 q16 i4_14 (v_21976c7318 q18 i4_15) rfl hk55 hk56) rfl rfl rfl (Nat.le_of_ble_eq_true rfl) ⟨(Nat.le_of_ble_eq_true rfl), (Nat.le_of_ble_eq_true rfl)⟩ ⟨(Nat.le_of_ble_eq_true rfl), (Nat.le_of_ble_eq_true rfl)⟩ (fun r h9 hp => ?_)
            rcases hp with ⟨z340, z341, z342, z343, z344, z345, f346, z347, rfl, rfl, h348, h349, h350, h351, h352, h353, h354, h355, h356, h357, h358, h359, h360, h361, h362, h363, h364, h365⟩ | ⟨z366, z367, z368, z369, z370, z371, f372, z373, z374, rfl, rfl, h375, h376, h377, h378, h379, h380, h381, h382, h383, h384, h385, h386, h387, h388, h389, h390, h391⟩
            · refine J_nf (nh2 := nh) (ck2 := 0) (sk2 := 0) (st2 := [.int (zI 1)]) rfl rfl rfl rfl ?_
              refine J_app (L3 := [(54, .inr (5, [.ref 55, .int (zI ln), .int (zI z340), .int (zI z341), .int (zI z342), .int (zI z343), .int (zI z344), .int (zI fl), .ref 56, .int (zI z345)])), (56, .inl (0, 412, .inl (zA f346))), (54, .inr (5, [.ref 55, .int (zI ln), .int (zI tx_4), .int (zI sx_4), .int (zI bx_4), .int (zI vx_4), .int (zI pa), .int (zI fl), .ref 56, .int (zI sz)]))]) rfl ?_
              refine J_mask (L2 := [(54, .inr (5, [.ref 55, .int (zI ln), .int (zI z340), .int (zI z341), .int (zI z342), .int (zI z343), .int (zI z344), .int (zI fl), .ref 56, .int (zI z345)])), (56, .inl (0, 412, .inl (zA f346)))]) (ks := [54, 56, 54]) [true, true, false] rfl (by decide +kernel) rfl ?_
              refine Z_if_ne (tgt := 69) dX5_plain_64 (by decide) v_4dcc24baa7 (fun h392 => ?_) (fun h392 => absurd h392 v_3a47bfd896)
              refine J_aload_n dX5_plain_69 rfl rfl ?_
              refine Z_bipush (n := 60) dX5_plain_70 (by decide +kernel) ?_
              refine J_callV (st := []) dX5_plain_72 cv_X5_50 (d_isSign 60 ln z340 z341 z342 z343 z344 fl z345 v_eb2f5e1e3a v_382af52349 h348 h349 rfl) rfl rfl rfl (Nat.le_of_ble_eq_true rfl) ⟨(Nat.le_of_ble_eq_true rfl), (Nat.le_of_ble_eq_true rfl)⟩ ⟨(Nat.le_of_ble_eq_true rfl), (Nat.le_of_ble_eq_true rfl)⟩ (fun r h9 hp => ?_)
              rcases hp with ⟨rfl, rfl, h393⟩ | ⟨rfl, rfl, h394⟩
              · refine J_nf (nh2 := nh) (ck2 := 0) (sk2 := 0) (st2 := [.int (zI 1)]) rfl rfl rfl rfl ?_
                refine Z_if_eq (tgt := 83) dX5_plain_75 (by decide) v_4dcc24baa7 (fun h395 => absurd h395 v_3a47bfd896) (fun h395 => ?_)
                refine Z_bipush (n := 6) dX5_plain_78 (by decide +kernel) ?_
                refine J_goto (tgt := 99) dX5_plain_80 (by decide) ?_
                refine J_istore_n dX5_plain_99 rfl (Nat.le_of_ble_eq_true rfl) rfl ?_
                refine J_ls (ls2 := [some (.ref 54), some (.int (zI 5)), some (.int (zI dn_4)), some (.int (zI 6))]) rfl ?_
                refine J_iload_n dX5_plain_100 rfl rfl ?_
                refine Z_bipush (n := 8) dX5_plain_101 (by decide +kernel) ?_
                refine Z_icmp_ne (tgt := 120) dX5_plain_103 (by decide) v_8f5ecbc95e v_665891e294 (fun h396 => ?_) (fun h396 => absurd h396 v_ada6685030)
                refine J_aload_n dX5_plain_120 rfl rfl ?_
                have g397 := TokL.lt h359 (v_f5333b39e4 h393)
                refine J_callV (st := []) dX5_plain_121 cv_X5_43 (d_advance (z347 + 1) ln z340 z341 z342 z343 z344 fl z345 tp q0 q1 (v_d253cb2c59 h350 g397) h352 h353 h354 q15 (TkX.ps h363 (v_2b02420001 h364)) rfl hk55) rfl rfl rfl (Nat.le_of_ble_eq_true rfl) ⟨(Nat.le_of_ble_eq_true rfl), (Nat.le_of_ble_eq_true rfl)⟩ ⟨(Nat.le_of_ble_eq_true rfl), (Nat.le_of_ble_eq_true rfl)⟩ (fun r h9 hp => ?_)
                obtain ⟨z398, z399, z400, z401, rfl, rfl, h402, h403, h404, h405, h406, h407, h408, h409, h410⟩ := hp
                refine J_nf (nh2 := nh) (ck2 := 0) (sk2 := 0) (st2 := []) rfl rfl rfl rfl ?_
                refine J_app (L3 := [(54, .inr (5, [.ref 55, .int (zI ln), .int (zI z398), .int (zI z399), .int (zI z400), .int (zI z401), .int (zI z344), .int (zI fl), .ref 56, .int (zI z345)])), (54, .inr (5, [.ref 55, .int (zI ln), .int (zI z340), .int (zI z341), .int (zI z342), .int (zI z343), .int (zI z344), .int (zI fl), .ref 56, .int (zI z345)])), (56, .inl (0, 412, .inl (zA f346)))]) rfl ?_
                refine J_mask (L2 := [(54, .inr (5, [.ref 55, .int (zI ln), .int (zI z398), .int (zI z399), .int (zI z400), .int (zI z401), .int (zI z344), .int (zI fl), .ref 56, .int (zI z345)])), (56, .inl (0, 412, .inl (zA f346)))]) (ks := [54, 54, 56]) [true, false, true] rfl (by decide +kernel) rfl ?_
                refine J_aload_n dX5_plain_124 rfl rfl ?_
                refine J_iload_n dX5_plain_125 rfl rfl ?_
                refine J_callV (st := []) dX5_plain_126 cv_X5_63 (d_sum5 ln z398 z399 z400 z401 z344 fl z345 tp f346 (z347 + 1) q0 q1 h402 h403 (v_9b2e2070a2 h350 g397 h404) h405 h406 h407 h408 h355 h356 q11 h357 h358 h409 q15 h360 h410 (v_da458fa48a h364) rfl hk55 rfl) rfl rfl rfl (Nat.le_of_ble_eq_true rfl) ⟨(Nat.le_of_ble_eq_true rfl), (Nat.le_of_ble_eq_true rfl)⟩ ⟨(Nat.le_of_ble_eq_true rfl), (Nat.le_of_ble_eq_true rfl)⟩ (fun r h9 hp => ?_)
                rcases hp with ⟨z411, z412, z413, z414, z415, z416, f417, z418, rfl, rfl, h419, h420, h421, h422, h423, h424, h425, h426, h427, h428, h429, h430, h431, h432, h433, h434, h435, h436⟩ | ⟨z437, z438, z439, z440, z441, z442, f443, z444, z445, rfl, rfl, h446, h447, h448, h449, h450, h451, h452, h453, h454, h455, h456, h457, h458, h459, h460, h461, h462⟩
                · refine J_nf (nh2 := nh) (ck2 := 0) (sk2 := 0) (st2 := [.int (zI 1)]) rfl rfl rfl rfl ?_
                  refine J_app (L3 := [(54, .inr (5, [.ref 55, .int (zI ln), .int (zI z411), .int (zI z412), .int (zI z413), .int (zI z414), .int (zI z415), .int (zI fl), .ref 56, .int (zI z416)])), (56, .inl (0, 412, .inl (zA f417))), (54, .inr (5, [.ref 55, .int (zI ln), .int (zI z398), .int (zI z399), .int (zI z400), .int (zI z401), .int (zI z344), .int (zI fl), .ref 56, .int (zI z345)])), (56, .inl (0, 412, .inl (zA f346)))]) rfl ?_
                  refine J_mask (L2 := [(54, .inr (5, [.ref 55, .int (zI ln), .int (zI z411), .int (zI z412), .int (zI z413), .int (zI z414), .int (zI z415), .int (zI fl), .ref 56, .int (zI z416)])), (56, .inl (0, 412, .inl (zA f417)))]) (ks := [54, 56, 54, 56]) [true, true, false, false] rfl (by decide +kernel) rfl ?_
                  refine Z_if_ne (tgt := 134) dX5_plain_129 (by decide) v_4dcc24baa7 (fun h463 => ?_) (fun h463 => absurd h463 v_3a47bfd896)
                  refine J_aload_n dX5_plain_134 rfl rfl ?_
                  refine J_iload_n dX5_plain_135 rfl rfl ?_
                  refine Z_iconst (n := 0) dX5_plain_136 ?_
                  refine J_callV (st := []) dX5_plain_137 cv_X5_72 (d_emit 6 0 ln z411 z412 z413 z414 z415 fl z416 f417 v_8f5ecbc95e v_b17331891f h428 h429 h431 rfl rfl) rfl rfl rfl (Nat.le_of_ble_eq_true rfl) ⟨(Nat.le_of_ble_eq_true rfl), (Nat.le_of_ble_eq_true rfl)⟩ ⟨(Nat.le_of_ble_eq_true rfl), (Nat.le_of_ble_eq_true rfl)⟩ (fun r h9 hp => ?_)
                  obtain ⟨z464, f465, rfl, rfl, h466, h467, h468, h469, h470⟩ := hp
                  refine J_nf (nh2 := nh) (ck2 := 0) (sk2 := 0) (st2 := [.int (zI z416)]) rfl rfl rfl rfl ?_
                  refine J_app (L3 := [(54, .inr (5, [.ref 55, .int (zI ln), .int (zI z411), .int (zI z412), .int (zI z413), .int (zI z414), .int (zI z415), .int (zI fl), .ref 56, .int (zI z464)])), (56, .inl (0, 412, .inl (zA f465))), (54, .inr (5, [.ref 55, .int (zI ln), .int (zI z411), .int (zI z412), .int (zI z413), .int (zI z414), .int (zI z415), .int (zI fl), .ref 56, .int (zI z416)])), (56, .inl (0, 412, .inl (zA f417)))]) rfl ?_
                  refine J_mask (L2 := [(54, .inr (5, [.ref 55, .int (zI ln), .int (zI z411), .int (zI z412), .int (zI z413), .int (zI z414), .int (zI z415), .int (zI fl), .ref 56, .int (zI z464)])), (56, .inl (0, 412, .inl (zA f465)))]) (ks := [54, 56, 54, 56]) [true, true, false, false] rfl (by decide +kernel) rfl ?_
                  refine J_pop dX5_plain_140 rfl ?_
                  refine J_iload_n dX5_plain_141 rfl rfl ?_
                  refine Z_if_eq (tgt := 153) dX5_plain_142 (by decide) (v_5f10a759cd i4_2 i4_3) (fun h471 => ?_) (fun h471 => ?_)
                  · refine Z_iconst (n := 1) dX5_plain_153 ?_
                    exact J_iret dX5_plain_154 rfl (jbn v_316afd7d0b v_bbcfac9b7d) (Nat.le_of_ble_eq_true rfl) (Nat.le_of_ble_eq_true rfl) (Or.inl ⟨z411, z412, z413, z414, z415, z464, f465, z418, rfl, rfl, h419, h420, h421, h422, h423, h424, h425, h426, h427, h466, h467, h430, h470, (v_5848421b37 i4_2 i4_4 h361 g397 h404 h432 h469), (v_60a9ec55dc i4_2 i4_4 h362 g397 h404 h433), h434, h435, (PlR.y (v_d464d4c634 i4_15) i4_16 (fun w => absurd ((TkX.wd i4_14 (v := 6) (c := 7) (by decide) (by decide) (by decide)).mp w) (v_9810b78d9a h273)) (fun w => absurd ((TkX.sg i4_14 (v := 140) (by decide)).mp w) (v_ce976e4d7c h275)) h365 (Or.inl ((TkX.sg h363 (v := 160) (by decide)).mpr (v_53d1657b4a h393))) h436)⟩)
                  · refine J_aload_n dX5_plain_145 rfl rfl ?_
                    refine Z_bipush (n := 9) dX5_plain_146 (by decide +kernel) ?_
                    refine Z_iconst (n := 0) dX5_plain_148 ?_
                    refine J_callV (st := []) dX5_plain_149 cv_X5_72 (d_emit 9 0 ln z411 z412 z413 z414 z415 fl z464 f465 v_00f9f00cc1 v_b17331891f h466 h467 h470 rfl rfl) rfl rfl rfl (Nat.le_of_ble_eq_true rfl) ⟨(Nat.le_of_ble_eq_true rfl), (Nat.le_of_ble_eq_true rfl)⟩ ⟨(Nat.le_of_ble_eq_true rfl), (Nat.le_of_ble_eq_true rfl)⟩ (fun r h9 hp => ?_)
                    obtain ⟨z472, f473, rfl, rfl, h474, h475, h476, h477, h478⟩ := hp
                    refine J_nf (nh2 := nh) (ck2 := 0) (sk2 := 0) (st2 := [.int (zI z464)]) rfl rfl rfl rfl ?_
                    refine J_app (L3 := [(54, .inr (5, [.ref 55, .int (zI ln), .int (zI z411), .int (zI z412), .int (zI z413), .int (zI z414), .int (zI z415), .int (zI fl), .ref 56, .int (zI z472)])), (56, .inl (0, 412, .inl (zA f473))), (54, .inr (5, [.ref 55, .int (zI ln), .int (zI z411), .int (zI z412), .int (zI z413), .int (zI z414), .int (zI z415), .int (zI fl), .ref 56, .int (zI z464)])), (56, .inl (0, 412, .inl (zA f465)))]) rfl ?_
                    refine J_mask (L2 := [(54, .inr (5, [.ref 55, .int (zI ln), .int (zI z411), .int (zI z412), .int (zI z413), .int (zI z414), .int (zI z415), .int (zI fl), .ref 56, .int (zI z472)])), (56, .inl (0, 412, .inl (zA f473)))]) (ks := [54, 56, 54, 56]) [true, true, false, false] rfl (by decide +kernel) rfl ?_
                    refine J_pop dX5_plain_152 rfl ?_
                    refine Z_iconst (n := 1) dX5_plain_153 ?_
                    exact J_iret dX5_plain_154 rfl (jbn v_316afd7d0b v_bbcfac9b7d) (Nat.le_of_ble_eq_true rfl) (Nat.le_of_ble_eq_true rfl) (Or.inl ⟨z411, z412, z413, z414, z415, z472, f473, z418, rfl, rfl, h419, h420, h421, h422, h423, h424, h425, h426, h427, h474, h475, h430, h478, (v_1533bd4120 i4_2 i4_4 h361 g397 h404 h432 h469 h471 h477), (v_60a9ec55dc i4_2 i4_4 h362 g397 h404 h433), h434, h435, (PlR.y (v_d464d4c634 i4_15) i4_16 (fun w => absurd ((TkX.wd i4_14 (v := 6) (c := 7) (by decide) (by decide) (by decide)).mp w) (v_9810b78d9a h273)) (fun w => absurd ((TkX.sg i4_14 (v := 140) (by decide)).mp w) (v_ce976e4d7c h275)) h365 (Or.inl ((TkX.sg h363 (v := 160) (by decide)).mpr (v_53d1657b4a h393))) h436)⟩)
                · refine J_nf (nh2 := nh) (ck2 := 0) (sk2 := 0) (st2 := [.int (zI 0)]) rfl rfl rfl rfl ?_
                  refine J_app (L3 := [(54, .inr (5, [.ref 55, .int (zI ln), .int (zI z437), .int (zI z438), .int (zI z439), .int (zI z440), .int (zI z441), .int (zI z444), .ref 56, .int (zI z442)])), (56, .inl (0, 412, .inl (zA f443))), (54, .inr (5, [.ref 55, .int (zI ln), .int (zI z398), .int (zI z399), .int (zI z400), .int (zI z401), .int (zI z344), .int (zI fl), .ref 56, .int (zI z345)])), (56, .inl (0, 412, .inl (zA f346)))]) rfl ?_
                  refine J_mask (L2 := [(54, .inr (5, [.ref 55, .int (zI ln), .int (zI z437), .int (zI z438), .int (zI z439), .int (zI z440), .int (zI z441), .int (zI z444), .ref 56, .int (zI z442)])), (56, .inl (0, 412, .inl (zA f443)))]) (ks := [54, 56, 54, 56]) [true, true, false, false] rfl (by decide +kernel) rfl ?_
                  refine Z_if_ne (tgt := 134) dX5_plain_129 (by decide) v_b17331891f (fun h479 => absurd h479 (fun q => q v_2ca2bbca1f)) (fun h479 => ?_)
                  refine Z_iconst (n := 0) dX5_plain_132 ?_
                  exact J_iret dX5_plain_133 rfl (jbn v_939070ca3f v_316afd7d0b) (Nat.le_of_ble_eq_true rfl) (Nat.le_of_ble_eq_true rfl) (Or.inr ⟨z437, z438, z439, z440, z441, z442, f443, z444, z445, rfl, rfl, h446, h447, h448, h449, h450, h451, h452, h453, h454, h455, h456, h457, h458, h459, h460, (h461), (PlR.y (v_d464d4c634 i4_15) i4_16 (fun w => absurd ((TkX.wd i4_14 (v := 6) (c := 7) (by decide) (by decide) (by decide)).mp w) (v_9810b78d9a h273)) (fun w => absurd ((TkX.sg i4_14 (v := 140) (by decide)).mp w) (v_ce976e4d7c h275)) h365 (Or.inl ((TkX.sg h363 (v := 160) (by decide)).mpr (v_53d1657b4a h393))) h462)⟩)
              · refine J_nf (nh2 := nh) (ck2 := 0) (sk2 := 0) (st2 := [.int (zI 0)]) rfl rfl rfl rfl ?_
                refine Z_if_eq (tgt := 83) dX5_plain_75 (by decide) v_b17331891f (fun h480 => ?_) (fun h480 => absurd h480 (fun q => q v_2ca2bbca1f))
                refine J_aload_n dX5_plain_83 rfl rfl ?_
                refine Z_bipush (n := 62) dX5_plain_84 (by decide +kernel) ?_
                refine J_callV (st := []) dX5_plain_86 cv_X5_50 (d_isSign 62 ln z340 z341 z342 z343 z344 fl z345 v_722c6b3941 v_3996c1d9a8 h348 h349 rfl) rfl rfl rfl (Nat.le_of_ble_eq_true rfl) ⟨(Nat.le_of_ble_eq_true rfl), (Nat.le_of_ble_eq_true rfl)⟩ ⟨(Nat.le_of_ble_eq_true rfl), (Nat.le_of_ble_eq_true rfl)⟩ (fun r h9 hp => ?_)
                rcases hp with ⟨rfl, rfl, h481⟩ | ⟨rfl, rfl, h482⟩
                · refine J_nf (nh2 := nh) (ck2 := 0) (sk2 := 0) (st2 := [.int (zI 1)]) rfl rfl rfl rfl ?_
                  refine Z_if_eq (tgt := 97) dX5_plain_89 (by decide) v_4dcc24baa7 (fun h483 => absurd h483 v_3a47bfd896) (fun h483 => ?_)
                  refine Z_bipush (n := 7) dX5_plain_92 (by decide +kernel) ?_
                  refine J_goto (tgt := 99) dX5_plain_94 (by decide) ?_
                  refine J_istore_n dX5_plain_99 rfl (Nat.le_of_ble_eq_true rfl) rfl ?_
                  refine J_ls (ls2 := [some (.ref 54), some (.int (zI 5)), some (.int (zI dn_4)), some (.int (zI 7))]) rfl ?_
                  refine J_iload_n dX5_plain_100 rfl rfl ?_
                  refine Z_bipush (n := 8) dX5_plain_101 (by decide +kernel) ?_
                  refine Z_icmp_ne (tgt := 120) dX5_plain_103 (by decide) v_c3fe1a091f v_665891e294 (fun h484 => ?_) (fun h484 => absurd h484 v_d62b89f05c)
                  refine J_aload_n dX5_plain_120 rfl rfl ?_
                  have g485 := TokL.lt h359 (v_3ec9e003c7 h481)
                  refine J_callV (st := []) dX5_plain_121 cv_X5_43 (d_advance (z347 + 1) ln z340 z341 z342 z343 z344 fl z345 tp q0 q1 (v_d253cb2c59 h350 g485) h352 h353 h354 q15 (TkX.ps h363 (v_2b02420001 h364)) rfl hk55) rfl rfl rfl (Nat.le_of_ble_eq_true rfl) ⟨(Nat.le_of_ble_eq_true rfl), (Nat.le_of_ble_eq_true rfl)⟩ ⟨(Nat.le_of_ble_eq_true rfl), (Nat.le_of_ble_eq_true rfl)⟩ (fun r h9 hp => ?_)
                  obtain ⟨z486, z487, z488, z489, rfl, rfl, h490, h491, h492, h493, h494, h495, h496, h497, h498⟩ := hp
                  refine J_nf (nh2 := nh) (ck2 := 0) (sk2 := 0) (st2 := []) rfl rfl rfl rfl ?_
                  refine J_app (L3 := [(54, .inr (5, [.ref 55, .int (zI ln), .int (zI z486), .int (zI z487), .int (zI z488), .int (zI z489), .int (zI z344), .int (zI fl), .ref 56, .int (zI z345)])), (54, .inr (5, [.ref 55, .int (zI ln), .int (zI z340), .int (zI z341), .int (zI z342), .int (zI z343), .int (zI z344), .int (zI fl), .ref 56, .int (zI z345)])), (56, .inl (0, 412, .inl (zA f346)))]) rfl ?_
                  refine J_mask (L2 := [(54, .inr (5, [.ref 55, .int (zI ln), .int (zI z486), .int (zI z487), .int (zI z488), .int (zI z489), .int (zI z344), .int (zI fl), .ref 56, .int (zI z345)])), (56, .inl (0, 412, .inl (zA f346)))]) (ks := [54, 54, 56]) [true, false, true] rfl (by decide +kernel) rfl ?_
                  refine J_aload_n dX5_plain_124 rfl rfl ?_
                  refine J_iload_n dX5_plain_125 rfl rfl ?_
                  refine J_callV (st := []) dX5_plain_126 cv_X5_63 (d_sum5 ln z486 z487 z488 z489 z344 fl z345 tp f346 (z347 + 1) q0 q1 h490 h491 (v_9b2e2070a2 h350 g485 h492) h493 h494 h495 h496 h355 h356 q11 h357 h358 h497 q15 h360 h498 (v_da458fa48a h364) rfl hk55 rfl) rfl rfl rfl (Nat.le_of_ble_eq_true rfl) ⟨(Nat.le_of_ble_eq_true rfl), (Nat.le_of_ble_eq_true rfl)⟩ ⟨(Nat.le_of_ble_eq_true rfl), (Nat.le_of_ble_eq_true rfl)⟩ (fun r h9 hp => ?_)
                  rcases hp with ⟨z499, z500, z501, z502, z503, z504, f505, z506, rfl, rfl, h507, h508, h509, h510, h511, h512, h513, h514, h515, h516, h517, h518, h519, h520, h521, h522, h523, h524⟩ | ⟨z525, z526, z527, z528, z529, z530, f531, z532, z533, rfl, rfl, h534, h535, h536, h537, h538, h539, h540, h541, h542, h543, h544, h545, h546, h547, h548, h549, h550⟩
                  · refine J_nf (nh2 := nh) (ck2 := 0) (sk2 := 0) (st2 := [.int (zI 1)]) rfl rfl rfl rfl ?_
                    refine J_app (L3 := [(54, .inr (5, [.ref 55, .int (zI ln), .int (zI z499), .int (zI z500), .int (zI z501), .int (zI z502), .int (zI z503), .int (zI fl), .ref 56, .int (zI z504)])), (56, .inl (0, 412, .inl (zA f505))), (54, .inr (5, [.ref 55, .int (zI ln), .int (zI z486), .int (zI z487), .int (zI z488), .int (zI z489), .int (zI z344), .int (zI fl), .ref 56, .int (zI z345)])), (56, .inl (0, 412, .inl (zA f346)))]) rfl ?_
                    refine J_mask (L2 := [(54, .inr (5, [.ref 55, .int (zI ln), .int (zI z499), .int (zI z500), .int (zI z501), .int (zI z502), .int (zI z503), .int (zI fl), .ref 56, .int (zI z504)])), (56, .inl (0, 412, .inl (zA f505)))]) (ks := [54, 56, 54, 56]) [true, true, false, false] rfl (by decide +kernel) rfl ?_
                    refine Z_if_ne (tgt := 134) dX5_plain_129 (by decide) v_4dcc24baa7 (fun h551 => ?_) (fun h551 => absurd h551 v_3a47bfd896)
                    refine J_aload_n dX5_plain_134 rfl rfl ?_
                    refine J_iload_n dX5_plain_135 rfl rfl ?_
                    refine Z_iconst (n := 0) dX5_plain_136 ?_
                    refine J_callV (st := []) dX5_plain_137 cv_X5_72 (d_emit 7 0 ln z499 z500 z501 z502 z503 fl z504 f505 v_c3fe1a091f v_b17331891f h516 h517 h519 rfl rfl) rfl rfl rfl (Nat.le_of_ble_eq_true rfl) ⟨(Nat.le_of_ble_eq_true rfl), (Nat.le_of_ble_eq_true rfl)⟩ ⟨(Nat.le_of_ble_eq_true rfl), (Nat.le_of_ble_eq_true rfl)⟩ (fun r h9 hp => ?_)
                    obtain ⟨z552, f553, rfl, rfl, h554, h555, h556, h557, h558⟩ := hp
                    refine J_nf (nh2 := nh) (ck2 := 0) (sk2 := 0) (st2 := [.int (zI z504)]) rfl rfl rfl rfl ?_
                    refine J_app (L3 := [(54, .inr (5, [.ref 55, .int (zI ln), .int (zI z499), .int (zI z500), .int (zI z501), .int (zI z502), .int (zI z503), .int (zI fl), .ref 56, .int (zI z552)])), (56, .inl (0, 412, .inl (zA f553))), (54, .inr (5, [.ref 55, .int (zI ln), .int (zI z499), .int (zI z500), .int (zI z501), .int (zI z502), .int (zI z503), .int (zI fl), .ref 56, .int (zI z504)])), (56, .inl (0, 412, .inl (zA f505)))]) rfl ?_
                    refine J_mask (L2 := [(54, .inr (5, [.ref 55, .int (zI ln), .int (zI z499), .int (zI z500), .int (zI z501), .int (zI z502), .int (zI z503), .int (zI fl), .ref 56, .int (zI z552)])), (56, .inl (0, 412, .inl (zA f553)))]) (ks := [54, 56, 54, 56]) [true, true, false, false] rfl (by decide +kernel) rfl ?_
                    refine J_pop dX5_plain_140 rfl ?_
                    refine J_iload_n dX5_plain_141 rfl rfl ?_
                    refine Z_if_eq (tgt := 153) dX5_plain_142 (by decide) (v_5f10a759cd i4_2 i4_3) (fun h559 => ?_) (fun h559 => ?_)
                    · refine Z_iconst (n := 1) dX5_plain_153 ?_
                      exact J_iret dX5_plain_154 rfl (jbn v_316afd7d0b v_bbcfac9b7d) (Nat.le_of_ble_eq_true rfl) (Nat.le_of_ble_eq_true rfl) (Or.inl ⟨z499, z500, z501, z502, z503, z552, f553, z506, rfl, rfl, h507, h508, h509, h510, h511, h512, h513, h514, h515, h554, h555, h518, h558, (v_5848421b37 i4_2 i4_4 h361 g485 h492 h520 h557), (v_60a9ec55dc i4_2 i4_4 h362 g485 h492 h521), h522, h523, (PlR.y (v_d464d4c634 i4_15) i4_16 (fun w => absurd ((TkX.wd i4_14 (v := 6) (c := 7) (by decide) (by decide) (by decide)).mp w) (v_9810b78d9a h273)) (fun w => absurd ((TkX.sg i4_14 (v := 140) (by decide)).mp w) (v_ce976e4d7c h275)) h365 (Or.inr (Or.inr ((TkX.sg h363 (v := 162) (by decide)).mpr (v_99c0172699 h481)))) h524)⟩)
                    · refine J_aload_n dX5_plain_145 rfl rfl ?_
                      refine Z_bipush (n := 9) dX5_plain_146 (by decide +kernel) ?_
                      refine Z_iconst (n := 0) dX5_plain_148 ?_
                      refine J_callV (st := []) dX5_plain_149 cv_X5_72 (d_emit 9 0 ln z499 z500 z501 z502 z503 fl z552 f553 v_00f9f00cc1 v_b17331891f h554 h555 h558 rfl rfl) rfl rfl rfl (Nat.le_of_ble_eq_true rfl) ⟨(Nat.le_of_ble_eq_true rfl), (Nat.le_of_ble_eq_true rfl)⟩ ⟨(Nat.le_of_ble_eq_true rfl), (Nat.le_of_ble_eq_true rfl)⟩ (fun r h9 hp => ?_)
                      obtain ⟨z560, f561, rfl, rfl, h562, h563, h564, h565, h566⟩ := hp
                      refine J_nf (nh2 := nh) (ck2 := 0) (sk2 := 0) (st2 := [.int (zI z552)]) rfl rfl rfl rfl ?_
                      refine J_app (L3 := [(54, .inr (5, [.ref 55, .int (zI ln), .int (zI z499), .int (zI z500), .int (zI z501), .int (zI z502), .int (zI z503), .int (zI fl), .ref 56, .int (zI z560)])), (56, .inl (0, 412, .inl (zA f561))), (54, .inr (5, [.ref 55, .int (zI ln), .int (zI z499), .int (zI z500), .int (zI z501), .int (zI z502), .int (zI z503), .int (zI fl), .ref 56, .int (zI z552)])), (56, .inl (0, 412, .inl (zA f553)))]) rfl ?_
                      refine J_mask (L2 := [(54, .inr (5, [.ref 55, .int (zI ln), .int (zI z499), .int (zI z500), .int (zI z501), .int (zI z502), .int (zI z503), .int (zI fl), .ref 56, .int (zI z560)])), (56, .inl (0, 412, .inl (zA f561)))]) (ks := [54, 56, 54, 56]) [true, true, false, false] rfl (by decide +kernel) rfl ?_
                      refine J_pop dX5_plain_152 rfl ?_
                      refine Z_iconst (n := 1) dX5_plain_153 ?_
                      exact J_iret dX5_plain_154 rfl (jbn v_316afd7d0b v_bbcfac9b7d) (Nat.le_of_ble_eq_true rfl) (Nat.le_of_ble_eq_true rfl) (Or.inl ⟨z499, z500, z501, z502, z503, z560, f561, z506, rfl, rfl, h507, h508, h509, h510, h511, h512, h513, h514, h515, h562, h563, h518, h566, (v_1533bd4120 i4_2 i4_4 h361 g485 h492 h520 h557 h559 h565), (v_60a9ec55dc i4_2 i4_4 h362 g485 h492 h521), h522, h523, (PlR.y (v_d464d4c634 i4_15) i4_16 (fun w => absurd ((TkX.wd i4_14 (v := 6) (c := 7) (by decide) (by decide) (by decide)).mp w) (v_9810b78d9a h273)) (fun w => absurd ((TkX.sg i4_14 (v := 140) (by decide)).mp w) (v_ce976e4d7c h275)) h365 (Or.inr (Or.inr ((TkX.sg h363 (v := 162) (by decide)).mpr (v_99c0172699 h481)))) h524)⟩)
                  · refine J_nf (nh2 := nh) (ck2 := 0) (sk2 := 0) (st2 := [.int (zI 0)]) rfl rfl rfl rfl ?_
                    refine J_app (L3 := [(54, .inr (5, [.ref 55, .int (zI ln), .int (zI z525), .int (zI z526), .int (zI z527), .int (zI z528), .int (zI z529), .int (zI z532), .ref 56, .int (zI z530)])), (56, .inl (0, 412, .inl (zA f531))), (54, .inr (5, [.ref 55, .int (zI ln), .int (zI z486), .int (zI z487), .int (zI z488), .int (zI z489), .int (zI z344), .int (zI fl), .ref 56, .int (zI z345)])), (56, .inl (0, 412, .inl (zA f346)))]) rfl ?_
                    refine J_mask (L2 := [(54, .inr (5, [.ref 55, .int (zI ln), .int (zI z525), .int (zI z526), .int (zI z527), .int (zI z528), .int (zI z529), .int (zI z532), .ref 56, .int (zI z530)])), (56, .inl (0, 412, .inl (zA f531)))]) (ks := [54, 56, 54, 56]) [true, true, false, false] rfl (by decide +kernel) rfl ?_
                    refine Z_if_ne (tgt := 134) dX5_plain_129 (by decide) v_b17331891f (fun h567 => absurd h567 (fun q => q v_2ca2bbca1f)) (fun h567 => ?_)
                    refine Z_iconst (n := 0) dX5_plain_132 ?_
                    exact J_iret dX5_plain_133 rfl (jbn v_939070ca3f v_316afd7d0b) (Nat.le_of_ble_eq_true rfl) (Nat.le_of_ble_eq_true rfl) (Or.inr ⟨z525, z526, z527, z528, z529, z530, f531, z532, z533, rfl, rfl, h534, h535, h536, h537, h538, h539, h540, h541, h542, h543, h544, h545, h546, h547, h548, (h549), (PlR.y (v_d464d4c634 i4_15) i4_16 (fun w => absurd ((TkX.wd i4_14 (v := 6) (c := 7) (by decide) (by decide) (by decide)).mp w) (v_9810b78d9a h273)) (fun w => absurd ((TkX.sg i4_14 (v := 140) (by decide)).mp w) (v_ce976e4d7c h275)) h365 (Or.inr (Or.inr ((TkX.sg h363 (v := 162) (by decide)).mpr (v_99c0172699 h481)))) h550)⟩)
                · refine J_nf (nh2 := nh) (ck2 := 0) (sk2 := 0) (st2 := [.int (zI 0)]) rfl rfl rfl rfl ?_
                  refine Z_if_eq (tgt := 97) dX5_plain_89 (by decide) v_b17331891f (fun h568 => ?_) (fun h568 => absurd h568 (fun q => q v_2ca2bbca1f))
                  refine Z_bipush (n := 8) dX5_plain_97 (by decide +kernel) ?_
                  refine J_istore_n dX5_plain_99 rfl (Nat.le_of_ble_eq_true rfl) rfl ?_
                  refine J_ls (ls2 := [some (.ref 54), some (.int (zI 5)), some (.int (zI dn_4)), some (.int (zI 8))]) rfl ?_
                  refine J_iload_n dX5_plain_100 rfl rfl ?_
                  refine Z_bipush (n := 8) dX5_plain_101 (by decide +kernel) ?_
                  refine Z_icmp_ne (tgt := 120) dX5_plain_103 (by decide) v_665891e294 v_665891e294 (fun h569 => absurd h569 (fun q => q v_c1b8243509)) (fun h569 => ?_)
                  refine J_aload_n dX5_plain_106 rfl rfl ?_
                  refine Z_bipush (n := 61) dX5_plain_107 (by decide +kernel) ?_
                  refine J_callV (st := []) dX5_plain_109 cv_X5_50 (d_isSign 61 ln z340 z341 z342 z343 z344 fl z345 v_b92a3c53b8 v_7b9730a51b h348 h349 rfl) rfl rfl rfl (Nat.le_of_ble_eq_true rfl) ⟨(Nat.le_of_ble_eq_true rfl), (Nat.le_of_ble_eq_true rfl)⟩ ⟨(Nat.le_of_ble_eq_true rfl), (Nat.le_of_ble_eq_true rfl)⟩ (fun r h9 hp => ?_)
                  rcases hp with ⟨rfl, rfl, h570⟩ | ⟨rfl, rfl, h571⟩
                  · refine J_nf (nh2 := nh) (ck2 := 0) (sk2 := 0) (st2 := [.int (zI 1)]) rfl rfl rfl rfl ?_
                    refine Z_if_ne (tgt := 120) dX5_plain_112 (by decide) v_4dcc24baa7 (fun h572 => ?_) (fun h572 => absurd h572 v_3a47bfd896)
                    refine J_aload_n dX5_plain_120 rfl rfl ?_
                    have g573 := TokL.lt h359 (v_23eeeea057 h570)
                    refine J_callV (st := []) dX5_plain_121 cv_X5_43 (d_advance (z347 + 1) ln z340 z341 z342 z343 z344 fl z345 tp q0 q1 (v_d253cb2c59 h350 g573) h352 h353 h354 q15 (TkX.ps h363 (v_2b02420001 h364)) rfl hk55) rfl rfl rfl (Nat.le_of_ble_eq_true rfl) ⟨(Nat.le_of_ble_eq_true rfl), (Nat.le_of_ble_eq_true rfl)⟩ ⟨(Nat.le_of_ble_eq_true rfl), (Nat.le_of_ble_eq_true rfl)⟩ (fun r h9 hp => ?_)
                    obtain ⟨z574, z575, z576, z577, rfl, rfl, h578, h579, h580, h581, h582, h583, h584, h585, h586⟩ := hp
                    refine J_nf (nh2 := nh) (ck2 := 0) (sk2 := 0) (st2 := []) rfl rfl rfl rfl ?_
                    refine J_app (L3 := [(54, .inr (5, [.ref 55, .int (zI ln), .int (zI z574), .int (zI z575), .int (zI z576), .int (zI z577), .int (zI z344), .int (zI fl), .ref 56, .int (zI z345)])), (54, .inr (5, [.ref 55, .int (zI ln), .int (zI z340), .int (zI z341), .int (zI z342), .int (zI z343), .int (zI z344), .int (zI fl), .ref 56, .int (zI z345)])), (56, .inl (0, 412, .inl (zA f346)))]) rfl ?_
                    refine J_mask (L2 := [(54, .inr (5, [.ref 55, .int (zI ln), .int (zI z574), .int (zI z575), .int (zI z576), .int (zI z577), .int (zI z344), .int (zI fl), .ref 56, .int (zI z345)])), (56, .inl (0, 412, .inl (zA f346)))]) (ks := [54, 54, 56]) [true, false, true] rfl (by decide +kernel) rfl ?_
                    refine J_aload_n dX5_plain_124 rfl rfl ?_
                    refine J_iload_n dX5_plain_125 rfl rfl ?_
                    refine J_callV (st := []) dX5_plain_126 cv_X5_63 (d_sum5 ln z574 z575 z576 z577 z344 fl z345 tp f346 (z347 + 1) q0 q1 h578 h579 (v_9b2e2070a2 h350 g573 h580) h581 h582 h583 h584 h355 h356 q11 h357 h358 h585 q15 h360 h586 (v_da458fa48a h364) rfl hk55 rfl) rfl rfl rfl (Nat.le_of_ble_eq_true rfl) ⟨(Nat.le_of_ble_eq_true rfl), (Nat.le_of_ble_eq_true rfl)⟩ ⟨(Nat.le_of_ble_eq_true rfl), (Nat.le_of_ble_eq_true rfl)⟩ (fun r h9 hp => ?_)
                    rcases hp with ⟨z587, z588, z589, z590, z591, z592, f593, z594, rfl, rfl, h595, h596, h597, h598, h599, h600, h601, h602, h603, h604, h605, h606, h607, h608, h609, h610, h611, h612⟩ | ⟨z613, z614, z615, z616, z617, z618, f619, z620, z621, rfl, rfl, h622, h623, h624, h625, h626, h627, h628, h629, h630, h631, h632, h633, h634, h635, h636, h637, h638⟩
                    · refine J_nf (nh2 := nh) (ck2 := 0) (sk2 := 0) (st2 := [.int (zI 1)]) rfl rfl rfl rfl ?_
                      refine J_app (L3 := [(54, .inr (5, [.ref 55, .int (zI ln), .int (zI z587), .int (zI z588), .int (zI z589), .int (zI z590), .int (zI z591), .int (zI fl), .ref 56, .int (zI z592)])), (56, .inl (0, 412, .inl (zA f593))), (54, .inr (5, [.ref 55, .int (zI ln), .int (zI z574), .int (zI z575), .int (zI z576), .int (zI z577), .int (zI z344), .int (zI fl), .ref 56, .int (zI z345)])), (56, .inl (0, 412, .inl (zA f346)))]) rfl ?_
                      refine J_mask (L2 := [(54, .inr (5, [.ref 55, .int (zI ln), .int (zI z587), .int (zI z588), .int (zI z589), .int (zI z590), .int (zI z591), .int (zI fl), .ref 56, .int (zI z592)])), (56, .inl (0, 412, .inl (zA f593)))]) (ks := [54, 56, 54, 56]) [true, true, false, false] rfl (by decide +kernel) rfl ?_
                      refine Z_if_ne (tgt := 134) dX5_plain_129 (by decide) v_4dcc24baa7 (fun h639 => ?_) (fun h639 => absurd h639 v_3a47bfd896)
                      refine J_aload_n dX5_plain_134 rfl rfl ?_
                      refine J_iload_n dX5_plain_135 rfl rfl ?_
                      refine Z_iconst (n := 0) dX5_plain_136 ?_
                      refine J_callV (st := []) dX5_plain_137 cv_X5_72 (d_emit 8 0 ln z587 z588 z589 z590 z591 fl z592 f593 v_665891e294 v_b17331891f h604 h605 h607 rfl rfl) rfl rfl rfl (Nat.le_of_ble_eq_true rfl) ⟨(Nat.le_of_ble_eq_true rfl), (Nat.le_of_ble_eq_true rfl)⟩ ⟨(Nat.le_of_ble_eq_true rfl), (Nat.le_of_ble_eq_true rfl)⟩ (fun r h9 hp => ?_)
                      obtain ⟨z640, f641, rfl, rfl, h642, h643, h644, h645, h646⟩ := hp
                      refine J_nf (nh2 := nh) (ck2 := 0) (sk2 := 0) (st2 := [.int (zI z592)]) rfl rfl rfl rfl ?_
                      refine J_app (L3 := [(54, .inr (5, [.ref 55, .int (zI ln), .int (zI z587), .int (zI z588), .int (zI z589), .int (zI z590), .int (zI z591), .int (zI fl), .ref 56, .int (zI z640)])), (56, .inl (0, 412, .inl (zA f641))), (54, .inr (5, [.ref 55, .int (zI ln), .int (zI z587), .int (zI z588), .int (zI z589), .int (zI z590), .int (zI z591), .int (zI fl), .ref 56, .int (zI z592)])), (56, .inl (0, 412, .inl (zA f593)))]) rfl ?_
                      refine J_mask (L2 := [(54, .inr (5, [.ref 55, .int (zI ln), .int (zI z587), .int (zI z588), .int (zI z589), .int (zI z590), .int (zI z591), .int (zI fl), .ref 56, .int (zI z640)])), (56, .inl (0, 412, .inl (zA f641)))]) (ks := [54, 56, 54, 56]) [true, true, false, false] rfl (by decide +kernel) rfl ?_
                      refine J_pop dX5_plain_140 rfl ?_
                      refine J_iload_n dX5_plain_141 rfl rfl ?_
                      refine Z_if_eq (tgt := 153) dX5_plain_142 (by decide) (v_5f10a759cd i4_2 i4_3) (fun h647 => ?_) (fun h647 => ?_)
                      · refine Z_iconst (n := 1) dX5_plain_153 ?_
                        exact J_iret dX5_plain_154 rfl (jbn v_316afd7d0b v_bbcfac9b7d) (Nat.le_of_ble_eq_true rfl) (Nat.le_of_ble_eq_true rfl) (Or.inl ⟨z587, z588, z589, z590, z591, z640, f641, z594, rfl, rfl, h595, h596, h597, h598, h599, h600, h601, h602, h603, h642, h643, h606, h646, (v_5848421b37 i4_2 i4_4 h361 g573 h580 h608 h645), (v_60a9ec55dc i4_2 i4_4 h362 g573 h580 h609), h610, h611, (PlR.y (v_d464d4c634 i4_15) i4_16 (fun w => absurd ((TkX.wd i4_14 (v := 6) (c := 7) (by decide) (by decide) (by decide)).mp w) (v_9810b78d9a h273)) (fun w => absurd ((TkX.sg i4_14 (v := 140) (by decide)).mp w) (v_ce976e4d7c h275)) h365 (Or.inr (Or.inl ((TkX.sg h363 (v := 161) (by decide)).mpr (v_1bfbc8b266 h570)))) h612)⟩)
                      · refine J_aload_n dX5_plain_145 rfl rfl ?_
                        refine Z_bipush (n := 9) dX5_plain_146 (by decide +kernel) ?_
                        refine Z_iconst (n := 0) dX5_plain_148 ?_
                        refine J_callV (st := []) dX5_plain_149 cv_X5_72 (d_emit 9 0 ln z587 z588 z589 z590 z591 fl z640 f641 v_00f9f00cc1 v_b17331891f h642 h643 h646 rfl rfl) rfl rfl rfl (Nat.le_of_ble_eq_true rfl) ⟨(Nat.le_of_ble_eq_true rfl), (Nat.le_of_ble_eq_true rfl)⟩ ⟨(Nat.le_of_ble_eq_true rfl), (Nat.le_of_ble_eq_true rfl)⟩ (fun r h9 hp => ?_)
                        obtain ⟨z648, f649, rfl, rfl, h650, h651, h652, h653, h654⟩ := hp
                        refine J_nf (nh2 := nh) (ck2 := 0) (sk2 := 0) (st2 := [.int (zI z640)]) rfl rfl rfl rfl ?_
                        refine J_app (L3 := [(54, .inr (5, [.ref 55, .int (zI ln), .int (zI z587), .int (zI z588), .int (zI z589), .int (zI z590), .int (zI z591), .int (zI fl), .ref 56, .int (zI z648)])), (56, .inl (0, 412, .inl (zA f649))), (54, .inr (5, [.ref 55, .int (zI ln), .int (zI z587), .int (zI z588), .int (zI z589), .int (zI z590), .int (zI z591), .int (zI fl), .ref 56, .int (zI z640)])), (56, .inl (0, 412, .inl (zA f641)))]) rfl ?_
                        refine J_mask (L2 := [(54, .inr (5, [.ref 55, .int (zI ln), .int (zI z587), .int (zI z588), .int (zI z589), .int (zI z590), .int (zI z591), .int (zI fl), .ref 56, .int (zI z648)])), (56, .inl (0, 412, .inl (zA f649)))]) (ks := [54, 56, 54, 56]) [true, true, false, false] rfl (by decide +kernel) rfl ?_
                        refine J_pop dX5_plain_152 rfl ?_
                        refine Z_iconst (n := 1) dX5_plain_153 ?_
                        exact J_iret dX5_plain_154 rfl (jbn v_316afd7d0b v_bbcfac9b7d) (Nat.le_of_ble_eq_true rfl) (Nat.le_of_ble_eq_true rfl) (Or.inl ⟨z587, z588, z589, z590, z591, z648, f649, z594, rfl, rfl, h595, h596, h597, h598, h599, h600, h601, h602, h603, h650, h651, h606, h654, (v_1533bd4120 i4_2 i4_4 h361 g573 h580 h608 h645 h647 h653), (v_60a9ec55dc i4_2 i4_4 h362 g573 h580 h609), h610, h611, (PlR.y (v_d464d4c634 i4_15) i4_16 (fun w => absurd ((TkX.wd i4_14 (v := 6) (c := 7) (by decide) (by decide) (by decide)).mp w) (v_9810b78d9a h273)) (fun w => absurd ((TkX.sg i4_14 (v := 140) (by decide)).mp w) (v_ce976e4d7c h275)) h365 (Or.inr (Or.inl ((TkX.sg h363 (v := 161) (by decide)).mpr (v_1bfbc8b266 h570)))) h612)⟩)
                    · refine J_nf (nh2 := nh) (ck2 := 0) (sk2 := 0) (st2 := [.int (zI 0)]) rfl rfl rfl rfl ?_
                      refine J_app (L3 := [(54, .inr (5, [.ref 55, .int (zI ln), .int (zI z613), .int (zI z614), .int (zI z615), .int (zI z616), .int (zI z617), .int (zI z620), .ref 56, .int (zI z618)])), (56, .inl (0, 412, .inl (zA f619))), (54, .inr (5, [.ref 55, .int (zI ln), .int (zI z574), .int (zI z575), .int (zI z576), .int (zI z577), .int (zI z344), .int (zI fl), .ref 56, .int (zI z345)])), (56, .inl (0, 412, .inl (zA f346)))]) rfl ?_
                      refine J_mask (L2 := [(54, .inr (5, [.ref 55, .int (zI ln), .int (zI z613), .int (zI z614), .int (zI z615), .int (zI z616), .int (zI z617), .int (zI z620), .ref 56, .int (zI z618)])), (56, .inl (0, 412, .inl (zA f619)))]) (ks := [54, 56, 54, 56]) [true, true, false, false] rfl (by decide +kernel) rfl ?_
                      refine Z_if_ne (tgt := 134) dX5_plain_129 (by decide) v_b17331891f (fun h655 => absurd h655 (fun q => q v_2ca2bbca1f)) (fun h655 => ?_)
                      refine Z_iconst (n := 0) dX5_plain_132 ?_
                      exact J_iret dX5_plain_133 rfl (jbn v_939070ca3f v_316afd7d0b) (Nat.le_of_ble_eq_true rfl) (Nat.le_of_ble_eq_true rfl) (Or.inr ⟨z613, z614, z615, z616, z617, z618, f619, z620, z621, rfl, rfl, h622, h623, h624, h625, h626, h627, h628, h629, h630, h631, h632, h633, h634, h635, h636, (h637), (PlR.y (v_d464d4c634 i4_15) i4_16 (fun w => absurd ((TkX.wd i4_14 (v := 6) (c := 7) (by decide) (by decide) (by decide)).mp w) (v_9810b78d9a h273)) (fun w => absurd ((TkX.sg i4_14 (v := 140) (by decide)).mp w) (v_ce976e4d7c h275)) h365 (Or.inr (Or.inl ((TkX.sg h363 (v := 161) (by decide)).mpr (v_1bfbc8b266 h570)))) h638)⟩)
                  · refine J_nf (nh2 := nh) (ck2 := 0) (sk2 := 0) (st2 := [.int (zI 0)]) rfl rfl rfl rfl ?_
                    refine Z_if_ne (tgt := 120) dX5_plain_112 (by decide) v_b17331891f (fun h656 => absurd h656 (fun q => q v_2ca2bbca1f)) (fun h656 => ?_)
                    refine J_aload_n dX5_plain_115 rfl rfl ?_
                    refine J_callV (st := []) dX5_plain_116 cv_X5_54 (d_wrong ln z340 z341 z342 z343 z344 fl z345 h350 (v_1adcfdfee5 q1 h351 h352) rfl) rfl rfl rfl (Nat.le_of_ble_eq_true rfl) ⟨(Nat.le_of_ble_eq_true rfl), (Nat.le_of_ble_eq_true rfl)⟩ ⟨(Nat.le_of_ble_eq_true rfl), (Nat.le_of_ble_eq_true rfl)⟩ (fun r h9 hp => ?_)
                    obtain ⟨rfl, rfl⟩ := hp
                    refine J_nf (nh2 := nh) (ck2 := 0) (sk2 := 0) (st2 := [.int (zI 0)]) rfl rfl rfl rfl ?_
                    refine J_app (L3 := [(54, .inr (5, [.ref 55, .int (zI ln), .int (zI z340), .int (zI z341), .int (zI z342), .int (zI z343), .int (zI z344), .int (zI z341), .ref 56, .int (zI z345)])), (54, .inr (5, [.ref 55, .int (zI ln), .int (zI z340), .int (zI z341), .int (zI z342), .int (zI z343), .int (zI z344), .int (zI fl), .ref 56, .int (zI z345)])), (56, .inl (0, 412, .inl (zA f346)))]) rfl ?_
                    refine J_mask (L2 := [(54, .inr (5, [.ref 55, .int (zI ln), .int (zI z340), .int (zI z341), .int (zI z342), .int (zI z343), .int (zI z344), .int (zI z341), .ref 56, .int (zI z345)])), (56, .inl (0, 412, .inl (zA f346)))]) (ks := [54, 54, 56]) [true, false, true] rfl (by decide +kernel) rfl ?_
                    exact J_iret dX5_plain_119 rfl (jbn v_939070ca3f v_316afd7d0b) (Nat.le_of_ble_eq_true rfl) (Nat.le_of_ble_eq_true rfl) (Or.inr ⟨z340, z341, z342, z343, z344, z345, f346, z341, z347, rfl, rfl, h348, h349, h350, h351, h352, h353, h354, h355, h356, h357, h358, h359, h360, h350, (v_1adcfdfee5 q1 h351 h352), ((TkX.s h363)), (PlR.w (v_d464d4c634 i4_15) i4_16 (fun w => absurd ((TkX.wd i4_14 (v := 6) (c := 7) (by decide) (by decide) (by decide)).mp w) (v_9810b78d9a h273)) (fun w => absurd ((TkX.sg i4_14 (v := 140) (by decide)).mp w) (v_ce976e4d7c h275)) h365 (fun w => Or.elim w (fun w => absurd ((TkX.sg h363 (v := 160) (by decide)).mp w) (v_62784191f6 h394)) (fun w => Or.elim w (fun w => absurd ((TkX.sg h363 (v := 161) (by decide)).mp w) (v_e6bfb52c99 h571)) (fun w => absurd ((TkX.sg h363 (v := 162) (by decide)).mp w) (v_b61acea494 h482)))))⟩)
            · refine J_nf (nh2 := nh) (ck2 := 0) (sk2 := 0) (st2 := [.int (zI 0)]) rfl rfl rfl rfl ?_
              refine J_app (L3 := [(54, .inr (5, [.ref 55, .int (zI ln), .int (zI z366), .int (zI z367), .int (zI z368), .int (zI z369), .int (zI z370), .int (zI z373), .ref 56, .int (zI z371)])), (56, .inl (0, 412, .inl (zA f372))), (54, .inr (5, [.ref 55, .int (zI ln), .int (zI tx_4), .int (zI sx_4), .int (zI bx_4), .int (zI vx_4), .int (zI pa), .int (zI fl), .ref 56, .int (zI sz)]))]) rfl ?_
              refine J_mask (L2 := [(54, .inr (5, [.ref 55, .int (zI ln), .int (zI z366), .int (zI z367), .int (zI z368), .int (zI z369), .int (zI z370), .int (zI z373), .ref 56, .int (zI z371)])), (56, .inl (0, 412, .inl (zA f372)))]) (ks := [54, 56, 54]) [true, true, false] rfl (by decide +kernel) rfl ?_
              refine Z_if_ne (tgt := 69) dX5_plain_64 (by decide) v_b17331891f (fun h657 => absurd h657 (fun q => q v_2ca2bbca1f)) (fun h657 => ?_)
              refine Z_iconst (n := 0) dX5_plain_67 ?_
              exact J_iret dX5_plain_68 rfl (jbn v_939070ca3f v_316afd7d0b) (Nat.le_of_ble_eq_true rfl) (Nat.le_of_ble_eq_true rfl) (Or.inr ⟨z366, z367, z368, z369, z370, z371, f372, z373, z374, rfl, rfl, h375, h376, h377, h378, h379, h380, h381, h382, h383, h384, h385, h386, h387, h388, h389, (h390), (PlR.b1 (v_d464d4c634 i4_15) i4_16 (fun w => absurd ((TkX.wd i4_14 (v := 6) (c := 7) (by decide) (by decide) (by decide)).mp w) (v_9810b78d9a h273)) (fun w => absurd ((TkX.sg i4_14 (v := 140) (by decide)).mp w) (v_ce976e4d7c h275)) h391)⟩)
        · refine J_iload_n dX5_plain_20 rfl rfl ?_
          refine Z_if_ne (tgt := 28) dX5_plain_21 (by decide) (v_5f10a759cd i4_2 i4_3) (fun h658 => ?_) (fun h658 => ?_)
          · refine Z_iconst (n := 0) dX5_plain_28 ?_
            refine J_istore_n dX5_plain_29 rfl (Nat.le_of_ble_eq_true rfl) rfl ?_
            refine J_ls (ls2 := [some (.ref 54), some (.int (zI 5)), some (.int (zI 0)), some (.int (zI i_4))]) rfl ?_
            refine J_aload_n dX5_plain_30 rfl rfl ?_
            have g659 := TokL.lt i4_13 (v_3a5b2158d2 h273)
            refine J_callV (st := []) dX5_plain_31 cv_X5_43 (d_advance (ti_4 + 1) ln tx_4 sx_4 bx_4 vx_4 pa fl sz tp q0 q1 (v_d253cb2c59 i4_8 g659) i4_10 i4_11 i4_12 q15 (TkX.ps i4_14 (v_21976c7318 q18 i4_15)) rfl hk55) rfl rfl rfl (Nat.le_of_ble_eq_true rfl) ⟨(Nat.le_of_ble_eq_true rfl), (Nat.le_of_ble_eq_true rfl)⟩ ⟨(Nat.le_of_ble_eq_true rfl), (Nat.le_of_ble_eq_true rfl)⟩ (fun r h9 hp => ?_)
            obtain ⟨z660, z661, z662, z663, rfl, rfl, h664, h665, h666, h667, h668, h669, h670, h671, h672⟩ := hp
            refine J_nf (nh2 := nh) (ck2 := 0) (sk2 := 0) (st2 := []) rfl rfl rfl rfl ?_
            refine J_app (L3 := [(54, .inr (5, [.ref 55, .int (zI ln), .int (zI z660), .int (zI z661), .int (zI z662), .int (zI z663), .int (zI pa), .int (zI fl), .ref 56, .int (zI sz)])), (54, .inr (5, [.ref 55, .int (zI ln), .int (zI tx_4), .int (zI sx_4), .int (zI bx_4), .int (zI vx_4), .int (zI pa), .int (zI fl), .ref 56, .int (zI sz)]))]) rfl ?_
            refine J_mask (L2 := [(54, .inr (5, [.ref 55, .int (zI ln), .int (zI z660), .int (zI z661), .int (zI z662), .int (zI z663), .int (zI pa), .int (zI fl), .ref 56, .int (zI sz)]))]) (ks := [54, 54]) [true, false] rfl (by decide +kernel) rfl ?_
            refine Z_iinc (c := i_4 + 1) (ls2 := [some (.ref 54), some (.int (zI 5)), some (.int (zI 0)), some (.int (zI (i_4 + 1)))]) dX5_plain_34 rfl (Nat.le_of_ble_eq_true rfl) rfl rfl rfl ?_
            refine J_goto (tgt := 4) dX5_plain_37 (by decide) ?_
            exact ih4 0 (i_4 + 1) z660 z661 z662 z663 (ti_4 + 1) (v_da458fa48a i4_0) (v_6924477667 h1) v_939070ca3f v_316afd7d0b (v_17f5bda46b i4_2 i4_4 g659 h666) (v_ad4cf07083 i4_5 g659 h666) h664 h665 (v_9b2e2070a2 i4_8 g659 h666) h667 h668 h669 h670 h671 h672 (v_d50281bace i4_15) (NtX.add i4_16 ((TkX.wd i4_14 (v := 6) (c := 7) (by decide) (by decide) (by decide)).mpr (v_2e044925d6 h273))) (meas_lt v_ceb2ed6d2b (v_44ddc35e90 h1) hm4)
          · refine Z_iconst (n := 1) dX5_plain_24 ?_
            refine J_goto (tgt := 29) dX5_plain_25 (by decide) ?_
            refine J_istore_n dX5_plain_29 rfl (Nat.le_of_ble_eq_true rfl) rfl ?_
            refine J_ls (ls2 := [some (.ref 54), some (.int (zI 5)), some (.int (zI 1)), some (.int (zI i_4))]) rfl ?_
            refine J_aload_n dX5_plain_30 rfl rfl ?_
            have g673 := TokL.lt i4_13 (v_3a5b2158d2 h273)
            refine J_callV (st := []) dX5_plain_31 cv_X5_43 (d_advance (ti_4 + 1) ln tx_4 sx_4 bx_4 vx_4 pa fl sz tp q0 q1 (v_d253cb2c59 i4_8 g673) i4_10 i4_11 i4_12 q15 (TkX.ps i4_14 (v_21976c7318 q18 i4_15)) rfl hk55) rfl rfl rfl (Nat.le_of_ble_eq_true rfl) ⟨(Nat.le_of_ble_eq_true rfl), (Nat.le_of_ble_eq_true rfl)⟩ ⟨(Nat.le_of_ble_eq_true rfl), (Nat.le_of_ble_eq_true rfl)⟩ (fun r h9 hp => ?_)
            obtain ⟨z674, z675, z676, z677, rfl, rfl, h678, h679, h680, h681, h682, h683, h684, h685, h686⟩ := hp
            refine J_nf (nh2 := nh) (ck2 := 0) (sk2 := 0) (st2 := []) rfl rfl rfl rfl ?_
            refine J_app (L3 := [(54, .inr (5, [.ref 55, .int (zI ln), .int (zI z674), .int (zI z675), .int (zI z676), .int (zI z677), .int (zI pa), .int (zI fl), .ref 56, .int (zI sz)])), (54, .inr (5, [.ref 55, .int (zI ln), .int (zI tx_4), .int (zI sx_4), .int (zI bx_4), .int (zI vx_4), .int (zI pa), .int (zI fl), .ref 56, .int (zI sz)]))]) rfl ?_
            refine J_mask (L2 := [(54, .inr (5, [.ref 55, .int (zI ln), .int (zI z674), .int (zI z675), .int (zI z676), .int (zI z677), .int (zI pa), .int (zI fl), .ref 56, .int (zI sz)]))]) (ks := [54, 54]) [true, false] rfl (by decide +kernel) rfl ?_
            refine Z_iinc (c := i_4 + 1) (ls2 := [some (.ref 54), some (.int (zI 5)), some (.int (zI 1)), some (.int (zI (i_4 + 1)))]) dX5_plain_34 rfl (Nat.le_of_ble_eq_true rfl) rfl rfl rfl ?_
            refine J_goto (tgt := 4) dX5_plain_37 (by decide) ?_
            exact ih4 1 (i_4 + 1) z674 z675 z676 z677 (ti_4 + 1) (v_da458fa48a i4_0) (v_6924477667 h1) v_316afd7d0b v_bbcfac9b7d (v_9fcadba328 i4_2 i4_4 g673 h680) (v_ad4cf07083 i4_5 g673 h680) h678 h679 (v_9b2e2070a2 i4_8 g673 h680) h681 h682 h683 h684 h685 h686 (v_d50281bace i4_15) (NtX.add i4_16 ((TkX.wd i4_14 (v := 6) (c := 7) (by decide) (by decide) (by decide)).mpr (v_2e044925d6 h273))) (meas_lt v_ceb2ed6d2b (v_44ddc35e90 h1) hm4)
  exact lp4 _ 0 0 tk st bh va ti v_939070ca3f v_5ab96f7b5e v_939070ca3f v_316afd7d0b v_2776526004 v_2776526004 q2 q3 q4 q5 q6 q7 q8 q14 q17 v_0065452639 (NtX_0) (Nat.lt_succ_self _)
set_option maxHeartbeats 4000000 in
set_option maxRecDepth 100000 in
theorem d_both5 {l : Launch} {G : jG} {nh : Nat} {fh : Nat → Option va_E} (ln : Int) (tk : Int) (st : Int) (bh : Int) (va : Int) (pa : Int) (fl : Int) (sz : Int) (tp : Int → Int) (cd : Int → Int) (ti : Int) (q0 : 0 ≤ ln) (q1 : ln ≤ 400) (q2 : 0 ≤ tk) (q3 : tk ≤ 355) (q4 : 0 ≤ st) (q5 : st ≤ bh) (q6 : bh ≤ ln) (q7 : 0 ≤ va) (q8 : va ≤ 1001) (q9 : 0 ≤ pa) (q10 : pa ≤ 50) (q11 : zr fl) (q12 : 0 ≤ sz) (q13 : sz ≤ 412) (q14 : TokL tk st bh) (q15 : Rg tp 400 0 255) (q16 : Rg cd 412 (-2147483648) 2147483647) (q17 : TkX tp ln ti tk st bh va) (q18 : 0 ≤ ti) (hk54 : fh 54 = some (.inr (5, [.ref 55, .int (zI ln), .int (zI tk), .int (zI st), .int (zI bh), .int (zI va), .int (zI pa), .int (zI fl), .ref 56, .int (zI sz)]))) (hk55 : fh 55 = some (.inl (0, 400, .inl (zA tp)))) (hk56 : fh 56 = some (.inl (0, 412, .inl (zA cd)))) : JM l G yX5_both MX5_both { frames := 22, cells := 0, slots := 0, locals := 492 } [.ref 54, .int (zI 5)] (nh, fh) (fun rr h9 => (∃ tk2 : Int, ∃ st2 : Int, ∃ bh2 : Int, ∃ va2 : Int, ∃ pa2 : Int, ∃ sz2 : Int, ∃ cd2 : Int → Int, ∃ ti2 : Int, rr = some (.int (zI 1)) ∧ h9 = (nh, hc fh [(54, .inr (5, [.ref 55, .int (zI ln), .int (zI tk2), .int (zI st2), .int (zI bh2), .int (zI va2), .int (zI pa2), .int (zI fl), .ref 56, .int (zI sz2)])), (56, .inl (0, 412, .inl (zA cd2)))]) ∧ (0 ≤ tk2) ∧ (tk2 ≤ 355) ∧ (0 ≤ st2) ∧ (st2 ≤ bh2) ∧ (bh2 ≤ ln) ∧ (0 ≤ va2) ∧ (va2 ≤ 1001) ∧ (0 ≤ pa2) ∧ (pa2 ≤ 50) ∧ (0 ≤ sz2) ∧ (sz2 ≤ 412) ∧ (TokL tk2 st2 bh2) ∧ (Rg cd2 412 (-2147483648) 2147483647) ∧ (sz2 + st ≤ sz + st2) ∧ (st ≤ st2) ∧ (TkX tp ln ti2 tk2 st2 bh2 va2) ∧ (0 ≤ ti2) ∧ (BoR (CTk tp ln) (LF tp ln) 3 ti pa 1 ti2 pa2)) ∨ (∃ tk2 : Int, ∃ st2 : Int, ∃ bh2 : Int, ∃ va2 : Int, ∃ pa2 : Int, ∃ sz2 : Int, ∃ cd2 : Int → Int, ∃ fl2 : Int, ∃ ti2 : Int, rr = some (.int (zI 0)) ∧ h9 = (nh, hc fh [(54, .inr (5, [.ref 55, .int (zI ln), .int (zI tk2), .int (zI st2), .int (zI bh2), .int (zI va2), .int (zI pa2), .int (zI fl2), .ref 56, .int (zI sz2)])), (56, .inl (0, 412, .inl (zA cd2)))]) ∧ (0 ≤ tk2) ∧ (tk2 ≤ 355) ∧ (0 ≤ st2) ∧ (st2 ≤ bh2) ∧ (bh2 ≤ ln) ∧ (0 ≤ va2) ∧ (va2 ≤ 1001) ∧ (0 ≤ pa2) ∧ (pa2 ≤ 50) ∧ (0 ≤ sz2) ∧ (sz2 ≤ 412) ∧ (TokL tk2 st2 bh2) ∧ (Rg cd2 412 (-2147483648) 2147483647) ∧ (0 ≤ fl2) ∧ (fl2 ≤ 400) ∧ (FlX tp ln ti2 fl2) ∧ (BoR (CTk tp ln) (LF tp ln) 3 ti pa 0 ti2 0))) := by
  refine JM.of (by decide) rfl (fun h => by cases h) (Nat.le_of_ble_eq_true rfl) ⟨2, rfl⟩ ?_
  refine J_hc0 (J_ls (ls2 := [some (.ref 54), some (.int (zI 5)), none, none]) rfl ?_)
  refine J_aload_n dX5_both_0 rfl rfl ?_
  refine J_iload_n dX5_both_1 rfl rfl ?_
  refine J_callV (st := []) dX5_both_2 cv_X5_83 (d_plain5 ln tk st bh va pa fl sz tp cd ti q0 q1 q2 q3 q4 q5 q6 q7 q8 q9 q10 q11 q12 q13 q14 q15 q16 q17 q18 hk54 hk55 hk56) hk54 rfl rfl (Nat.le_of_ble_eq_true rfl) ⟨(Nat.le_of_ble_eq_true rfl), (Nat.le_of_ble_eq_true rfl)⟩ ⟨(Nat.le_of_ble_eq_true rfl), (Nat.le_of_ble_eq_true rfl)⟩ (fun r h9 hp => ?_)
  rcases hp with ⟨z1, z2, z3, z4, z5, z6, f7, z8, rfl, rfl, h9, h10, h11, h12, h13, h14, h15, h16, h17, h18, h19, h20, h21, h22, h23, h24, h25, h26⟩ | ⟨z27, z28, z29, z30, z31, z32, f33, z34, z35, rfl, rfl, h36, h37, h38, h39, h40, h41, h42, h43, h44, h45, h46, h47, h48, h49, h50, h51, h52⟩
  · refine J_nf (nh2 := nh) (ck2 := 0) (sk2 := 0) (st2 := [.int (zI 1)]) rfl rfl rfl rfl ?_
    refine J_app (L3 := [(54, .inr (5, [.ref 55, .int (zI ln), .int (zI z1), .int (zI z2), .int (zI z3), .int (zI z4), .int (zI z5), .int (zI fl), .ref 56, .int (zI z6)])), (56, .inl (0, 412, .inl (zA f7)))]) rfl ?_
    refine Z_if_ne (tgt := 10) dX5_both_5 (by decide) v_4dcc24baa7 (fun h53 => ?_) (fun h53 => absurd h53 v_3a47bfd896)
    refine Z_iconst (n := 0) dX5_both_10 ?_
    refine J_istore_n dX5_both_11 rfl (Nat.le_of_ble_eq_true rfl) rfl ?_
    refine J_ls (ls2 := [some (.ref 54), some (.int (zI 5)), some (.int (zI 0)), none]) rfl ?_
    have lp12 : ∀ (N12 : Nat) (i_12 : Int) (tx_12 : Int) (sx_12 : Int) (bx_12 : Int) (vx_12 : Int) (px_12 : Int) (zx_12 : Int) (cx_12 : Int → Int) (ti_12 : Int), (0 ≤ i_12) → (i_12 ≤ 400) → (zx_12 + st ≤ sz + sx_12) → (st ≤ sx_12) → (0 ≤ tx_12) → (tx_12 ≤ 355) → (0 ≤ sx_12) → (sx_12 ≤ bx_12) → (bx_12 ≤ ln) → (0 ≤ vx_12) → (vx_12 ≤ 1001) → (TokL tx_12 sx_12 bx_12) → (Rg cx_12 412 (-2147483648) 2147483647) → (0 ≤ zx_12) → (zx_12 ≤ 412) → (0 ≤ px_12) → (px_12 ≤ 50) → (st + i_12 ≤ sx_12) → (TkX tp ln ti_12 tx_12 sx_12 bx_12 vx_12) → (0 ≤ ti_12) → (SeP (PnR (CTk tp ln) (LF tp ln) 3) opN (CTk tp ln) ti pa ti_12 px_12) → (400 - i_12).toNat < N12 → J l G MX5_both { frames := 22, cells := 0, slots := 0, locals := 492 } jE (jMQ G { frames := 22, cells := 0, slots := 0, locals := 492 } (fun rr h9 => (∃ tk2 : Int, ∃ st2 : Int, ∃ bh2 : Int, ∃ va2 : Int, ∃ pa2 : Int, ∃ sz2 : Int, ∃ cd2 : Int → Int, ∃ ti2 : Int, rr = some (.int (zI 1)) ∧ h9 = (nh, hc fh [(54, .inr (5, [.ref 55, .int (zI ln), .int (zI tk2), .int (zI st2), .int (zI bh2), .int (zI va2), .int (zI pa2), .int (zI fl), .ref 56, .int (zI sz2)])), (56, .inl (0, 412, .inl (zA cd2)))]) ∧ (0 ≤ tk2) ∧ (tk2 ≤ 355) ∧ (0 ≤ st2) ∧ (st2 ≤ bh2) ∧ (bh2 ≤ ln) ∧ (0 ≤ va2) ∧ (va2 ≤ 1001) ∧ (0 ≤ pa2) ∧ (pa2 ≤ 50) ∧ (0 ≤ sz2) ∧ (sz2 ≤ 412) ∧ (TokL tk2 st2 bh2) ∧ (Rg cd2 412 (-2147483648) 2147483647) ∧ (sz2 + st ≤ sz + st2) ∧ (st ≤ st2) ∧ (TkX tp ln ti2 tk2 st2 bh2 va2) ∧ (0 ≤ ti2) ∧ (BoR (CTk tp ln) (LF tp ln) 3 ti pa 1 ti2 pa2)) ∨ (∃ tk2 : Int, ∃ st2 : Int, ∃ bh2 : Int, ∃ va2 : Int, ∃ pa2 : Int, ∃ sz2 : Int, ∃ cd2 : Int → Int, ∃ fl2 : Int, ∃ ti2 : Int, rr = some (.int (zI 0)) ∧ h9 = (nh, hc fh [(54, .inr (5, [.ref 55, .int (zI ln), .int (zI tk2), .int (zI st2), .int (zI bh2), .int (zI va2), .int (zI pa2), .int (zI fl2), .ref 56, .int (zI sz2)])), (56, .inl (0, 412, .inl (zA cd2)))]) ∧ (0 ≤ tk2) ∧ (tk2 ≤ 355) ∧ (0 ≤ st2) ∧ (st2 ≤ bh2) ∧ (bh2 ≤ ln) ∧ (0 ≤ va2) ∧ (va2 ≤ 1001) ∧ (0 ≤ pa2) ∧ (pa2 ≤ 50) ∧ (0 ≤ sz2) ∧ (sz2 ≤ 412) ∧ (TokL tk2 st2 bh2) ∧ (Rg cd2 412 (-2147483648) 2147483647) ∧ (0 ≤ fl2) ∧ (fl2 ≤ 400) ∧ (FlX tp ln ti2 fl2) ∧ (BoR (CTk tp ln) (LF tp ln) 3 ti pa 0 ti2 0)))) (nh, hc fh [(54, .inr (5, [.ref 55, .int (zI ln), .int (zI tx_12), .int (zI sx_12), .int (zI bx_12), .int (zI vx_12), .int (zI px_12), .int (zI fl), .ref 56, .int (zI zx_12)])), (56, .inl (0, 412, .inl (zA cx_12)))]) 0 0 12 [some (.ref 54), some (.int (zI 5)), some (.int (zI i_12)), none] [] := by
      intro N12
      induction N12 with
      | zero => intro i_12 tx_12 sx_12 bx_12 vx_12 px_12 zx_12 cx_12 ti_12 i12_0 i12_1 i12_2 i12_3 i12_4 i12_5 i12_6 i12_7 i12_8 i12_9 i12_10 i12_11 i12_12 i12_13 i12_14 i12_15 i12_16 i12_17 i12_18 i12_19 i12_20 hm; exact absurd hm (Nat.not_lt_zero _)
      | succ N12 ih12 =>
        intro i_12 tx_12 sx_12 bx_12 vx_12 px_12 zx_12 cx_12 ti_12 i12_0 i12_1 i12_2 i12_3 i12_4 i12_5 i12_6 i12_7 i12_8 i12_9 i12_10 i12_11 i12_12 i12_13 i12_14 i12_15 i12_16 i12_17 i12_18 i12_19 i12_20 hm12
        refine J_iload_n dX5_both_12 rfl rfl ?_
        refine Z_sipush (n := 400) dX5_both_13 (by decide +kernel) ?_
        refine Z_icmp_ge (tgt := 60) dX5_both_16 (by decide) (v_d7389cde0f i12_0 i12_1) v_d8dcd4dd52 (fun h54 => ?_) (fun h54 => ?_)
        · have g55 : tx_12 = 17 := TkX.lo i12_18 (v_96ef693267 q1 q4 i12_7 i12_8 i12_17 h54)
          refine Z_iconst (n := 1) dX5_both_60 ?_
          exact J_iret dX5_both_61 rfl (jbn v_316afd7d0b v_bbcfac9b7d) (Nat.le_of_ble_eq_true rfl) (Nat.le_of_ble_eq_true rfl) (Or.inl ⟨tx_12, sx_12, bx_12, vx_12, px_12, zx_12, cx_12, ti_12, rfl, rfl, i12_4, i12_5, i12_6, i12_7, i12_8, i12_9, i12_10, i12_15, i12_16, i12_13, i12_14, i12_11, i12_12, i12_2, i12_3, i12_18, i12_19, (SeP.end i12_20 (fun w => absurd ((TkX.wd i12_18 (v := 5) (c := 6) (by decide) (by decide) (by decide)).mp w) (v_ffc4fbfbcd g55)))⟩)
        · refine J_aload_n dX5_both_19 rfl rfl ?_
          refine J_get (v := .int (zI tx_12)) dX5_both_20 fl_X5_19 rfl rfl ?_
          refine Z_iconst (n := 5) dX5_both_23 ?_
          refine Z_icmp_ne (tgt := 60) dX5_both_24 (by decide) (v_96bf6f782e i12_4 i12_5) v_3961fe0d0d (fun h56 => ?_) (fun h56 => ?_)
          · refine Z_iconst (n := 1) dX5_both_60 ?_
            exact J_iret dX5_both_61 rfl (jbn v_316afd7d0b v_bbcfac9b7d) (Nat.le_of_ble_eq_true rfl) (Nat.le_of_ble_eq_true rfl) (Or.inl ⟨tx_12, sx_12, bx_12, vx_12, px_12, zx_12, cx_12, ti_12, rfl, rfl, i12_4, i12_5, i12_6, i12_7, i12_8, i12_9, i12_10, i12_15, i12_16, i12_13, i12_14, i12_11, i12_12, i12_2, i12_3, i12_18, i12_19, (SeP.end i12_20 (fun w => absurd ((TkX.wd i12_18 (v := 5) (c := 6) (by decide) (by decide) (by decide)).mp w) (v_6cacba8012 h56)))⟩)
          · refine J_aload_n dX5_both_27 rfl rfl ?_
            have g57 := TokL.lt i12_11 (v_9ad38f4709 h56)
            refine J_callV (st := []) dX5_both_28 cv_X5_43 (d_advance (ti_12 + 1) ln tx_12 sx_12 bx_12 vx_12 px_12 fl zx_12 tp q0 q1 (v_d253cb2c59 i12_6 g57) i12_8 i12_9 i12_10 q15 (TkX.ps i12_18 (v_2b02420001 i12_19)) rfl hk55) rfl rfl rfl (Nat.le_of_ble_eq_true rfl) ⟨(Nat.le_of_ble_eq_true rfl), (Nat.le_of_ble_eq_true rfl)⟩ ⟨(Nat.le_of_ble_eq_true rfl), (Nat.le_of_ble_eq_true rfl)⟩ (fun r h9 hp => ?_)
            obtain ⟨z58, z59, z60, z61, rfl, rfl, h62, h63, h64, h65, h66, h67, h68, h69, h70⟩ := hp
            refine J_nf (nh2 := nh) (ck2 := 0) (sk2 := 0) (st2 := []) rfl rfl rfl rfl ?_
            refine J_app (L3 := [(54, .inr (5, [.ref 55, .int (zI ln), .int (zI z58), .int (zI z59), .int (zI z60), .int (zI z61), .int (zI px_12), .int (zI fl), .ref 56, .int (zI zx_12)])), (54, .inr (5, [.ref 55, .int (zI ln), .int (zI tx_12), .int (zI sx_12), .int (zI bx_12), .int (zI vx_12), .int (zI px_12), .int (zI fl), .ref 56, .int (zI zx_12)])), (56, .inl (0, 412, .inl (zA cx_12)))]) rfl ?_
            refine J_mask (L2 := [(54, .inr (5, [.ref 55, .int (zI ln), .int (zI z58), .int (zI z59), .int (zI z60), .int (zI z61), .int (zI px_12), .int (zI fl), .ref 56, .int (zI zx_12)])), (56, .inl (0, 412, .inl (zA cx_12)))]) (ks := [54, 54, 56]) [true, false, true] rfl (by decide +kernel) rfl ?_
            refine J_aload_n dX5_both_31 rfl rfl ?_
            refine Z_bipush (n := 11) dX5_both_32 (by decide +kernel) ?_
            refine Z_iconst (n := 0) dX5_both_34 ?_
            refine J_callV (st := []) dX5_both_35 cv_X5_72 (d_emit 11 0 ln z58 z59 z60 z61 px_12 fl zx_12 cx_12 v_d58e110b81 v_b17331891f i12_13 i12_14 i12_12 rfl rfl) rfl rfl rfl (Nat.le_of_ble_eq_true rfl) ⟨(Nat.le_of_ble_eq_true rfl), (Nat.le_of_ble_eq_true rfl)⟩ ⟨(Nat.le_of_ble_eq_true rfl), (Nat.le_of_ble_eq_true rfl)⟩ (fun r h9 hp => ?_)
            obtain ⟨z71, f72, rfl, rfl, h73, h74, h75, h76, h77⟩ := hp
            refine J_nf (nh2 := nh) (ck2 := 0) (sk2 := 0) (st2 := [.int (zI zx_12)]) rfl rfl rfl rfl ?_
            refine J_app (L3 := [(54, .inr (5, [.ref 55, .int (zI ln), .int (zI z58), .int (zI z59), .int (zI z60), .int (zI z61), .int (zI px_12), .int (zI fl), .ref 56, .int (zI z71)])), (56, .inl (0, 412, .inl (zA f72))), (54, .inr (5, [.ref 55, .int (zI ln), .int (zI z58), .int (zI z59), .int (zI z60), .int (zI z61), .int (zI px_12), .int (zI fl), .ref 56, .int (zI zx_12)])), (56, .inl (0, 412, .inl (zA cx_12)))]) rfl ?_
            refine J_mask (L2 := [(54, .inr (5, [.ref 55, .int (zI ln), .int (zI z58), .int (zI z59), .int (zI z60), .int (zI z61), .int (zI px_12), .int (zI fl), .ref 56, .int (zI z71)])), (56, .inl (0, 412, .inl (zA f72)))]) (ks := [54, 56, 54, 56]) [true, true, false, false] rfl (by decide +kernel) rfl ?_
            refine J_istore_n dX5_both_38 rfl (Nat.le_of_ble_eq_true rfl) rfl ?_
            refine J_ls (ls2 := [some (.ref 54), some (.int (zI 5)), some (.int (zI i_12)), some (.int (zI zx_12))]) rfl ?_
            refine J_aload_n dX5_both_39 rfl rfl ?_
            refine J_iload_n dX5_both_40 rfl rfl ?_
            refine J_callV (st := []) dX5_both_41 cv_X5_83 (d_plain5 ln z58 z59 z60 z61 px_12 fl z71 tp f72 (ti_12 + 1) q0 q1 h62 h63 (v_9b2e2070a2 i12_6 g57 h64) h65 h66 h67 h68 i12_15 i12_16 q11 h73 h74 h69 q15 h77 h70 (v_da458fa48a i12_19) rfl hk55 rfl) rfl rfl rfl (Nat.le_of_ble_eq_true rfl) ⟨(Nat.le_of_ble_eq_true rfl), (Nat.le_of_ble_eq_true rfl)⟩ ⟨(Nat.le_of_ble_eq_true rfl), (Nat.le_of_ble_eq_true rfl)⟩ (fun r h9 hp => ?_)
            rcases hp with ⟨z78, z79, z80, z81, z82, z83, f84, z85, rfl, rfl, h86, h87, h88, h89, h90, h91, h92, h93, h94, h95, h96, h97, h98, h99, h100, h101, h102, h103⟩ | ⟨z104, z105, z106, z107, z108, z109, f110, z111, z112, rfl, rfl, h113, h114, h115, h116, h117, h118, h119, h120, h121, h122, h123, h124, h125, h126, h127, h128, h129⟩
            · refine J_nf (nh2 := nh) (ck2 := 0) (sk2 := 0) (st2 := [.int (zI 1)]) rfl rfl rfl rfl ?_
              refine J_app (L3 := [(54, .inr (5, [.ref 55, .int (zI ln), .int (zI z78), .int (zI z79), .int (zI z80), .int (zI z81), .int (zI z82), .int (zI fl), .ref 56, .int (zI z83)])), (56, .inl (0, 412, .inl (zA f84))), (54, .inr (5, [.ref 55, .int (zI ln), .int (zI z58), .int (zI z59), .int (zI z60), .int (zI z61), .int (zI px_12), .int (zI fl), .ref 56, .int (zI z71)])), (56, .inl (0, 412, .inl (zA f72)))]) rfl ?_
              refine J_mask (L2 := [(54, .inr (5, [.ref 55, .int (zI ln), .int (zI z78), .int (zI z79), .int (zI z80), .int (zI z81), .int (zI z82), .int (zI fl), .ref 56, .int (zI z83)])), (56, .inl (0, 412, .inl (zA f84)))]) (ks := [54, 56, 54, 56]) [true, true, false, false] rfl (by decide +kernel) rfl ?_
              refine Z_if_ne (tgt := 49) dX5_both_44 (by decide) v_4dcc24baa7 (fun h130 => ?_) (fun h130 => absurd h130 v_3a47bfd896)
              refine J_aload_n dX5_both_49 rfl rfl ?_
              refine J_iload_n dX5_both_50 rfl rfl ?_
              refine J_callV (st := []) dX5_both_51 cv_X5_79 (d_aim zx_12 ln z78 z79 z80 z81 z82 fl z83 f84 (v_9099852440 i12_13 i12_14) h95 h96 h98 rfl rfl) rfl rfl rfl (Nat.le_of_ble_eq_true rfl) ⟨(Nat.le_of_ble_eq_true rfl), (Nat.le_of_ble_eq_true rfl)⟩ ⟨(Nat.le_of_ble_eq_true rfl), (Nat.le_of_ble_eq_true rfl)⟩ (fun r h9 hp => ?_)
              obtain ⟨f131, rfl, rfl, h132⟩ := hp
              refine J_nf (nh2 := nh) (ck2 := 0) (sk2 := 0) (st2 := []) rfl rfl rfl rfl ?_
              refine J_app (L3 := [(56, .inl (0, 412, .inl (zA f131))), (54, .inr (5, [.ref 55, .int (zI ln), .int (zI z78), .int (zI z79), .int (zI z80), .int (zI z81), .int (zI z82), .int (zI fl), .ref 56, .int (zI z83)])), (56, .inl (0, 412, .inl (zA f84)))]) rfl ?_
              refine J_mask (L2 := [(56, .inl (0, 412, .inl (zA f131))), (54, .inr (5, [.ref 55, .int (zI ln), .int (zI z78), .int (zI z79), .int (zI z80), .int (zI z81), .int (zI z82), .int (zI fl), .ref 56, .int (zI z83)]))]) (ks := [56, 54, 56]) [true, true, false] rfl (by decide +kernel) rfl ?_
              refine Z_iinc (c := i_12 + 1) (ls2 := [some (.ref 54), some (.int (zI 5)), some (.int (zI (i_12 + 1))), some (.int (zI zx_12))]) dX5_both_54 rfl (Nat.le_of_ble_eq_true rfl) rfl rfl rfl ?_
              refine J_goto (tgt := 12) dX5_both_57 (by decide) ?_
              refine J_touch (k := 56) (e := .inl (0, 412, .inl (zA f131))) rfl ?_
              refine J_touch (k := 54) (e := .inr (5, [.ref 55, .int (zI ln), .int (zI z78), .int (zI z79), .int (zI z80), .int (zI z81), .int (zI z82), .int (zI fl), .ref 56, .int (zI z83)])) rfl ?_
              refine J_mask (L2 := [(54, .inr (5, [.ref 55, .int (zI ln), .int (zI z78), .int (zI z79), .int (zI z80), .int (zI z81), .int (zI z82), .int (zI fl), .ref 56, .int (zI z83)])), (56, .inl (0, 412, .inl (zA f131)))]) (ks := [54, 56, 56, 54]) [true, true, false, false] rfl (by decide +kernel) rfl ?_
              refine J_drop (ls2 := [some (.ref 54), some (.int (zI 5)), some (.int (zI (i_12 + 1))), none]) [true, true, true, false] rfl ?_
              exact ih12 (i_12 + 1) z78 z79 z80 z81 z82 z83 f131 z85 (v_da458fa48a i12_0) (v_6924477667 h54) (v_f82b1dc229 i12_2 g57 h64 h76 h99) (v_269579bf42 i12_3 g57 h64 h100) h86 h87 h88 h89 h90 h91 h92 h97 h132 h95 h96 h93 h94 (v_974edc800f i12_17 g57 h64 h100) h101 h102 (SeP.add i12_20 ((TkX.wd i12_18 (v := 5) (c := 6) (by decide) (by decide) (by decide)).mpr (v_666cdbe95c h56)) h103) (meas_lt v_ceb2ed6d2b (v_44ddc35e90 h54) hm12)
            · refine J_nf (nh2 := nh) (ck2 := 0) (sk2 := 0) (st2 := [.int (zI 0)]) rfl rfl rfl rfl ?_
              refine J_app (L3 := [(54, .inr (5, [.ref 55, .int (zI ln), .int (zI z104), .int (zI z105), .int (zI z106), .int (zI z107), .int (zI z108), .int (zI z111), .ref 56, .int (zI z109)])), (56, .inl (0, 412, .inl (zA f110))), (54, .inr (5, [.ref 55, .int (zI ln), .int (zI z58), .int (zI z59), .int (zI z60), .int (zI z61), .int (zI px_12), .int (zI fl), .ref 56, .int (zI z71)])), (56, .inl (0, 412, .inl (zA f72)))]) rfl ?_
              refine J_mask (L2 := [(54, .inr (5, [.ref 55, .int (zI ln), .int (zI z104), .int (zI z105), .int (zI z106), .int (zI z107), .int (zI z108), .int (zI z111), .ref 56, .int (zI z109)])), (56, .inl (0, 412, .inl (zA f110)))]) (ks := [54, 56, 54, 56]) [true, true, false, false] rfl (by decide +kernel) rfl ?_
              refine Z_if_ne (tgt := 49) dX5_both_44 (by decide) v_b17331891f (fun h133 => absurd h133 (fun q => q v_2ca2bbca1f)) (fun h133 => ?_)
              refine Z_iconst (n := 0) dX5_both_47 ?_
              exact J_iret dX5_both_48 rfl (jbn v_939070ca3f v_316afd7d0b) (Nat.le_of_ble_eq_true rfl) (Nat.le_of_ble_eq_true rfl) (Or.inr ⟨z104, z105, z106, z107, z108, z109, f110, z111, z112, rfl, rfl, h113, h114, h115, h116, h117, h118, h119, h120, h121, h122, h123, h124, h125, h126, h127, (h128), (SeP.bad i12_20 ((TkX.wd i12_18 (v := 5) (c := 6) (by decide) (by decide) (by decide)).mpr (v_666cdbe95c h56)) h129)⟩)
    exact lp12 _ 0 z1 z2 z3 z4 z5 z6 f7 z8 v_939070ca3f v_5ab96f7b5e h22 h23 h9 h10 h11 h12 h13 h14 h15 h20 h21 h18 h19 h16 h17 (v_3c1faf939c h23) h24 h25 (SeP.one h26) (Nat.lt_succ_self _)
  · refine J_nf (nh2 := nh) (ck2 := 0) (sk2 := 0) (st2 := [.int (zI 0)]) rfl rfl rfl rfl ?_
    refine J_app (L3 := [(54, .inr (5, [.ref 55, .int (zI ln), .int (zI z27), .int (zI z28), .int (zI z29), .int (zI z30), .int (zI z31), .int (zI z34), .ref 56, .int (zI z32)])), (56, .inl (0, 412, .inl (zA f33)))]) rfl ?_
    refine Z_if_ne (tgt := 10) dX5_both_5 (by decide) v_b17331891f (fun h134 => absurd h134 (fun q => q v_2ca2bbca1f)) (fun h134 => ?_)
    refine Z_iconst (n := 0) dX5_both_8 ?_
    exact J_iret dX5_both_9 rfl (jbn v_939070ca3f v_316afd7d0b) (Nat.le_of_ble_eq_true rfl) (Nat.le_of_ble_eq_true rfl) (Or.inr ⟨z27, z28, z29, z30, z31, z32, f33, z34, z35, rfl, rfl, h36, h37, h38, h39, h40, h41, h42, h43, h44, h45, h46, h47, h48, h49, h50, (h51), (SeR.b h52)⟩)
set_option maxHeartbeats 4000000 in
set_option maxRecDepth 100000 in
theorem d_test5 {l : Launch} {G : jG} {nh : Nat} {fh : Nat → Option va_E} (ln : Int) (tk : Int) (st : Int) (bh : Int) (va : Int) (pa : Int) (fl : Int) (sz : Int) (tp : Int → Int) (cd : Int → Int) (ti : Int) (q0 : 0 ≤ ln) (q1 : ln ≤ 400) (q2 : 0 ≤ tk) (q3 : tk ≤ 355) (q4 : 0 ≤ st) (q5 : st ≤ bh) (q6 : bh ≤ ln) (q7 : 0 ≤ va) (q8 : va ≤ 1001) (q9 : 0 ≤ pa) (q10 : pa ≤ 50) (q11 : zr fl) (q12 : 0 ≤ sz) (q13 : sz ≤ 412) (q14 : TokL tk st bh) (q15 : Rg tp 400 0 255) (q16 : Rg cd 412 (-2147483648) 2147483647) (q17 : TkX tp ln ti tk st bh va) (q18 : 0 ≤ ti) (hk54 : fh 54 = some (.inr (5, [.ref 55, .int (zI ln), .int (zI tk), .int (zI st), .int (zI bh), .int (zI va), .int (zI pa), .int (zI fl), .ref 56, .int (zI sz)]))) (hk55 : fh 55 = some (.inl (0, 400, .inl (zA tp)))) (hk56 : fh 56 = some (.inl (0, 412, .inl (zA cd)))) : JM l G yX5_test MX5_test { frames := 23, cells := 0, slots := 0, locals := 515 } [.ref 54, .int (zI 5)] (nh, fh) (fun rr h9 => (∃ tk2 : Int, ∃ st2 : Int, ∃ bh2 : Int, ∃ va2 : Int, ∃ pa2 : Int, ∃ sz2 : Int, ∃ cd2 : Int → Int, ∃ ti2 : Int, rr = some (.int (zI 1)) ∧ h9 = (nh, hc fh [(54, .inr (5, [.ref 55, .int (zI ln), .int (zI tk2), .int (zI st2), .int (zI bh2), .int (zI va2), .int (zI pa2), .int (zI fl), .ref 56, .int (zI sz2)])), (56, .inl (0, 412, .inl (zA cd2)))]) ∧ (0 ≤ tk2) ∧ (tk2 ≤ 355) ∧ (0 ≤ st2) ∧ (st2 ≤ bh2) ∧ (bh2 ≤ ln) ∧ (0 ≤ va2) ∧ (va2 ≤ 1001) ∧ (0 ≤ pa2) ∧ (pa2 ≤ 50) ∧ (0 ≤ sz2) ∧ (sz2 ≤ 412) ∧ (TokL tk2 st2 bh2) ∧ (Rg cd2 412 (-2147483648) 2147483647) ∧ (sz2 + st ≤ sz + st2) ∧ (st ≤ st2) ∧ (TkX tp ln ti2 tk2 st2 bh2 va2) ∧ (0 ≤ ti2) ∧ (TeR (CTk tp ln) (LF tp ln) 3 ti pa 1 ti2 pa2)) ∨ (∃ tk2 : Int, ∃ st2 : Int, ∃ bh2 : Int, ∃ va2 : Int, ∃ pa2 : Int, ∃ sz2 : Int, ∃ cd2 : Int → Int, ∃ fl2 : Int, ∃ ti2 : Int, rr = some (.int (zI 0)) ∧ h9 = (nh, hc fh [(54, .inr (5, [.ref 55, .int (zI ln), .int (zI tk2), .int (zI st2), .int (zI bh2), .int (zI va2), .int (zI pa2), .int (zI fl2), .ref 56, .int (zI sz2)])), (56, .inl (0, 412, .inl (zA cd2)))]) ∧ (0 ≤ tk2) ∧ (tk2 ≤ 355) ∧ (0 ≤ st2) ∧ (st2 ≤ bh2) ∧ (bh2 ≤ ln) ∧ (0 ≤ va2) ∧ (va2 ≤ 1001) ∧ (0 ≤ pa2) ∧ (pa2 ≤ 50) ∧ (0 ≤ sz2) ∧ (sz2 ≤ 412) ∧ (TokL tk2 st2 bh2) ∧ (Rg cd2 412 (-2147483648) 2147483647) ∧ (0 ≤ fl2) ∧ (fl2 ≤ 400) ∧ (FlX tp ln ti2 fl2) ∧ (TeR (CTk tp ln) (LF tp ln) 3 ti pa 0 ti2 0))) := by
  refine JM.of (by decide) rfl (fun h => by cases h) (Nat.le_of_ble_eq_true rfl) ⟨2, rfl⟩ ?_
  refine J_hc0 (J_ls (ls2 := [some (.ref 54), some (.int (zI 5)), none, none]) rfl ?_)
  refine J_aload_n dX5_test_0 rfl rfl ?_
  refine J_iload_n dX5_test_1 rfl rfl ?_
  refine J_callV (st := []) dX5_test_2 cv_X5_76 (d_both5 ln tk st bh va pa fl sz tp cd ti q0 q1 q2 q3 q4 q5 q6 q7 q8 q9 q10 q11 q12 q13 q14 q15 q16 q17 q18 hk54 hk55 hk56) hk54 rfl rfl (Nat.le_of_ble_eq_true rfl) ⟨(Nat.le_of_ble_eq_true rfl), (Nat.le_of_ble_eq_true rfl)⟩ ⟨(Nat.le_of_ble_eq_true rfl), (Nat.le_of_ble_eq_true rfl)⟩ (fun r h9 hp => ?_)
  rcases hp with ⟨z1, z2, z3, z4, z5, z6, f7, z8, rfl, rfl, h9, h10, h11, h12, h13, h14, h15, h16, h17, h18, h19, h20, h21, h22, h23, h24, h25, h26⟩ | ⟨z27, z28, z29, z30, z31, z32, f33, z34, z35, rfl, rfl, h36, h37, h38, h39, h40, h41, h42, h43, h44, h45, h46, h47, h48, h49, h50, h51, h52⟩
  · refine J_nf (nh2 := nh) (ck2 := 0) (sk2 := 0) (st2 := [.int (zI 1)]) rfl rfl rfl rfl ?_
    refine J_app (L3 := [(54, .inr (5, [.ref 55, .int (zI ln), .int (zI z1), .int (zI z2), .int (zI z3), .int (zI z4), .int (zI z5), .int (zI fl), .ref 56, .int (zI z6)])), (56, .inl (0, 412, .inl (zA f7)))]) rfl ?_
    refine Z_if_ne (tgt := 10) dX5_test_5 (by decide) v_4dcc24baa7 (fun h53 => ?_) (fun h53 => absurd h53 v_3a47bfd896)
    refine Z_iconst (n := 0) dX5_test_10 ?_
    refine J_istore_n dX5_test_11 rfl (Nat.le_of_ble_eq_true rfl) rfl ?_
    refine J_ls (ls2 := [some (.ref 54), some (.int (zI 5)), some (.int (zI 0)), none]) rfl ?_
    have lp12 : ∀ (N12 : Nat) (i_12 : Int) (tx_12 : Int) (sx_12 : Int) (bx_12 : Int) (vx_12 : Int) (px_12 : Int) (zx_12 : Int) (cx_12 : Int → Int) (ti_12 : Int), (0 ≤ i_12) → (i_12 ≤ 400) → (zx_12 + st ≤ sz + sx_12) → (st ≤ sx_12) → (0 ≤ tx_12) → (tx_12 ≤ 355) → (0 ≤ sx_12) → (sx_12 ≤ bx_12) → (bx_12 ≤ ln) → (0 ≤ vx_12) → (vx_12 ≤ 1001) → (TokL tx_12 sx_12 bx_12) → (Rg cx_12 412 (-2147483648) 2147483647) → (0 ≤ zx_12) → (zx_12 ≤ 412) → (0 ≤ px_12) → (px_12 ≤ 50) → (st + i_12 ≤ sx_12) → (TkX tp ln ti_12 tx_12 sx_12 bx_12 vx_12) → (0 ≤ ti_12) → (SeP (BoR (CTk tp ln) (LF tp ln) 3) opO (CTk tp ln) ti pa ti_12 px_12) → (400 - i_12).toNat < N12 → J l G MX5_test { frames := 23, cells := 0, slots := 0, locals := 515 } jE (jMQ G { frames := 23, cells := 0, slots := 0, locals := 515 } (fun rr h9 => (∃ tk2 : Int, ∃ st2 : Int, ∃ bh2 : Int, ∃ va2 : Int, ∃ pa2 : Int, ∃ sz2 : Int, ∃ cd2 : Int → Int, ∃ ti2 : Int, rr = some (.int (zI 1)) ∧ h9 = (nh, hc fh [(54, .inr (5, [.ref 55, .int (zI ln), .int (zI tk2), .int (zI st2), .int (zI bh2), .int (zI va2), .int (zI pa2), .int (zI fl), .ref 56, .int (zI sz2)])), (56, .inl (0, 412, .inl (zA cd2)))]) ∧ (0 ≤ tk2) ∧ (tk2 ≤ 355) ∧ (0 ≤ st2) ∧ (st2 ≤ bh2) ∧ (bh2 ≤ ln) ∧ (0 ≤ va2) ∧ (va2 ≤ 1001) ∧ (0 ≤ pa2) ∧ (pa2 ≤ 50) ∧ (0 ≤ sz2) ∧ (sz2 ≤ 412) ∧ (TokL tk2 st2 bh2) ∧ (Rg cd2 412 (-2147483648) 2147483647) ∧ (sz2 + st ≤ sz + st2) ∧ (st ≤ st2) ∧ (TkX tp ln ti2 tk2 st2 bh2 va2) ∧ (0 ≤ ti2) ∧ (TeR (CTk tp ln) (LF tp ln) 3 ti pa 1 ti2 pa2)) ∨ (∃ tk2 : Int, ∃ st2 : Int, ∃ bh2 : Int, ∃ va2 : Int, ∃ pa2 : Int, ∃ sz2 : Int, ∃ cd2 : Int → Int, ∃ fl2 : Int, ∃ ti2 : Int, rr = some (.int (zI 0)) ∧ h9 = (nh, hc fh [(54, .inr (5, [.ref 55, .int (zI ln), .int (zI tk2), .int (zI st2), .int (zI bh2), .int (zI va2), .int (zI pa2), .int (zI fl2), .ref 56, .int (zI sz2)])), (56, .inl (0, 412, .inl (zA cd2)))]) ∧ (0 ≤ tk2) ∧ (tk2 ≤ 355) ∧ (0 ≤ st2) ∧ (st2 ≤ bh2) ∧ (bh2 ≤ ln) ∧ (0 ≤ va2) ∧ (va2 ≤ 1001) ∧ (0 ≤ pa2) ∧ (pa2 ≤ 50) ∧ (0 ≤ sz2) ∧ (sz2 ≤ 412) ∧ (TokL tk2 st2 bh2) ∧ (Rg cd2 412 (-2147483648) 2147483647) ∧ (0 ≤ fl2) ∧ (fl2 ≤ 400) ∧ (FlX tp ln ti2 fl2) ∧ (TeR (CTk tp ln) (LF tp ln) 3 ti pa 0 ti2 0)))) (nh, hc fh [(54, .inr (5, [.ref 55, .int (zI ln), .int (zI tx_12), .int (zI sx_12), .int (zI bx_12), .int (zI vx_12), .int (zI px_12), .int (zI fl), .ref 56, .int (zI zx_12)])), (56, .inl (0, 412, .inl (zA cx_12)))]) 0 0 12 [some (.ref 54), some (.int (zI 5)), some (.int (zI i_12)), none] [] := by
      intro N12
      induction N12 with
      | zero => intro i_12 tx_12 sx_12 bx_12 vx_12 px_12 zx_12 cx_12 ti_12 i12_0 i12_1 i12_2 i12_3 i12_4 i12_5 i12_6 i12_7 i12_8 i12_9 i12_10 i12_11 i12_12 i12_13 i12_14 i12_15 i12_16 i12_17 i12_18 i12_19 i12_20 hm; exact absurd hm (Nat.not_lt_zero _)
      | succ N12 ih12 =>
        intro i_12 tx_12 sx_12 bx_12 vx_12 px_12 zx_12 cx_12 ti_12 i12_0 i12_1 i12_2 i12_3 i12_4 i12_5 i12_6 i12_7 i12_8 i12_9 i12_10 i12_11 i12_12 i12_13 i12_14 i12_15 i12_16 i12_17 i12_18 i12_19 i12_20 hm12
        refine J_iload_n dX5_test_12 rfl rfl ?_
        refine Z_sipush (n := 400) dX5_test_13 (by decide +kernel) ?_
        refine Z_icmp_ge (tgt := 60) dX5_test_16 (by decide) (v_d7389cde0f i12_0 i12_1) v_d8dcd4dd52 (fun h54 => ?_) (fun h54 => ?_)
        · have g55 : tx_12 = 17 := TkX.lo i12_18 (v_96ef693267 q1 q4 i12_7 i12_8 i12_17 h54)
          refine Z_iconst (n := 1) dX5_test_60 ?_
          exact J_iret dX5_test_61 rfl (jbn v_316afd7d0b v_bbcfac9b7d) (Nat.le_of_ble_eq_true rfl) (Nat.le_of_ble_eq_true rfl) (Or.inl ⟨tx_12, sx_12, bx_12, vx_12, px_12, zx_12, cx_12, ti_12, rfl, rfl, i12_4, i12_5, i12_6, i12_7, i12_8, i12_9, i12_10, i12_15, i12_16, i12_13, i12_14, i12_11, i12_12, i12_2, i12_3, i12_18, i12_19, (SeP.end i12_20 (fun w => absurd ((TkX.wd i12_18 (v := 4) (c := 5) (by decide) (by decide) (by decide)).mp w) (v_6cdd333bcc g55)))⟩)
        · refine J_aload_n dX5_test_19 rfl rfl ?_
          refine J_get (v := .int (zI tx_12)) dX5_test_20 fl_X5_19 rfl rfl ?_
          refine Z_iconst (n := 4) dX5_test_23 ?_
          refine Z_icmp_ne (tgt := 60) dX5_test_24 (by decide) (v_96bf6f782e i12_4 i12_5) v_ffb526fa28 (fun h56 => ?_) (fun h56 => ?_)
          · refine Z_iconst (n := 1) dX5_test_60 ?_
            exact J_iret dX5_test_61 rfl (jbn v_316afd7d0b v_bbcfac9b7d) (Nat.le_of_ble_eq_true rfl) (Nat.le_of_ble_eq_true rfl) (Or.inl ⟨tx_12, sx_12, bx_12, vx_12, px_12, zx_12, cx_12, ti_12, rfl, rfl, i12_4, i12_5, i12_6, i12_7, i12_8, i12_9, i12_10, i12_15, i12_16, i12_13, i12_14, i12_11, i12_12, i12_2, i12_3, i12_18, i12_19, (SeP.end i12_20 (fun w => absurd ((TkX.wd i12_18 (v := 4) (c := 5) (by decide) (by decide) (by decide)).mp w) (v_77b8f78401 h56)))⟩)
          · refine J_aload_n dX5_test_27 rfl rfl ?_
            have g57 := TokL.lt i12_11 (v_5ca91df03c h56)
            refine J_callV (st := []) dX5_test_28 cv_X5_43 (d_advance (ti_12 + 1) ln tx_12 sx_12 bx_12 vx_12 px_12 fl zx_12 tp q0 q1 (v_d253cb2c59 i12_6 g57) i12_8 i12_9 i12_10 q15 (TkX.ps i12_18 (v_2b02420001 i12_19)) rfl hk55) rfl rfl rfl (Nat.le_of_ble_eq_true rfl) ⟨(Nat.le_of_ble_eq_true rfl), (Nat.le_of_ble_eq_true rfl)⟩ ⟨(Nat.le_of_ble_eq_true rfl), (Nat.le_of_ble_eq_true rfl)⟩ (fun r h9 hp => ?_)
            obtain ⟨z58, z59, z60, z61, rfl, rfl, h62, h63, h64, h65, h66, h67, h68, h69, h70⟩ := hp
            refine J_nf (nh2 := nh) (ck2 := 0) (sk2 := 0) (st2 := []) rfl rfl rfl rfl ?_
            refine J_app (L3 := [(54, .inr (5, [.ref 55, .int (zI ln), .int (zI z58), .int (zI z59), .int (zI z60), .int (zI z61), .int (zI px_12), .int (zI fl), .ref 56, .int (zI zx_12)])), (54, .inr (5, [.ref 55, .int (zI ln), .int (zI tx_12), .int (zI sx_12), .int (zI bx_12), .int (zI vx_12), .int (zI px_12), .int (zI fl), .ref 56, .int (zI zx_12)])), (56, .inl (0, 412, .inl (zA cx_12)))]) rfl ?_
            refine J_mask (L2 := [(54, .inr (5, [.ref 55, .int (zI ln), .int (zI z58), .int (zI z59), .int (zI z60), .int (zI z61), .int (zI px_12), .int (zI fl), .ref 56, .int (zI zx_12)])), (56, .inl (0, 412, .inl (zA cx_12)))]) (ks := [54, 54, 56]) [true, false, true] rfl (by decide +kernel) rfl ?_
            refine J_aload_n dX5_test_31 rfl rfl ?_
            refine Z_bipush (n := 10) dX5_test_32 (by decide +kernel) ?_
            refine Z_iconst (n := 0) dX5_test_34 ?_
            refine J_callV (st := []) dX5_test_35 cv_X5_72 (d_emit 10 0 ln z58 z59 z60 z61 px_12 fl zx_12 cx_12 v_2388fd5833 v_b17331891f i12_13 i12_14 i12_12 rfl rfl) rfl rfl rfl (Nat.le_of_ble_eq_true rfl) ⟨(Nat.le_of_ble_eq_true rfl), (Nat.le_of_ble_eq_true rfl)⟩ ⟨(Nat.le_of_ble_eq_true rfl), (Nat.le_of_ble_eq_true rfl)⟩ (fun r h9 hp => ?_)
            obtain ⟨z71, f72, rfl, rfl, h73, h74, h75, h76, h77⟩ := hp
            refine J_nf (nh2 := nh) (ck2 := 0) (sk2 := 0) (st2 := [.int (zI zx_12)]) rfl rfl rfl rfl ?_
            refine J_app (L3 := [(54, .inr (5, [.ref 55, .int (zI ln), .int (zI z58), .int (zI z59), .int (zI z60), .int (zI z61), .int (zI px_12), .int (zI fl), .ref 56, .int (zI z71)])), (56, .inl (0, 412, .inl (zA f72))), (54, .inr (5, [.ref 55, .int (zI ln), .int (zI z58), .int (zI z59), .int (zI z60), .int (zI z61), .int (zI px_12), .int (zI fl), .ref 56, .int (zI zx_12)])), (56, .inl (0, 412, .inl (zA cx_12)))]) rfl ?_
            refine J_mask (L2 := [(54, .inr (5, [.ref 55, .int (zI ln), .int (zI z58), .int (zI z59), .int (zI z60), .int (zI z61), .int (zI px_12), .int (zI fl), .ref 56, .int (zI z71)])), (56, .inl (0, 412, .inl (zA f72)))]) (ks := [54, 56, 54, 56]) [true, true, false, false] rfl (by decide +kernel) rfl ?_
            refine J_istore_n dX5_test_38 rfl (Nat.le_of_ble_eq_true rfl) rfl ?_
            refine J_ls (ls2 := [some (.ref 54), some (.int (zI 5)), some (.int (zI i_12)), some (.int (zI zx_12))]) rfl ?_
            refine J_aload_n dX5_test_39 rfl rfl ?_
            refine J_iload_n dX5_test_40 rfl rfl ?_
            refine J_callV (st := []) dX5_test_41 cv_X5_76 (d_both5 ln z58 z59 z60 z61 px_12 fl z71 tp f72 (ti_12 + 1) q0 q1 h62 h63 (v_9b2e2070a2 i12_6 g57 h64) h65 h66 h67 h68 i12_15 i12_16 q11 h73 h74 h69 q15 h77 h70 (v_da458fa48a i12_19) rfl hk55 rfl) rfl rfl rfl (Nat.le_of_ble_eq_true rfl) ⟨(Nat.le_of_ble_eq_true rfl), (Nat.le_of_ble_eq_true rfl)⟩ ⟨(Nat.le_of_ble_eq_true rfl), (Nat.le_of_ble_eq_true rfl)⟩ (fun r h9 hp => ?_)
            rcases hp with ⟨z78, z79, z80, z81, z82, z83, f84, z85, rfl, rfl, h86, h87, h88, h89, h90, h91, h92, h93, h94, h95, h96, h97, h98, h99, h100, h101, h102, h103⟩ | ⟨z104, z105, z106, z107, z108, z109, f110, z111, z112, rfl, rfl, h113, h114, h115, h116, h117, h118, h119, h120, h121, h122, h123, h124, h125, h126, h127, h128, h129⟩
            · refine J_nf (nh2 := nh) (ck2 := 0) (sk2 := 0) (st2 := [.int (zI 1)]) rfl rfl rfl rfl ?_
              refine J_app (L3 := [(54, .inr (5, [.ref 55, .int (zI ln), .int (zI z78), .int (zI z79), .int (zI z80), .int (zI z81), .int (zI z82), .int (zI fl), .ref 56, .int (zI z83)])), (56, .inl (0, 412, .inl (zA f84))), (54, .inr (5, [.ref 55, .int (zI ln), .int (zI z58), .int (zI z59), .int (zI z60), .int (zI z61), .int (zI px_12), .int (zI fl), .ref 56, .int (zI z71)])), (56, .inl (0, 412, .inl (zA f72)))]) rfl ?_
              refine J_mask (L2 := [(54, .inr (5, [.ref 55, .int (zI ln), .int (zI z78), .int (zI z79), .int (zI z80), .int (zI z81), .int (zI z82), .int (zI fl), .ref 56, .int (zI z83)])), (56, .inl (0, 412, .inl (zA f84)))]) (ks := [54, 56, 54, 56]) [true, true, false, false] rfl (by decide +kernel) rfl ?_
              refine Z_if_ne (tgt := 49) dX5_test_44 (by decide) v_4dcc24baa7 (fun h130 => ?_) (fun h130 => absurd h130 v_3a47bfd896)
              refine J_aload_n dX5_test_49 rfl rfl ?_
              refine J_iload_n dX5_test_50 rfl rfl ?_
              refine J_callV (st := []) dX5_test_51 cv_X5_79 (d_aim zx_12 ln z78 z79 z80 z81 z82 fl z83 f84 (v_9099852440 i12_13 i12_14) h95 h96 h98 rfl rfl) rfl rfl rfl (Nat.le_of_ble_eq_true rfl) ⟨(Nat.le_of_ble_eq_true rfl), (Nat.le_of_ble_eq_true rfl)⟩ ⟨(Nat.le_of_ble_eq_true rfl), (Nat.le_of_ble_eq_true rfl)⟩ (fun r h9 hp => ?_)
              obtain ⟨f131, rfl, rfl, h132⟩ := hp
              refine J_nf (nh2 := nh) (ck2 := 0) (sk2 := 0) (st2 := []) rfl rfl rfl rfl ?_
              refine J_app (L3 := [(56, .inl (0, 412, .inl (zA f131))), (54, .inr (5, [.ref 55, .int (zI ln), .int (zI z78), .int (zI z79), .int (zI z80), .int (zI z81), .int (zI z82), .int (zI fl), .ref 56, .int (zI z83)])), (56, .inl (0, 412, .inl (zA f84)))]) rfl ?_
              refine J_mask (L2 := [(56, .inl (0, 412, .inl (zA f131))), (54, .inr (5, [.ref 55, .int (zI ln), .int (zI z78), .int (zI z79), .int (zI z80), .int (zI z81), .int (zI z82), .int (zI fl), .ref 56, .int (zI z83)]))]) (ks := [56, 54, 56]) [true, true, false] rfl (by decide +kernel) rfl ?_
              refine Z_iinc (c := i_12 + 1) (ls2 := [some (.ref 54), some (.int (zI 5)), some (.int (zI (i_12 + 1))), some (.int (zI zx_12))]) dX5_test_54 rfl (Nat.le_of_ble_eq_true rfl) rfl rfl rfl ?_
              refine J_goto (tgt := 12) dX5_test_57 (by decide) ?_
              refine J_touch (k := 56) (e := .inl (0, 412, .inl (zA f131))) rfl ?_
              refine J_touch (k := 54) (e := .inr (5, [.ref 55, .int (zI ln), .int (zI z78), .int (zI z79), .int (zI z80), .int (zI z81), .int (zI z82), .int (zI fl), .ref 56, .int (zI z83)])) rfl ?_
              refine J_mask (L2 := [(54, .inr (5, [.ref 55, .int (zI ln), .int (zI z78), .int (zI z79), .int (zI z80), .int (zI z81), .int (zI z82), .int (zI fl), .ref 56, .int (zI z83)])), (56, .inl (0, 412, .inl (zA f131)))]) (ks := [54, 56, 56, 54]) [true, true, false, false] rfl (by decide +kernel) rfl ?_
              refine J_drop (ls2 := [some (.ref 54), some (.int (zI 5)), some (.int (zI (i_12 + 1))), none]) [true, true, true, false] rfl ?_
              exact ih12 (i_12 + 1) z78 z79 z80 z81 z82 z83 f131 z85 (v_da458fa48a i12_0) (v_6924477667 h54) (v_f82b1dc229 i12_2 g57 h64 h76 h99) (v_269579bf42 i12_3 g57 h64 h100) h86 h87 h88 h89 h90 h91 h92 h97 h132 h95 h96 h93 h94 (v_974edc800f i12_17 g57 h64 h100) h101 h102 (SeP.add i12_20 ((TkX.wd i12_18 (v := 4) (c := 5) (by decide) (by decide) (by decide)).mpr (v_e7bb9e21ac h56)) h103) (meas_lt v_ceb2ed6d2b (v_44ddc35e90 h54) hm12)
            · refine J_nf (nh2 := nh) (ck2 := 0) (sk2 := 0) (st2 := [.int (zI 0)]) rfl rfl rfl rfl ?_
              refine J_app (L3 := [(54, .inr (5, [.ref 55, .int (zI ln), .int (zI z104), .int (zI z105), .int (zI z106), .int (zI z107), .int (zI z108), .int (zI z111), .ref 56, .int (zI z109)])), (56, .inl (0, 412, .inl (zA f110))), (54, .inr (5, [.ref 55, .int (zI ln), .int (zI z58), .int (zI z59), .int (zI z60), .int (zI z61), .int (zI px_12), .int (zI fl), .ref 56, .int (zI z71)])), (56, .inl (0, 412, .inl (zA f72)))]) rfl ?_
              refine J_mask (L2 := [(54, .inr (5, [.ref 55, .int (zI ln), .int (zI z104), .int (zI z105), .int (zI z106), .int (zI z107), .int (zI z108), .int (zI z111), .ref 56, .int (zI z109)])), (56, .inl (0, 412, .inl (zA f110)))]) (ks := [54, 56, 54, 56]) [true, true, false, false] rfl (by decide +kernel) rfl ?_
              refine Z_if_ne (tgt := 49) dX5_test_44 (by decide) v_b17331891f (fun h133 => absurd h133 (fun q => q v_2ca2bbca1f)) (fun h133 => ?_)
              refine Z_iconst (n := 0) dX5_test_47 ?_
              exact J_iret dX5_test_48 rfl (jbn v_939070ca3f v_316afd7d0b) (Nat.le_of_ble_eq_true rfl) (Nat.le_of_ble_eq_true rfl) (Or.inr ⟨z104, z105, z106, z107, z108, z109, f110, z111, z112, rfl, rfl, h113, h114, h115, h116, h117, h118, h119, h120, h121, h122, h123, h124, h125, h126, h127, (h128), (SeP.bad i12_20 ((TkX.wd i12_18 (v := 4) (c := 5) (by decide) (by decide) (by decide)).mpr (v_e7bb9e21ac h56)) h129)⟩)
    exact lp12 _ 0 z1 z2 z3 z4 z5 z6 f7 z8 v_939070ca3f v_5ab96f7b5e h22 h23 h9 h10 h11 h12 h13 h14 h15 h20 h21 h18 h19 h16 h17 (v_3c1faf939c h23) h24 h25 (SeP.one h26) (Nat.lt_succ_self _)
  · refine J_nf (nh2 := nh) (ck2 := 0) (sk2 := 0) (st2 := [.int (zI 0)]) rfl rfl rfl rfl ?_
    refine J_app (L3 := [(54, .inr (5, [.ref 55, .int (zI ln), .int (zI z27), .int (zI z28), .int (zI z29), .int (zI z30), .int (zI z31), .int (zI z34), .ref 56, .int (zI z32)])), (56, .inl (0, 412, .inl (zA f33)))]) rfl ?_
    refine Z_if_ne (tgt := 10) dX5_test_5 (by decide) v_b17331891f (fun h134 => absurd h134 (fun q => q v_2ca2bbca1f)) (fun h134 => ?_)
    refine Z_iconst (n := 0) dX5_test_8 ?_
    exact J_iret dX5_test_9 rfl (jbn v_939070ca3f v_316afd7d0b) (Nat.le_of_ble_eq_true rfl) (Nat.le_of_ble_eq_true rfl) (Or.inr ⟨z27, z28, z29, z30, z31, z32, f33, z34, z35, rfl, rfl, h36, h37, h38, h39, h40, h41, h42, h43, h44, h45, h46, h47, h48, h49, h50, (h51), (SeR.b h52)⟩)
set_option maxHeartbeats 4000000 in
set_option maxRecDepth 100000 in
theorem d_bracketedSum4 {l : Launch} {G : jG} {nh : Nat} {fh : Nat → Option va_E} (ln : Int) (tk : Int) (st : Int) (bh : Int) (va : Int) (pa : Int) (fl : Int) (sz : Int) (tp : Int → Int) (cd : Int → Int) (ti : Int) (q0 : 0 ≤ ln) (q1 : ln ≤ 400) (q2 : 0 ≤ tk) (q3 : tk ≤ 355) (q4 : 0 ≤ st) (q5 : st ≤ bh) (q6 : bh ≤ ln) (q7 : 0 ≤ va) (q8 : va ≤ 1001) (q9 : 0 ≤ pa) (q10 : pa ≤ 50) (q11 : zr fl) (q12 : 0 ≤ sz) (q13 : sz ≤ 412) (q14 : TokL tk st bh) (q15 : Rg tp 400 0 255) (q16 : Rg cd 412 (-2147483648) 2147483647) (q17 : TkX tp ln ti tk st bh va) (q18 : 0 ≤ ti) (hk54 : fh 54 = some (.inr (5, [.ref 55, .int (zI ln), .int (zI tk), .int (zI st), .int (zI bh), .int (zI va), .int (zI pa), .int (zI fl), .ref 56, .int (zI sz)]))) (hk55 : fh 55 = some (.inl (0, 400, .inl (zA tp)))) (hk56 : fh 56 = some (.inl (0, 412, .inl (zA cd)))) : JM l G yX5_bracketedSum MX5_bracketedSum { frames := 21, cells := 0, slots := 0, locals := 469 } [.ref 54, .int (zI 4)] (nh, fh) (fun rr h9 => (∃ tk2 : Int, ∃ st2 : Int, ∃ bh2 : Int, ∃ va2 : Int, ∃ pa2 : Int, ∃ sz2 : Int, ∃ cd2 : Int → Int, ∃ ti2 : Int, rr = some (.int (zI 1)) ∧ h9 = (nh, hc fh [(54, .inr (5, [.ref 55, .int (zI ln), .int (zI tk2), .int (zI st2), .int (zI bh2), .int (zI va2), .int (zI pa2), .int (zI fl), .ref 56, .int (zI sz2)])), (56, .inl (0, 412, .inl (zA cd2)))]) ∧ (0 ≤ tk2) ∧ (tk2 ≤ 355) ∧ (0 ≤ st2) ∧ (st2 ≤ bh2) ∧ (bh2 ≤ ln) ∧ (0 ≤ va2) ∧ (va2 ≤ 1001) ∧ (0 ≤ pa2) ∧ (pa2 ≤ 50) ∧ (0 ≤ sz2) ∧ (sz2 ≤ 412) ∧ (TokL tk2 st2 bh2) ∧ (Rg cd2 412 (-2147483648) 2147483647) ∧ (sz2 + st ≤ sz + st2) ∧ (st ≤ st2) ∧ (TkX tp ln ti2 tk2 st2 bh2 va2) ∧ (0 ≤ ti2) ∧ (BsR (CTk tp ln) (LF tp ln) 4 ti pa 1 ti2 pa2)) ∨ (∃ tk2 : Int, ∃ st2 : Int, ∃ bh2 : Int, ∃ va2 : Int, ∃ pa2 : Int, ∃ sz2 : Int, ∃ cd2 : Int → Int, ∃ fl2 : Int, ∃ ti2 : Int, rr = some (.int (zI 0)) ∧ h9 = (nh, hc fh [(54, .inr (5, [.ref 55, .int (zI ln), .int (zI tk2), .int (zI st2), .int (zI bh2), .int (zI va2), .int (zI pa2), .int (zI fl2), .ref 56, .int (zI sz2)])), (56, .inl (0, 412, .inl (zA cd2)))]) ∧ (0 ≤ tk2) ∧ (tk2 ≤ 355) ∧ (0 ≤ st2) ∧ (st2 ≤ bh2) ∧ (bh2 ≤ ln) ∧ (0 ≤ va2) ∧ (va2 ≤ 1001) ∧ (0 ≤ pa2) ∧ (pa2 ≤ 50) ∧ (0 ≤ sz2) ∧ (sz2 ≤ 412) ∧ (TokL tk2 st2 bh2) ∧ (Rg cd2 412 (-2147483648) 2147483647) ∧ (0 ≤ fl2) ∧ (fl2 ≤ 400) ∧ (FlX tp ln ti2 fl2) ∧ (BsR (CTk tp ln) (LF tp ln) 4 ti pa 0 ti2 0))) := by
  refine JM.of (by decide) rfl (fun h => by cases h) (Nat.le_of_ble_eq_true rfl) ⟨0, rfl⟩ ?_
  refine J_hc0 (J_ls (ls2 := [some (.ref 54), some (.int (zI 4))]) rfl ?_)
  refine J_iload_n dX5_bracketedSum_0 rfl rfl ?_
  refine Z_bipush (n := 8) dX5_bracketedSum_1 (by decide +kernel) ?_
  refine Z_icmp_lt (tgt := 11) dX5_bracketedSum_3 (by decide) v_ffb526fa28 v_665891e294 (fun h1 => ?_) (fun h1 => absurd h1 (fun q => q v_c1c1c5fa1b))
  refine J_aload_n dX5_bracketedSum_11 rfl rfl ?_
  refine J_callV (st := []) dX5_bracketedSum_12 cv_X5_43 (d_advance (ti + 1) ln tk st bh va pa fl sz tp q0 q1 (v_21976c7318 q4 q5) q6 q7 q8 q15 (TkX.ps q17 (v_2b02420001 q18)) hk54 hk55) hk54 rfl rfl (Nat.le_of_ble_eq_true rfl) ⟨(Nat.le_of_ble_eq_true rfl), (Nat.le_of_ble_eq_true rfl)⟩ ⟨(Nat.le_of_ble_eq_true rfl), (Nat.le_of_ble_eq_true rfl)⟩ (fun r h9 hp => ?_)
  obtain ⟨z2, z3, z4, z5, rfl, rfl, h6, h7, h8, h9, h10, h11, h12, h13, h14⟩ := hp
  refine J_nf (nh2 := nh) (ck2 := 0) (sk2 := 0) (st2 := []) rfl rfl rfl rfl ?_
  refine J_app (L3 := [(54, .inr (5, [.ref 55, .int (zI ln), .int (zI z2), .int (zI z3), .int (zI z4), .int (zI z5), .int (zI pa), .int (zI fl), .ref 56, .int (zI sz)]))]) rfl ?_
  refine J_aload_n dX5_bracketedSum_15 rfl rfl ?_
  refine J_iload_n dX5_bracketedSum_16 rfl rfl ?_
  refine Z_iconst (n := 1) dX5_bracketedSum_17 ?_
  refine Z_iadd (c := 5) dX5_bracketedSum_18 v_33b28fcfc0 ?_
  refine J_callV (st := []) dX5_bracketedSum_19 cv_X5_63 (d_sum5 ln z2 z3 z4 z5 pa fl sz tp cd (ti + 1) q0 q1 h6 h7 (v_7eaccd6eb1 q4 q5 h8) h9 h10 h11 h12 q9 q10 q11 q12 q13 h13 q15 q16 h14 (v_da458fa48a q18) rfl hk55 hk56) rfl rfl rfl (Nat.le_of_ble_eq_true rfl) ⟨(Nat.le_of_ble_eq_true rfl), (Nat.le_of_ble_eq_true rfl)⟩ ⟨(Nat.le_of_ble_eq_true rfl), (Nat.le_of_ble_eq_true rfl)⟩ (fun r h9 hp => ?_)
  rcases hp with ⟨z15, z16, z17, z18, z19, z20, f21, z22, rfl, rfl, h23, h24, h25, h26, h27, h28, h29, h30, h31, h32, h33, h34, h35, h36, h37, h38, h39, h40⟩ | ⟨z41, z42, z43, z44, z45, z46, f47, z48, z49, rfl, rfl, h50, h51, h52, h53, h54, h55, h56, h57, h58, h59, h60, h61, h62, h63, h64, h65, h66⟩
  · refine J_nf (nh2 := nh) (ck2 := 0) (sk2 := 0) (st2 := [.int (zI 1)]) rfl rfl rfl rfl ?_
    refine J_app (L3 := [(54, .inr (5, [.ref 55, .int (zI ln), .int (zI z15), .int (zI z16), .int (zI z17), .int (zI z18), .int (zI z19), .int (zI fl), .ref 56, .int (zI z20)])), (56, .inl (0, 412, .inl (zA f21))), (54, .inr (5, [.ref 55, .int (zI ln), .int (zI z2), .int (zI z3), .int (zI z4), .int (zI z5), .int (zI pa), .int (zI fl), .ref 56, .int (zI sz)]))]) rfl ?_
    refine J_mask (L2 := [(54, .inr (5, [.ref 55, .int (zI ln), .int (zI z15), .int (zI z16), .int (zI z17), .int (zI z18), .int (zI z19), .int (zI fl), .ref 56, .int (zI z20)])), (56, .inl (0, 412, .inl (zA f21)))]) (ks := [54, 56, 54]) [true, true, false] rfl (by decide +kernel) rfl ?_
    refine Z_if_ne (tgt := 27) dX5_bracketedSum_22 (by decide) v_4dcc24baa7 (fun h67 => ?_) (fun h67 => absurd h67 v_3a47bfd896)
    refine J_aload_n dX5_bracketedSum_27 rfl rfl ?_
    refine Z_bipush (n := 93) dX5_bracketedSum_28 (by decide +kernel) ?_
    refine J_callV (st := []) dX5_bracketedSum_30 cv_X5_50 (d_isSign 93 ln z15 z16 z17 z18 z19 fl z20 v_57eea63119 v_eeebb5ff41 h23 h24 rfl) rfl rfl rfl (Nat.le_of_ble_eq_true rfl) ⟨(Nat.le_of_ble_eq_true rfl), (Nat.le_of_ble_eq_true rfl)⟩ ⟨(Nat.le_of_ble_eq_true rfl), (Nat.le_of_ble_eq_true rfl)⟩ (fun r h9 hp => ?_)
    rcases hp with ⟨rfl, rfl, h68⟩ | ⟨rfl, rfl, h69⟩
    · refine J_nf (nh2 := nh) (ck2 := 0) (sk2 := 0) (st2 := [.int (zI 1)]) rfl rfl rfl rfl ?_
      refine Z_if_ne (tgt := 41) dX5_bracketedSum_33 (by decide) v_4dcc24baa7 (fun h70 => ?_) (fun h70 => absurd h70 v_3a47bfd896)
      refine J_aload_n dX5_bracketedSum_41 rfl rfl ?_
      have g71 := TokL.lt h34 (v_0603afac7b h68)
      refine J_callV (st := []) dX5_bracketedSum_42 cv_X5_43 (d_advance (z22 + 1) ln z15 z16 z17 z18 z19 fl z20 tp q0 q1 (v_d253cb2c59 h25 g71) h27 h28 h29 q15 (TkX.ps h38 (v_2b02420001 h39)) rfl hk55) rfl rfl rfl (Nat.le_of_ble_eq_true rfl) ⟨(Nat.le_of_ble_eq_true rfl), (Nat.le_of_ble_eq_true rfl)⟩ ⟨(Nat.le_of_ble_eq_true rfl), (Nat.le_of_ble_eq_true rfl)⟩ (fun r h9 hp => ?_)
      obtain ⟨z72, z73, z74, z75, rfl, rfl, h76, h77, h78, h79, h80, h81, h82, h83, h84⟩ := hp
      refine J_nf (nh2 := nh) (ck2 := 0) (sk2 := 0) (st2 := []) rfl rfl rfl rfl ?_
      refine J_app (L3 := [(54, .inr (5, [.ref 55, .int (zI ln), .int (zI z72), .int (zI z73), .int (zI z74), .int (zI z75), .int (zI z19), .int (zI fl), .ref 56, .int (zI z20)])), (54, .inr (5, [.ref 55, .int (zI ln), .int (zI z15), .int (zI z16), .int (zI z17), .int (zI z18), .int (zI z19), .int (zI fl), .ref 56, .int (zI z20)])), (56, .inl (0, 412, .inl (zA f21)))]) rfl ?_
      refine J_mask (L2 := [(54, .inr (5, [.ref 55, .int (zI ln), .int (zI z72), .int (zI z73), .int (zI z74), .int (zI z75), .int (zI z19), .int (zI fl), .ref 56, .int (zI z20)])), (56, .inl (0, 412, .inl (zA f21)))]) (ks := [54, 54, 56]) [true, false, true] rfl (by decide +kernel) rfl ?_
      refine Z_iconst (n := 1) dX5_bracketedSum_45 ?_
      exact J_iret dX5_bracketedSum_46 rfl (jbn v_316afd7d0b v_bbcfac9b7d) (Nat.le_of_ble_eq_true rfl) (Nat.le_of_ble_eq_true rfl) (Or.inl ⟨z72, z73, z74, z75, z19, z20, f21, (z22 + 1), rfl, rfl, h76, h77, (v_9b2e2070a2 h25 g71 h78), h79, h80, h81, h82, h30, h31, h32, h33, h83, h35, (v_a156850946 q5 h8 h36 g71 h78), (v_b3d66fcd45 q5 h8 h37 g71 h78), h84, (v_da458fa48a h39), (BrR.y h40 ((TkX.sg h38 (v := 193) (by decide)).mpr (v_878a2e7c0a h68)))⟩)
    · refine J_nf (nh2 := nh) (ck2 := 0) (sk2 := 0) (st2 := [.int (zI 0)]) rfl rfl rfl rfl ?_
      refine Z_if_ne (tgt := 41) dX5_bracketedSum_33 (by decide) v_b17331891f (fun h85 => absurd h85 (fun q => q v_2ca2bbca1f)) (fun h85 => ?_)
      refine J_aload_n dX5_bracketedSum_36 rfl rfl ?_
      refine J_callV (st := []) dX5_bracketedSum_37 cv_X5_54 (d_wrong ln z15 z16 z17 z18 z19 fl z20 h25 (v_1adcfdfee5 q1 h26 h27) rfl) rfl rfl rfl (Nat.le_of_ble_eq_true rfl) ⟨(Nat.le_of_ble_eq_true rfl), (Nat.le_of_ble_eq_true rfl)⟩ ⟨(Nat.le_of_ble_eq_true rfl), (Nat.le_of_ble_eq_true rfl)⟩ (fun r h9 hp => ?_)
      obtain ⟨rfl, rfl⟩ := hp
      refine J_nf (nh2 := nh) (ck2 := 0) (sk2 := 0) (st2 := [.int (zI 0)]) rfl rfl rfl rfl ?_
      refine J_app (L3 := [(54, .inr (5, [.ref 55, .int (zI ln), .int (zI z15), .int (zI z16), .int (zI z17), .int (zI z18), .int (zI z19), .int (zI z16), .ref 56, .int (zI z20)])), (54, .inr (5, [.ref 55, .int (zI ln), .int (zI z15), .int (zI z16), .int (zI z17), .int (zI z18), .int (zI z19), .int (zI fl), .ref 56, .int (zI z20)])), (56, .inl (0, 412, .inl (zA f21)))]) rfl ?_
      refine J_mask (L2 := [(54, .inr (5, [.ref 55, .int (zI ln), .int (zI z15), .int (zI z16), .int (zI z17), .int (zI z18), .int (zI z19), .int (zI z16), .ref 56, .int (zI z20)])), (56, .inl (0, 412, .inl (zA f21)))]) (ks := [54, 54, 56]) [true, false, true] rfl (by decide +kernel) rfl ?_
      exact J_iret dX5_bracketedSum_40 rfl (jbn v_939070ca3f v_316afd7d0b) (Nat.le_of_ble_eq_true rfl) (Nat.le_of_ble_eq_true rfl) (Or.inr ⟨z15, z16, z17, z18, z19, z20, f21, z16, z22, rfl, rfl, h23, h24, h25, h26, h27, h28, h29, h30, h31, h32, h33, h34, h35, h25, (v_1adcfdfee5 q1 h26 h27), ((TkX.s h38)), (BrR.w h40 (fun w => absurd ((TkX.sg h38 (v := 193) (by decide)).mp w) (v_ce1099fe70 h69)))⟩)
  · refine J_nf (nh2 := nh) (ck2 := 0) (sk2 := 0) (st2 := [.int (zI 0)]) rfl rfl rfl rfl ?_
    refine J_app (L3 := [(54, .inr (5, [.ref 55, .int (zI ln), .int (zI z41), .int (zI z42), .int (zI z43), .int (zI z44), .int (zI z45), .int (zI z48), .ref 56, .int (zI z46)])), (56, .inl (0, 412, .inl (zA f47))), (54, .inr (5, [.ref 55, .int (zI ln), .int (zI z2), .int (zI z3), .int (zI z4), .int (zI z5), .int (zI pa), .int (zI fl), .ref 56, .int (zI sz)]))]) rfl ?_
    refine J_mask (L2 := [(54, .inr (5, [.ref 55, .int (zI ln), .int (zI z41), .int (zI z42), .int (zI z43), .int (zI z44), .int (zI z45), .int (zI z48), .ref 56, .int (zI z46)])), (56, .inl (0, 412, .inl (zA f47)))]) (ks := [54, 56, 54]) [true, true, false] rfl (by decide +kernel) rfl ?_
    refine Z_if_ne (tgt := 27) dX5_bracketedSum_22 (by decide) v_b17331891f (fun h86 => absurd h86 (fun q => q v_2ca2bbca1f)) (fun h86 => ?_)
    refine Z_iconst (n := 0) dX5_bracketedSum_25 ?_
    exact J_iret dX5_bracketedSum_26 rfl (jbn v_939070ca3f v_316afd7d0b) (Nat.le_of_ble_eq_true rfl) (Nat.le_of_ble_eq_true rfl) (Or.inr ⟨z41, z42, z43, z44, z45, z46, f47, z48, z49, rfl, rfl, h50, h51, h52, h53, h54, h55, h56, h57, h58, h59, h60, h61, h62, h63, h64, (h65), (BrR.b h66)⟩)
set_option maxHeartbeats 4000000 in
set_option maxRecDepth 100000 in
theorem d_part4 {l : Launch} {G : jG} {nh : Nat} {fh : Nat → Option va_E} (ln : Int) (tk : Int) (st : Int) (bh : Int) (va : Int) (pa : Int) (fl : Int) (sz : Int) (tp : Int → Int) (cd : Int → Int) (ti : Int) (q0 : 0 ≤ ln) (q1 : ln ≤ 400) (q2 : 0 ≤ tk) (q3 : tk ≤ 355) (q4 : 0 ≤ st) (q5 : st ≤ bh) (q6 : bh ≤ ln) (q7 : 0 ≤ va) (q8 : va ≤ 1001) (q9 : 0 ≤ pa) (q10 : pa ≤ 50) (q11 : zr fl) (q12 : 0 ≤ sz) (q13 : sz ≤ 412) (q14 : TokL tk st bh) (q15 : Rg tp 400 0 255) (q16 : Rg cd 412 (-2147483648) 2147483647) (q17 : TkX tp ln ti tk st bh va) (q18 : 0 ≤ ti) (hk54 : fh 54 = some (.inr (5, [.ref 55, .int (zI ln), .int (zI tk), .int (zI st), .int (zI bh), .int (zI va), .int (zI pa), .int (zI fl), .ref 56, .int (zI sz)]))) (hk55 : fh 55 = some (.inl (0, 400, .inl (zA tp)))) (hk56 : fh 56 = some (.inl (0, 412, .inl (zA cd)))) : JM l G yX5_part MX5_part { frames := 22, cells := 0, slots := 0, locals := 490 } [.ref 54, .int (zI 4)] (nh, fh) (fun rr h9 => (∃ tk2 : Int, ∃ st2 : Int, ∃ bh2 : Int, ∃ va2 : Int, ∃ pa2 : Int, ∃ sz2 : Int, ∃ cd2 : Int → Int, ∃ ti2 : Int, rr = some (.int (zI 1)) ∧ h9 = (nh, hc fh [(54, .inr (5, [.ref 55, .int (zI ln), .int (zI tk2), .int (zI st2), .int (zI bh2), .int (zI va2), .int (zI pa2), .int (zI fl), .ref 56, .int (zI sz2)])), (56, .inl (0, 412, .inl (zA cd2)))]) ∧ (0 ≤ tk2) ∧ (tk2 ≤ 355) ∧ (0 ≤ st2) ∧ (st2 ≤ bh2) ∧ (bh2 ≤ ln) ∧ (0 ≤ va2) ∧ (va2 ≤ 1001) ∧ (0 ≤ pa2) ∧ (pa2 ≤ 50) ∧ (0 ≤ sz2) ∧ (sz2 ≤ 412) ∧ (TokL tk2 st2 bh2) ∧ (Rg cd2 412 (-2147483648) 2147483647) ∧ (sz2 + st ≤ sz + st2) ∧ (st ≤ st2) ∧ (TkX tp ln ti2 tk2 st2 bh2 va2) ∧ (0 ≤ ti2) ∧ (PtR (CTk tp ln) (LF tp ln) 4 ti pa 1 ti2 pa2)) ∨ (∃ tk2 : Int, ∃ st2 : Int, ∃ bh2 : Int, ∃ va2 : Int, ∃ pa2 : Int, ∃ sz2 : Int, ∃ cd2 : Int → Int, ∃ fl2 : Int, ∃ ti2 : Int, rr = some (.int (zI 0)) ∧ h9 = (nh, hc fh [(54, .inr (5, [.ref 55, .int (zI ln), .int (zI tk2), .int (zI st2), .int (zI bh2), .int (zI va2), .int (zI pa2), .int (zI fl2), .ref 56, .int (zI sz2)])), (56, .inl (0, 412, .inl (zA cd2)))]) ∧ (0 ≤ tk2) ∧ (tk2 ≤ 355) ∧ (0 ≤ st2) ∧ (st2 ≤ bh2) ∧ (bh2 ≤ ln) ∧ (0 ≤ va2) ∧ (va2 ≤ 1001) ∧ (0 ≤ pa2) ∧ (pa2 ≤ 50) ∧ (0 ≤ sz2) ∧ (sz2 ≤ 412) ∧ (TokL tk2 st2 bh2) ∧ (Rg cd2 412 (-2147483648) 2147483647) ∧ (0 ≤ fl2) ∧ (fl2 ≤ 400) ∧ (FlX tp ln ti2 fl2) ∧ (PtR (CTk tp ln) (LF tp ln) 4 ti pa 0 ti2 0))) := by
  refine JM.of (by decide) rfl (fun h => by cases h) (Nat.le_of_ble_eq_true rfl) ⟨2, rfl⟩ ?_
  refine J_hc0 (J_ls (ls2 := [some (.ref 54), some (.int (zI 4)), none, none]) rfl ?_)
  refine J_aload_n dX5_part_0 rfl rfl ?_
  refine Z_bipush (n := 91) dX5_part_1 (by decide +kernel) ?_
  refine J_callV (st := []) dX5_part_3 cv_X5_50 (d_isSign 91 ln tk st bh va pa fl sz v_df2cb83190 v_d563f19a9d q2 q3 hk54) hk54 rfl rfl (Nat.le_of_ble_eq_true rfl) ⟨(Nat.le_of_ble_eq_true rfl), (Nat.le_of_ble_eq_true rfl)⟩ ⟨(Nat.le_of_ble_eq_true rfl), (Nat.le_of_ble_eq_true rfl)⟩ (fun r h9 hp => ?_)
  rcases hp with ⟨rfl, rfl, h1⟩ | ⟨rfl, rfl, h2⟩
  · refine J_nf (nh2 := nh) (ck2 := 0) (sk2 := 0) (st2 := [.int (zI 1)]) rfl rfl rfl rfl ?_
    refine Z_if_eq (tgt := 15) dX5_part_6 (by decide) v_4dcc24baa7 (fun h3 => absurd h3 v_3a47bfd896) (fun h3 => ?_)
    refine J_aload_n dX5_part_9 rfl rfl ?_
    refine J_iload_n dX5_part_10 rfl rfl ?_
    refine J_callV (st := []) dX5_part_11 cv_X5_95 (d_bracketedSum4 ln tk st bh va pa fl sz tp cd ti q0 q1 q2 q3 q4 q5 q6 q7 q8 q9 q10 q11 q12 q13 q14 q15 q16 q17 q18 hk54 hk55 hk56) hk54 rfl rfl (Nat.le_of_ble_eq_true rfl) ⟨(Nat.le_of_ble_eq_true rfl), (Nat.le_of_ble_eq_true rfl)⟩ ⟨(Nat.le_of_ble_eq_true rfl), (Nat.le_of_ble_eq_true rfl)⟩ (fun r h9 hp => ?_)
    rcases hp with ⟨z4, z5, z6, z7, z8, z9, f10, z11, rfl, rfl, h12, h13, h14, h15, h16, h17, h18, h19, h20, h21, h22, h23, h24, h25, h26, h27, h28, h29⟩ | ⟨z30, z31, z32, z33, z34, z35, f36, z37, z38, rfl, rfl, h39, h40, h41, h42, h43, h44, h45, h46, h47, h48, h49, h50, h51, h52, h53, h54, h55⟩
    · refine J_nf (nh2 := nh) (ck2 := 0) (sk2 := 0) (st2 := [.int (zI 1)]) rfl rfl rfl rfl ?_
      refine J_app (L3 := [(54, .inr (5, [.ref 55, .int (zI ln), .int (zI z4), .int (zI z5), .int (zI z6), .int (zI z7), .int (zI z8), .int (zI fl), .ref 56, .int (zI z9)])), (56, .inl (0, 412, .inl (zA f10)))]) rfl ?_
      exact J_iret dX5_part_14 rfl (jbn v_316afd7d0b v_bbcfac9b7d) (Nat.le_of_ble_eq_true rfl) (Nat.le_of_ble_eq_true rfl) (Or.inl ⟨z4, z5, z6, z7, z8, z9, f10, z11, rfl, rfl, h12, h13, h14, h15, h16, h17, h18, h19, h20, h21, h22, h23, h24, h25, h26, h27, h28, (PaR.br ((TkX.sg q17 (v := 191) (by decide)).mpr (v_eae1bbf095 h1)) h29)⟩)
    · refine J_nf (nh2 := nh) (ck2 := 0) (sk2 := 0) (st2 := [.int (zI 0)]) rfl rfl rfl rfl ?_
      refine J_app (L3 := [(54, .inr (5, [.ref 55, .int (zI ln), .int (zI z30), .int (zI z31), .int (zI z32), .int (zI z33), .int (zI z34), .int (zI z37), .ref 56, .int (zI z35)])), (56, .inl (0, 412, .inl (zA f36)))]) rfl ?_
      exact J_iret dX5_part_14 rfl (jbn v_939070ca3f v_316afd7d0b) (Nat.le_of_ble_eq_true rfl) (Nat.le_of_ble_eq_true rfl) (Or.inr ⟨z30, z31, z32, z33, z34, z35, f36, z37, z38, rfl, rfl, h39, h40, h41, h42, h43, h44, h45, h46, h47, h48, h49, h50, h51, h52, h53, (h54), (PaR.br ((TkX.sg q17 (v := 191) (by decide)).mpr (v_eae1bbf095 h1)) h55)⟩)
  · refine J_nf (nh2 := nh) (ck2 := 0) (sk2 := 0) (st2 := [.int (zI 0)]) rfl rfl rfl rfl ?_
    refine Z_if_eq (tgt := 15) dX5_part_6 (by decide) v_b17331891f (fun h56 => ?_) (fun h56 => absurd h56 (fun q => q v_2ca2bbca1f))
    refine J_aload_n dX5_part_15 rfl rfl ?_
    refine J_get (v := .int (zI tk)) dX5_part_16 fl_X5_19 hk54 rfl ?_
    refine Z_bipush (n := 16) dX5_part_19 (by decide +kernel) ?_
    refine Z_icmp_ne (tgt := 38) dX5_part_21 (by decide) (v_96bf6f782e q2 q3) v_1b6115d470 (fun h57 => ?_) (fun h57 => ?_)
    · refine Z_iconst (n := 0) dX5_part_38 ?_
      refine J_istore_n dX5_part_39 rfl (Nat.le_of_ble_eq_true rfl) rfl ?_
      refine J_ls (ls2 := [some (.ref 54), some (.int (zI 4)), some (.int (zI 0)), none]) rfl ?_
      refine J_aload_n dX5_part_40 rfl rfl ?_
      refine J_get (v := .int (zI tk)) dX5_part_41 fl_X5_19 hk54 rfl ?_
      refine Z_bipush (n := 7) dX5_part_44 (by decide +kernel) ?_
      refine Z_icmp_lt (tgt := 62) dX5_part_46 (by decide) (v_96bf6f782e q2 q3) v_c3fe1a091f (fun h58 => ?_) (fun h58 => ?_)
      · refine Z_iconst (n := 0) dX5_part_62 ?_
        refine J_istore_n dX5_part_63 rfl (Nat.le_of_ble_eq_true rfl) rfl ?_
        refine J_ls (ls2 := [some (.ref 54), some (.int (zI 4)), some (.int (zI 0)), some (.int (zI 0))]) rfl ?_
        refine J_iload_n dX5_part_64 rfl rfl ?_
        refine Z_if_ne (tgt := 72) dX5_part_65 (by decide) v_b17331891f (fun h59 => absurd h59 (fun q => q v_2ca2bbca1f)) (fun h59 => ?_)
        refine J_iload_n dX5_part_68 rfl rfl ?_
        refine Z_if_eq (tgt := 81) dX5_part_69 (by decide) v_b17331891f (fun h60 => ?_) (fun h60 => absurd h60 (fun q => q v_2ca2bbca1f))
        refine J_aload_n dX5_part_81 rfl rfl ?_
        refine J_callV (st := []) dX5_part_82 cv_X5_54 (d_wrong ln tk st bh va pa fl sz q4 (v_1adcfdfee5 q1 q5 q6) hk54) hk54 rfl rfl (Nat.le_of_ble_eq_true rfl) ⟨(Nat.le_of_ble_eq_true rfl), (Nat.le_of_ble_eq_true rfl)⟩ ⟨(Nat.le_of_ble_eq_true rfl), (Nat.le_of_ble_eq_true rfl)⟩ (fun r h9 hp => ?_)
        obtain ⟨rfl, rfl⟩ := hp
        refine J_nf (nh2 := nh) (ck2 := 0) (sk2 := 0) (st2 := [.int (zI 0)]) rfl rfl rfl rfl ?_
        refine J_app (L3 := [(54, .inr (5, [.ref 55, .int (zI ln), .int (zI tk), .int (zI st), .int (zI bh), .int (zI va), .int (zI pa), .int (zI st), .ref 56, .int (zI sz)]))]) rfl ?_
        refine J_touch (k := 56) (e := .inl (0, 412, .inl (zA cd))) hk56 ?_
        refine J_touch (k := 54) (e := .inr (5, [.ref 55, .int (zI ln), .int (zI tk), .int (zI st), .int (zI bh), .int (zI va), .int (zI pa), .int (zI st), .ref 56, .int (zI sz)])) rfl ?_
        refine J_mask (L2 := [(54, .inr (5, [.ref 55, .int (zI ln), .int (zI tk), .int (zI st), .int (zI bh), .int (zI va), .int (zI pa), .int (zI st), .ref 56, .int (zI sz)])), (56, .inl (0, 412, .inl (zA cd)))]) (ks := [54, 56, 54]) [true, true, false] rfl (by decide +kernel) rfl ?_
        exact J_iret dX5_part_85 rfl (jbn v_939070ca3f v_316afd7d0b) (Nat.le_of_ble_eq_true rfl) (Nat.le_of_ble_eq_true rfl) (Or.inr ⟨tk, st, bh, va, pa, sz, cd, st, ti, rfl, rfl, q2, q3, q4, q5, q6, q7, q8, q9, q10, q12, q13, q14, q16, q4, (v_1adcfdfee5 q1 q5 q6), ((TkX.s q17)), (PaR.w (fun w => absurd ((TkX.sg q17 (v := 191) (by decide)).mp w) (v_2e180fcab9 h58)) (fun w => by have u := (TkX.lf q17).mp w.1; have u0 := h2; have u1 := h57; have u2 := h58; omega))⟩)
      · refine J_aload_n dX5_part_49 rfl rfl ?_
        refine J_get (v := .int (zI tk)) dX5_part_50 fl_X5_19 hk54 rfl ?_
        refine Z_bipush (n := 14) dX5_part_53 (by decide +kernel) ?_
        refine Z_icmp_gt (tgt := 62) dX5_part_55 (by decide) (v_e33259c014 q3 h58) v_2a4719925a (fun h61 => ?_) (fun h61 => ?_)
        · refine Z_iconst (n := 0) dX5_part_62 ?_
          refine J_istore_n dX5_part_63 rfl (Nat.le_of_ble_eq_true rfl) rfl ?_
          refine J_ls (ls2 := [some (.ref 54), some (.int (zI 4)), some (.int (zI 0)), some (.int (zI 0))]) rfl ?_
          refine J_iload_n dX5_part_64 rfl rfl ?_
          refine Z_if_ne (tgt := 72) dX5_part_65 (by decide) v_b17331891f (fun h62 => absurd h62 (fun q => q v_2ca2bbca1f)) (fun h62 => ?_)
          refine J_iload_n dX5_part_68 rfl rfl ?_
          refine Z_if_eq (tgt := 81) dX5_part_69 (by decide) v_b17331891f (fun h63 => ?_) (fun h63 => absurd h63 (fun q => q v_2ca2bbca1f))
          refine J_aload_n dX5_part_81 rfl rfl ?_
          refine J_callV (st := []) dX5_part_82 cv_X5_54 (d_wrong ln tk st bh va pa fl sz q4 (v_1adcfdfee5 q1 q5 q6) hk54) hk54 rfl rfl (Nat.le_of_ble_eq_true rfl) ⟨(Nat.le_of_ble_eq_true rfl), (Nat.le_of_ble_eq_true rfl)⟩ ⟨(Nat.le_of_ble_eq_true rfl), (Nat.le_of_ble_eq_true rfl)⟩ (fun r h9 hp => ?_)
          obtain ⟨rfl, rfl⟩ := hp
          refine J_nf (nh2 := nh) (ck2 := 0) (sk2 := 0) (st2 := [.int (zI 0)]) rfl rfl rfl rfl ?_
          refine J_app (L3 := [(54, .inr (5, [.ref 55, .int (zI ln), .int (zI tk), .int (zI st), .int (zI bh), .int (zI va), .int (zI pa), .int (zI st), .ref 56, .int (zI sz)]))]) rfl ?_
          refine J_touch (k := 56) (e := .inl (0, 412, .inl (zA cd))) hk56 ?_
          refine J_touch (k := 54) (e := .inr (5, [.ref 55, .int (zI ln), .int (zI tk), .int (zI st), .int (zI bh), .int (zI va), .int (zI pa), .int (zI st), .ref 56, .int (zI sz)])) rfl ?_
          refine J_mask (L2 := [(54, .inr (5, [.ref 55, .int (zI ln), .int (zI tk), .int (zI st), .int (zI bh), .int (zI va), .int (zI pa), .int (zI st), .ref 56, .int (zI sz)])), (56, .inl (0, 412, .inl (zA cd)))]) (ks := [54, 56, 54]) [true, true, false] rfl (by decide +kernel) rfl ?_
          exact J_iret dX5_part_85 rfl (jbn v_939070ca3f v_316afd7d0b) (Nat.le_of_ble_eq_true rfl) (Nat.le_of_ble_eq_true rfl) (Or.inr ⟨tk, st, bh, va, pa, sz, cd, st, ti, rfl, rfl, q2, q3, q4, q5, q6, q7, q8, q9, q10, q12, q13, q14, q16, q4, (v_1adcfdfee5 q1 q5 q6), ((TkX.s q17)), (PaR.w (fun w => absurd ((TkX.sg q17 (v := 191) (by decide)).mp w) (v_9327ef7f5d h2)) (fun w => by have u := (TkX.lf q17).mp w.1; have u0 := h2; have u1 := h57; have u2 := h58; have u3 := h61; omega))⟩)
        · refine Z_iconst (n := 1) dX5_part_58 ?_
          refine J_goto (tgt := 63) dX5_part_59 (by decide) ?_
          refine J_istore_n dX5_part_63 rfl (Nat.le_of_ble_eq_true rfl) rfl ?_
          refine J_ls (ls2 := [some (.ref 54), some (.int (zI 4)), some (.int (zI 0)), some (.int (zI 1))]) rfl ?_
          refine J_iload_n dX5_part_64 rfl rfl ?_
          refine Z_if_ne (tgt := 72) dX5_part_65 (by decide) v_b17331891f (fun h64 => absurd h64 (fun q => q v_2ca2bbca1f)) (fun h64 => ?_)
          refine J_iload_n dX5_part_68 rfl rfl ?_
          refine Z_if_eq (tgt := 81) dX5_part_69 (by decide) v_4dcc24baa7 (fun h65 => absurd h65 v_3a47bfd896) (fun h65 => ?_)
          refine J_aload_n dX5_part_72 rfl rfl ?_
          refine J_get (v := .int (zI pa)) dX5_part_73 fl_X5_31 hk54 rfl ?_
          refine Z_bipush (n := 50) dX5_part_76 (by decide +kernel) ?_
          refine Z_icmp_lt (tgt := 86) dX5_part_78 (by decide) (v_196348439e q9 q10) v_e1e0ea2c24 (fun h66 => ?_) (fun h66 => ?_)
          · refine J_aload_n dX5_part_86 rfl rfl ?_
            refine J_dup dX5_part_87 rfl ?_
            refine J_get (v := .int (zI pa)) dX5_part_88 fl_X5_31 hk54 rfl ?_
            refine Z_iconst (n := 1) dX5_part_91 ?_
            refine Z_iadd (c := pa + 1) dX5_part_92 rfl ?_
            refine K_put (fs2 := [.ref 55, .int (zI ln), .int (zI tk), .int (zI st), .int (zI bh), .int (zI va), .int (zI (pa + 1)), .int (zI fl), .ref 56, .int (zI sz)]) dX5_part_93 fw_X5_31 hk54 (Nat.le_of_ble_eq_true rfl) (fun _ => ⟨rfl, rfl⟩) rfl ?_
            refine J_iload_n dX5_part_96 rfl rfl ?_
            refine Z_if_eq (tgt := 113) dX5_part_97 (by decide) v_b17331891f (fun h67 => ?_) (fun h67 => absurd h67 (fun q => q v_2ca2bbca1f))
            refine J_aload_n dX5_part_113 rfl rfl ?_
            refine Z_iconst (n := 1) dX5_part_114 ?_
            refine J_aload_n dX5_part_115 rfl rfl ?_
            refine J_get (v := .int (zI tk)) dX5_part_116 fl_X5_19 rfl rfl ?_
            refine Z_bipush (n := 7) dX5_part_119 (by decide +kernel) ?_
            refine Z_isub (c := tk - 7) dX5_part_121 rfl ?_
            refine J_callV (st := []) dX5_part_122 cv_X5_72 (d_emit 1 (tk - 7) ln tk st bh va (pa + 1) fl sz cd v_4dcc24baa7 (v_2b807321aa h58 h61) q12 q13 q16 rfl hk56) rfl rfl rfl (Nat.le_of_ble_eq_true rfl) ⟨(Nat.le_of_ble_eq_true rfl), (Nat.le_of_ble_eq_true rfl)⟩ ⟨(Nat.le_of_ble_eq_true rfl), (Nat.le_of_ble_eq_true rfl)⟩ (fun r h9 hp => ?_)
            obtain ⟨z68, f69, rfl, rfl, h70, h71, h72, h73, h74⟩ := hp
            refine J_nf (nh2 := nh) (ck2 := 0) (sk2 := 0) (st2 := [.int (zI sz)]) rfl rfl rfl rfl ?_
            refine J_app (L3 := [(54, .inr (5, [.ref 55, .int (zI ln), .int (zI tk), .int (zI st), .int (zI bh), .int (zI va), .int (zI (pa + 1)), .int (zI fl), .ref 56, .int (zI z68)])), (56, .inl (0, 412, .inl (zA f69))), (54, .inr (5, [.ref 55, .int (zI ln), .int (zI tk), .int (zI st), .int (zI bh), .int (zI va), .int (zI (pa + 1)), .int (zI fl), .ref 56, .int (zI sz)]))]) rfl ?_
            refine J_mask (L2 := [(54, .inr (5, [.ref 55, .int (zI ln), .int (zI tk), .int (zI st), .int (zI bh), .int (zI va), .int (zI (pa + 1)), .int (zI fl), .ref 56, .int (zI z68)])), (56, .inl (0, 412, .inl (zA f69)))]) (ks := [54, 56, 54]) [true, true, false] rfl (by decide +kernel) rfl ?_
            refine J_pop dX5_part_125 rfl ?_
            refine J_aload_n dX5_part_126 rfl rfl ?_
            have g75 := TokL.lt q14 (v_b0bfd58e62 h61)
            refine J_callV (st := []) dX5_part_127 cv_X5_43 (d_advance (ti + 1) ln tk st bh va (pa + 1) fl z68 tp q0 q1 (v_d253cb2c59 q4 g75) q6 q7 q8 q15 (TkX.ps q17 (v_2b02420001 q18)) rfl hk55) rfl rfl rfl (Nat.le_of_ble_eq_true rfl) ⟨(Nat.le_of_ble_eq_true rfl), (Nat.le_of_ble_eq_true rfl)⟩ ⟨(Nat.le_of_ble_eq_true rfl), (Nat.le_of_ble_eq_true rfl)⟩ (fun r h9 hp => ?_)
            obtain ⟨z76, z77, z78, z79, rfl, rfl, h80, h81, h82, h83, h84, h85, h86, h87, h88⟩ := hp
            refine J_nf (nh2 := nh) (ck2 := 0) (sk2 := 0) (st2 := []) rfl rfl rfl rfl ?_
            refine J_app (L3 := [(54, .inr (5, [.ref 55, .int (zI ln), .int (zI z76), .int (zI z77), .int (zI z78), .int (zI z79), .int (zI (pa + 1)), .int (zI fl), .ref 56, .int (zI z68)])), (54, .inr (5, [.ref 55, .int (zI ln), .int (zI tk), .int (zI st), .int (zI bh), .int (zI va), .int (zI (pa + 1)), .int (zI fl), .ref 56, .int (zI z68)])), (56, .inl (0, 412, .inl (zA f69)))]) rfl ?_
            refine J_mask (L2 := [(54, .inr (5, [.ref 55, .int (zI ln), .int (zI z76), .int (zI z77), .int (zI z78), .int (zI z79), .int (zI (pa + 1)), .int (zI fl), .ref 56, .int (zI z68)])), (56, .inl (0, 412, .inl (zA f69)))]) (ks := [54, 54, 56]) [true, false, true] rfl (by decide +kernel) rfl ?_
            refine Z_iconst (n := 1) dX5_part_130 ?_
            exact J_iret dX5_part_131 rfl (jbn v_316afd7d0b v_bbcfac9b7d) (Nat.le_of_ble_eq_true rfl) (Nat.le_of_ble_eq_true rfl) (Or.inl ⟨z76, z77, z78, z79, (pa + 1), z68, f69, (ti + 1), rfl, rfl, h80, h81, (v_9b2e2070a2 q4 g75 h82), h83, h84, h85, h86, (v_da458fa48a q9), (v_dc0d6dc503 h66), h70, h71, h87, h74, (v_37ad0bc16a h73 g75 h82), (v_016485883e g75 h82), h88, (v_da458fa48a q18), (PaR.y (fun w => absurd ((TkX.sg q17 (v := 191) (by decide)).mp w) (v_9d80ef7c91 h61)) ((TkX.lf q17).mpr (Or.inr ⟨(v_14fb5ed6b5 h58), (v_fd1ff53b5c h61)⟩)) (v_ba201db0a2 h66))⟩)
          · refine J_aload_n dX5_part_81 rfl rfl ?_
            refine J_callV (st := []) dX5_part_82 cv_X5_54 (d_wrong ln tk st bh va pa fl sz q4 (v_1adcfdfee5 q1 q5 q6) hk54) hk54 rfl rfl (Nat.le_of_ble_eq_true rfl) ⟨(Nat.le_of_ble_eq_true rfl), (Nat.le_of_ble_eq_true rfl)⟩ ⟨(Nat.le_of_ble_eq_true rfl), (Nat.le_of_ble_eq_true rfl)⟩ (fun r h9 hp => ?_)
            obtain ⟨rfl, rfl⟩ := hp
            refine J_nf (nh2 := nh) (ck2 := 0) (sk2 := 0) (st2 := [.int (zI 0)]) rfl rfl rfl rfl ?_
            refine J_app (L3 := [(54, .inr (5, [.ref 55, .int (zI ln), .int (zI tk), .int (zI st), .int (zI bh), .int (zI va), .int (zI pa), .int (zI st), .ref 56, .int (zI sz)]))]) rfl ?_
            refine J_touch (k := 56) (e := .inl (0, 412, .inl (zA cd))) hk56 ?_
            refine J_touch (k := 54) (e := .inr (5, [.ref 55, .int (zI ln), .int (zI tk), .int (zI st), .int (zI bh), .int (zI va), .int (zI pa), .int (zI st), .ref 56, .int (zI sz)])) rfl ?_
            refine J_mask (L2 := [(54, .inr (5, [.ref 55, .int (zI ln), .int (zI tk), .int (zI st), .int (zI bh), .int (zI va), .int (zI pa), .int (zI st), .ref 56, .int (zI sz)])), (56, .inl (0, 412, .inl (zA cd)))]) (ks := [54, 56, 54]) [true, true, false] rfl (by decide +kernel) rfl ?_
            exact J_iret dX5_part_85 rfl (jbn v_939070ca3f v_316afd7d0b) (Nat.le_of_ble_eq_true rfl) (Nat.le_of_ble_eq_true rfl) (Or.inr ⟨tk, st, bh, va, pa, sz, cd, st, ti, rfl, rfl, q2, q3, q4, q5, q6, q7, q8, q9, q10, q12, q13, q14, q16, q4, (v_1adcfdfee5 q1 q5 q6), ((TkX.s q17)), (PaR.w (fun w => absurd ((TkX.sg q17 (v := 191) (by decide)).mp w) (v_9d80ef7c91 h61)) (fun w => absurd w.2 (v_6f05a3a39a h66)))⟩)
    · refine J_aload_n dX5_part_24 rfl rfl ?_
      refine J_get (v := .int (zI va)) dX5_part_25 fl_X5_28 hk54 rfl ?_
      refine Z_sipush (n := 1000) dX5_part_28 (by decide +kernel) ?_
      refine Z_icmp_gt (tgt := 38) dX5_part_31 (by decide) (v_c986789e97 q7 q8) v_822edaa202 (fun h89 => ?_) (fun h89 => ?_)
      · refine Z_iconst (n := 0) dX5_part_38 ?_
        refine J_istore_n dX5_part_39 rfl (Nat.le_of_ble_eq_true rfl) rfl ?_
        refine J_ls (ls2 := [some (.ref 54), some (.int (zI 4)), some (.int (zI 0)), none]) rfl ?_
        refine J_aload_n dX5_part_40 rfl rfl ?_
        refine J_get (v := .int (zI tk)) dX5_part_41 fl_X5_19 hk54 rfl ?_
        refine Z_bipush (n := 7) dX5_part_44 (by decide +kernel) ?_
        refine Z_icmp_lt (tgt := 62) dX5_part_46 (by decide) (v_87f911991b h57) v_c3fe1a091f (fun h90 => absurd h90 (v_a610ec54f4 h57)) (fun h90 => ?_)
        refine J_aload_n dX5_part_49 rfl rfl ?_
        refine J_get (v := .int (zI tk)) dX5_part_50 fl_X5_19 hk54 rfl ?_
        refine Z_bipush (n := 14) dX5_part_53 (by decide +kernel) ?_
        refine Z_icmp_gt (tgt := 62) dX5_part_55 (by decide) (v_87f911991b h57) v_2a4719925a (fun h91 => ?_) (fun h91 => absurd h91 (fun q => q (v_8a408c96ed h57)))
        refine Z_iconst (n := 0) dX5_part_62 ?_
        refine J_istore_n dX5_part_63 rfl (Nat.le_of_ble_eq_true rfl) rfl ?_
        refine J_ls (ls2 := [some (.ref 54), some (.int (zI 4)), some (.int (zI 0)), some (.int (zI 0))]) rfl ?_
        refine J_iload_n dX5_part_64 rfl rfl ?_
        refine Z_if_ne (tgt := 72) dX5_part_65 (by decide) v_b17331891f (fun h92 => absurd h92 (fun q => q v_2ca2bbca1f)) (fun h92 => ?_)
        refine J_iload_n dX5_part_68 rfl rfl ?_
        refine Z_if_eq (tgt := 81) dX5_part_69 (by decide) v_b17331891f (fun h93 => ?_) (fun h93 => absurd h93 (fun q => q v_2ca2bbca1f))
        refine J_aload_n dX5_part_81 rfl rfl ?_
        refine J_callV (st := []) dX5_part_82 cv_X5_54 (d_wrong ln tk st bh va pa fl sz q4 (v_1adcfdfee5 q1 q5 q6) hk54) hk54 rfl rfl (Nat.le_of_ble_eq_true rfl) ⟨(Nat.le_of_ble_eq_true rfl), (Nat.le_of_ble_eq_true rfl)⟩ ⟨(Nat.le_of_ble_eq_true rfl), (Nat.le_of_ble_eq_true rfl)⟩ (fun r h9 hp => ?_)
        obtain ⟨rfl, rfl⟩ := hp
        refine J_nf (nh2 := nh) (ck2 := 0) (sk2 := 0) (st2 := [.int (zI 0)]) rfl rfl rfl rfl ?_
        refine J_app (L3 := [(54, .inr (5, [.ref 55, .int (zI ln), .int (zI tk), .int (zI st), .int (zI bh), .int (zI va), .int (zI pa), .int (zI st), .ref 56, .int (zI sz)]))]) rfl ?_
        refine J_touch (k := 56) (e := .inl (0, 412, .inl (zA cd))) hk56 ?_
        refine J_touch (k := 54) (e := .inr (5, [.ref 55, .int (zI ln), .int (zI tk), .int (zI st), .int (zI bh), .int (zI va), .int (zI pa), .int (zI st), .ref 56, .int (zI sz)])) rfl ?_
        refine J_mask (L2 := [(54, .inr (5, [.ref 55, .int (zI ln), .int (zI tk), .int (zI st), .int (zI bh), .int (zI va), .int (zI pa), .int (zI st), .ref 56, .int (zI sz)])), (56, .inl (0, 412, .inl (zA cd)))]) (ks := [54, 56, 54]) [true, true, false] rfl (by decide +kernel) rfl ?_
        exact J_iret dX5_part_85 rfl (jbn v_939070ca3f v_316afd7d0b) (Nat.le_of_ble_eq_true rfl) (Nat.le_of_ble_eq_true rfl) (Or.inr ⟨tk, st, bh, va, pa, sz, cd, st, ti, rfl, rfl, q2, q3, q4, q5, q6, q7, q8, q9, q10, q12, q13, q14, q16, q4, (v_1adcfdfee5 q1 q5 q6), ((TkX.s q17)), (PaR.w (fun w => absurd ((TkX.sg q17 (v := 191) (by decide)).mp w) (v_ba43a80476 h57)) (fun w => by have u := (TkX.lf q17).mp w.1; have u0 := h2; have u1 := h57; have u2 := h89; have u3 := h90; have u4 := h91; omega))⟩)
      · refine Z_iconst (n := 1) dX5_part_34 ?_
        refine J_goto (tgt := 39) dX5_part_35 (by decide) ?_
        refine J_istore_n dX5_part_39 rfl (Nat.le_of_ble_eq_true rfl) rfl ?_
        refine J_ls (ls2 := [some (.ref 54), some (.int (zI 4)), some (.int (zI 1)), none]) rfl ?_
        refine J_aload_n dX5_part_40 rfl rfl ?_
        refine J_get (v := .int (zI tk)) dX5_part_41 fl_X5_19 hk54 rfl ?_
        refine Z_bipush (n := 7) dX5_part_44 (by decide +kernel) ?_
        refine Z_icmp_lt (tgt := 62) dX5_part_46 (by decide) (v_87f911991b h57) v_c3fe1a091f (fun h94 => absurd h94 (v_a610ec54f4 h57)) (fun h94 => ?_)
        refine J_aload_n dX5_part_49 rfl rfl ?_
        refine J_get (v := .int (zI tk)) dX5_part_50 fl_X5_19 hk54 rfl ?_
        refine Z_bipush (n := 14) dX5_part_53 (by decide +kernel) ?_
        refine Z_icmp_gt (tgt := 62) dX5_part_55 (by decide) (v_87f911991b h57) v_2a4719925a (fun h95 => ?_) (fun h95 => absurd h95 (fun q => q (v_8a408c96ed h57)))
        refine Z_iconst (n := 0) dX5_part_62 ?_
        refine J_istore_n dX5_part_63 rfl (Nat.le_of_ble_eq_true rfl) rfl ?_
        refine J_ls (ls2 := [some (.ref 54), some (.int (zI 4)), some (.int (zI 1)), some (.int (zI 0))]) rfl ?_
        refine J_iload_n dX5_part_64 rfl rfl ?_
        refine Z_if_ne (tgt := 72) dX5_part_65 (by decide) v_4dcc24baa7 (fun h96 => ?_) (fun h96 => absurd h96 v_3a47bfd896)
        refine J_aload_n dX5_part_72 rfl rfl ?_
        refine J_get (v := .int (zI pa)) dX5_part_73 fl_X5_31 hk54 rfl ?_
        refine Z_bipush (n := 50) dX5_part_76 (by decide +kernel) ?_
        refine Z_icmp_lt (tgt := 86) dX5_part_78 (by decide) (v_196348439e q9 q10) v_e1e0ea2c24 (fun h97 => ?_) (fun h97 => ?_)
        · refine J_aload_n dX5_part_86 rfl rfl ?_
          refine J_dup dX5_part_87 rfl ?_
          refine J_get (v := .int (zI pa)) dX5_part_88 fl_X5_31 hk54 rfl ?_
          refine Z_iconst (n := 1) dX5_part_91 ?_
          refine Z_iadd (c := pa + 1) dX5_part_92 rfl ?_
          refine K_put (fs2 := [.ref 55, .int (zI ln), .int (zI tk), .int (zI st), .int (zI bh), .int (zI va), .int (zI (pa + 1)), .int (zI fl), .ref 56, .int (zI sz)]) dX5_part_93 fw_X5_31 hk54 (Nat.le_of_ble_eq_true rfl) (fun _ => ⟨rfl, rfl⟩) rfl ?_
          refine J_iload_n dX5_part_96 rfl rfl ?_
          refine Z_if_eq (tgt := 113) dX5_part_97 (by decide) v_4dcc24baa7 (fun h98 => absurd h98 v_3a47bfd896) (fun h98 => ?_)
          refine J_aload_n dX5_part_100 rfl rfl ?_
          refine Z_iconst (n := 0) dX5_part_101 ?_
          refine J_aload_n dX5_part_102 rfl rfl ?_
          refine J_get (v := .int (zI va)) dX5_part_103 fl_X5_28 rfl rfl ?_
          refine J_callV (st := []) dX5_part_106 cv_X5_72 (d_emit 0 va ln tk st bh va (pa + 1) fl sz cd v_b17331891f (v_3f1e82a223 q7 h89) q12 q13 q16 rfl hk56) rfl rfl rfl (Nat.le_of_ble_eq_true rfl) ⟨(Nat.le_of_ble_eq_true rfl), (Nat.le_of_ble_eq_true rfl)⟩ ⟨(Nat.le_of_ble_eq_true rfl), (Nat.le_of_ble_eq_true rfl)⟩ (fun r h9 hp => ?_)
          obtain ⟨z99, f100, rfl, rfl, h101, h102, h103, h104, h105⟩ := hp
          refine J_nf (nh2 := nh) (ck2 := 0) (sk2 := 0) (st2 := [.int (zI sz)]) rfl rfl rfl rfl ?_
          refine J_app (L3 := [(54, .inr (5, [.ref 55, .int (zI ln), .int (zI tk), .int (zI st), .int (zI bh), .int (zI va), .int (zI (pa + 1)), .int (zI fl), .ref 56, .int (zI z99)])), (56, .inl (0, 412, .inl (zA f100))), (54, .inr (5, [.ref 55, .int (zI ln), .int (zI tk), .int (zI st), .int (zI bh), .int (zI va), .int (zI (pa + 1)), .int (zI fl), .ref 56, .int (zI sz)]))]) rfl ?_
          refine J_mask (L2 := [(54, .inr (5, [.ref 55, .int (zI ln), .int (zI tk), .int (zI st), .int (zI bh), .int (zI va), .int (zI (pa + 1)), .int (zI fl), .ref 56, .int (zI z99)])), (56, .inl (0, 412, .inl (zA f100)))]) (ks := [54, 56, 54]) [true, true, false] rfl (by decide +kernel) rfl ?_
          refine J_pop dX5_part_109 rfl ?_
          refine J_goto (tgt := 126) dX5_part_110 (by decide) ?_
          refine J_aload_n dX5_part_126 rfl rfl ?_
          have g106 := TokL.lt q14 (v_842fc1ac99 h57)
          refine J_callV (st := []) dX5_part_127 cv_X5_43 (d_advance (ti + 1) ln tk st bh va (pa + 1) fl z99 tp q0 q1 (v_d253cb2c59 q4 g106) q6 q7 q8 q15 (TkX.ps q17 (v_2b02420001 q18)) rfl hk55) rfl rfl rfl (Nat.le_of_ble_eq_true rfl) ⟨(Nat.le_of_ble_eq_true rfl), (Nat.le_of_ble_eq_true rfl)⟩ ⟨(Nat.le_of_ble_eq_true rfl), (Nat.le_of_ble_eq_true rfl)⟩ (fun r h9 hp => ?_)
          obtain ⟨z107, z108, z109, z110, rfl, rfl, h111, h112, h113, h114, h115, h116, h117, h118, h119⟩ := hp
          refine J_nf (nh2 := nh) (ck2 := 0) (sk2 := 0) (st2 := []) rfl rfl rfl rfl ?_
          refine J_app (L3 := [(54, .inr (5, [.ref 55, .int (zI ln), .int (zI z107), .int (zI z108), .int (zI z109), .int (zI z110), .int (zI (pa + 1)), .int (zI fl), .ref 56, .int (zI z99)])), (54, .inr (5, [.ref 55, .int (zI ln), .int (zI tk), .int (zI st), .int (zI bh), .int (zI va), .int (zI (pa + 1)), .int (zI fl), .ref 56, .int (zI z99)])), (56, .inl (0, 412, .inl (zA f100)))]) rfl ?_
          refine J_mask (L2 := [(54, .inr (5, [.ref 55, .int (zI ln), .int (zI z107), .int (zI z108), .int (zI z109), .int (zI z110), .int (zI (pa + 1)), .int (zI fl), .ref 56, .int (zI z99)])), (56, .inl (0, 412, .inl (zA f100)))]) (ks := [54, 54, 56]) [true, false, true] rfl (by decide +kernel) rfl ?_
          refine Z_iconst (n := 1) dX5_part_130 ?_
          exact J_iret dX5_part_131 rfl (jbn v_316afd7d0b v_bbcfac9b7d) (Nat.le_of_ble_eq_true rfl) (Nat.le_of_ble_eq_true rfl) (Or.inl ⟨z107, z108, z109, z110, (pa + 1), z99, f100, (ti + 1), rfl, rfl, h111, h112, (v_9b2e2070a2 q4 g106 h113), h114, h115, h116, h117, (v_da458fa48a q9), (v_dc0d6dc503 h97), h101, h102, h118, h105, (v_37ad0bc16a h104 g106 h113), (v_016485883e g106 h113), h119, (v_da458fa48a q18), (PaR.y (fun w => absurd ((TkX.sg q17 (v := 191) (by decide)).mp w) (v_ba43a80476 h57)) ((TkX.lf q17).mpr (Or.inl ⟨(v_c5b5cc5484 h57), (v_34f25c0213 h89)⟩)) (v_ba201db0a2 h97))⟩)
        · refine J_aload_n dX5_part_81 rfl rfl ?_
          refine J_callV (st := []) dX5_part_82 cv_X5_54 (d_wrong ln tk st bh va pa fl sz q4 (v_1adcfdfee5 q1 q5 q6) hk54) hk54 rfl rfl (Nat.le_of_ble_eq_true rfl) ⟨(Nat.le_of_ble_eq_true rfl), (Nat.le_of_ble_eq_true rfl)⟩ ⟨(Nat.le_of_ble_eq_true rfl), (Nat.le_of_ble_eq_true rfl)⟩ (fun r h9 hp => ?_)
          obtain ⟨rfl, rfl⟩ := hp
          refine J_nf (nh2 := nh) (ck2 := 0) (sk2 := 0) (st2 := [.int (zI 0)]) rfl rfl rfl rfl ?_
          refine J_app (L3 := [(54, .inr (5, [.ref 55, .int (zI ln), .int (zI tk), .int (zI st), .int (zI bh), .int (zI va), .int (zI pa), .int (zI st), .ref 56, .int (zI sz)]))]) rfl ?_
          refine J_touch (k := 56) (e := .inl (0, 412, .inl (zA cd))) hk56 ?_
          refine J_touch (k := 54) (e := .inr (5, [.ref 55, .int (zI ln), .int (zI tk), .int (zI st), .int (zI bh), .int (zI va), .int (zI pa), .int (zI st), .ref 56, .int (zI sz)])) rfl ?_
          refine J_mask (L2 := [(54, .inr (5, [.ref 55, .int (zI ln), .int (zI tk), .int (zI st), .int (zI bh), .int (zI va), .int (zI pa), .int (zI st), .ref 56, .int (zI sz)])), (56, .inl (0, 412, .inl (zA cd)))]) (ks := [54, 56, 54]) [true, true, false] rfl (by decide +kernel) rfl ?_
          exact J_iret dX5_part_85 rfl (jbn v_939070ca3f v_316afd7d0b) (Nat.le_of_ble_eq_true rfl) (Nat.le_of_ble_eq_true rfl) (Or.inr ⟨tk, st, bh, va, pa, sz, cd, st, ti, rfl, rfl, q2, q3, q4, q5, q6, q7, q8, q9, q10, q12, q13, q14, q16, q4, (v_1adcfdfee5 q1 q5 q6), ((TkX.s q17)), (PaR.w (fun w => absurd ((TkX.sg q17 (v := 191) (by decide)).mp w) (v_ba43a80476 h57)) (fun w => absurd w.2 (v_6f05a3a39a h97)))⟩)
set_option maxHeartbeats 4000000 in
set_option maxRecDepth 100000 in
theorem d_term4 {l : Launch} {G : jG} {nh : Nat} {fh : Nat → Option va_E} (ln : Int) (tk : Int) (st : Int) (bh : Int) (va : Int) (pa : Int) (fl : Int) (sz : Int) (tp : Int → Int) (cd : Int → Int) (ti : Int) (q0 : 0 ≤ ln) (q1 : ln ≤ 400) (q2 : 0 ≤ tk) (q3 : tk ≤ 355) (q4 : 0 ≤ st) (q5 : st ≤ bh) (q6 : bh ≤ ln) (q7 : 0 ≤ va) (q8 : va ≤ 1001) (q9 : 0 ≤ pa) (q10 : pa ≤ 50) (q11 : zr fl) (q12 : 0 ≤ sz) (q13 : sz ≤ 412) (q14 : TokL tk st bh) (q15 : Rg tp 400 0 255) (q16 : Rg cd 412 (-2147483648) 2147483647) (q17 : TkX tp ln ti tk st bh va) (q18 : 0 ≤ ti) (hk54 : fh 54 = some (.inr (5, [.ref 55, .int (zI ln), .int (zI tk), .int (zI st), .int (zI bh), .int (zI va), .int (zI pa), .int (zI fl), .ref 56, .int (zI sz)]))) (hk55 : fh 55 = some (.inl (0, 400, .inl (zA tp)))) (hk56 : fh 56 = some (.inl (0, 412, .inl (zA cd)))) : JM l G yX5_term MX5_term { frames := 23, cells := 0, slots := 0, locals := 513 } [.ref 54, .int (zI 4)] (nh, fh) (fun rr h9 => (∃ tk2 : Int, ∃ st2 : Int, ∃ bh2 : Int, ∃ va2 : Int, ∃ pa2 : Int, ∃ sz2 : Int, ∃ cd2 : Int → Int, ∃ ti2 : Int, rr = some (.int (zI 1)) ∧ h9 = (nh, hc fh [(54, .inr (5, [.ref 55, .int (zI ln), .int (zI tk2), .int (zI st2), .int (zI bh2), .int (zI va2), .int (zI pa2), .int (zI fl), .ref 56, .int (zI sz2)])), (56, .inl (0, 412, .inl (zA cd2)))]) ∧ (0 ≤ tk2) ∧ (tk2 ≤ 355) ∧ (0 ≤ st2) ∧ (st2 ≤ bh2) ∧ (bh2 ≤ ln) ∧ (0 ≤ va2) ∧ (va2 ≤ 1001) ∧ (0 ≤ pa2) ∧ (pa2 ≤ 50) ∧ (0 ≤ sz2) ∧ (sz2 ≤ 412) ∧ (TokL tk2 st2 bh2) ∧ (Rg cd2 412 (-2147483648) 2147483647) ∧ (sz2 + st ≤ sz + st2) ∧ (st ≤ st2) ∧ (TkX tp ln ti2 tk2 st2 bh2 va2) ∧ (0 ≤ ti2) ∧ (TmR (CTk tp ln) (LF tp ln) 4 ti pa 1 ti2 pa2)) ∨ (∃ tk2 : Int, ∃ st2 : Int, ∃ bh2 : Int, ∃ va2 : Int, ∃ pa2 : Int, ∃ sz2 : Int, ∃ cd2 : Int → Int, ∃ fl2 : Int, ∃ ti2 : Int, rr = some (.int (zI 0)) ∧ h9 = (nh, hc fh [(54, .inr (5, [.ref 55, .int (zI ln), .int (zI tk2), .int (zI st2), .int (zI bh2), .int (zI va2), .int (zI pa2), .int (zI fl2), .ref 56, .int (zI sz2)])), (56, .inl (0, 412, .inl (zA cd2)))]) ∧ (0 ≤ tk2) ∧ (tk2 ≤ 355) ∧ (0 ≤ st2) ∧ (st2 ≤ bh2) ∧ (bh2 ≤ ln) ∧ (0 ≤ va2) ∧ (va2 ≤ 1001) ∧ (0 ≤ pa2) ∧ (pa2 ≤ 50) ∧ (0 ≤ sz2) ∧ (sz2 ≤ 412) ∧ (TokL tk2 st2 bh2) ∧ (Rg cd2 412 (-2147483648) 2147483647) ∧ (0 ≤ fl2) ∧ (fl2 ≤ 400) ∧ (FlX tp ln ti2 fl2) ∧ (TmR (CTk tp ln) (LF tp ln) 4 ti pa 0 ti2 0))) := by
  refine JM.of (by decide) rfl (fun h => by cases h) (Nat.le_of_ble_eq_true rfl) ⟨2, rfl⟩ ?_
  refine J_hc0 (J_ls (ls2 := [some (.ref 54), some (.int (zI 4)), none, none]) rfl ?_)
  refine J_aload_n dX5_term_0 rfl rfl ?_
  refine J_iload_n dX5_term_1 rfl rfl ?_
  refine J_callV (st := []) dX5_term_2 cv_X5_92 (d_part4 ln tk st bh va pa fl sz tp cd ti q0 q1 q2 q3 q4 q5 q6 q7 q8 q9 q10 q11 q12 q13 q14 q15 q16 q17 q18 hk54 hk55 hk56) hk54 rfl rfl (Nat.le_of_ble_eq_true rfl) ⟨(Nat.le_of_ble_eq_true rfl), (Nat.le_of_ble_eq_true rfl)⟩ ⟨(Nat.le_of_ble_eq_true rfl), (Nat.le_of_ble_eq_true rfl)⟩ (fun r h9 hp => ?_)
  rcases hp with ⟨z1, z2, z3, z4, z5, z6, f7, z8, rfl, rfl, h9, h10, h11, h12, h13, h14, h15, h16, h17, h18, h19, h20, h21, h22, h23, h24, h25, h26⟩ | ⟨z27, z28, z29, z30, z31, z32, f33, z34, z35, rfl, rfl, h36, h37, h38, h39, h40, h41, h42, h43, h44, h45, h46, h47, h48, h49, h50, h51, h52⟩
  · refine J_nf (nh2 := nh) (ck2 := 0) (sk2 := 0) (st2 := [.int (zI 1)]) rfl rfl rfl rfl ?_
    refine J_app (L3 := [(54, .inr (5, [.ref 55, .int (zI ln), .int (zI z1), .int (zI z2), .int (zI z3), .int (zI z4), .int (zI z5), .int (zI fl), .ref 56, .int (zI z6)])), (56, .inl (0, 412, .inl (zA f7)))]) rfl ?_
    refine Z_if_ne (tgt := 10) dX5_term_5 (by decide) v_4dcc24baa7 (fun h53 => ?_) (fun h53 => absurd h53 v_3a47bfd896)
    refine Z_iconst (n := 0) dX5_term_10 ?_
    refine J_istore_n dX5_term_11 rfl (Nat.le_of_ble_eq_true rfl) rfl ?_
    refine J_ls (ls2 := [some (.ref 54), some (.int (zI 4)), some (.int (zI 0)), none]) rfl ?_
    have lp12 : ∀ (N12 : Nat) (i_12 : Int) (tx_12 : Int) (sx_12 : Int) (bx_12 : Int) (vx_12 : Int) (px_12 : Int) (zx_12 : Int) (cx_12 : Int → Int) (ti_12 : Int), (0 ≤ i_12) → (i_12 ≤ 400) → (zx_12 + st ≤ sz + sx_12) → (st ≤ sx_12) → (0 ≤ tx_12) → (tx_12 ≤ 355) → (0 ≤ sx_12) → (sx_12 ≤ bx_12) → (bx_12 ≤ ln) → (0 ≤ vx_12) → (vx_12 ≤ 1001) → (TokL tx_12 sx_12 bx_12) → (Rg cx_12 412 (-2147483648) 2147483647) → (0 ≤ zx_12) → (zx_12 ≤ 412) → (0 ≤ px_12) → (px_12 ≤ 50) → (st + i_12 ≤ sx_12) → (TkX tp ln ti_12 tx_12 sx_12 bx_12 vx_12) → (0 ≤ ti_12) → (SeP (PtR (CTk tp ln) (LF tp ln) 4) opM (CTk tp ln) ti pa ti_12 px_12) → (400 - i_12).toNat < N12 → J l G MX5_term { frames := 23, cells := 0, slots := 0, locals := 513 } jE (jMQ G { frames := 23, cells := 0, slots := 0, locals := 513 } (fun rr h9 => (∃ tk2 : Int, ∃ st2 : Int, ∃ bh2 : Int, ∃ va2 : Int, ∃ pa2 : Int, ∃ sz2 : Int, ∃ cd2 : Int → Int, ∃ ti2 : Int, rr = some (.int (zI 1)) ∧ h9 = (nh, hc fh [(54, .inr (5, [.ref 55, .int (zI ln), .int (zI tk2), .int (zI st2), .int (zI bh2), .int (zI va2), .int (zI pa2), .int (zI fl), .ref 56, .int (zI sz2)])), (56, .inl (0, 412, .inl (zA cd2)))]) ∧ (0 ≤ tk2) ∧ (tk2 ≤ 355) ∧ (0 ≤ st2) ∧ (st2 ≤ bh2) ∧ (bh2 ≤ ln) ∧ (0 ≤ va2) ∧ (va2 ≤ 1001) ∧ (0 ≤ pa2) ∧ (pa2 ≤ 50) ∧ (0 ≤ sz2) ∧ (sz2 ≤ 412) ∧ (TokL tk2 st2 bh2) ∧ (Rg cd2 412 (-2147483648) 2147483647) ∧ (sz2 + st ≤ sz + st2) ∧ (st ≤ st2) ∧ (TkX tp ln ti2 tk2 st2 bh2 va2) ∧ (0 ≤ ti2) ∧ (TmR (CTk tp ln) (LF tp ln) 4 ti pa 1 ti2 pa2)) ∨ (∃ tk2 : Int, ∃ st2 : Int, ∃ bh2 : Int, ∃ va2 : Int, ∃ pa2 : Int, ∃ sz2 : Int, ∃ cd2 : Int → Int, ∃ fl2 : Int, ∃ ti2 : Int, rr = some (.int (zI 0)) ∧ h9 = (nh, hc fh [(54, .inr (5, [.ref 55, .int (zI ln), .int (zI tk2), .int (zI st2), .int (zI bh2), .int (zI va2), .int (zI pa2), .int (zI fl2), .ref 56, .int (zI sz2)])), (56, .inl (0, 412, .inl (zA cd2)))]) ∧ (0 ≤ tk2) ∧ (tk2 ≤ 355) ∧ (0 ≤ st2) ∧ (st2 ≤ bh2) ∧ (bh2 ≤ ln) ∧ (0 ≤ va2) ∧ (va2 ≤ 1001) ∧ (0 ≤ pa2) ∧ (pa2 ≤ 50) ∧ (0 ≤ sz2) ∧ (sz2 ≤ 412) ∧ (TokL tk2 st2 bh2) ∧ (Rg cd2 412 (-2147483648) 2147483647) ∧ (0 ≤ fl2) ∧ (fl2 ≤ 400) ∧ (FlX tp ln ti2 fl2) ∧ (TmR (CTk tp ln) (LF tp ln) 4 ti pa 0 ti2 0)))) (nh, hc fh [(54, .inr (5, [.ref 55, .int (zI ln), .int (zI tx_12), .int (zI sx_12), .int (zI bx_12), .int (zI vx_12), .int (zI px_12), .int (zI fl), .ref 56, .int (zI zx_12)])), (56, .inl (0, 412, .inl (zA cx_12)))]) 0 0 12 [some (.ref 54), some (.int (zI 4)), some (.int (zI i_12)), none] [] := by
      intro N12
      induction N12 with
      | zero => intro i_12 tx_12 sx_12 bx_12 vx_12 px_12 zx_12 cx_12 ti_12 i12_0 i12_1 i12_2 i12_3 i12_4 i12_5 i12_6 i12_7 i12_8 i12_9 i12_10 i12_11 i12_12 i12_13 i12_14 i12_15 i12_16 i12_17 i12_18 i12_19 i12_20 hm; exact absurd hm (Nat.not_lt_zero _)
      | succ N12 ih12 =>
        intro i_12 tx_12 sx_12 bx_12 vx_12 px_12 zx_12 cx_12 ti_12 i12_0 i12_1 i12_2 i12_3 i12_4 i12_5 i12_6 i12_7 i12_8 i12_9 i12_10 i12_11 i12_12 i12_13 i12_14 i12_15 i12_16 i12_17 i12_18 i12_19 i12_20 hm12
        refine J_iload_n dX5_term_12 rfl rfl ?_
        refine Z_sipush (n := 400) dX5_term_13 (by decide +kernel) ?_
        refine Z_icmp_ge (tgt := 79) dX5_term_16 (by decide) (v_d7389cde0f i12_0 i12_1) v_d8dcd4dd52 (fun h54 => ?_) (fun h54 => ?_)
        · have g55 : tx_12 = 17 := TkX.lo i12_18 (v_96ef693267 q1 q4 i12_7 i12_8 i12_17 h54)
          refine Z_iconst (n := 1) dX5_term_79 ?_
          exact J_iret dX5_term_80 rfl (jbn v_316afd7d0b v_bbcfac9b7d) (Nat.le_of_ble_eq_true rfl) (Nat.le_of_ble_eq_true rfl) (Or.inl ⟨tx_12, sx_12, bx_12, vx_12, px_12, zx_12, cx_12, ti_12, rfl, rfl, i12_4, i12_5, i12_6, i12_7, i12_8, i12_9, i12_10, i12_15, i12_16, i12_13, i12_14, i12_11, i12_12, i12_2, i12_3, i12_18, i12_19, (SeP.end i12_20 (fun w => Or.elim w (fun w => absurd ((TkX.sg i12_18 (v := 142) (by decide)).mp w) (v_d9c44388fb g55)) (fun w => absurd ((TkX.sg i12_18 (v := 147) (by decide)).mp w) (v_33dade03bd g55))))⟩)
        · refine J_aload_n dX5_term_19 rfl rfl ?_
          refine Z_bipush (n := 42) dX5_term_20 (by decide +kernel) ?_
          refine J_callV (st := []) dX5_term_22 cv_X5_50 (d_isSign 42 ln tx_12 sx_12 bx_12 vx_12 px_12 fl zx_12 v_19b0ad2cd1 v_1f79c0c2c4 i12_4 i12_5 rfl) rfl rfl rfl (Nat.le_of_ble_eq_true rfl) ⟨(Nat.le_of_ble_eq_true rfl), (Nat.le_of_ble_eq_true rfl)⟩ ⟨(Nat.le_of_ble_eq_true rfl), (Nat.le_of_ble_eq_true rfl)⟩ (fun r h9 hp => ?_)
          rcases hp with ⟨rfl, rfl, h56⟩ | ⟨rfl, rfl, h57⟩
          · refine J_nf (nh2 := nh) (ck2 := 0) (sk2 := 0) (st2 := [.int (zI 1)]) rfl rfl rfl rfl ?_
            refine Z_if_ne (tgt := 37) dX5_term_25 (by decide) v_4dcc24baa7 (fun h58 => ?_) (fun h58 => absurd h58 v_3a47bfd896)
            refine J_aload_n dX5_term_37 rfl rfl ?_
            refine Z_bipush (n := 42) dX5_term_38 (by decide +kernel) ?_
            refine J_callV (st := []) dX5_term_40 cv_X5_50 (d_isSign 42 ln tx_12 sx_12 bx_12 vx_12 px_12 fl zx_12 v_19b0ad2cd1 v_1f79c0c2c4 i12_4 i12_5 rfl) rfl rfl rfl (Nat.le_of_ble_eq_true rfl) ⟨(Nat.le_of_ble_eq_true rfl), (Nat.le_of_ble_eq_true rfl)⟩ ⟨(Nat.le_of_ble_eq_true rfl), (Nat.le_of_ble_eq_true rfl)⟩ (fun r h9 hp => ?_)
            rcases hp with ⟨rfl, rfl, h59⟩ | ⟨rfl, rfl, h60⟩
            · refine J_nf (nh2 := nh) (ck2 := 0) (sk2 := 0) (st2 := [.int (zI 1)]) rfl rfl rfl rfl ?_
              refine Z_if_eq (tgt := 50) dX5_term_43 (by decide) v_4dcc24baa7 (fun h61 => absurd h61 v_3a47bfd896) (fun h61 => ?_)
              refine Z_iconst (n := 4) dX5_term_46 ?_
              refine J_goto (tgt := 51) dX5_term_47 (by decide) ?_
              refine J_istore_n dX5_term_51 rfl (Nat.le_of_ble_eq_true rfl) rfl ?_
              refine J_ls (ls2 := [some (.ref 54), some (.int (zI 4)), some (.int (zI i_12)), some (.int (zI 4))]) rfl ?_
              refine J_aload_n dX5_term_52 rfl rfl ?_
              have g62 := TokL.lt i12_11 (v_4a9f236eb2 h56)
              refine J_callV (st := []) dX5_term_53 cv_X5_43 (d_advance (ti_12 + 1) ln tx_12 sx_12 bx_12 vx_12 px_12 fl zx_12 tp q0 q1 (v_d253cb2c59 i12_6 g62) i12_8 i12_9 i12_10 q15 (TkX.ps i12_18 (v_2b02420001 i12_19)) rfl hk55) rfl rfl rfl (Nat.le_of_ble_eq_true rfl) ⟨(Nat.le_of_ble_eq_true rfl), (Nat.le_of_ble_eq_true rfl)⟩ ⟨(Nat.le_of_ble_eq_true rfl), (Nat.le_of_ble_eq_true rfl)⟩ (fun r h9 hp => ?_)
              obtain ⟨z63, z64, z65, z66, rfl, rfl, h67, h68, h69, h70, h71, h72, h73, h74, h75⟩ := hp
              refine J_nf (nh2 := nh) (ck2 := 0) (sk2 := 0) (st2 := []) rfl rfl rfl rfl ?_
              refine J_app (L3 := [(54, .inr (5, [.ref 55, .int (zI ln), .int (zI z63), .int (zI z64), .int (zI z65), .int (zI z66), .int (zI px_12), .int (zI fl), .ref 56, .int (zI zx_12)])), (54, .inr (5, [.ref 55, .int (zI ln), .int (zI tx_12), .int (zI sx_12), .int (zI bx_12), .int (zI vx_12), .int (zI px_12), .int (zI fl), .ref 56, .int (zI zx_12)])), (56, .inl (0, 412, .inl (zA cx_12)))]) rfl ?_
              refine J_mask (L2 := [(54, .inr (5, [.ref 55, .int (zI ln), .int (zI z63), .int (zI z64), .int (zI z65), .int (zI z66), .int (zI px_12), .int (zI fl), .ref 56, .int (zI zx_12)])), (56, .inl (0, 412, .inl (zA cx_12)))]) (ks := [54, 54, 56]) [true, false, true] rfl (by decide +kernel) rfl ?_
              refine J_aload_n dX5_term_56 rfl rfl ?_
              refine J_iload_n dX5_term_57 rfl rfl ?_
              refine J_callV (st := []) dX5_term_58 cv_X5_92 (d_part4 ln z63 z64 z65 z66 px_12 fl zx_12 tp cx_12 (ti_12 + 1) q0 q1 h67 h68 (v_9b2e2070a2 i12_6 g62 h69) h70 h71 h72 h73 i12_15 i12_16 q11 i12_13 i12_14 h74 q15 i12_12 h75 (v_da458fa48a i12_19) rfl hk55 rfl) rfl rfl rfl (Nat.le_of_ble_eq_true rfl) ⟨(Nat.le_of_ble_eq_true rfl), (Nat.le_of_ble_eq_true rfl)⟩ ⟨(Nat.le_of_ble_eq_true rfl), (Nat.le_of_ble_eq_true rfl)⟩ (fun r h9 hp => ?_)
              rcases hp with ⟨z76, z77, z78, z79, z80, z81, f82, z83, rfl, rfl, h84, h85, h86, h87, h88, h89, h90, h91, h92, h93, h94, h95, h96, h97, h98, h99, h100, h101⟩ | ⟨z102, z103, z104, z105, z106, z107, f108, z109, z110, rfl, rfl, h111, h112, h113, h114, h115, h116, h117, h118, h119, h120, h121, h122, h123, h124, h125, h126, h127⟩
              · refine J_nf (nh2 := nh) (ck2 := 0) (sk2 := 0) (st2 := [.int (zI 1)]) rfl rfl rfl rfl ?_
                refine J_app (L3 := [(54, .inr (5, [.ref 55, .int (zI ln), .int (zI z76), .int (zI z77), .int (zI z78), .int (zI z79), .int (zI z80), .int (zI fl), .ref 56, .int (zI z81)])), (56, .inl (0, 412, .inl (zA f82))), (54, .inr (5, [.ref 55, .int (zI ln), .int (zI z63), .int (zI z64), .int (zI z65), .int (zI z66), .int (zI px_12), .int (zI fl), .ref 56, .int (zI zx_12)])), (56, .inl (0, 412, .inl (zA cx_12)))]) rfl ?_
                refine J_mask (L2 := [(54, .inr (5, [.ref 55, .int (zI ln), .int (zI z76), .int (zI z77), .int (zI z78), .int (zI z79), .int (zI z80), .int (zI fl), .ref 56, .int (zI z81)])), (56, .inl (0, 412, .inl (zA f82)))]) (ks := [54, 56, 54, 56]) [true, true, false, false] rfl (by decide +kernel) rfl ?_
                refine Z_if_ne (tgt := 66) dX5_term_61 (by decide) v_4dcc24baa7 (fun h128 => ?_) (fun h128 => absurd h128 v_3a47bfd896)
                refine J_aload_n dX5_term_66 rfl rfl ?_
                refine J_iload_n dX5_term_67 rfl rfl ?_
                refine Z_iconst (n := 0) dX5_term_68 ?_
                refine J_callV (st := []) dX5_term_69 cv_X5_72 (d_emit 4 0 ln z76 z77 z78 z79 z80 fl z81 f82 v_ffb526fa28 v_b17331891f h93 h94 h96 rfl rfl) rfl rfl rfl (Nat.le_of_ble_eq_true rfl) ⟨(Nat.le_of_ble_eq_true rfl), (Nat.le_of_ble_eq_true rfl)⟩ ⟨(Nat.le_of_ble_eq_true rfl), (Nat.le_of_ble_eq_true rfl)⟩ (fun r h9 hp => ?_)
                obtain ⟨z129, f130, rfl, rfl, h131, h132, h133, h134, h135⟩ := hp
                refine J_nf (nh2 := nh) (ck2 := 0) (sk2 := 0) (st2 := [.int (zI z81)]) rfl rfl rfl rfl ?_
                refine J_app (L3 := [(54, .inr (5, [.ref 55, .int (zI ln), .int (zI z76), .int (zI z77), .int (zI z78), .int (zI z79), .int (zI z80), .int (zI fl), .ref 56, .int (zI z129)])), (56, .inl (0, 412, .inl (zA f130))), (54, .inr (5, [.ref 55, .int (zI ln), .int (zI z76), .int (zI z77), .int (zI z78), .int (zI z79), .int (zI z80), .int (zI fl), .ref 56, .int (zI z81)])), (56, .inl (0, 412, .inl (zA f82)))]) rfl ?_
                refine J_mask (L2 := [(54, .inr (5, [.ref 55, .int (zI ln), .int (zI z76), .int (zI z77), .int (zI z78), .int (zI z79), .int (zI z80), .int (zI fl), .ref 56, .int (zI z129)])), (56, .inl (0, 412, .inl (zA f130)))]) (ks := [54, 56, 54, 56]) [true, true, false, false] rfl (by decide +kernel) rfl ?_
                refine J_pop dX5_term_72 rfl ?_
                refine Z_iinc (c := i_12 + 1) (ls2 := [some (.ref 54), some (.int (zI 4)), some (.int (zI (i_12 + 1))), some (.int (zI 4))]) dX5_term_73 rfl (Nat.le_of_ble_eq_true rfl) rfl rfl rfl ?_
                refine J_goto (tgt := 12) dX5_term_76 (by decide) ?_
                refine J_drop (ls2 := [some (.ref 54), some (.int (zI 4)), some (.int (zI (i_12 + 1))), none]) [true, true, true, false] rfl ?_
                exact ih12 (i_12 + 1) z76 z77 z78 z79 z80 z129 f130 z83 (v_da458fa48a i12_0) (v_6924477667 h54) (v_5af1455273 i12_2 g62 h69 h97 h134) (v_269579bf42 i12_3 g62 h69 h98) h84 h85 h86 h87 h88 h89 h90 h95 h135 h131 h132 h91 h92 (v_974edc800f i12_17 g62 h69 h98) h99 h100 (SeP.add i12_20 (Or.inl ((TkX.sg i12_18 (v := 142) (by decide)).mpr (v_1500549be1 h56))) h101) (meas_lt v_ceb2ed6d2b (v_44ddc35e90 h54) hm12)
              · refine J_nf (nh2 := nh) (ck2 := 0) (sk2 := 0) (st2 := [.int (zI 0)]) rfl rfl rfl rfl ?_
                refine J_app (L3 := [(54, .inr (5, [.ref 55, .int (zI ln), .int (zI z102), .int (zI z103), .int (zI z104), .int (zI z105), .int (zI z106), .int (zI z109), .ref 56, .int (zI z107)])), (56, .inl (0, 412, .inl (zA f108))), (54, .inr (5, [.ref 55, .int (zI ln), .int (zI z63), .int (zI z64), .int (zI z65), .int (zI z66), .int (zI px_12), .int (zI fl), .ref 56, .int (zI zx_12)])), (56, .inl (0, 412, .inl (zA cx_12)))]) rfl ?_
                refine J_mask (L2 := [(54, .inr (5, [.ref 55, .int (zI ln), .int (zI z102), .int (zI z103), .int (zI z104), .int (zI z105), .int (zI z106), .int (zI z109), .ref 56, .int (zI z107)])), (56, .inl (0, 412, .inl (zA f108)))]) (ks := [54, 56, 54, 56]) [true, true, false, false] rfl (by decide +kernel) rfl ?_
                refine Z_if_ne (tgt := 66) dX5_term_61 (by decide) v_b17331891f (fun h136 => absurd h136 (fun q => q v_2ca2bbca1f)) (fun h136 => ?_)
                refine Z_iconst (n := 0) dX5_term_64 ?_
                exact J_iret dX5_term_65 rfl (jbn v_939070ca3f v_316afd7d0b) (Nat.le_of_ble_eq_true rfl) (Nat.le_of_ble_eq_true rfl) (Or.inr ⟨z102, z103, z104, z105, z106, z107, f108, z109, z110, rfl, rfl, h111, h112, h113, h114, h115, h116, h117, h118, h119, h120, h121, h122, h123, h124, h125, (h126), (SeP.bad i12_20 (Or.inl ((TkX.sg i12_18 (v := 142) (by decide)).mpr (v_1500549be1 h56))) h127)⟩)
            · exact False.elim (v_dc1247e06b h56 h60)
          · refine J_nf (nh2 := nh) (ck2 := 0) (sk2 := 0) (st2 := [.int (zI 0)]) rfl rfl rfl rfl ?_
            refine Z_if_ne (tgt := 37) dX5_term_25 (by decide) v_b17331891f (fun h137 => absurd h137 (fun q => q v_2ca2bbca1f)) (fun h137 => ?_)
            refine J_aload_n dX5_term_28 rfl rfl ?_
            refine Z_bipush (n := 47) dX5_term_29 (by decide +kernel) ?_
            refine J_callV (st := []) dX5_term_31 cv_X5_50 (d_isSign 47 ln tx_12 sx_12 bx_12 vx_12 px_12 fl zx_12 v_a2835897db v_8710bb8462 i12_4 i12_5 rfl) rfl rfl rfl (Nat.le_of_ble_eq_true rfl) ⟨(Nat.le_of_ble_eq_true rfl), (Nat.le_of_ble_eq_true rfl)⟩ ⟨(Nat.le_of_ble_eq_true rfl), (Nat.le_of_ble_eq_true rfl)⟩ (fun r h9 hp => ?_)
            rcases hp with ⟨rfl, rfl, h138⟩ | ⟨rfl, rfl, h139⟩
            · refine J_nf (nh2 := nh) (ck2 := 0) (sk2 := 0) (st2 := [.int (zI 1)]) rfl rfl rfl rfl ?_
              refine Z_if_eq (tgt := 79) dX5_term_34 (by decide) v_4dcc24baa7 (fun h140 => absurd h140 v_3a47bfd896) (fun h140 => ?_)
              refine J_aload_n dX5_term_37 rfl rfl ?_
              refine Z_bipush (n := 42) dX5_term_38 (by decide +kernel) ?_
              refine J_callV (st := []) dX5_term_40 cv_X5_50 (d_isSign 42 ln tx_12 sx_12 bx_12 vx_12 px_12 fl zx_12 v_19b0ad2cd1 v_1f79c0c2c4 i12_4 i12_5 rfl) rfl rfl rfl (Nat.le_of_ble_eq_true rfl) ⟨(Nat.le_of_ble_eq_true rfl), (Nat.le_of_ble_eq_true rfl)⟩ ⟨(Nat.le_of_ble_eq_true rfl), (Nat.le_of_ble_eq_true rfl)⟩ (fun r h9 hp => ?_)
              rcases hp with ⟨rfl, rfl, h141⟩ | ⟨rfl, rfl, h142⟩
              · exact False.elim (v_4c7f0d169f h138 h141)
              · refine J_nf (nh2 := nh) (ck2 := 0) (sk2 := 0) (st2 := [.int (zI 0)]) rfl rfl rfl rfl ?_
                refine Z_if_eq (tgt := 50) dX5_term_43 (by decide) v_b17331891f (fun h143 => ?_) (fun h143 => absurd h143 (fun q => q v_2ca2bbca1f))
                refine Z_iconst (n := 5) dX5_term_50 ?_
                refine J_istore_n dX5_term_51 rfl (Nat.le_of_ble_eq_true rfl) rfl ?_
                refine J_ls (ls2 := [some (.ref 54), some (.int (zI 4)), some (.int (zI i_12)), some (.int (zI 5))]) rfl ?_
                refine J_aload_n dX5_term_52 rfl rfl ?_
                have g144 := TokL.lt i12_11 (v_6abada17c7 h138)
                refine J_callV (st := []) dX5_term_53 cv_X5_43 (d_advance (ti_12 + 1) ln tx_12 sx_12 bx_12 vx_12 px_12 fl zx_12 tp q0 q1 (v_d253cb2c59 i12_6 g144) i12_8 i12_9 i12_10 q15 (TkX.ps i12_18 (v_2b02420001 i12_19)) rfl hk55) rfl rfl rfl (Nat.le_of_ble_eq_true rfl) ⟨(Nat.le_of_ble_eq_true rfl), (Nat.le_of_ble_eq_true rfl)⟩ ⟨(Nat.le_of_ble_eq_true rfl), (Nat.le_of_ble_eq_true rfl)⟩ (fun r h9 hp => ?_)
                obtain ⟨z145, z146, z147, z148, rfl, rfl, h149, h150, h151, h152, h153, h154, h155, h156, h157⟩ := hp
                refine J_nf (nh2 := nh) (ck2 := 0) (sk2 := 0) (st2 := []) rfl rfl rfl rfl ?_
                refine J_app (L3 := [(54, .inr (5, [.ref 55, .int (zI ln), .int (zI z145), .int (zI z146), .int (zI z147), .int (zI z148), .int (zI px_12), .int (zI fl), .ref 56, .int (zI zx_12)])), (54, .inr (5, [.ref 55, .int (zI ln), .int (zI tx_12), .int (zI sx_12), .int (zI bx_12), .int (zI vx_12), .int (zI px_12), .int (zI fl), .ref 56, .int (zI zx_12)])), (56, .inl (0, 412, .inl (zA cx_12)))]) rfl ?_
                refine J_mask (L2 := [(54, .inr (5, [.ref 55, .int (zI ln), .int (zI z145), .int (zI z146), .int (zI z147), .int (zI z148), .int (zI px_12), .int (zI fl), .ref 56, .int (zI zx_12)])), (56, .inl (0, 412, .inl (zA cx_12)))]) (ks := [54, 54, 56]) [true, false, true] rfl (by decide +kernel) rfl ?_
                refine J_aload_n dX5_term_56 rfl rfl ?_
                refine J_iload_n dX5_term_57 rfl rfl ?_
                refine J_callV (st := []) dX5_term_58 cv_X5_92 (d_part4 ln z145 z146 z147 z148 px_12 fl zx_12 tp cx_12 (ti_12 + 1) q0 q1 h149 h150 (v_9b2e2070a2 i12_6 g144 h151) h152 h153 h154 h155 i12_15 i12_16 q11 i12_13 i12_14 h156 q15 i12_12 h157 (v_da458fa48a i12_19) rfl hk55 rfl) rfl rfl rfl (Nat.le_of_ble_eq_true rfl) ⟨(Nat.le_of_ble_eq_true rfl), (Nat.le_of_ble_eq_true rfl)⟩ ⟨(Nat.le_of_ble_eq_true rfl), (Nat.le_of_ble_eq_true rfl)⟩ (fun r h9 hp => ?_)
                rcases hp with ⟨z158, z159, z160, z161, z162, z163, f164, z165, rfl, rfl, h166, h167, h168, h169, h170, h171, h172, h173, h174, h175, h176, h177, h178, h179, h180, h181, h182, h183⟩ | ⟨z184, z185, z186, z187, z188, z189, f190, z191, z192, rfl, rfl, h193, h194, h195, h196, h197, h198, h199, h200, h201, h202, h203, h204, h205, h206, h207, h208, h209⟩
                · refine J_nf (nh2 := nh) (ck2 := 0) (sk2 := 0) (st2 := [.int (zI 1)]) rfl rfl rfl rfl ?_
                  refine J_app (L3 := [(54, .inr (5, [.ref 55, .int (zI ln), .int (zI z158), .int (zI z159), .int (zI z160), .int (zI z161), .int (zI z162), .int (zI fl), .ref 56, .int (zI z163)])), (56, .inl (0, 412, .inl (zA f164))), (54, .inr (5, [.ref 55, .int (zI ln), .int (zI z145), .int (zI z146), .int (zI z147), .int (zI z148), .int (zI px_12), .int (zI fl), .ref 56, .int (zI zx_12)])), (56, .inl (0, 412, .inl (zA cx_12)))]) rfl ?_
                  refine J_mask (L2 := [(54, .inr (5, [.ref 55, .int (zI ln), .int (zI z158), .int (zI z159), .int (zI z160), .int (zI z161), .int (zI z162), .int (zI fl), .ref 56, .int (zI z163)])), (56, .inl (0, 412, .inl (zA f164)))]) (ks := [54, 56, 54, 56]) [true, true, false, false] rfl (by decide +kernel) rfl ?_
                  refine Z_if_ne (tgt := 66) dX5_term_61 (by decide) v_4dcc24baa7 (fun h210 => ?_) (fun h210 => absurd h210 v_3a47bfd896)
                  refine J_aload_n dX5_term_66 rfl rfl ?_
                  refine J_iload_n dX5_term_67 rfl rfl ?_
                  refine Z_iconst (n := 0) dX5_term_68 ?_
                  refine J_callV (st := []) dX5_term_69 cv_X5_72 (d_emit 5 0 ln z158 z159 z160 z161 z162 fl z163 f164 v_3961fe0d0d v_b17331891f h175 h176 h178 rfl rfl) rfl rfl rfl (Nat.le_of_ble_eq_true rfl) ⟨(Nat.le_of_ble_eq_true rfl), (Nat.le_of_ble_eq_true rfl)⟩ ⟨(Nat.le_of_ble_eq_true rfl), (Nat.le_of_ble_eq_true rfl)⟩ (fun r h9 hp => ?_)
                  obtain ⟨z211, f212, rfl, rfl, h213, h214, h215, h216, h217⟩ := hp
                  refine J_nf (nh2 := nh) (ck2 := 0) (sk2 := 0) (st2 := [.int (zI z163)]) rfl rfl rfl rfl ?_
                  refine J_app (L3 := [(54, .inr (5, [.ref 55, .int (zI ln), .int (zI z158), .int (zI z159), .int (zI z160), .int (zI z161), .int (zI z162), .int (zI fl), .ref 56, .int (zI z211)])), (56, .inl (0, 412, .inl (zA f212))), (54, .inr (5, [.ref 55, .int (zI ln), .int (zI z158), .int (zI z159), .int (zI z160), .int (zI z161), .int (zI z162), .int (zI fl), .ref 56, .int (zI z163)])), (56, .inl (0, 412, .inl (zA f164)))]) rfl ?_
                  refine J_mask (L2 := [(54, .inr (5, [.ref 55, .int (zI ln), .int (zI z158), .int (zI z159), .int (zI z160), .int (zI z161), .int (zI z162), .int (zI fl), .ref 56, .int (zI z211)])), (56, .inl (0, 412, .inl (zA f212)))]) (ks := [54, 56, 54, 56]) [true, true, false, false] rfl (by decide +kernel) rfl ?_
                  refine J_pop dX5_term_72 rfl ?_
                  refine Z_iinc (c := i_12 + 1) (ls2 := [some (.ref 54), some (.int (zI 4)), some (.int (zI (i_12 + 1))), some (.int (zI 5))]) dX5_term_73 rfl (Nat.le_of_ble_eq_true rfl) rfl rfl rfl ?_
                  refine J_goto (tgt := 12) dX5_term_76 (by decide) ?_
                  refine J_drop (ls2 := [some (.ref 54), some (.int (zI 4)), some (.int (zI (i_12 + 1))), none]) [true, true, true, false] rfl ?_
                  exact ih12 (i_12 + 1) z158 z159 z160 z161 z162 z211 f212 z165 (v_da458fa48a i12_0) (v_6924477667 h54) (v_5af1455273 i12_2 g144 h151 h179 h216) (v_269579bf42 i12_3 g144 h151 h180) h166 h167 h168 h169 h170 h171 h172 h177 h217 h213 h214 h173 h174 (v_974edc800f i12_17 g144 h151 h180) h181 h182 (SeP.add i12_20 (Or.inr ((TkX.sg i12_18 (v := 147) (by decide)).mpr (v_963e78d969 h138))) h183) (meas_lt v_ceb2ed6d2b (v_44ddc35e90 h54) hm12)
                · refine J_nf (nh2 := nh) (ck2 := 0) (sk2 := 0) (st2 := [.int (zI 0)]) rfl rfl rfl rfl ?_
                  refine J_app (L3 := [(54, .inr (5, [.ref 55, .int (zI ln), .int (zI z184), .int (zI z185), .int (zI z186), .int (zI z187), .int (zI z188), .int (zI z191), .ref 56, .int (zI z189)])), (56, .inl (0, 412, .inl (zA f190))), (54, .inr (5, [.ref 55, .int (zI ln), .int (zI z145), .int (zI z146), .int (zI z147), .int (zI z148), .int (zI px_12), .int (zI fl), .ref 56, .int (zI zx_12)])), (56, .inl (0, 412, .inl (zA cx_12)))]) rfl ?_
                  refine J_mask (L2 := [(54, .inr (5, [.ref 55, .int (zI ln), .int (zI z184), .int (zI z185), .int (zI z186), .int (zI z187), .int (zI z188), .int (zI z191), .ref 56, .int (zI z189)])), (56, .inl (0, 412, .inl (zA f190)))]) (ks := [54, 56, 54, 56]) [true, true, false, false] rfl (by decide +kernel) rfl ?_
                  refine Z_if_ne (tgt := 66) dX5_term_61 (by decide) v_b17331891f (fun h218 => absurd h218 (fun q => q v_2ca2bbca1f)) (fun h218 => ?_)
                  refine Z_iconst (n := 0) dX5_term_64 ?_
                  exact J_iret dX5_term_65 rfl (jbn v_939070ca3f v_316afd7d0b) (Nat.le_of_ble_eq_true rfl) (Nat.le_of_ble_eq_true rfl) (Or.inr ⟨z184, z185, z186, z187, z188, z189, f190, z191, z192, rfl, rfl, h193, h194, h195, h196, h197, h198, h199, h200, h201, h202, h203, h204, h205, h206, h207, (h208), (SeP.bad i12_20 (Or.inr ((TkX.sg i12_18 (v := 147) (by decide)).mpr (v_963e78d969 h138))) h209)⟩)
            · refine J_nf (nh2 := nh) (ck2 := 0) (sk2 := 0) (st2 := [.int (zI 0)]) rfl rfl rfl rfl ?_
              refine Z_if_eq (tgt := 79) dX5_term_34 (by decide) v_b17331891f (fun h219 => ?_) (fun h219 => absurd h219 (fun q => q v_2ca2bbca1f))
              refine Z_iconst (n := 1) dX5_term_79 ?_
              exact J_iret dX5_term_80 rfl (jbn v_316afd7d0b v_bbcfac9b7d) (Nat.le_of_ble_eq_true rfl) (Nat.le_of_ble_eq_true rfl) (Or.inl ⟨tx_12, sx_12, bx_12, vx_12, px_12, zx_12, cx_12, ti_12, rfl, rfl, i12_4, i12_5, i12_6, i12_7, i12_8, i12_9, i12_10, i12_15, i12_16, i12_13, i12_14, i12_11, i12_12, i12_2, i12_3, i12_18, i12_19, (SeP.end i12_20 (fun w => Or.elim w (fun w => absurd ((TkX.sg i12_18 (v := 142) (by decide)).mp w) (v_bfc3241138 h57)) (fun w => absurd ((TkX.sg i12_18 (v := 147) (by decide)).mp w) (v_446b74d554 h139))))⟩)
    exact lp12 _ 0 z1 z2 z3 z4 z5 z6 f7 z8 v_939070ca3f v_5ab96f7b5e h22 h23 h9 h10 h11 h12 h13 h14 h15 h20 h21 h18 h19 h16 h17 (v_3c1faf939c h23) h24 h25 (SeP.one h26) (Nat.lt_succ_self _)
  · refine J_nf (nh2 := nh) (ck2 := 0) (sk2 := 0) (st2 := [.int (zI 0)]) rfl rfl rfl rfl ?_
    refine J_app (L3 := [(54, .inr (5, [.ref 55, .int (zI ln), .int (zI z27), .int (zI z28), .int (zI z29), .int (zI z30), .int (zI z31), .int (zI z34), .ref 56, .int (zI z32)])), (56, .inl (0, 412, .inl (zA f33)))]) rfl ?_
    refine Z_if_ne (tgt := 10) dX5_term_5 (by decide) v_b17331891f (fun h220 => absurd h220 (fun q => q v_2ca2bbca1f)) (fun h220 => ?_)
    refine Z_iconst (n := 0) dX5_term_8 ?_
    exact J_iret dX5_term_9 rfl (jbn v_939070ca3f v_316afd7d0b) (Nat.le_of_ble_eq_true rfl) (Nat.le_of_ble_eq_true rfl) (Or.inr ⟨z27, z28, z29, z30, z31, z32, f33, z34, z35, rfl, rfl, h36, h37, h38, h39, h40, h41, h42, h43, h44, h45, h46, h47, h48, h49, h50, (h51), (SeR.b h52)⟩)
set_option maxHeartbeats 4000000 in
set_option maxRecDepth 100000 in
theorem d_sum4 {l : Launch} {G : jG} {nh : Nat} {fh : Nat → Option va_E} (ln : Int) (tk : Int) (st : Int) (bh : Int) (va : Int) (pa : Int) (fl : Int) (sz : Int) (tp : Int → Int) (cd : Int → Int) (ti : Int) (q0 : 0 ≤ ln) (q1 : ln ≤ 400) (q2 : 0 ≤ tk) (q3 : tk ≤ 355) (q4 : 0 ≤ st) (q5 : st ≤ bh) (q6 : bh ≤ ln) (q7 : 0 ≤ va) (q8 : va ≤ 1001) (q9 : 0 ≤ pa) (q10 : pa ≤ 50) (q11 : zr fl) (q12 : 0 ≤ sz) (q13 : sz ≤ 412) (q14 : TokL tk st bh) (q15 : Rg tp 400 0 255) (q16 : Rg cd 412 (-2147483648) 2147483647) (q17 : TkX tp ln ti tk st bh va) (q18 : 0 ≤ ti) (hk54 : fh 54 = some (.inr (5, [.ref 55, .int (zI ln), .int (zI tk), .int (zI st), .int (zI bh), .int (zI va), .int (zI pa), .int (zI fl), .ref 56, .int (zI sz)]))) (hk55 : fh 55 = some (.inl (0, 400, .inl (zA tp)))) (hk56 : fh 56 = some (.inl (0, 412, .inl (zA cd)))) : JM l G yX5_sum MX5_sum { frames := 24, cells := 0, slots := 0, locals := 536 } [.ref 54, .int (zI 4)] (nh, fh) (fun rr h9 => (∃ tk2 : Int, ∃ st2 : Int, ∃ bh2 : Int, ∃ va2 : Int, ∃ pa2 : Int, ∃ sz2 : Int, ∃ cd2 : Int → Int, ∃ ti2 : Int, rr = some (.int (zI 1)) ∧ h9 = (nh, hc fh [(54, .inr (5, [.ref 55, .int (zI ln), .int (zI tk2), .int (zI st2), .int (zI bh2), .int (zI va2), .int (zI pa2), .int (zI fl), .ref 56, .int (zI sz2)])), (56, .inl (0, 412, .inl (zA cd2)))]) ∧ (0 ≤ tk2) ∧ (tk2 ≤ 355) ∧ (0 ≤ st2) ∧ (st2 ≤ bh2) ∧ (bh2 ≤ ln) ∧ (0 ≤ va2) ∧ (va2 ≤ 1001) ∧ (0 ≤ pa2) ∧ (pa2 ≤ 50) ∧ (0 ≤ sz2) ∧ (sz2 ≤ 412) ∧ (TokL tk2 st2 bh2) ∧ (Rg cd2 412 (-2147483648) 2147483647) ∧ (sz2 + st ≤ sz + st2) ∧ (st ≤ st2) ∧ (TkX tp ln ti2 tk2 st2 bh2 va2) ∧ (0 ≤ ti2) ∧ (SmR (CTk tp ln) (LF tp ln) 4 ti pa 1 ti2 pa2)) ∨ (∃ tk2 : Int, ∃ st2 : Int, ∃ bh2 : Int, ∃ va2 : Int, ∃ pa2 : Int, ∃ sz2 : Int, ∃ cd2 : Int → Int, ∃ fl2 : Int, ∃ ti2 : Int, rr = some (.int (zI 0)) ∧ h9 = (nh, hc fh [(54, .inr (5, [.ref 55, .int (zI ln), .int (zI tk2), .int (zI st2), .int (zI bh2), .int (zI va2), .int (zI pa2), .int (zI fl2), .ref 56, .int (zI sz2)])), (56, .inl (0, 412, .inl (zA cd2)))]) ∧ (0 ≤ tk2) ∧ (tk2 ≤ 355) ∧ (0 ≤ st2) ∧ (st2 ≤ bh2) ∧ (bh2 ≤ ln) ∧ (0 ≤ va2) ∧ (va2 ≤ 1001) ∧ (0 ≤ pa2) ∧ (pa2 ≤ 50) ∧ (0 ≤ sz2) ∧ (sz2 ≤ 412) ∧ (TokL tk2 st2 bh2) ∧ (Rg cd2 412 (-2147483648) 2147483647) ∧ (0 ≤ fl2) ∧ (fl2 ≤ 400) ∧ (FlX tp ln ti2 fl2) ∧ (SmR (CTk tp ln) (LF tp ln) 4 ti pa 0 ti2 0))) := by
  refine JM.of (by decide) rfl (fun h => by cases h) (Nat.le_of_ble_eq_true rfl) ⟨2, rfl⟩ ?_
  refine J_hc0 (J_ls (ls2 := [some (.ref 54), some (.int (zI 4)), none, none]) rfl ?_)
  refine J_aload_n dX5_sum_0 rfl rfl ?_
  refine J_iload_n dX5_sum_1 rfl rfl ?_
  refine J_callV (st := []) dX5_sum_2 cv_X5_89 (d_term4 ln tk st bh va pa fl sz tp cd ti q0 q1 q2 q3 q4 q5 q6 q7 q8 q9 q10 q11 q12 q13 q14 q15 q16 q17 q18 hk54 hk55 hk56) hk54 rfl rfl (Nat.le_of_ble_eq_true rfl) ⟨(Nat.le_of_ble_eq_true rfl), (Nat.le_of_ble_eq_true rfl)⟩ ⟨(Nat.le_of_ble_eq_true rfl), (Nat.le_of_ble_eq_true rfl)⟩ (fun r h9 hp => ?_)
  rcases hp with ⟨z1, z2, z3, z4, z5, z6, f7, z8, rfl, rfl, h9, h10, h11, h12, h13, h14, h15, h16, h17, h18, h19, h20, h21, h22, h23, h24, h25, h26⟩ | ⟨z27, z28, z29, z30, z31, z32, f33, z34, z35, rfl, rfl, h36, h37, h38, h39, h40, h41, h42, h43, h44, h45, h46, h47, h48, h49, h50, h51, h52⟩
  · refine J_nf (nh2 := nh) (ck2 := 0) (sk2 := 0) (st2 := [.int (zI 1)]) rfl rfl rfl rfl ?_
    refine J_app (L3 := [(54, .inr (5, [.ref 55, .int (zI ln), .int (zI z1), .int (zI z2), .int (zI z3), .int (zI z4), .int (zI z5), .int (zI fl), .ref 56, .int (zI z6)])), (56, .inl (0, 412, .inl (zA f7)))]) rfl ?_
    refine Z_if_ne (tgt := 10) dX5_sum_5 (by decide) v_4dcc24baa7 (fun h53 => ?_) (fun h53 => absurd h53 v_3a47bfd896)
    refine Z_iconst (n := 0) dX5_sum_10 ?_
    refine J_istore_n dX5_sum_11 rfl (Nat.le_of_ble_eq_true rfl) rfl ?_
    refine J_ls (ls2 := [some (.ref 54), some (.int (zI 4)), some (.int (zI 0)), none]) rfl ?_
    have lp12 : ∀ (N12 : Nat) (i_12 : Int) (tx_12 : Int) (sx_12 : Int) (bx_12 : Int) (vx_12 : Int) (px_12 : Int) (zx_12 : Int) (cx_12 : Int → Int) (ti_12 : Int), (0 ≤ i_12) → (i_12 ≤ 400) → (zx_12 + st ≤ sz + sx_12) → (st ≤ sx_12) → (0 ≤ tx_12) → (tx_12 ≤ 355) → (0 ≤ sx_12) → (sx_12 ≤ bx_12) → (bx_12 ≤ ln) → (0 ≤ vx_12) → (vx_12 ≤ 1001) → (TokL tx_12 sx_12 bx_12) → (Rg cx_12 412 (-2147483648) 2147483647) → (0 ≤ zx_12) → (zx_12 ≤ 412) → (0 ≤ px_12) → (px_12 ≤ 50) → (st + i_12 ≤ sx_12) → (TkX tp ln ti_12 tx_12 sx_12 bx_12 vx_12) → (0 ≤ ti_12) → (SeP (TmR (CTk tp ln) (LF tp ln) 4) opA (CTk tp ln) ti pa ti_12 px_12) → (400 - i_12).toNat < N12 → J l G MX5_sum { frames := 24, cells := 0, slots := 0, locals := 536 } jE (jMQ G { frames := 24, cells := 0, slots := 0, locals := 536 } (fun rr h9 => (∃ tk2 : Int, ∃ st2 : Int, ∃ bh2 : Int, ∃ va2 : Int, ∃ pa2 : Int, ∃ sz2 : Int, ∃ cd2 : Int → Int, ∃ ti2 : Int, rr = some (.int (zI 1)) ∧ h9 = (nh, hc fh [(54, .inr (5, [.ref 55, .int (zI ln), .int (zI tk2), .int (zI st2), .int (zI bh2), .int (zI va2), .int (zI pa2), .int (zI fl), .ref 56, .int (zI sz2)])), (56, .inl (0, 412, .inl (zA cd2)))]) ∧ (0 ≤ tk2) ∧ (tk2 ≤ 355) ∧ (0 ≤ st2) ∧ (st2 ≤ bh2) ∧ (bh2 ≤ ln) ∧ (0 ≤ va2) ∧ (va2 ≤ 1001) ∧ (0 ≤ pa2) ∧ (pa2 ≤ 50) ∧ (0 ≤ sz2) ∧ (sz2 ≤ 412) ∧ (TokL tk2 st2 bh2) ∧ (Rg cd2 412 (-2147483648) 2147483647) ∧ (sz2 + st ≤ sz + st2) ∧ (st ≤ st2) ∧ (TkX tp ln ti2 tk2 st2 bh2 va2) ∧ (0 ≤ ti2) ∧ (SmR (CTk tp ln) (LF tp ln) 4 ti pa 1 ti2 pa2)) ∨ (∃ tk2 : Int, ∃ st2 : Int, ∃ bh2 : Int, ∃ va2 : Int, ∃ pa2 : Int, ∃ sz2 : Int, ∃ cd2 : Int → Int, ∃ fl2 : Int, ∃ ti2 : Int, rr = some (.int (zI 0)) ∧ h9 = (nh, hc fh [(54, .inr (5, [.ref 55, .int (zI ln), .int (zI tk2), .int (zI st2), .int (zI bh2), .int (zI va2), .int (zI pa2), .int (zI fl2), .ref 56, .int (zI sz2)])), (56, .inl (0, 412, .inl (zA cd2)))]) ∧ (0 ≤ tk2) ∧ (tk2 ≤ 355) ∧ (0 ≤ st2) ∧ (st2 ≤ bh2) ∧ (bh2 ≤ ln) ∧ (0 ≤ va2) ∧ (va2 ≤ 1001) ∧ (0 ≤ pa2) ∧ (pa2 ≤ 50) ∧ (0 ≤ sz2) ∧ (sz2 ≤ 412) ∧ (TokL tk2 st2 bh2) ∧ (Rg cd2 412 (-2147483648) 2147483647) ∧ (0 ≤ fl2) ∧ (fl2 ≤ 400) ∧ (FlX tp ln ti2 fl2) ∧ (SmR (CTk tp ln) (LF tp ln) 4 ti pa 0 ti2 0)))) (nh, hc fh [(54, .inr (5, [.ref 55, .int (zI ln), .int (zI tx_12), .int (zI sx_12), .int (zI bx_12), .int (zI vx_12), .int (zI px_12), .int (zI fl), .ref 56, .int (zI zx_12)])), (56, .inl (0, 412, .inl (zA cx_12)))]) 0 0 12 [some (.ref 54), some (.int (zI 4)), some (.int (zI i_12)), none] [] := by
      intro N12
      induction N12 with
      | zero => intro i_12 tx_12 sx_12 bx_12 vx_12 px_12 zx_12 cx_12 ti_12 i12_0 i12_1 i12_2 i12_3 i12_4 i12_5 i12_6 i12_7 i12_8 i12_9 i12_10 i12_11 i12_12 i12_13 i12_14 i12_15 i12_16 i12_17 i12_18 i12_19 i12_20 hm; exact absurd hm (Nat.not_lt_zero _)
      | succ N12 ih12 =>
        intro i_12 tx_12 sx_12 bx_12 vx_12 px_12 zx_12 cx_12 ti_12 i12_0 i12_1 i12_2 i12_3 i12_4 i12_5 i12_6 i12_7 i12_8 i12_9 i12_10 i12_11 i12_12 i12_13 i12_14 i12_15 i12_16 i12_17 i12_18 i12_19 i12_20 hm12
        refine J_iload_n dX5_sum_12 rfl rfl ?_
        refine Z_sipush (n := 400) dX5_sum_13 (by decide +kernel) ?_
        refine Z_icmp_ge (tgt := 79) dX5_sum_16 (by decide) (v_d7389cde0f i12_0 i12_1) v_d8dcd4dd52 (fun h54 => ?_) (fun h54 => ?_)
        · have g55 : tx_12 = 17 := TkX.lo i12_18 (v_96ef693267 q1 q4 i12_7 i12_8 i12_17 h54)
          refine Z_iconst (n := 1) dX5_sum_79 ?_
          exact J_iret dX5_sum_80 rfl (jbn v_316afd7d0b v_bbcfac9b7d) (Nat.le_of_ble_eq_true rfl) (Nat.le_of_ble_eq_true rfl) (Or.inl ⟨tx_12, sx_12, bx_12, vx_12, px_12, zx_12, cx_12, ti_12, rfl, rfl, i12_4, i12_5, i12_6, i12_7, i12_8, i12_9, i12_10, i12_15, i12_16, i12_13, i12_14, i12_11, i12_12, i12_2, i12_3, i12_18, i12_19, (SeP.end i12_20 (fun w => Or.elim w (fun w => absurd ((TkX.sg i12_18 (v := 143) (by decide)).mp w) (v_01b9cf9fa7 g55)) (fun w => absurd ((TkX.sg i12_18 (v := 145) (by decide)).mp w) (v_03a7f166d3 g55))))⟩)
        · refine J_aload_n dX5_sum_19 rfl rfl ?_
          refine Z_bipush (n := 43) dX5_sum_20 (by decide +kernel) ?_
          refine J_callV (st := []) dX5_sum_22 cv_X5_50 (d_isSign 43 ln tx_12 sx_12 bx_12 vx_12 px_12 fl zx_12 v_8b70ad274a v_ff10987188 i12_4 i12_5 rfl) rfl rfl rfl (Nat.le_of_ble_eq_true rfl) ⟨(Nat.le_of_ble_eq_true rfl), (Nat.le_of_ble_eq_true rfl)⟩ ⟨(Nat.le_of_ble_eq_true rfl), (Nat.le_of_ble_eq_true rfl)⟩ (fun r h9 hp => ?_)
          rcases hp with ⟨rfl, rfl, h56⟩ | ⟨rfl, rfl, h57⟩
          · refine J_nf (nh2 := nh) (ck2 := 0) (sk2 := 0) (st2 := [.int (zI 1)]) rfl rfl rfl rfl ?_
            refine Z_if_ne (tgt := 37) dX5_sum_25 (by decide) v_4dcc24baa7 (fun h58 => ?_) (fun h58 => absurd h58 v_3a47bfd896)
            refine J_aload_n dX5_sum_37 rfl rfl ?_
            refine Z_bipush (n := 43) dX5_sum_38 (by decide +kernel) ?_
            refine J_callV (st := []) dX5_sum_40 cv_X5_50 (d_isSign 43 ln tx_12 sx_12 bx_12 vx_12 px_12 fl zx_12 v_8b70ad274a v_ff10987188 i12_4 i12_5 rfl) rfl rfl rfl (Nat.le_of_ble_eq_true rfl) ⟨(Nat.le_of_ble_eq_true rfl), (Nat.le_of_ble_eq_true rfl)⟩ ⟨(Nat.le_of_ble_eq_true rfl), (Nat.le_of_ble_eq_true rfl)⟩ (fun r h9 hp => ?_)
            rcases hp with ⟨rfl, rfl, h59⟩ | ⟨rfl, rfl, h60⟩
            · refine J_nf (nh2 := nh) (ck2 := 0) (sk2 := 0) (st2 := [.int (zI 1)]) rfl rfl rfl rfl ?_
              refine Z_if_eq (tgt := 50) dX5_sum_43 (by decide) v_4dcc24baa7 (fun h61 => absurd h61 v_3a47bfd896) (fun h61 => ?_)
              refine Z_iconst (n := 2) dX5_sum_46 ?_
              refine J_goto (tgt := 51) dX5_sum_47 (by decide) ?_
              refine J_istore_n dX5_sum_51 rfl (Nat.le_of_ble_eq_true rfl) rfl ?_
              refine J_ls (ls2 := [some (.ref 54), some (.int (zI 4)), some (.int (zI i_12)), some (.int (zI 2))]) rfl ?_
              refine J_aload_n dX5_sum_52 rfl rfl ?_
              have g62 := TokL.lt i12_11 (v_7a588369ee h56)
              refine J_callV (st := []) dX5_sum_53 cv_X5_43 (d_advance (ti_12 + 1) ln tx_12 sx_12 bx_12 vx_12 px_12 fl zx_12 tp q0 q1 (v_d253cb2c59 i12_6 g62) i12_8 i12_9 i12_10 q15 (TkX.ps i12_18 (v_2b02420001 i12_19)) rfl hk55) rfl rfl rfl (Nat.le_of_ble_eq_true rfl) ⟨(Nat.le_of_ble_eq_true rfl), (Nat.le_of_ble_eq_true rfl)⟩ ⟨(Nat.le_of_ble_eq_true rfl), (Nat.le_of_ble_eq_true rfl)⟩ (fun r h9 hp => ?_)
              obtain ⟨z63, z64, z65, z66, rfl, rfl, h67, h68, h69, h70, h71, h72, h73, h74, h75⟩ := hp
              refine J_nf (nh2 := nh) (ck2 := 0) (sk2 := 0) (st2 := []) rfl rfl rfl rfl ?_
              refine J_app (L3 := [(54, .inr (5, [.ref 55, .int (zI ln), .int (zI z63), .int (zI z64), .int (zI z65), .int (zI z66), .int (zI px_12), .int (zI fl), .ref 56, .int (zI zx_12)])), (54, .inr (5, [.ref 55, .int (zI ln), .int (zI tx_12), .int (zI sx_12), .int (zI bx_12), .int (zI vx_12), .int (zI px_12), .int (zI fl), .ref 56, .int (zI zx_12)])), (56, .inl (0, 412, .inl (zA cx_12)))]) rfl ?_
              refine J_mask (L2 := [(54, .inr (5, [.ref 55, .int (zI ln), .int (zI z63), .int (zI z64), .int (zI z65), .int (zI z66), .int (zI px_12), .int (zI fl), .ref 56, .int (zI zx_12)])), (56, .inl (0, 412, .inl (zA cx_12)))]) (ks := [54, 54, 56]) [true, false, true] rfl (by decide +kernel) rfl ?_
              refine J_aload_n dX5_sum_56 rfl rfl ?_
              refine J_iload_n dX5_sum_57 rfl rfl ?_
              refine J_callV (st := []) dX5_sum_58 cv_X5_89 (d_term4 ln z63 z64 z65 z66 px_12 fl zx_12 tp cx_12 (ti_12 + 1) q0 q1 h67 h68 (v_9b2e2070a2 i12_6 g62 h69) h70 h71 h72 h73 i12_15 i12_16 q11 i12_13 i12_14 h74 q15 i12_12 h75 (v_da458fa48a i12_19) rfl hk55 rfl) rfl rfl rfl (Nat.le_of_ble_eq_true rfl) ⟨(Nat.le_of_ble_eq_true rfl), (Nat.le_of_ble_eq_true rfl)⟩ ⟨(Nat.le_of_ble_eq_true rfl), (Nat.le_of_ble_eq_true rfl)⟩ (fun r h9 hp => ?_)
              rcases hp with ⟨z76, z77, z78, z79, z80, z81, f82, z83, rfl, rfl, h84, h85, h86, h87, h88, h89, h90, h91, h92, h93, h94, h95, h96, h97, h98, h99, h100, h101⟩ | ⟨z102, z103, z104, z105, z106, z107, f108, z109, z110, rfl, rfl, h111, h112, h113, h114, h115, h116, h117, h118, h119, h120, h121, h122, h123, h124, h125, h126, h127⟩
              · refine J_nf (nh2 := nh) (ck2 := 0) (sk2 := 0) (st2 := [.int (zI 1)]) rfl rfl rfl rfl ?_
                refine J_app (L3 := [(54, .inr (5, [.ref 55, .int (zI ln), .int (zI z76), .int (zI z77), .int (zI z78), .int (zI z79), .int (zI z80), .int (zI fl), .ref 56, .int (zI z81)])), (56, .inl (0, 412, .inl (zA f82))), (54, .inr (5, [.ref 55, .int (zI ln), .int (zI z63), .int (zI z64), .int (zI z65), .int (zI z66), .int (zI px_12), .int (zI fl), .ref 56, .int (zI zx_12)])), (56, .inl (0, 412, .inl (zA cx_12)))]) rfl ?_
                refine J_mask (L2 := [(54, .inr (5, [.ref 55, .int (zI ln), .int (zI z76), .int (zI z77), .int (zI z78), .int (zI z79), .int (zI z80), .int (zI fl), .ref 56, .int (zI z81)])), (56, .inl (0, 412, .inl (zA f82)))]) (ks := [54, 56, 54, 56]) [true, true, false, false] rfl (by decide +kernel) rfl ?_
                refine Z_if_ne (tgt := 66) dX5_sum_61 (by decide) v_4dcc24baa7 (fun h128 => ?_) (fun h128 => absurd h128 v_3a47bfd896)
                refine J_aload_n dX5_sum_66 rfl rfl ?_
                refine J_iload_n dX5_sum_67 rfl rfl ?_
                refine Z_iconst (n := 0) dX5_sum_68 ?_
                refine J_callV (st := []) dX5_sum_69 cv_X5_72 (d_emit 2 0 ln z76 z77 z78 z79 z80 fl z81 f82 v_9ea63c5f56 v_b17331891f h93 h94 h96 rfl rfl) rfl rfl rfl (Nat.le_of_ble_eq_true rfl) ⟨(Nat.le_of_ble_eq_true rfl), (Nat.le_of_ble_eq_true rfl)⟩ ⟨(Nat.le_of_ble_eq_true rfl), (Nat.le_of_ble_eq_true rfl)⟩ (fun r h9 hp => ?_)
                obtain ⟨z129, f130, rfl, rfl, h131, h132, h133, h134, h135⟩ := hp
                refine J_nf (nh2 := nh) (ck2 := 0) (sk2 := 0) (st2 := [.int (zI z81)]) rfl rfl rfl rfl ?_
                refine J_app (L3 := [(54, .inr (5, [.ref 55, .int (zI ln), .int (zI z76), .int (zI z77), .int (zI z78), .int (zI z79), .int (zI z80), .int (zI fl), .ref 56, .int (zI z129)])), (56, .inl (0, 412, .inl (zA f130))), (54, .inr (5, [.ref 55, .int (zI ln), .int (zI z76), .int (zI z77), .int (zI z78), .int (zI z79), .int (zI z80), .int (zI fl), .ref 56, .int (zI z81)])), (56, .inl (0, 412, .inl (zA f82)))]) rfl ?_
                refine J_mask (L2 := [(54, .inr (5, [.ref 55, .int (zI ln), .int (zI z76), .int (zI z77), .int (zI z78), .int (zI z79), .int (zI z80), .int (zI fl), .ref 56, .int (zI z129)])), (56, .inl (0, 412, .inl (zA f130)))]) (ks := [54, 56, 54, 56]) [true, true, false, false] rfl (by decide +kernel) rfl ?_
                refine J_pop dX5_sum_72 rfl ?_
                refine Z_iinc (c := i_12 + 1) (ls2 := [some (.ref 54), some (.int (zI 4)), some (.int (zI (i_12 + 1))), some (.int (zI 2))]) dX5_sum_73 rfl (Nat.le_of_ble_eq_true rfl) rfl rfl rfl ?_
                refine J_goto (tgt := 12) dX5_sum_76 (by decide) ?_
                refine J_drop (ls2 := [some (.ref 54), some (.int (zI 4)), some (.int (zI (i_12 + 1))), none]) [true, true, true, false] rfl ?_
                exact ih12 (i_12 + 1) z76 z77 z78 z79 z80 z129 f130 z83 (v_da458fa48a i12_0) (v_6924477667 h54) (v_5af1455273 i12_2 g62 h69 h97 h134) (v_269579bf42 i12_3 g62 h69 h98) h84 h85 h86 h87 h88 h89 h90 h95 h135 h131 h132 h91 h92 (v_974edc800f i12_17 g62 h69 h98) h99 h100 (SeP.add i12_20 (Or.inl ((TkX.sg i12_18 (v := 143) (by decide)).mpr (v_b4c0db470d h56))) h101) (meas_lt v_ceb2ed6d2b (v_44ddc35e90 h54) hm12)
              · refine J_nf (nh2 := nh) (ck2 := 0) (sk2 := 0) (st2 := [.int (zI 0)]) rfl rfl rfl rfl ?_
                refine J_app (L3 := [(54, .inr (5, [.ref 55, .int (zI ln), .int (zI z102), .int (zI z103), .int (zI z104), .int (zI z105), .int (zI z106), .int (zI z109), .ref 56, .int (zI z107)])), (56, .inl (0, 412, .inl (zA f108))), (54, .inr (5, [.ref 55, .int (zI ln), .int (zI z63), .int (zI z64), .int (zI z65), .int (zI z66), .int (zI px_12), .int (zI fl), .ref 56, .int (zI zx_12)])), (56, .inl (0, 412, .inl (zA cx_12)))]) rfl ?_
                refine J_mask (L2 := [(54, .inr (5, [.ref 55, .int (zI ln), .int (zI z102), .int (zI z103), .int (zI z104), .int (zI z105), .int (zI z106), .int (zI z109), .ref 56, .int (zI z107)])), (56, .inl (0, 412, .inl (zA f108)))]) (ks := [54, 56, 54, 56]) [true, true, false, false] rfl (by decide +kernel) rfl ?_
                refine Z_if_ne (tgt := 66) dX5_sum_61 (by decide) v_b17331891f (fun h136 => absurd h136 (fun q => q v_2ca2bbca1f)) (fun h136 => ?_)
                refine Z_iconst (n := 0) dX5_sum_64 ?_
                exact J_iret dX5_sum_65 rfl (jbn v_939070ca3f v_316afd7d0b) (Nat.le_of_ble_eq_true rfl) (Nat.le_of_ble_eq_true rfl) (Or.inr ⟨z102, z103, z104, z105, z106, z107, f108, z109, z110, rfl, rfl, h111, h112, h113, h114, h115, h116, h117, h118, h119, h120, h121, h122, h123, h124, h125, (h126), (SeP.bad i12_20 (Or.inl ((TkX.sg i12_18 (v := 143) (by decide)).mpr (v_b4c0db470d h56))) h127)⟩)
            · exact False.elim (v_a48d9a0d20 h56 h60)
          · refine J_nf (nh2 := nh) (ck2 := 0) (sk2 := 0) (st2 := [.int (zI 0)]) rfl rfl rfl rfl ?_
            refine Z_if_ne (tgt := 37) dX5_sum_25 (by decide) v_b17331891f (fun h137 => absurd h137 (fun q => q v_2ca2bbca1f)) (fun h137 => ?_)
            refine J_aload_n dX5_sum_28 rfl rfl ?_
            refine Z_bipush (n := 45) dX5_sum_29 (by decide +kernel) ?_
            refine J_callV (st := []) dX5_sum_31 cv_X5_50 (d_isSign 45 ln tx_12 sx_12 bx_12 vx_12 px_12 fl zx_12 v_8bc5410605 v_46bbb1acae i12_4 i12_5 rfl) rfl rfl rfl (Nat.le_of_ble_eq_true rfl) ⟨(Nat.le_of_ble_eq_true rfl), (Nat.le_of_ble_eq_true rfl)⟩ ⟨(Nat.le_of_ble_eq_true rfl), (Nat.le_of_ble_eq_true rfl)⟩ (fun r h9 hp => ?_)
            rcases hp with ⟨rfl, rfl, h138⟩ | ⟨rfl, rfl, h139⟩
            · refine J_nf (nh2 := nh) (ck2 := 0) (sk2 := 0) (st2 := [.int (zI 1)]) rfl rfl rfl rfl ?_
              refine Z_if_eq (tgt := 79) dX5_sum_34 (by decide) v_4dcc24baa7 (fun h140 => absurd h140 v_3a47bfd896) (fun h140 => ?_)
              refine J_aload_n dX5_sum_37 rfl rfl ?_
              refine Z_bipush (n := 43) dX5_sum_38 (by decide +kernel) ?_
              refine J_callV (st := []) dX5_sum_40 cv_X5_50 (d_isSign 43 ln tx_12 sx_12 bx_12 vx_12 px_12 fl zx_12 v_8b70ad274a v_ff10987188 i12_4 i12_5 rfl) rfl rfl rfl (Nat.le_of_ble_eq_true rfl) ⟨(Nat.le_of_ble_eq_true rfl), (Nat.le_of_ble_eq_true rfl)⟩ ⟨(Nat.le_of_ble_eq_true rfl), (Nat.le_of_ble_eq_true rfl)⟩ (fun r h9 hp => ?_)
              rcases hp with ⟨rfl, rfl, h141⟩ | ⟨rfl, rfl, h142⟩
              · exact False.elim (v_1d6e974349 h138 h141)
              · refine J_nf (nh2 := nh) (ck2 := 0) (sk2 := 0) (st2 := [.int (zI 0)]) rfl rfl rfl rfl ?_
                refine Z_if_eq (tgt := 50) dX5_sum_43 (by decide) v_b17331891f (fun h143 => ?_) (fun h143 => absurd h143 (fun q => q v_2ca2bbca1f))
                refine Z_iconst (n := 3) dX5_sum_50 ?_
                refine J_istore_n dX5_sum_51 rfl (Nat.le_of_ble_eq_true rfl) rfl ?_
                refine J_ls (ls2 := [some (.ref 54), some (.int (zI 4)), some (.int (zI i_12)), some (.int (zI 3))]) rfl ?_
                refine J_aload_n dX5_sum_52 rfl rfl ?_
                have g144 := TokL.lt i12_11 (v_1c70dbbeab h138)
                refine J_callV (st := []) dX5_sum_53 cv_X5_43 (d_advance (ti_12 + 1) ln tx_12 sx_12 bx_12 vx_12 px_12 fl zx_12 tp q0 q1 (v_d253cb2c59 i12_6 g144) i12_8 i12_9 i12_10 q15 (TkX.ps i12_18 (v_2b02420001 i12_19)) rfl hk55) rfl rfl rfl (Nat.le_of_ble_eq_true rfl) ⟨(Nat.le_of_ble_eq_true rfl), (Nat.le_of_ble_eq_true rfl)⟩ ⟨(Nat.le_of_ble_eq_true rfl), (Nat.le_of_ble_eq_true rfl)⟩ (fun r h9 hp => ?_)
                obtain ⟨z145, z146, z147, z148, rfl, rfl, h149, h150, h151, h152, h153, h154, h155, h156, h157⟩ := hp
                refine J_nf (nh2 := nh) (ck2 := 0) (sk2 := 0) (st2 := []) rfl rfl rfl rfl ?_
                refine J_app (L3 := [(54, .inr (5, [.ref 55, .int (zI ln), .int (zI z145), .int (zI z146), .int (zI z147), .int (zI z148), .int (zI px_12), .int (zI fl), .ref 56, .int (zI zx_12)])), (54, .inr (5, [.ref 55, .int (zI ln), .int (zI tx_12), .int (zI sx_12), .int (zI bx_12), .int (zI vx_12), .int (zI px_12), .int (zI fl), .ref 56, .int (zI zx_12)])), (56, .inl (0, 412, .inl (zA cx_12)))]) rfl ?_
                refine J_mask (L2 := [(54, .inr (5, [.ref 55, .int (zI ln), .int (zI z145), .int (zI z146), .int (zI z147), .int (zI z148), .int (zI px_12), .int (zI fl), .ref 56, .int (zI zx_12)])), (56, .inl (0, 412, .inl (zA cx_12)))]) (ks := [54, 54, 56]) [true, false, true] rfl (by decide +kernel) rfl ?_
                refine J_aload_n dX5_sum_56 rfl rfl ?_
                refine J_iload_n dX5_sum_57 rfl rfl ?_
                refine J_callV (st := []) dX5_sum_58 cv_X5_89 (d_term4 ln z145 z146 z147 z148 px_12 fl zx_12 tp cx_12 (ti_12 + 1) q0 q1 h149 h150 (v_9b2e2070a2 i12_6 g144 h151) h152 h153 h154 h155 i12_15 i12_16 q11 i12_13 i12_14 h156 q15 i12_12 h157 (v_da458fa48a i12_19) rfl hk55 rfl) rfl rfl rfl (Nat.le_of_ble_eq_true rfl) ⟨(Nat.le_of_ble_eq_true rfl), (Nat.le_of_ble_eq_true rfl)⟩ ⟨(Nat.le_of_ble_eq_true rfl), (Nat.le_of_ble_eq_true rfl)⟩ (fun r h9 hp => ?_)
                rcases hp with ⟨z158, z159, z160, z161, z162, z163, f164, z165, rfl, rfl, h166, h167, h168, h169, h170, h171, h172, h173, h174, h175, h176, h177, h178, h179, h180, h181, h182, h183⟩ | ⟨z184, z185, z186, z187, z188, z189, f190, z191, z192, rfl, rfl, h193, h194, h195, h196, h197, h198, h199, h200, h201, h202, h203, h204, h205, h206, h207, h208, h209⟩
                · refine J_nf (nh2 := nh) (ck2 := 0) (sk2 := 0) (st2 := [.int (zI 1)]) rfl rfl rfl rfl ?_
                  refine J_app (L3 := [(54, .inr (5, [.ref 55, .int (zI ln), .int (zI z158), .int (zI z159), .int (zI z160), .int (zI z161), .int (zI z162), .int (zI fl), .ref 56, .int (zI z163)])), (56, .inl (0, 412, .inl (zA f164))), (54, .inr (5, [.ref 55, .int (zI ln), .int (zI z145), .int (zI z146), .int (zI z147), .int (zI z148), .int (zI px_12), .int (zI fl), .ref 56, .int (zI zx_12)])), (56, .inl (0, 412, .inl (zA cx_12)))]) rfl ?_
                  refine J_mask (L2 := [(54, .inr (5, [.ref 55, .int (zI ln), .int (zI z158), .int (zI z159), .int (zI z160), .int (zI z161), .int (zI z162), .int (zI fl), .ref 56, .int (zI z163)])), (56, .inl (0, 412, .inl (zA f164)))]) (ks := [54, 56, 54, 56]) [true, true, false, false] rfl (by decide +kernel) rfl ?_
                  refine Z_if_ne (tgt := 66) dX5_sum_61 (by decide) v_4dcc24baa7 (fun h210 => ?_) (fun h210 => absurd h210 v_3a47bfd896)
                  refine J_aload_n dX5_sum_66 rfl rfl ?_
                  refine J_iload_n dX5_sum_67 rfl rfl ?_
                  refine Z_iconst (n := 0) dX5_sum_68 ?_
                  refine J_callV (st := []) dX5_sum_69 cv_X5_72 (d_emit 3 0 ln z158 z159 z160 z161 z162 fl z163 f164 v_1cc5223c3a v_b17331891f h175 h176 h178 rfl rfl) rfl rfl rfl (Nat.le_of_ble_eq_true rfl) ⟨(Nat.le_of_ble_eq_true rfl), (Nat.le_of_ble_eq_true rfl)⟩ ⟨(Nat.le_of_ble_eq_true rfl), (Nat.le_of_ble_eq_true rfl)⟩ (fun r h9 hp => ?_)
                  obtain ⟨z211, f212, rfl, rfl, h213, h214, h215, h216, h217⟩ := hp
                  refine J_nf (nh2 := nh) (ck2 := 0) (sk2 := 0) (st2 := [.int (zI z163)]) rfl rfl rfl rfl ?_
                  refine J_app (L3 := [(54, .inr (5, [.ref 55, .int (zI ln), .int (zI z158), .int (zI z159), .int (zI z160), .int (zI z161), .int (zI z162), .int (zI fl), .ref 56, .int (zI z211)])), (56, .inl (0, 412, .inl (zA f212))), (54, .inr (5, [.ref 55, .int (zI ln), .int (zI z158), .int (zI z159), .int (zI z160), .int (zI z161), .int (zI z162), .int (zI fl), .ref 56, .int (zI z163)])), (56, .inl (0, 412, .inl (zA f164)))]) rfl ?_
                  refine J_mask (L2 := [(54, .inr (5, [.ref 55, .int (zI ln), .int (zI z158), .int (zI z159), .int (zI z160), .int (zI z161), .int (zI z162), .int (zI fl), .ref 56, .int (zI z211)])), (56, .inl (0, 412, .inl (zA f212)))]) (ks := [54, 56, 54, 56]) [true, true, false, false] rfl (by decide +kernel) rfl ?_
                  refine J_pop dX5_sum_72 rfl ?_
                  refine Z_iinc (c := i_12 + 1) (ls2 := [some (.ref 54), some (.int (zI 4)), some (.int (zI (i_12 + 1))), some (.int (zI 3))]) dX5_sum_73 rfl (Nat.le_of_ble_eq_true rfl) rfl rfl rfl ?_
                  refine J_goto (tgt := 12) dX5_sum_76 (by decide) ?_
                  refine J_drop (ls2 := [some (.ref 54), some (.int (zI 4)), some (.int (zI (i_12 + 1))), none]) [true, true, true, false] rfl ?_
                  exact ih12 (i_12 + 1) z158 z159 z160 z161 z162 z211 f212 z165 (v_da458fa48a i12_0) (v_6924477667 h54) (v_5af1455273 i12_2 g144 h151 h179 h216) (v_269579bf42 i12_3 g144 h151 h180) h166 h167 h168 h169 h170 h171 h172 h177 h217 h213 h214 h173 h174 (v_974edc800f i12_17 g144 h151 h180) h181 h182 (SeP.add i12_20 (Or.inr ((TkX.sg i12_18 (v := 145) (by decide)).mpr (v_7912200c83 h138))) h183) (meas_lt v_ceb2ed6d2b (v_44ddc35e90 h54) hm12)
                · refine J_nf (nh2 := nh) (ck2 := 0) (sk2 := 0) (st2 := [.int (zI 0)]) rfl rfl rfl rfl ?_
                  refine J_app (L3 := [(54, .inr (5, [.ref 55, .int (zI ln), .int (zI z184), .int (zI z185), .int (zI z186), .int (zI z187), .int (zI z188), .int (zI z191), .ref 56, .int (zI z189)])), (56, .inl (0, 412, .inl (zA f190))), (54, .inr (5, [.ref 55, .int (zI ln), .int (zI z145), .int (zI z146), .int (zI z147), .int (zI z148), .int (zI px_12), .int (zI fl), .ref 56, .int (zI zx_12)])), (56, .inl (0, 412, .inl (zA cx_12)))]) rfl ?_
                  refine J_mask (L2 := [(54, .inr (5, [.ref 55, .int (zI ln), .int (zI z184), .int (zI z185), .int (zI z186), .int (zI z187), .int (zI z188), .int (zI z191), .ref 56, .int (zI z189)])), (56, .inl (0, 412, .inl (zA f190)))]) (ks := [54, 56, 54, 56]) [true, true, false, false] rfl (by decide +kernel) rfl ?_
                  refine Z_if_ne (tgt := 66) dX5_sum_61 (by decide) v_b17331891f (fun h218 => absurd h218 (fun q => q v_2ca2bbca1f)) (fun h218 => ?_)
                  refine Z_iconst (n := 0) dX5_sum_64 ?_
                  exact J_iret dX5_sum_65 rfl (jbn v_939070ca3f v_316afd7d0b) (Nat.le_of_ble_eq_true rfl) (Nat.le_of_ble_eq_true rfl) (Or.inr ⟨z184, z185, z186, z187, z188, z189, f190, z191, z192, rfl, rfl, h193, h194, h195, h196, h197, h198, h199, h200, h201, h202, h203, h204, h205, h206, h207, (h208), (SeP.bad i12_20 (Or.inr ((TkX.sg i12_18 (v := 145) (by decide)).mpr (v_7912200c83 h138))) h209)⟩)
            · refine J_nf (nh2 := nh) (ck2 := 0) (sk2 := 0) (st2 := [.int (zI 0)]) rfl rfl rfl rfl ?_
              refine Z_if_eq (tgt := 79) dX5_sum_34 (by decide) v_b17331891f (fun h219 => ?_) (fun h219 => absurd h219 (fun q => q v_2ca2bbca1f))
              refine Z_iconst (n := 1) dX5_sum_79 ?_
              exact J_iret dX5_sum_80 rfl (jbn v_316afd7d0b v_bbcfac9b7d) (Nat.le_of_ble_eq_true rfl) (Nat.le_of_ble_eq_true rfl) (Or.inl ⟨tx_12, sx_12, bx_12, vx_12, px_12, zx_12, cx_12, ti_12, rfl, rfl, i12_4, i12_5, i12_6, i12_7, i12_8, i12_9, i12_10, i12_15, i12_16, i12_13, i12_14, i12_11, i12_12, i12_2, i12_3, i12_18, i12_19, (SeP.end i12_20 (fun w => Or.elim w (fun w => absurd ((TkX.sg i12_18 (v := 143) (by decide)).mp w) (v_4e9b5acef3 h57)) (fun w => absurd ((TkX.sg i12_18 (v := 145) (by decide)).mp w) (v_fa17f015bb h139))))⟩)
    exact lp12 _ 0 z1 z2 z3 z4 z5 z6 f7 z8 v_939070ca3f v_5ab96f7b5e h22 h23 h9 h10 h11 h12 h13 h14 h15 h20 h21 h18 h19 h16 h17 (v_3c1faf939c h23) h24 h25 (SeP.one h26) (Nat.lt_succ_self _)
  · refine J_nf (nh2 := nh) (ck2 := 0) (sk2 := 0) (st2 := [.int (zI 0)]) rfl rfl rfl rfl ?_
    refine J_app (L3 := [(54, .inr (5, [.ref 55, .int (zI ln), .int (zI z27), .int (zI z28), .int (zI z29), .int (zI z30), .int (zI z31), .int (zI z34), .ref 56, .int (zI z32)])), (56, .inl (0, 412, .inl (zA f33)))]) rfl ?_
    refine Z_if_ne (tgt := 10) dX5_sum_5 (by decide) v_b17331891f (fun h220 => absurd h220 (fun q => q v_2ca2bbca1f)) (fun h220 => ?_)
    refine Z_iconst (n := 0) dX5_sum_8 ?_
    exact J_iret dX5_sum_9 rfl (jbn v_939070ca3f v_316afd7d0b) (Nat.le_of_ble_eq_true rfl) (Nat.le_of_ble_eq_true rfl) (Or.inr ⟨z27, z28, z29, z30, z31, z32, f33, z34, z35, rfl, rfl, h36, h37, h38, h39, h40, h41, h42, h43, h44, h45, h46, h47, h48, h49, h50, (h51), (SeR.b h52)⟩)
set_option maxHeartbeats 4000000 in
set_option maxRecDepth 100000 in
theorem d_bracketedTest4 {l : Launch} {G : jG} {nh : Nat} {fh : Nat → Option va_E} (ln : Int) (tk : Int) (st : Int) (bh : Int) (va : Int) (pa : Int) (fl : Int) (sz : Int) (tp : Int → Int) (cd : Int → Int) (ti : Int) (q0 : 0 ≤ ln) (q1 : ln ≤ 400) (q2 : 0 ≤ tk) (q3 : tk ≤ 355) (q4 : 0 ≤ st) (q5 : st ≤ bh) (q6 : bh ≤ ln) (q7 : 0 ≤ va) (q8 : va ≤ 1001) (q9 : 0 ≤ pa) (q10 : pa ≤ 50) (q11 : zr fl) (q12 : 0 ≤ sz) (q13 : sz ≤ 412) (q14 : TokL tk st bh) (q15 : Rg tp 400 0 255) (q16 : Rg cd 412 (-2147483648) 2147483647) (q17 : TkX tp ln ti tk st bh va) (q18 : 0 ≤ ti) (hk54 : fh 54 = some (.inr (5, [.ref 55, .int (zI ln), .int (zI tk), .int (zI st), .int (zI bh), .int (zI va), .int (zI pa), .int (zI fl), .ref 56, .int (zI sz)]))) (hk55 : fh 55 = some (.inl (0, 400, .inl (zA tp)))) (hk56 : fh 56 = some (.inl (0, 412, .inl (zA cd)))) : JM l G yX5_bracketedTest MX5_bracketedTest { frames := 24, cells := 0, slots := 0, locals := 538 } [.ref 54, .int (zI 4)] (nh, fh) (fun rr h9 => (∃ tk2 : Int, ∃ st2 : Int, ∃ bh2 : Int, ∃ va2 : Int, ∃ pa2 : Int, ∃ sz2 : Int, ∃ cd2 : Int → Int, ∃ ti2 : Int, rr = some (.int (zI 1)) ∧ h9 = (nh, hc fh [(54, .inr (5, [.ref 55, .int (zI ln), .int (zI tk2), .int (zI st2), .int (zI bh2), .int (zI va2), .int (zI pa2), .int (zI fl), .ref 56, .int (zI sz2)])), (56, .inl (0, 412, .inl (zA cd2)))]) ∧ (0 ≤ tk2) ∧ (tk2 ≤ 355) ∧ (0 ≤ st2) ∧ (st2 ≤ bh2) ∧ (bh2 ≤ ln) ∧ (0 ≤ va2) ∧ (va2 ≤ 1001) ∧ (0 ≤ pa2) ∧ (pa2 ≤ 50) ∧ (0 ≤ sz2) ∧ (sz2 ≤ 412) ∧ (TokL tk2 st2 bh2) ∧ (Rg cd2 412 (-2147483648) 2147483647) ∧ (sz2 + st ≤ sz + st2) ∧ (st ≤ st2) ∧ (TkX tp ln ti2 tk2 st2 bh2 va2) ∧ (0 ≤ ti2) ∧ (BtR (CTk tp ln) (LF tp ln) 4 ti pa 1 ti2 pa2)) ∨ (∃ tk2 : Int, ∃ st2 : Int, ∃ bh2 : Int, ∃ va2 : Int, ∃ pa2 : Int, ∃ sz2 : Int, ∃ cd2 : Int → Int, ∃ fl2 : Int, ∃ ti2 : Int, rr = some (.int (zI 0)) ∧ h9 = (nh, hc fh [(54, .inr (5, [.ref 55, .int (zI ln), .int (zI tk2), .int (zI st2), .int (zI bh2), .int (zI va2), .int (zI pa2), .int (zI fl2), .ref 56, .int (zI sz2)])), (56, .inl (0, 412, .inl (zA cd2)))]) ∧ (0 ≤ tk2) ∧ (tk2 ≤ 355) ∧ (0 ≤ st2) ∧ (st2 ≤ bh2) ∧ (bh2 ≤ ln) ∧ (0 ≤ va2) ∧ (va2 ≤ 1001) ∧ (0 ≤ pa2) ∧ (pa2 ≤ 50) ∧ (0 ≤ sz2) ∧ (sz2 ≤ 412) ∧ (TokL tk2 st2 bh2) ∧ (Rg cd2 412 (-2147483648) 2147483647) ∧ (0 ≤ fl2) ∧ (fl2 ≤ 400) ∧ (FlX tp ln ti2 fl2) ∧ (BtR (CTk tp ln) (LF tp ln) 4 ti pa 0 ti2 0))) := by
  refine JM.of (by decide) rfl (fun h => by cases h) (Nat.le_of_ble_eq_true rfl) ⟨0, rfl⟩ ?_
  refine J_hc0 (J_ls (ls2 := [some (.ref 54), some (.int (zI 4))]) rfl ?_)
  refine J_iload_n dX5_bracketedTest_0 rfl rfl ?_
  refine Z_bipush (n := 8) dX5_bracketedTest_1 (by decide +kernel) ?_
  refine Z_icmp_lt (tgt := 11) dX5_bracketedTest_3 (by decide) v_ffb526fa28 v_665891e294 (fun h1 => ?_) (fun h1 => absurd h1 (fun q => q v_c1c1c5fa1b))
  refine J_aload_n dX5_bracketedTest_11 rfl rfl ?_
  refine J_callV (st := []) dX5_bracketedTest_12 cv_X5_43 (d_advance (ti + 1) ln tk st bh va pa fl sz tp q0 q1 (v_21976c7318 q4 q5) q6 q7 q8 q15 (TkX.ps q17 (v_2b02420001 q18)) hk54 hk55) hk54 rfl rfl (Nat.le_of_ble_eq_true rfl) ⟨(Nat.le_of_ble_eq_true rfl), (Nat.le_of_ble_eq_true rfl)⟩ ⟨(Nat.le_of_ble_eq_true rfl), (Nat.le_of_ble_eq_true rfl)⟩ (fun r h9 hp => ?_)
  obtain ⟨z2, z3, z4, z5, rfl, rfl, h6, h7, h8, h9, h10, h11, h12, h13, h14⟩ := hp
  refine J_nf (nh2 := nh) (ck2 := 0) (sk2 := 0) (st2 := []) rfl rfl rfl rfl ?_
  refine J_app (L3 := [(54, .inr (5, [.ref 55, .int (zI ln), .int (zI z2), .int (zI z3), .int (zI z4), .int (zI z5), .int (zI pa), .int (zI fl), .ref 56, .int (zI sz)]))]) rfl ?_
  refine J_aload_n dX5_bracketedTest_15 rfl rfl ?_
  refine J_iload_n dX5_bracketedTest_16 rfl rfl ?_
  refine Z_iconst (n := 1) dX5_bracketedTest_17 ?_
  refine Z_iadd (c := 5) dX5_bracketedTest_18 v_33b28fcfc0 ?_
  refine J_callV (st := []) dX5_bracketedTest_19 cv_X5_67 (d_test5 ln z2 z3 z4 z5 pa fl sz tp cd (ti + 1) q0 q1 h6 h7 (v_7eaccd6eb1 q4 q5 h8) h9 h10 h11 h12 q9 q10 q11 q12 q13 h13 q15 q16 h14 (v_da458fa48a q18) rfl hk55 hk56) rfl rfl rfl (Nat.le_of_ble_eq_true rfl) ⟨(Nat.le_of_ble_eq_true rfl), (Nat.le_of_ble_eq_true rfl)⟩ ⟨(Nat.le_of_ble_eq_true rfl), (Nat.le_of_ble_eq_true rfl)⟩ (fun r h9 hp => ?_)
  rcases hp with ⟨z15, z16, z17, z18, z19, z20, f21, z22, rfl, rfl, h23, h24, h25, h26, h27, h28, h29, h30, h31, h32, h33, h34, h35, h36, h37, h38, h39, h40⟩ | ⟨z41, z42, z43, z44, z45, z46, f47, z48, z49, rfl, rfl, h50, h51, h52, h53, h54, h55, h56, h57, h58, h59, h60, h61, h62, h63, h64, h65, h66⟩
  · refine J_nf (nh2 := nh) (ck2 := 0) (sk2 := 0) (st2 := [.int (zI 1)]) rfl rfl rfl rfl ?_
    refine J_app (L3 := [(54, .inr (5, [.ref 55, .int (zI ln), .int (zI z15), .int (zI z16), .int (zI z17), .int (zI z18), .int (zI z19), .int (zI fl), .ref 56, .int (zI z20)])), (56, .inl (0, 412, .inl (zA f21))), (54, .inr (5, [.ref 55, .int (zI ln), .int (zI z2), .int (zI z3), .int (zI z4), .int (zI z5), .int (zI pa), .int (zI fl), .ref 56, .int (zI sz)]))]) rfl ?_
    refine J_mask (L2 := [(54, .inr (5, [.ref 55, .int (zI ln), .int (zI z15), .int (zI z16), .int (zI z17), .int (zI z18), .int (zI z19), .int (zI fl), .ref 56, .int (zI z20)])), (56, .inl (0, 412, .inl (zA f21)))]) (ks := [54, 56, 54]) [true, true, false] rfl (by decide +kernel) rfl ?_
    refine Z_if_ne (tgt := 27) dX5_bracketedTest_22 (by decide) v_4dcc24baa7 (fun h67 => ?_) (fun h67 => absurd h67 v_3a47bfd896)
    refine J_aload_n dX5_bracketedTest_27 rfl rfl ?_
    refine Z_bipush (n := 41) dX5_bracketedTest_28 (by decide +kernel) ?_
    refine J_callV (st := []) dX5_bracketedTest_30 cv_X5_50 (d_isSign 41 ln z15 z16 z17 z18 z19 fl z20 v_eff0eb06dc v_d0aa1234d6 h23 h24 rfl) rfl rfl rfl (Nat.le_of_ble_eq_true rfl) ⟨(Nat.le_of_ble_eq_true rfl), (Nat.le_of_ble_eq_true rfl)⟩ ⟨(Nat.le_of_ble_eq_true rfl), (Nat.le_of_ble_eq_true rfl)⟩ (fun r h9 hp => ?_)
    rcases hp with ⟨rfl, rfl, h68⟩ | ⟨rfl, rfl, h69⟩
    · refine J_nf (nh2 := nh) (ck2 := 0) (sk2 := 0) (st2 := [.int (zI 1)]) rfl rfl rfl rfl ?_
      refine Z_if_ne (tgt := 41) dX5_bracketedTest_33 (by decide) v_4dcc24baa7 (fun h70 => ?_) (fun h70 => absurd h70 v_3a47bfd896)
      refine J_aload_n dX5_bracketedTest_41 rfl rfl ?_
      have g71 := TokL.lt h34 (v_5f6578b310 h68)
      refine J_callV (st := []) dX5_bracketedTest_42 cv_X5_43 (d_advance (z22 + 1) ln z15 z16 z17 z18 z19 fl z20 tp q0 q1 (v_d253cb2c59 h25 g71) h27 h28 h29 q15 (TkX.ps h38 (v_2b02420001 h39)) rfl hk55) rfl rfl rfl (Nat.le_of_ble_eq_true rfl) ⟨(Nat.le_of_ble_eq_true rfl), (Nat.le_of_ble_eq_true rfl)⟩ ⟨(Nat.le_of_ble_eq_true rfl), (Nat.le_of_ble_eq_true rfl)⟩ (fun r h9 hp => ?_)
      obtain ⟨z72, z73, z74, z75, rfl, rfl, h76, h77, h78, h79, h80, h81, h82, h83, h84⟩ := hp
      refine J_nf (nh2 := nh) (ck2 := 0) (sk2 := 0) (st2 := []) rfl rfl rfl rfl ?_
      refine J_app (L3 := [(54, .inr (5, [.ref 55, .int (zI ln), .int (zI z72), .int (zI z73), .int (zI z74), .int (zI z75), .int (zI z19), .int (zI fl), .ref 56, .int (zI z20)])), (54, .inr (5, [.ref 55, .int (zI ln), .int (zI z15), .int (zI z16), .int (zI z17), .int (zI z18), .int (zI z19), .int (zI fl), .ref 56, .int (zI z20)])), (56, .inl (0, 412, .inl (zA f21)))]) rfl ?_
      refine J_mask (L2 := [(54, .inr (5, [.ref 55, .int (zI ln), .int (zI z72), .int (zI z73), .int (zI z74), .int (zI z75), .int (zI z19), .int (zI fl), .ref 56, .int (zI z20)])), (56, .inl (0, 412, .inl (zA f21)))]) (ks := [54, 54, 56]) [true, false, true] rfl (by decide +kernel) rfl ?_
      refine Z_iconst (n := 1) dX5_bracketedTest_45 ?_
      exact J_iret dX5_bracketedTest_46 rfl (jbn v_316afd7d0b v_bbcfac9b7d) (Nat.le_of_ble_eq_true rfl) (Nat.le_of_ble_eq_true rfl) (Or.inl ⟨z72, z73, z74, z75, z19, z20, f21, (z22 + 1), rfl, rfl, h76, h77, (v_9b2e2070a2 h25 g71 h78), h79, h80, h81, h82, h30, h31, h32, h33, h83, h35, (v_a156850946 q5 h8 h36 g71 h78), (v_b3d66fcd45 q5 h8 h37 g71 h78), h84, (v_da458fa48a h39), (BrR.y h40 ((TkX.sg h38 (v := 141) (by decide)).mpr (v_1cbafa89df h68)))⟩)
    · refine J_nf (nh2 := nh) (ck2 := 0) (sk2 := 0) (st2 := [.int (zI 0)]) rfl rfl rfl rfl ?_
      refine Z_if_ne (tgt := 41) dX5_bracketedTest_33 (by decide) v_b17331891f (fun h85 => absurd h85 (fun q => q v_2ca2bbca1f)) (fun h85 => ?_)
      refine J_aload_n dX5_bracketedTest_36 rfl rfl ?_
      refine J_callV (st := []) dX5_bracketedTest_37 cv_X5_54 (d_wrong ln z15 z16 z17 z18 z19 fl z20 h25 (v_1adcfdfee5 q1 h26 h27) rfl) rfl rfl rfl (Nat.le_of_ble_eq_true rfl) ⟨(Nat.le_of_ble_eq_true rfl), (Nat.le_of_ble_eq_true rfl)⟩ ⟨(Nat.le_of_ble_eq_true rfl), (Nat.le_of_ble_eq_true rfl)⟩ (fun r h9 hp => ?_)
      obtain ⟨rfl, rfl⟩ := hp
      refine J_nf (nh2 := nh) (ck2 := 0) (sk2 := 0) (st2 := [.int (zI 0)]) rfl rfl rfl rfl ?_
      refine J_app (L3 := [(54, .inr (5, [.ref 55, .int (zI ln), .int (zI z15), .int (zI z16), .int (zI z17), .int (zI z18), .int (zI z19), .int (zI z16), .ref 56, .int (zI z20)])), (54, .inr (5, [.ref 55, .int (zI ln), .int (zI z15), .int (zI z16), .int (zI z17), .int (zI z18), .int (zI z19), .int (zI fl), .ref 56, .int (zI z20)])), (56, .inl (0, 412, .inl (zA f21)))]) rfl ?_
      refine J_mask (L2 := [(54, .inr (5, [.ref 55, .int (zI ln), .int (zI z15), .int (zI z16), .int (zI z17), .int (zI z18), .int (zI z19), .int (zI z16), .ref 56, .int (zI z20)])), (56, .inl (0, 412, .inl (zA f21)))]) (ks := [54, 54, 56]) [true, false, true] rfl (by decide +kernel) rfl ?_
      exact J_iret dX5_bracketedTest_40 rfl (jbn v_939070ca3f v_316afd7d0b) (Nat.le_of_ble_eq_true rfl) (Nat.le_of_ble_eq_true rfl) (Or.inr ⟨z15, z16, z17, z18, z19, z20, f21, z16, z22, rfl, rfl, h23, h24, h25, h26, h27, h28, h29, h30, h31, h32, h33, h34, h35, h25, (v_1adcfdfee5 q1 h26 h27), ((TkX.s h38)), (BrR.w h40 (fun w => absurd ((TkX.sg h38 (v := 141) (by decide)).mp w) (v_b624d93a99 h69)))⟩)
  · refine J_nf (nh2 := nh) (ck2 := 0) (sk2 := 0) (st2 := [.int (zI 0)]) rfl rfl rfl rfl ?_
    refine J_app (L3 := [(54, .inr (5, [.ref 55, .int (zI ln), .int (zI z41), .int (zI z42), .int (zI z43), .int (zI z44), .int (zI z45), .int (zI z48), .ref 56, .int (zI z46)])), (56, .inl (0, 412, .inl (zA f47))), (54, .inr (5, [.ref 55, .int (zI ln), .int (zI z2), .int (zI z3), .int (zI z4), .int (zI z5), .int (zI pa), .int (zI fl), .ref 56, .int (zI sz)]))]) rfl ?_
    refine J_mask (L2 := [(54, .inr (5, [.ref 55, .int (zI ln), .int (zI z41), .int (zI z42), .int (zI z43), .int (zI z44), .int (zI z45), .int (zI z48), .ref 56, .int (zI z46)])), (56, .inl (0, 412, .inl (zA f47)))]) (ks := [54, 56, 54]) [true, true, false] rfl (by decide +kernel) rfl ?_
    refine Z_if_ne (tgt := 27) dX5_bracketedTest_22 (by decide) v_b17331891f (fun h86 => absurd h86 (fun q => q v_2ca2bbca1f)) (fun h86 => ?_)
    refine Z_iconst (n := 0) dX5_bracketedTest_25 ?_
    exact J_iret dX5_bracketedTest_26 rfl (jbn v_939070ca3f v_316afd7d0b) (Nat.le_of_ble_eq_true rfl) (Nat.le_of_ble_eq_true rfl) (Or.inr ⟨z41, z42, z43, z44, z45, z46, f47, z48, z49, rfl, rfl, h50, h51, h52, h53, h54, h55, h56, h57, h58, h59, h60, h61, h62, h63, h64, (h65), (BrR.b h66)⟩)
set_option maxHeartbeats 4000000 in
set_option maxRecDepth 100000 in
theorem d_plain4 {l : Launch} {G : jG} {nh : Nat} {fh : Nat → Option va_E} (ln : Int) (tk : Int) (st : Int) (bh : Int) (va : Int) (pa : Int) (fl : Int) (sz : Int) (tp : Int → Int) (cd : Int → Int) (ti : Int) (q0 : 0 ≤ ln) (q1 : ln ≤ 400) (q2 : 0 ≤ tk) (q3 : tk ≤ 355) (q4 : 0 ≤ st) (q5 : st ≤ bh) (q6 : bh ≤ ln) (q7 : 0 ≤ va) (q8 : va ≤ 1001) (q9 : 0 ≤ pa) (q10 : pa ≤ 50) (q11 : zr fl) (q12 : 0 ≤ sz) (q13 : sz ≤ 412) (q14 : TokL tk st bh) (q15 : Rg tp 400 0 255) (q16 : Rg cd 412 (-2147483648) 2147483647) (q17 : TkX tp ln ti tk st bh va) (q18 : 0 ≤ ti) (hk54 : fh 54 = some (.inr (5, [.ref 55, .int (zI ln), .int (zI tk), .int (zI st), .int (zI bh), .int (zI va), .int (zI pa), .int (zI fl), .ref 56, .int (zI sz)]))) (hk55 : fh 55 = some (.inl (0, 400, .inl (zA tp)))) (hk56 : fh 56 = some (.inl (0, 412, .inl (zA cd)))) : JM l G yX5_plain MX5_plain { frames := 25, cells := 0, slots := 0, locals := 559 } [.ref 54, .int (zI 4)] (nh, fh) (fun rr h9 => (∃ tk2 : Int, ∃ st2 : Int, ∃ bh2 : Int, ∃ va2 : Int, ∃ pa2 : Int, ∃ sz2 : Int, ∃ cd2 : Int → Int, ∃ ti2 : Int, rr = some (.int (zI 1)) ∧ h9 = (nh, hc fh [(54, .inr (5, [.ref 55, .int (zI ln), .int (zI tk2), .int (zI st2), .int (zI bh2), .int (zI va2), .int (zI pa2), .int (zI fl), .ref 56, .int (zI sz2)])), (56, .inl (0, 412, .inl (zA cd2)))]) ∧ (0 ≤ tk2) ∧ (tk2 ≤ 355) ∧ (0 ≤ st2) ∧ (st2 ≤ bh2) ∧ (bh2 ≤ ln) ∧ (0 ≤ va2) ∧ (va2 ≤ 1001) ∧ (0 ≤ pa2) ∧ (pa2 ≤ 50) ∧ (0 ≤ sz2) ∧ (sz2 ≤ 412) ∧ (TokL tk2 st2 bh2) ∧ (Rg cd2 412 (-2147483648) 2147483647) ∧ (sz2 + st ≤ sz + st2) ∧ (st ≤ st2) ∧ (TkX tp ln ti2 tk2 st2 bh2 va2) ∧ (0 ≤ ti2) ∧ (PnR (CTk tp ln) (LF tp ln) 4 ti pa 1 ti2 pa2)) ∨ (∃ tk2 : Int, ∃ st2 : Int, ∃ bh2 : Int, ∃ va2 : Int, ∃ pa2 : Int, ∃ sz2 : Int, ∃ cd2 : Int → Int, ∃ fl2 : Int, ∃ ti2 : Int, rr = some (.int (zI 0)) ∧ h9 = (nh, hc fh [(54, .inr (5, [.ref 55, .int (zI ln), .int (zI tk2), .int (zI st2), .int (zI bh2), .int (zI va2), .int (zI pa2), .int (zI fl2), .ref 56, .int (zI sz2)])), (56, .inl (0, 412, .inl (zA cd2)))]) ∧ (0 ≤ tk2) ∧ (tk2 ≤ 355) ∧ (0 ≤ st2) ∧ (st2 ≤ bh2) ∧ (bh2 ≤ ln) ∧ (0 ≤ va2) ∧ (va2 ≤ 1001) ∧ (0 ≤ pa2) ∧ (pa2 ≤ 50) ∧ (0 ≤ sz2) ∧ (sz2 ≤ 412) ∧ (TokL tk2 st2 bh2) ∧ (Rg cd2 412 (-2147483648) 2147483647) ∧ (0 ≤ fl2) ∧ (fl2 ≤ 400) ∧ (FlX tp ln ti2 fl2) ∧ (PnR (CTk tp ln) (LF tp ln) 4 ti pa 0 ti2 0))) := by
  refine JM.of (by decide) rfl (fun h => by cases h) (Nat.le_of_ble_eq_true rfl) ⟨2, rfl⟩ ?_
  refine J_hc0 (J_ls (ls2 := [some (.ref 54), some (.int (zI 4)), none, none]) rfl ?_)
  refine Z_iconst (n := 0) dX5_plain_0 ?_
  refine J_istore_n dX5_plain_1 rfl (Nat.le_of_ble_eq_true rfl) rfl ?_
  refine J_ls (ls2 := [some (.ref 54), some (.int (zI 4)), some (.int (zI 0)), none]) rfl ?_
  refine Z_iconst (n := 0) dX5_plain_2 ?_
  refine J_istore_n dX5_plain_3 rfl (Nat.le_of_ble_eq_true rfl) rfl ?_
  refine J_ls (ls2 := [some (.ref 54), some (.int (zI 4)), some (.int (zI 0)), some (.int (zI 0))]) rfl ?_
  refine J_touch (k := 54) (e := .inr (5, [.ref 55, .int (zI ln), .int (zI tk), .int (zI st), .int (zI bh), .int (zI va), .int (zI pa), .int (zI fl), .ref 56, .int (zI sz)])) hk54 ?_
  have lp4 : ∀ (N4 : Nat) (dn_4 : Int) (i_4 : Int) (tx_4 : Int) (sx_4 : Int) (bx_4 : Int) (vx_4 : Int) (ti_4 : Int), (0 ≤ i_4) → (i_4 ≤ 400) → (0 ≤ dn_4) → (dn_4 ≤ 1) → (st + dn_4 ≤ sx_4) → (st + i_4 ≤ sx_4) → (0 ≤ tx_4) → (tx_4 ≤ 355) → (0 ≤ sx_4) → (sx_4 ≤ bx_4) → (bx_4 ≤ ln) → (0 ≤ vx_4) → (vx_4 ≤ 1001) → (TokL tx_4 sx_4 bx_4) → (TkX tp ln ti_4 tx_4 sx_4 bx_4 vx_4) → (ti ≤ ti_4) → (NtX (CTk tp ln) ti ti_4) → (400 - i_4).toNat < N4 → J l G MX5_plain { frames := 25, cells := 0, slots := 0, locals := 559 } jE (jMQ G { frames := 25, cells := 0, slots := 0, locals := 559 } (fun rr h9 => (∃ tk2 : Int, ∃ st2 : Int, ∃ bh2 : Int, ∃ va2 : Int, ∃ pa2 : Int, ∃ sz2 : Int, ∃ cd2 : Int → Int, ∃ ti2 : Int, rr = some (.int (zI 1)) ∧ h9 = (nh, hc fh [(54, .inr (5, [.ref 55, .int (zI ln), .int (zI tk2), .int (zI st2), .int (zI bh2), .int (zI va2), .int (zI pa2), .int (zI fl), .ref 56, .int (zI sz2)])), (56, .inl (0, 412, .inl (zA cd2)))]) ∧ (0 ≤ tk2) ∧ (tk2 ≤ 355) ∧ (0 ≤ st2) ∧ (st2 ≤ bh2) ∧ (bh2 ≤ ln) ∧ (0 ≤ va2) ∧ (va2 ≤ 1001) ∧ (0 ≤ pa2) ∧ (pa2 ≤ 50) ∧ (0 ≤ sz2) ∧ (sz2 ≤ 412) ∧ (TokL tk2 st2 bh2) ∧ (Rg cd2 412 (-2147483648) 2147483647) ∧ (sz2 + st ≤ sz + st2) ∧ (st ≤ st2) ∧ (TkX tp ln ti2 tk2 st2 bh2 va2) ∧ (0 ≤ ti2) ∧ (PnR (CTk tp ln) (LF tp ln) 4 ti pa 1 ti2 pa2)) ∨ (∃ tk2 : Int, ∃ st2 : Int, ∃ bh2 : Int, ∃ va2 : Int, ∃ pa2 : Int, ∃ sz2 : Int, ∃ cd2 : Int → Int, ∃ fl2 : Int, ∃ ti2 : Int, rr = some (.int (zI 0)) ∧ h9 = (nh, hc fh [(54, .inr (5, [.ref 55, .int (zI ln), .int (zI tk2), .int (zI st2), .int (zI bh2), .int (zI va2), .int (zI pa2), .int (zI fl2), .ref 56, .int (zI sz2)])), (56, .inl (0, 412, .inl (zA cd2)))]) ∧ (0 ≤ tk2) ∧ (tk2 ≤ 355) ∧ (0 ≤ st2) ∧ (st2 ≤ bh2) ∧ (bh2 ≤ ln) ∧ (0 ≤ va2) ∧ (va2 ≤ 1001) ∧ (0 ≤ pa2) ∧ (pa2 ≤ 50) ∧ (0 ≤ sz2) ∧ (sz2 ≤ 412) ∧ (TokL tk2 st2 bh2) ∧ (Rg cd2 412 (-2147483648) 2147483647) ∧ (0 ≤ fl2) ∧ (fl2 ≤ 400) ∧ (FlX tp ln ti2 fl2) ∧ (PnR (CTk tp ln) (LF tp ln) 4 ti pa 0 ti2 0)))) (nh, hc fh [(54, .inr (5, [.ref 55, .int (zI ln), .int (zI tx_4), .int (zI sx_4), .int (zI bx_4), .int (zI vx_4), .int (zI pa), .int (zI fl), .ref 56, .int (zI sz)]))]) 0 0 4 [some (.ref 54), some (.int (zI 4)), some (.int (zI dn_4)), some (.int (zI i_4))] [] := by
    intro N4
    induction N4 with
    | zero => intro dn_4 i_4 tx_4 sx_4 bx_4 vx_4 ti_4 i4_0 i4_1 i4_2 i4_3 i4_4 i4_5 i4_6 i4_7 i4_8 i4_9 i4_10 i4_11 i4_12 i4_13 i4_14 i4_15 i4_16 hm; exact absurd hm (Nat.not_lt_zero _)
    | succ N4 ih4 =>
      intro dn_4 i_4 tx_4 sx_4 bx_4 vx_4 ti_4 i4_0 i4_1 i4_2 i4_3 i4_4 i4_5 i4_6 i4_7 i4_8 i4_9 i4_10 i4_11 i4_12 i4_13 i4_14 i4_15 i4_16 hm4
      refine J_iload_n dX5_plain_4 rfl rfl ?_
      refine Z_sipush (n := 400) dX5_plain_5 (by decide +kernel) ?_
      refine Z_icmp_ge (tgt := 40) dX5_plain_8 (by decide) (v_d7389cde0f i4_0 i4_1) v_d8dcd4dd52 (fun h1 => ?_) (fun h1 => ?_)
      · have g2 : tx_4 = 17 := TkX.lo i4_14 (v_af0392b8e9 q1 q4 i4_5 i4_9 i4_10 h1)
        refine J_aload_n dX5_plain_40 rfl rfl ?_
        refine Z_bipush (n := 40) dX5_plain_41 (by decide +kernel) ?_
        refine J_callV (st := []) dX5_plain_43 cv_X5_50 (d_isSign 40 ln tx_4 sx_4 bx_4 vx_4 pa fl sz v_3958fe4c87 v_fdd2493dbb i4_6 i4_7 rfl) rfl rfl rfl (Nat.le_of_ble_eq_true rfl) ⟨(Nat.le_of_ble_eq_true rfl), (Nat.le_of_ble_eq_true rfl)⟩ ⟨(Nat.le_of_ble_eq_true rfl), (Nat.le_of_ble_eq_true rfl)⟩ (fun r h9 hp => ?_)
        rcases hp with ⟨rfl, rfl, h3⟩ | ⟨rfl, rfl, h4⟩
        · exact False.elim (v_ba9b7c0e8b g2 h3)
        · refine J_nf (nh2 := nh) (ck2 := 0) (sk2 := 0) (st2 := [.int (zI 0)]) rfl rfl rfl rfl ?_
          refine Z_if_eq (tgt := 59) dX5_plain_46 (by decide) v_b17331891f (fun h5 => ?_) (fun h5 => absurd h5 (fun q => q v_2ca2bbca1f))
          refine J_aload_n dX5_plain_59 rfl rfl ?_
          refine J_iload_n dX5_plain_60 rfl rfl ?_
          refine J_callV (st := []) dX5_plain_61 cv_X5_63 (d_sum4 ln tx_4 sx_4 bx_4 vx_4 pa fl sz tp cd ti_4 q0 q1 i4_6 i4_7 i4_8 i4_9 i4_10 i4_11 i4_12 q9 q10 q11 q12 q13 i4_13 q15 q16 i4_14 (v_21976c7318 q18 i4_15) rfl hk55 hk56) rfl rfl rfl (Nat.le_of_ble_eq_true rfl) ⟨(Nat.le_of_ble_eq_true rfl), (Nat.le_of_ble_eq_true rfl)⟩ ⟨(Nat.le_of_ble_eq_true rfl), (Nat.le_of_ble_eq_true rfl)⟩ (fun r h9 hp => ?_)
          rcases hp with ⟨z6, z7, z8, z9, z10, z11, f12, z13, rfl, rfl, h14, h15, h16, h17, h18, h19, h20, h21, h22, h23, h24, h25, h26, h27, h28, h29, h30, h31⟩ | ⟨z32, z33, z34, z35, z36, z37, f38, z39, z40, rfl, rfl, h41, h42, h43, h44, h45, h46, h47, h48, h49, h50, h51, h52, h53, h54, h55, h56, h57⟩
          · refine J_nf (nh2 := nh) (ck2 := 0) (sk2 := 0) (st2 := [.int (zI 1)]) rfl rfl rfl rfl ?_
            refine J_app (L3 := [(54, .inr (5, [.ref 55, .int (zI ln), .int (zI z6), .int (zI z7), .int (zI z8), .int (zI z9), .int (zI z10), .int (zI fl), .ref 56, .int (zI z11)])), (56, .inl (0, 412, .inl (zA f12))), (54, .inr (5, [.ref 55, .int (zI ln), .int (zI tx_4), .int (zI sx_4), .int (zI bx_4), .int (zI vx_4), .int (zI pa), .int (zI fl), .ref 56, .int (zI sz)]))]) rfl ?_
            refine J_mask (L2 := [(54, .inr (5, [.ref 55, .int (zI ln), .int (zI z6), .int (zI z7), .int (zI z8), .int (zI z9), .int (zI z10), .int (zI fl), .ref 56, .int (zI z11)])), (56, .inl (0, 412, .inl (zA f12)))]) (ks := [54, 56, 54]) [true, true, false] rfl (by decide +kernel) rfl ?_
            refine Z_if_ne (tgt := 69) dX5_plain_64 (by decide) v_4dcc24baa7 (fun h58 => ?_) (fun h58 => absurd h58 v_3a47bfd896)
            refine J_aload_n dX5_plain_69 rfl rfl ?_
            refine Z_bipush (n := 60) dX5_plain_70 (by decide +kernel) ?_
            refine J_callV (st := []) dX5_plain_72 cv_X5_50 (d_isSign 60 ln z6 z7 z8 z9 z10 fl z11 v_eb2f5e1e3a v_382af52349 h14 h15 rfl) rfl rfl rfl (Nat.le_of_ble_eq_true rfl) ⟨(Nat.le_of_ble_eq_true rfl), (Nat.le_of_ble_eq_true rfl)⟩ ⟨(Nat.le_of_ble_eq_true rfl), (Nat.le_of_ble_eq_true rfl)⟩ (fun r h9 hp => ?_)
            rcases hp with ⟨rfl, rfl, h59⟩ | ⟨rfl, rfl, h60⟩
            · refine J_nf (nh2 := nh) (ck2 := 0) (sk2 := 0) (st2 := [.int (zI 1)]) rfl rfl rfl rfl ?_
              refine Z_if_eq (tgt := 83) dX5_plain_75 (by decide) v_4dcc24baa7 (fun h61 => absurd h61 v_3a47bfd896) (fun h61 => ?_)
              refine Z_bipush (n := 6) dX5_plain_78 (by decide +kernel) ?_
              refine J_goto (tgt := 99) dX5_plain_80 (by decide) ?_
              refine J_istore_n dX5_plain_99 rfl (Nat.le_of_ble_eq_true rfl) rfl ?_
              refine J_ls (ls2 := [some (.ref 54), some (.int (zI 4)), some (.int (zI dn_4)), some (.int (zI 6))]) rfl ?_
              refine J_iload_n dX5_plain_100 rfl rfl ?_
              refine Z_bipush (n := 8) dX5_plain_101 (by decide +kernel) ?_
              refine Z_icmp_ne (tgt := 120) dX5_plain_103 (by decide) v_8f5ecbc95e v_665891e294 (fun h62 => ?_) (fun h62 => absurd h62 v_ada6685030)
              refine J_aload_n dX5_plain_120 rfl rfl ?_
              have g63 := TokL.lt h25 (v_f5333b39e4 h59)
              refine J_callV (st := []) dX5_plain_121 cv_X5_43 (d_advance (z13 + 1) ln z6 z7 z8 z9 z10 fl z11 tp q0 q1 (v_d253cb2c59 h16 g63) h18 h19 h20 q15 (TkX.ps h29 (v_2b02420001 h30)) rfl hk55) rfl rfl rfl (Nat.le_of_ble_eq_true rfl) ⟨(Nat.le_of_ble_eq_true rfl), (Nat.le_of_ble_eq_true rfl)⟩ ⟨(Nat.le_of_ble_eq_true rfl), (Nat.le_of_ble_eq_true rfl)⟩ (fun r h9 hp => ?_)
              obtain ⟨z64, z65, z66, z67, rfl, rfl, h68, h69, h70, h71, h72, h73, h74, h75, h76⟩ := hp
              refine J_nf (nh2 := nh) (ck2 := 0) (sk2 := 0) (st2 := []) rfl rfl rfl rfl ?_
              refine J_app (L3 := [(54, .inr (5, [.ref 55, .int (zI ln), .int (zI z64), .int (zI z65), .int (zI z66), .int (zI z67), .int (zI z10), .int (zI fl), .ref 56, .int (zI z11)])), (54, .inr (5, [.ref 55, .int (zI ln), .int (zI z6), .int (zI z7), .int (zI z8), .int (zI z9), .int (zI z10), .int (zI fl), .ref 56, .int (zI z11)])), (56, .inl (0, 412, .inl (zA f12)))]) rfl ?_
              refine J_mask (L2 := [(54, .inr (5, [.ref 55, .int (zI ln), .int (zI z64), .int (zI z65), .int (zI z66), .int (zI z67), .int (zI z10), .int (zI fl), .ref 56, .int (zI z11)])), (56, .inl (0, 412, .inl (zA f12)))]) (ks := [54, 54, 56]) [true, false, true] rfl (by decide +kernel) rfl ?_
              refine J_aload_n dX5_plain_124 rfl rfl ?_
              refine J_iload_n dX5_plain_125 rfl rfl ?_
              refine J_callV (st := []) dX5_plain_126 cv_X5_63 (d_sum4 ln z64 z65 z66 z67 z10 fl z11 tp f12 (z13 + 1) q0 q1 h68 h69 (v_9b2e2070a2 h16 g63 h70) h71 h72 h73 h74 h21 h22 q11 h23 h24 h75 q15 h26 h76 (v_da458fa48a h30) rfl hk55 rfl) rfl rfl rfl (Nat.le_of_ble_eq_true rfl) ⟨(Nat.le_of_ble_eq_true rfl), (Nat.le_of_ble_eq_true rfl)⟩ ⟨(Nat.le_of_ble_eq_true rfl), (Nat.le_of_ble_eq_true rfl)⟩ (fun r h9 hp => ?_)
              rcases hp with ⟨z77, z78, z79, z80, z81, z82, f83, z84, rfl, rfl, h85, h86, h87, h88, h89, h90, h91, h92, h93, h94, h95, h96, h97, h98, h99, h100, h101, h102⟩ | ⟨z103, z104, z105, z106, z107, z108, f109, z110, z111, rfl, rfl, h112, h113, h114, h115, h116, h117, h118, h119, h120, h121, h122, h123, h124, h125, h126, h127, h128⟩
              · exact False.elim (v_a6bcc94d33 q1 q4 i4_5 h1 h18 h28 g63)
              · exact False.elim (v_a6bcc94d33 q1 q4 i4_5 h1 h18 h28 g63)
            · refine J_nf (nh2 := nh) (ck2 := 0) (sk2 := 0) (st2 := [.int (zI 0)]) rfl rfl rfl rfl ?_
              refine Z_if_eq (tgt := 83) dX5_plain_75 (by decide) v_b17331891f (fun h129 => ?_) (fun h129 => absurd h129 (fun q => q v_2ca2bbca1f))
              refine J_aload_n dX5_plain_83 rfl rfl ?_
              refine Z_bipush (n := 62) dX5_plain_84 (by decide +kernel) ?_
              refine J_callV (st := []) dX5_plain_86 cv_X5_50 (d_isSign 62 ln z6 z7 z8 z9 z10 fl z11 v_722c6b3941 v_3996c1d9a8 h14 h15 rfl) rfl rfl rfl (Nat.le_of_ble_eq_true rfl) ⟨(Nat.le_of_ble_eq_true rfl), (Nat.le_of_ble_eq_true rfl)⟩ ⟨(Nat.le_of_ble_eq_true rfl), (Nat.le_of_ble_eq_true rfl)⟩ (fun r h9 hp => ?_)
              rcases hp with ⟨rfl, rfl, h130⟩ | ⟨rfl, rfl, h131⟩
              · refine J_nf (nh2 := nh) (ck2 := 0) (sk2 := 0) (st2 := [.int (zI 1)]) rfl rfl rfl rfl ?_
                refine Z_if_eq (tgt := 97) dX5_plain_89 (by decide) v_4dcc24baa7 (fun h132 => absurd h132 v_3a47bfd896) (fun h132 => ?_)
                refine Z_bipush (n := 7) dX5_plain_92 (by decide +kernel) ?_
                refine J_goto (tgt := 99) dX5_plain_94 (by decide) ?_
                refine J_istore_n dX5_plain_99 rfl (Nat.le_of_ble_eq_true rfl) rfl ?_
                refine J_ls (ls2 := [some (.ref 54), some (.int (zI 4)), some (.int (zI dn_4)), some (.int (zI 7))]) rfl ?_
                refine J_iload_n dX5_plain_100 rfl rfl ?_
                refine Z_bipush (n := 8) dX5_plain_101 (by decide +kernel) ?_
                refine Z_icmp_ne (tgt := 120) dX5_plain_103 (by decide) v_c3fe1a091f v_665891e294 (fun h133 => ?_) (fun h133 => absurd h133 v_d62b89f05c)
                refine J_aload_n dX5_plain_120 rfl rfl ?_
                have g134 := TokL.lt h25 (v_3ec9e003c7 h130)
                refine J_callV (st := []) dX5_plain_121 cv_X5_43 (d_advance (z13 + 1) ln z6 z7 z8 z9 z10 fl z11 tp q0 q1 (v_d253cb2c59 h16 g134) h18 h19 h20 q15 (TkX.ps h29 (v_2b02420001 h30)) rfl hk55) rfl rfl rfl (Nat.le_of_ble_eq_true rfl) ⟨(Nat.le_of_ble_eq_true rfl), (Nat.le_of_ble_eq_true rfl)⟩ ⟨(Nat.le_of_ble_eq_true rfl), (Nat.le_of_ble_eq_true rfl)⟩ (fun r h9 hp => ?_)
                obtain ⟨z135, z136, z137, z138, rfl, rfl, h139, h140, h141, h142, h143, h144, h145, h146, h147⟩ := hp
                refine J_nf (nh2 := nh) (ck2 := 0) (sk2 := 0) (st2 := []) rfl rfl rfl rfl ?_
                refine J_app (L3 := [(54, .inr (5, [.ref 55, .int (zI ln), .int (zI z135), .int (zI z136), .int (zI z137), .int (zI z138), .int (zI z10), .int (zI fl), .ref 56, .int (zI z11)])), (54, .inr (5, [.ref 55, .int (zI ln), .int (zI z6), .int (zI z7), .int (zI z8), .int (zI z9), .int (zI z10), .int (zI fl), .ref 56, .int (zI z11)])), (56, .inl (0, 412, .inl (zA f12)))]) rfl ?_
                refine J_mask (L2 := [(54, .inr (5, [.ref 55, .int (zI ln), .int (zI z135), .int (zI z136), .int (zI z137), .int (zI z138), .int (zI z10), .int (zI fl), .ref 56, .int (zI z11)])), (56, .inl (0, 412, .inl (zA f12)))]) (ks := [54, 54, 56]) [true, false, true] rfl (by decide +kernel) rfl ?_
                refine J_aload_n dX5_plain_124 rfl rfl ?_
                refine J_iload_n dX5_plain_125 rfl rfl ?_
                refine J_callV (st := []) dX5_plain_126 cv_X5_63 (d_sum4 ln z135 z136 z137 z138 z10 fl z11 tp f12 (z13 + 1) q0 q1 h139 h140 (v_9b2e2070a2 h16 g134 h141) h142 h143 h144 h145 h21 h22 q11 h23 h24 h146 q15 h26 h147 (v_da458fa48a h30) rfl hk55 rfl) rfl rfl rfl (Nat.le_of_ble_eq_true rfl) ⟨(Nat.le_of_ble_eq_true rfl), (Nat.le_of_ble_eq_true rfl)⟩ ⟨(Nat.le_of_ble_eq_true rfl), (Nat.le_of_ble_eq_true rfl)⟩ (fun r h9 hp => ?_)
                rcases hp with ⟨z148, z149, z150, z151, z152, z153, f154, z155, rfl, rfl, h156, h157, h158, h159, h160, h161, h162, h163, h164, h165, h166, h167, h168, h169, h170, h171, h172, h173⟩ | ⟨z174, z175, z176, z177, z178, z179, f180, z181, z182, rfl, rfl, h183, h184, h185, h186, h187, h188, h189, h190, h191, h192, h193, h194, h195, h196, h197, h198, h199⟩
                · exact False.elim (v_a6bcc94d33 q1 q4 i4_5 h1 h18 h28 g134)
                · exact False.elim (v_a6bcc94d33 q1 q4 i4_5 h1 h18 h28 g134)
              · refine J_nf (nh2 := nh) (ck2 := 0) (sk2 := 0) (st2 := [.int (zI 0)]) rfl rfl rfl rfl ?_
                refine Z_if_eq (tgt := 97) dX5_plain_89 (by decide) v_b17331891f (fun h200 => ?_) (fun h200 => absurd h200 (fun q => q v_2ca2bbca1f))
                refine Z_bipush (n := 8) dX5_plain_97 (by decide +kernel) ?_
                refine J_istore_n dX5_plain_99 rfl (Nat.le_of_ble_eq_true rfl) rfl ?_
                refine J_ls (ls2 := [some (.ref 54), some (.int (zI 4)), some (.int (zI dn_4)), some (.int (zI 8))]) rfl ?_
                refine J_iload_n dX5_plain_100 rfl rfl ?_
                refine Z_bipush (n := 8) dX5_plain_101 (by decide +kernel) ?_
                refine Z_icmp_ne (tgt := 120) dX5_plain_103 (by decide) v_665891e294 v_665891e294 (fun h201 => absurd h201 (fun q => q v_c1b8243509)) (fun h201 => ?_)
                refine J_aload_n dX5_plain_106 rfl rfl ?_
                refine Z_bipush (n := 61) dX5_plain_107 (by decide +kernel) ?_
                refine J_callV (st := []) dX5_plain_109 cv_X5_50 (d_isSign 61 ln z6 z7 z8 z9 z10 fl z11 v_b92a3c53b8 v_7b9730a51b h14 h15 rfl) rfl rfl rfl (Nat.le_of_ble_eq_true rfl) ⟨(Nat.le_of_ble_eq_true rfl), (Nat.le_of_ble_eq_true rfl)⟩ ⟨(Nat.le_of_ble_eq_true rfl), (Nat.le_of_ble_eq_true rfl)⟩ (fun r h9 hp => ?_)
                rcases hp with ⟨rfl, rfl, h202⟩ | ⟨rfl, rfl, h203⟩
                · refine J_nf (nh2 := nh) (ck2 := 0) (sk2 := 0) (st2 := [.int (zI 1)]) rfl rfl rfl rfl ?_
                  refine Z_if_ne (tgt := 120) dX5_plain_112 (by decide) v_4dcc24baa7 (fun h204 => ?_) (fun h204 => absurd h204 v_3a47bfd896)
                  refine J_aload_n dX5_plain_120 rfl rfl ?_
                  have g205 := TokL.lt h25 (v_23eeeea057 h202)
                  refine J_callV (st := []) dX5_plain_121 cv_X5_43 (d_advance (z13 + 1) ln z6 z7 z8 z9 z10 fl z11 tp q0 q1 (v_d253cb2c59 h16 g205) h18 h19 h20 q15 (TkX.ps h29 (v_2b02420001 h30)) rfl hk55) rfl rfl rfl (Nat.le_of_ble_eq_true rfl) ⟨(Nat.le_of_ble_eq_true rfl), (Nat.le_of_ble_eq_true rfl)⟩ ⟨(Nat.le_of_ble_eq_true rfl), (Nat.le_of_ble_eq_true rfl)⟩ (fun r h9 hp => ?_)
                  obtain ⟨z206, z207, z208, z209, rfl, rfl, h210, h211, h212, h213, h214, h215, h216, h217, h218⟩ := hp
                  refine J_nf (nh2 := nh) (ck2 := 0) (sk2 := 0) (st2 := []) rfl rfl rfl rfl ?_
                  refine J_app (L3 := [(54, .inr (5, [.ref 55, .int (zI ln), .int (zI z206), .int (zI z207), .int (zI z208), .int (zI z209), .int (zI z10), .int (zI fl), .ref 56, .int (zI z11)])), (54, .inr (5, [.ref 55, .int (zI ln), .int (zI z6), .int (zI z7), .int (zI z8), .int (zI z9), .int (zI z10), .int (zI fl), .ref 56, .int (zI z11)])), (56, .inl (0, 412, .inl (zA f12)))]) rfl ?_
                  refine J_mask (L2 := [(54, .inr (5, [.ref 55, .int (zI ln), .int (zI z206), .int (zI z207), .int (zI z208), .int (zI z209), .int (zI z10), .int (zI fl), .ref 56, .int (zI z11)])), (56, .inl (0, 412, .inl (zA f12)))]) (ks := [54, 54, 56]) [true, false, true] rfl (by decide +kernel) rfl ?_
                  refine J_aload_n dX5_plain_124 rfl rfl ?_
                  refine J_iload_n dX5_plain_125 rfl rfl ?_
                  refine J_callV (st := []) dX5_plain_126 cv_X5_63 (d_sum4 ln z206 z207 z208 z209 z10 fl z11 tp f12 (z13 + 1) q0 q1 h210 h211 (v_9b2e2070a2 h16 g205 h212) h213 h214 h215 h216 h21 h22 q11 h23 h24 h217 q15 h26 h218 (v_da458fa48a h30) rfl hk55 rfl) rfl rfl rfl (Nat.le_of_ble_eq_true rfl) ⟨(Nat.le_of_ble_eq_true rfl), (Nat.le_of_ble_eq_true rfl)⟩ ⟨(Nat.le_of_ble_eq_true rfl), (Nat.le_of_ble_eq_true rfl)⟩ (fun r h9 hp => ?_)
                  rcases hp with ⟨z219, z220, z221, z222, z223, z224, f225, z226, rfl, rfl, h227, h228, h229, h230, h231, h232, h233, h234, h235, h236, h237, h238, h239, h240, h241, h242, h243, h244⟩ | ⟨z245, z246, z247, z248, z249, z250, f251, z252, z253, rfl, rfl, h254, h255, h256, h257, h258, h259, h260, h261, h262, h263, h264, h265, h266, h267, h268, h269, h270⟩
                  · exact False.elim (v_a6bcc94d33 q1 q4 i4_5 h1 h18 h28 g205)
                  · exact False.elim (v_a6bcc94d33 q1 q4 i4_5 h1 h18 h28 g205)
                · refine J_nf (nh2 := nh) (ck2 := 0) (sk2 := 0) (st2 := [.int (zI 0)]) rfl rfl rfl rfl ?_
                  refine Z_if_ne (tgt := 120) dX5_plain_112 (by decide) v_b17331891f (fun h271 => absurd h271 (fun q => q v_2ca2bbca1f)) (fun h271 => ?_)
                  refine J_aload_n dX5_plain_115 rfl rfl ?_
                  refine J_callV (st := []) dX5_plain_116 cv_X5_54 (d_wrong ln z6 z7 z8 z9 z10 fl z11 h16 (v_1adcfdfee5 q1 h17 h18) rfl) rfl rfl rfl (Nat.le_of_ble_eq_true rfl) ⟨(Nat.le_of_ble_eq_true rfl), (Nat.le_of_ble_eq_true rfl)⟩ ⟨(Nat.le_of_ble_eq_true rfl), (Nat.le_of_ble_eq_true rfl)⟩ (fun r h9 hp => ?_)
                  obtain ⟨rfl, rfl⟩ := hp
                  refine J_nf (nh2 := nh) (ck2 := 0) (sk2 := 0) (st2 := [.int (zI 0)]) rfl rfl rfl rfl ?_
                  refine J_app (L3 := [(54, .inr (5, [.ref 55, .int (zI ln), .int (zI z6), .int (zI z7), .int (zI z8), .int (zI z9), .int (zI z10), .int (zI z7), .ref 56, .int (zI z11)])), (54, .inr (5, [.ref 55, .int (zI ln), .int (zI z6), .int (zI z7), .int (zI z8), .int (zI z9), .int (zI z10), .int (zI fl), .ref 56, .int (zI z11)])), (56, .inl (0, 412, .inl (zA f12)))]) rfl ?_
                  refine J_mask (L2 := [(54, .inr (5, [.ref 55, .int (zI ln), .int (zI z6), .int (zI z7), .int (zI z8), .int (zI z9), .int (zI z10), .int (zI z7), .ref 56, .int (zI z11)])), (56, .inl (0, 412, .inl (zA f12)))]) (ks := [54, 54, 56]) [true, false, true] rfl (by decide +kernel) rfl ?_
                  exact J_iret dX5_plain_119 rfl (jbn v_939070ca3f v_316afd7d0b) (Nat.le_of_ble_eq_true rfl) (Nat.le_of_ble_eq_true rfl) (Or.inr ⟨z6, z7, z8, z9, z10, z11, f12, z7, z13, rfl, rfl, h14, h15, h16, h17, h18, h19, h20, h21, h22, h23, h24, h25, h26, h16, (v_1adcfdfee5 q1 h17 h18), ((TkX.s h29)), (PlR.w (v_d464d4c634 i4_15) i4_16 (fun w => absurd ((TkX.wd i4_14 (v := 6) (c := 7) (by decide) (by decide) (by decide)).mp w) (v_bd75728820 g2)) (fun w => absurd ((TkX.sg i4_14 (v := 140) (by decide)).mp w) (v_c9b196b50c g2)) h31 (fun w => Or.elim w (fun w => absurd ((TkX.sg h29 (v := 160) (by decide)).mp w) (v_62784191f6 h60)) (fun w => Or.elim w (fun w => absurd ((TkX.sg h29 (v := 161) (by decide)).mp w) (v_e6bfb52c99 h203)) (fun w => absurd ((TkX.sg h29 (v := 162) (by decide)).mp w) (v_b61acea494 h131)))))⟩)
          · refine J_nf (nh2 := nh) (ck2 := 0) (sk2 := 0) (st2 := [.int (zI 0)]) rfl rfl rfl rfl ?_
            refine J_app (L3 := [(54, .inr (5, [.ref 55, .int (zI ln), .int (zI z32), .int (zI z33), .int (zI z34), .int (zI z35), .int (zI z36), .int (zI z39), .ref 56, .int (zI z37)])), (56, .inl (0, 412, .inl (zA f38))), (54, .inr (5, [.ref 55, .int (zI ln), .int (zI tx_4), .int (zI sx_4), .int (zI bx_4), .int (zI vx_4), .int (zI pa), .int (zI fl), .ref 56, .int (zI sz)]))]) rfl ?_
            refine J_mask (L2 := [(54, .inr (5, [.ref 55, .int (zI ln), .int (zI z32), .int (zI z33), .int (zI z34), .int (zI z35), .int (zI z36), .int (zI z39), .ref 56, .int (zI z37)])), (56, .inl (0, 412, .inl (zA f38)))]) (ks := [54, 56, 54]) [true, true, false] rfl (by decide +kernel) rfl ?_
            refine Z_if_ne (tgt := 69) dX5_plain_64 (by decide) v_b17331891f (fun h272 => absurd h272 (fun q => q v_2ca2bbca1f)) (fun h272 => ?_)
            refine Z_iconst (n := 0) dX5_plain_67 ?_
            exact J_iret dX5_plain_68 rfl (jbn v_939070ca3f v_316afd7d0b) (Nat.le_of_ble_eq_true rfl) (Nat.le_of_ble_eq_true rfl) (Or.inr ⟨z32, z33, z34, z35, z36, z37, f38, z39, z40, rfl, rfl, h41, h42, h43, h44, h45, h46, h47, h48, h49, h50, h51, h52, h53, h54, h55, (h56), (PlR.b1 (v_d464d4c634 i4_15) i4_16 (fun w => absurd ((TkX.wd i4_14 (v := 6) (c := 7) (by decide) (by decide) (by decide)).mp w) (v_bd75728820 g2)) (fun w => absurd ((TkX.sg i4_14 (v := 140) (by decide)).mp w) (v_c9b196b50c g2)) h57)⟩)
      · refine J_aload_n dX5_plain_11 rfl rfl ?_
        refine J_get (v := .int (zI tx_4)) dX5_plain_12 fl_X5_19 rfl rfl ?_
        refine Z_bipush (n := 6) dX5_plain_15 (by decide +kernel) ?_
        refine Z_icmp_ne (tgt := 40) dX5_plain_17 (by decide) (v_96bf6f782e i4_6 i4_7) v_8f5ecbc95e (fun h273 => ?_) (fun h273 => ?_)
        · refine J_aload_n dX5_plain_40 rfl rfl ?_
          refine Z_bipush (n := 40) dX5_plain_41 (by decide +kernel) ?_
          refine J_callV (st := []) dX5_plain_43 cv_X5_50 (d_isSign 40 ln tx_4 sx_4 bx_4 vx_4 pa fl sz v_3958fe4c87 v_fdd2493dbb i4_6 i4_7 rfl) rfl rfl rfl (Nat.le_of_ble_eq_true rfl) ⟨(Nat.le_of_ble_eq_true rfl), (Nat.le_of_ble_eq_true rfl)⟩ ⟨(Nat.le_of_ble_eq_true rfl), (Nat.le_of_ble_eq_true rfl)⟩ (fun r h9 hp => ?_)
          rcases hp with ⟨rfl, rfl, h274⟩ | ⟨rfl, rfl, h275⟩
          · refine J_nf (nh2 := nh) (ck2 := 0) (sk2 := 0) (st2 := [.int (zI 1)]) rfl rfl rfl rfl ?_
            refine Z_if_eq (tgt := 59) dX5_plain_46 (by decide) v_4dcc24baa7 (fun h276 => absurd h276 v_3a47bfd896) (fun h276 => ?_)
            refine J_aload_n dX5_plain_49 rfl rfl ?_
            refine J_iload_n dX5_plain_50 rfl rfl ?_
            refine J_callV (st := []) dX5_plain_51 cv_X5_86 (d_bracketedTest4 ln tx_4 sx_4 bx_4 vx_4 pa fl sz tp cd ti_4 q0 q1 i4_6 i4_7 i4_8 i4_9 i4_10 i4_11 i4_12 q9 q10 q11 q12 q13 i4_13 q15 q16 i4_14 (v_21976c7318 q18 i4_15) rfl hk55 hk56) rfl rfl rfl (Nat.le_of_ble_eq_true rfl) ⟨(Nat.le_of_ble_eq_true rfl), (Nat.le_of_ble_eq_true rfl)⟩ ⟨(Nat.le_of_ble_eq_true rfl), (Nat.le_of_ble_eq_true rfl)⟩ (fun r h9 hp => ?_)
            rcases hp with ⟨z277, z278, z279, z280, z281, z282, f283, z284, rfl, rfl, h285, h286, h287, h288, h289, h290, h291, h292, h293, h294, h295, h296, h297, h298, h299, h300, h301, h302⟩ | ⟨z303, z304, z305, z306, z307, z308, f309, z310, z311, rfl, rfl, h312, h313, h314, h315, h316, h317, h318, h319, h320, h321, h322, h323, h324, h325, h326, h327, h328⟩
            · refine J_nf (nh2 := nh) (ck2 := 0) (sk2 := 0) (st2 := [.int (zI 1)]) rfl rfl rfl rfl ?_
              refine J_app (L3 := [(54, .inr (5, [.ref 55, .int (zI ln), .int (zI z277), .int (zI z278), .int (zI z279), .int (zI z280), .int (zI z281), .int (zI fl), .ref 56, .int (zI z282)])), (56, .inl (0, 412, .inl (zA f283))), (54, .inr (5, [.ref 55, .int (zI ln), .int (zI tx_4), .int (zI sx_4), .int (zI bx_4), .int (zI vx_4), .int (zI pa), .int (zI fl), .ref 56, .int (zI sz)]))]) rfl ?_
              refine J_mask (L2 := [(54, .inr (5, [.ref 55, .int (zI ln), .int (zI z277), .int (zI z278), .int (zI z279), .int (zI z280), .int (zI z281), .int (zI fl), .ref 56, .int (zI z282)])), (56, .inl (0, 412, .inl (zA f283)))]) (ks := [54, 56, 54]) [true, true, false] rfl (by decide +kernel) rfl ?_
              refine Z_if_ne (tgt := 141) dX5_plain_54 (by decide) v_4dcc24baa7 (fun h329 => ?_) (fun h329 => absurd h329 v_3a47bfd896)
              refine J_iload_n dX5_plain_141 rfl rfl ?_
              refine Z_if_eq (tgt := 153) dX5_plain_142 (by decide) (v_5f10a759cd i4_2 i4_3) (fun h330 => ?_) (fun h330 => ?_)
              · refine Z_iconst (n := 1) dX5_plain_153 ?_
                exact J_iret dX5_plain_154 rfl (jbn v_316afd7d0b v_bbcfac9b7d) (Nat.le_of_ble_eq_true rfl) (Nat.le_of_ble_eq_true rfl) (Or.inl ⟨z277, z278, z279, z280, z281, z282, f283, z284, rfl, rfl, h285, h286, h287, h288, h289, h290, h291, h292, h293, h294, h295, h296, h297, (v_f7907ed2b5 i4_2 i4_4 h298), (v_4790cfd5f0 i4_2 i4_4 h299), h300, h301, (PlR.br (v_d464d4c634 i4_15) i4_16 (fun w => absurd ((TkX.wd i4_14 (v := 6) (c := 7) (by decide) (by decide) (by decide)).mp w) (v_e35e61c023 h274)) ((TkX.sg i4_14 (v := 140) (by decide)).mpr (v_b392e93b1e h274)) h302)⟩)
              · refine J_aload_n dX5_plain_145 rfl rfl ?_
                refine Z_bipush (n := 9) dX5_plain_146 (by decide +kernel) ?_
                refine Z_iconst (n := 0) dX5_plain_148 ?_
                refine J_callV (st := []) dX5_plain_149 cv_X5_72 (d_emit 9 0 ln z277 z278 z279 z280 z281 fl z282 f283 v_00f9f00cc1 v_b17331891f h294 h295 h297 rfl rfl) rfl rfl rfl (Nat.le_of_ble_eq_true rfl) ⟨(Nat.le_of_ble_eq_true rfl), (Nat.le_of_ble_eq_true rfl)⟩ ⟨(Nat.le_of_ble_eq_true rfl), (Nat.le_of_ble_eq_true rfl)⟩ (fun r h9 hp => ?_)
                obtain ⟨z331, f332, rfl, rfl, h333, h334, h335, h336, h337⟩ := hp
                refine J_nf (nh2 := nh) (ck2 := 0) (sk2 := 0) (st2 := [.int (zI z282)]) rfl rfl rfl rfl ?_
                refine J_app (L3 := [(54, .inr (5, [.ref 55, .int (zI ln), .int (zI z277), .int (zI z278), .int (zI z279), .int (zI z280), .int (zI z281), .int (zI fl), .ref 56, .int (zI z331)])), (56, .inl (0, 412, .inl (zA f332))), (54, .inr (5, [.ref 55, .int (zI ln), .int (zI z277), .int (zI z278), .int (zI z279), .int (zI z280), .int (zI z281), .int (zI fl), .ref 56, .int (zI z282)])), (56, .inl (0, 412, .inl (zA f283)))]) rfl ?_
                refine J_mask (L2 := [(54, .inr (5, [.ref 55, .int (zI ln), .int (zI z277), .int (zI z278), .int (zI z279), .int (zI z280), .int (zI z281), .int (zI fl), .ref 56, .int (zI z331)])), (56, .inl (0, 412, .inl (zA f332)))]) (ks := [54, 56, 54, 56]) [true, true, false, false] rfl (by decide +kernel) rfl ?_
                refine J_pop dX5_plain_152 rfl ?_
                refine Z_iconst (n := 1) dX5_plain_153 ?_
                exact J_iret dX5_plain_154 rfl (jbn v_316afd7d0b v_bbcfac9b7d) (Nat.le_of_ble_eq_true rfl) (Nat.le_of_ble_eq_true rfl) (Or.inl ⟨z277, z278, z279, z280, z281, z331, f332, z284, rfl, rfl, h285, h286, h287, h288, h289, h290, h291, h292, h293, h333, h334, h296, h337, (v_6cbc4edc5d i4_2 i4_4 h298 h330 h336), (v_4790cfd5f0 i4_2 i4_4 h299), h300, h301, (PlR.br (v_d464d4c634 i4_15) i4_16 (fun w => absurd ((TkX.wd i4_14 (v := 6) (c := 7) (by decide) (by decide) (by decide)).mp w) (v_e35e61c023 h274)) ((TkX.sg i4_14 (v := 140) (by decide)).mpr (v_b392e93b1e h274)) h302)⟩)
            · refine J_nf (nh2 := nh) (ck2 := 0) (sk2 := 0) (st2 := [.int (zI 0)]) rfl rfl rfl rfl ?_
              refine J_app (L3 := [(54, .inr (5, [.ref 55, .int (zI ln), .int (zI z303), .int (zI z304), .int (zI z305), .int (zI z306), .int (zI z307), .int (zI z310), .ref 56, .int (zI z308)])), (56, .inl (0, 412, .inl (zA f309))), (54, .inr (5, [.ref 55, .int (zI ln), .int (zI tx_4), .int (zI sx_4), .int (zI bx_4), .int (zI vx_4), .int (zI pa), .int (zI fl), .ref 56, .int (zI sz)]))]) rfl ?_
              refine J_mask (L2 := [(54, .inr (5, [.ref 55, .int (zI ln), .int (zI z303), .int (zI z304), .int (zI z305), .int (zI z306), .int (zI z307), .int (zI z310), .ref 56, .int (zI z308)])), (56, .inl (0, 412, .inl (zA f309)))]) (ks := [54, 56, 54]) [true, true, false] rfl (by decide +kernel) rfl ?_
              refine Z_if_ne (tgt := 141) dX5_plain_54 (by decide) v_b17331891f (fun h338 => absurd h338 (fun q => q v_2ca2bbca1f)) (fun h338 => ?_)
              refine Z_iconst (n := 0) dX5_plain_57 ?_
              exact J_iret dX5_plain_58 rfl (jbn v_939070ca3f v_316afd7d0b) (Nat.le_of_ble_eq_true rfl) (Nat.le_of_ble_eq_true rfl) (Or.inr ⟨z303, z304, z305, z306, z307, z308, f309, z310, z311, rfl, rfl, h312, h313, h314, h315, h316, h317, h318, h319, h320, h321, h322, h323, h324, h325, h326, (h327), (PlR.br (v_d464d4c634 i4_15) i4_16 (fun w => absurd ((TkX.wd i4_14 (v := 6) (c := 7) (by decide) (by decide) (by decide)).mp w) (v_e35e61c023 h274)) ((TkX.sg i4_14 (v := 140) (by decide)).mpr (v_b392e93b1e h274)) h328)⟩)
          · refine J_nf (nh2 := nh) (ck2 := 0) (sk2 := 0) (st2 := [.int (zI 0)]) rfl rfl rfl rfl ?_
            refine Z_if_eq (tgt := 59) dX5_plain_46 (by decide) v_b17331891f (fun h339 => ?_) (fun h339 => absurd h339 (fun q => q v_2ca2bbca1f))
            refine J_aload_n dX5_plain_59 rfl rfl ?_
            refine J_iload_n dX5_plain_60 rfl rfl ?_
            refine J_callV (st := []) dX5_plain_61 cv_X5_63 (d_sum4 ln tx_4 sx_4 bx_4 vx_4 pa fl sz tp cd ti_4 q0 q1 i4_6 i4_7 i4_8 i4_9 i4_10 i4_11 i4_12 q9 q10 q11 q12 q13 i4_13 q15 q16 i4_14 (v_21976c7318 q18 i4_15) rfl hk55 hk56) rfl rfl rfl (Nat.le_of_ble_eq_true rfl) ⟨(Nat.le_of_ble_eq_true rfl), (Nat.le_of_ble_eq_true rfl)⟩ ⟨(Nat.le_of_ble_eq_true rfl), (Nat.le_of_ble_eq_true rfl)⟩ (fun r h9 hp => ?_)
            rcases hp with ⟨z340, z341, z342, z343, z344, z345, f346, z347, rfl, rfl, h348, h349, h350, h351, h352, h353, h354, h355, h356, h357, h358, h359, h360, h361, h362, h363, h364, h365⟩ | ⟨z366, z367, z368, z369, z370, z371, f372, z373, z374, rfl, rfl, h375, h376, h377, h378, h379, h380, h381, h382, h383, h384, h385, h386, h387, h388, h389, h390, h391⟩
            · refine J_nf (nh2 := nh) (ck2 := 0) (sk2 := 0) (st2 := [.int (zI 1)]) rfl rfl rfl rfl ?_
              refine J_app (L3 := [(54, .inr (5, [.ref 55, .int (zI ln), .int (zI z340), .int (zI z341), .int (zI z342), .int (zI z343), .int (zI z344), .int (zI fl), .ref 56, .int (zI z345)])), (56, .inl (0, 412, .inl (zA f346))), (54, .inr (5, [.ref 55, .int (zI ln), .int (zI tx_4), .int (zI sx_4), .int (zI bx_4), .int (zI vx_4), .int (zI pa), .int (zI fl), .ref 56, .int (zI sz)]))]) rfl ?_
              refine J_mask (L2 := [(54, .inr (5, [.ref 55, .int (zI ln), .int (zI z340), .int (zI z341), .int (zI z342), .int (zI z343), .int (zI z344), .int (zI fl), .ref 56, .int (zI z345)])), (56, .inl (0, 412, .inl (zA f346)))]) (ks := [54, 56, 54]) [true, true, false] rfl (by decide +kernel) rfl ?_
              refine Z_if_ne (tgt := 69) dX5_plain_64 (by decide) v_4dcc24baa7 (fun h392 => ?_) (fun h392 => absurd h392 v_3a47bfd896)
              refine J_aload_n dX5_plain_69 rfl rfl ?_
              refine Z_bipush (n := 60) dX5_plain_70 (by decide +kernel) ?_
              refine J_callV (st := []) dX5_plain_72 cv_X5_50 (d_isSign 60 ln z340 z341 z342 z343 z344 fl z345 v_eb2f5e1e3a v_382af52349 h348 h349 rfl) rfl rfl rfl (Nat.le_of_ble_eq_true rfl) ⟨(Nat.le_of_ble_eq_true rfl), (Nat.le_of_ble_eq_true rfl)⟩ ⟨(Nat.le_of_ble_eq_true rfl), (Nat.le_of_ble_eq_true rfl)⟩ (fun r h9 hp => ?_)
              rcases hp with ⟨rfl, rfl, h393⟩ | ⟨rfl, rfl, h394⟩
              · refine J_nf (nh2 := nh) (ck2 := 0) (sk2 := 0) (st2 := [.int (zI 1)]) rfl rfl rfl rfl ?_
                refine Z_if_eq (tgt := 83) dX5_plain_75 (by decide) v_4dcc24baa7 (fun h395 => absurd h395 v_3a47bfd896) (fun h395 => ?_)
                refine Z_bipush (n := 6) dX5_plain_78 (by decide +kernel) ?_
                refine J_goto (tgt := 99) dX5_plain_80 (by decide) ?_
                refine J_istore_n dX5_plain_99 rfl (Nat.le_of_ble_eq_true rfl) rfl ?_
                refine J_ls (ls2 := [some (.ref 54), some (.int (zI 4)), some (.int (zI dn_4)), some (.int (zI 6))]) rfl ?_
                refine J_iload_n dX5_plain_100 rfl rfl ?_
                refine Z_bipush (n := 8) dX5_plain_101 (by decide +kernel) ?_
                refine Z_icmp_ne (tgt := 120) dX5_plain_103 (by decide) v_8f5ecbc95e v_665891e294 (fun h396 => ?_) (fun h396 => absurd h396 v_ada6685030)
                refine J_aload_n dX5_plain_120 rfl rfl ?_
                have g397 := TokL.lt h359 (v_f5333b39e4 h393)
                refine J_callV (st := []) dX5_plain_121 cv_X5_43 (d_advance (z347 + 1) ln z340 z341 z342 z343 z344 fl z345 tp q0 q1 (v_d253cb2c59 h350 g397) h352 h353 h354 q15 (TkX.ps h363 (v_2b02420001 h364)) rfl hk55) rfl rfl rfl (Nat.le_of_ble_eq_true rfl) ⟨(Nat.le_of_ble_eq_true rfl), (Nat.le_of_ble_eq_true rfl)⟩ ⟨(Nat.le_of_ble_eq_true rfl), (Nat.le_of_ble_eq_true rfl)⟩ (fun r h9 hp => ?_)
                obtain ⟨z398, z399, z400, z401, rfl, rfl, h402, h403, h404, h405, h406, h407, h408, h409, h410⟩ := hp
                refine J_nf (nh2 := nh) (ck2 := 0) (sk2 := 0) (st2 := []) rfl rfl rfl rfl ?_
                refine J_app (L3 := [(54, .inr (5, [.ref 55, .int (zI ln), .int (zI z398), .int (zI z399), .int (zI z400), .int (zI z401), .int (zI z344), .int (zI fl), .ref 56, .int (zI z345)])), (54, .inr (5, [.ref 55, .int (zI ln), .int (zI z340), .int (zI z341), .int (zI z342), .int (zI z343), .int (zI z344), .int (zI fl), .ref 56, .int (zI z345)])), (56, .inl (0, 412, .inl (zA f346)))]) rfl ?_
                refine J_mask (L2 := [(54, .inr (5, [.ref 55, .int (zI ln), .int (zI z398), .int (zI z399), .int (zI z400), .int (zI z401), .int (zI z344), .int (zI fl), .ref 56, .int (zI z345)])), (56, .inl (0, 412, .inl (zA f346)))]) (ks := [54, 54, 56]) [true, false, true] rfl (by decide +kernel) rfl ?_
                refine J_aload_n dX5_plain_124 rfl rfl ?_
                refine J_iload_n dX5_plain_125 rfl rfl ?_
                refine J_callV (st := []) dX5_plain_126 cv_X5_63 (d_sum4 ln z398 z399 z400 z401 z344 fl z345 tp f346 (z347 + 1) q0 q1 h402 h403 (v_9b2e2070a2 h350 g397 h404) h405 h406 h407 h408 h355 h356 q11 h357 h358 h409 q15 h360 h410 (v_da458fa48a h364) rfl hk55 rfl) rfl rfl rfl (Nat.le_of_ble_eq_true rfl) ⟨(Nat.le_of_ble_eq_true rfl), (Nat.le_of_ble_eq_true rfl)⟩ ⟨(Nat.le_of_ble_eq_true rfl), (Nat.le_of_ble_eq_true rfl)⟩ (fun r h9 hp => ?_)
                rcases hp with ⟨z411, z412, z413, z414, z415, z416, f417, z418, rfl, rfl, h419, h420, h421, h422, h423, h424, h425, h426, h427, h428, h429, h430, h431, h432, h433, h434, h435, h436⟩ | ⟨z437, z438, z439, z440, z441, z442, f443, z444, z445, rfl, rfl, h446, h447, h448, h449, h450, h451, h452, h453, h454, h455, h456, h457, h458, h459, h460, h461, h462⟩
                · refine J_nf (nh2 := nh) (ck2 := 0) (sk2 := 0) (st2 := [.int (zI 1)]) rfl rfl rfl rfl ?_
                  refine J_app (L3 := [(54, .inr (5, [.ref 55, .int (zI ln), .int (zI z411), .int (zI z412), .int (zI z413), .int (zI z414), .int (zI z415), .int (zI fl), .ref 56, .int (zI z416)])), (56, .inl (0, 412, .inl (zA f417))), (54, .inr (5, [.ref 55, .int (zI ln), .int (zI z398), .int (zI z399), .int (zI z400), .int (zI z401), .int (zI z344), .int (zI fl), .ref 56, .int (zI z345)])), (56, .inl (0, 412, .inl (zA f346)))]) rfl ?_
                  refine J_mask (L2 := [(54, .inr (5, [.ref 55, .int (zI ln), .int (zI z411), .int (zI z412), .int (zI z413), .int (zI z414), .int (zI z415), .int (zI fl), .ref 56, .int (zI z416)])), (56, .inl (0, 412, .inl (zA f417)))]) (ks := [54, 56, 54, 56]) [true, true, false, false] rfl (by decide +kernel) rfl ?_
                  refine Z_if_ne (tgt := 134) dX5_plain_129 (by decide) v_4dcc24baa7 (fun h463 => ?_) (fun h463 => absurd h463 v_3a47bfd896)
                  refine J_aload_n dX5_plain_134 rfl rfl ?_
                  refine J_iload_n dX5_plain_135 rfl rfl ?_
                  refine Z_iconst (n := 0) dX5_plain_136 ?_
                  refine J_callV (st := []) dX5_plain_137 cv_X5_72 (d_emit 6 0 ln z411 z412 z413 z414 z415 fl z416 f417 v_8f5ecbc95e v_b17331891f h428 h429 h431 rfl rfl) rfl rfl rfl (Nat.le_of_ble_eq_true rfl) ⟨(Nat.le_of_ble_eq_true rfl), (Nat.le_of_ble_eq_true rfl)⟩ ⟨(Nat.le_of_ble_eq_true rfl), (Nat.le_of_ble_eq_true rfl)⟩ (fun r h9 hp => ?_)
                  obtain ⟨z464, f465, rfl, rfl, h466, h467, h468, h469, h470⟩ := hp
                  refine J_nf (nh2 := nh) (ck2 := 0) (sk2 := 0) (st2 := [.int (zI z416)]) rfl rfl rfl rfl ?_
                  refine J_app (L3 := [(54, .inr (5, [.ref 55, .int (zI ln), .int (zI z411), .int (zI z412), .int (zI z413), .int (zI z414), .int (zI z415), .int (zI fl), .ref 56, .int (zI z464)])), (56, .inl (0, 412, .inl (zA f465))), (54, .inr (5, [.ref 55, .int (zI ln), .int (zI z411), .int (zI z412), .int (zI z413), .int (zI z414), .int (zI z415), .int (zI fl), .ref 56, .int (zI z416)])), (56, .inl (0, 412, .inl (zA f417)))]) rfl ?_
                  refine J_mask (L2 := [(54, .inr (5, [.ref 55, .int (zI ln), .int (zI z411), .int (zI z412), .int (zI z413), .int (zI z414), .int (zI z415), .int (zI fl), .ref 56, .int (zI z464)])), (56, .inl (0, 412, .inl (zA f465)))]) (ks := [54, 56, 54, 56]) [true, true, false, false] rfl (by decide +kernel) rfl ?_
                  refine J_pop dX5_plain_140 rfl ?_
                  refine J_iload_n dX5_plain_141 rfl rfl ?_
                  refine Z_if_eq (tgt := 153) dX5_plain_142 (by decide) (v_5f10a759cd i4_2 i4_3) (fun h471 => ?_) (fun h471 => ?_)
                  · refine Z_iconst (n := 1) dX5_plain_153 ?_
                    exact J_iret dX5_plain_154 rfl (jbn v_316afd7d0b v_bbcfac9b7d) (Nat.le_of_ble_eq_true rfl) (Nat.le_of_ble_eq_true rfl) (Or.inl ⟨z411, z412, z413, z414, z415, z464, f465, z418, rfl, rfl, h419, h420, h421, h422, h423, h424, h425, h426, h427, h466, h467, h430, h470, (v_5848421b37 i4_2 i4_4 h361 g397 h404 h432 h469), (v_60a9ec55dc i4_2 i4_4 h362 g397 h404 h433), h434, h435, (PlR.y (v_d464d4c634 i4_15) i4_16 (fun w => absurd ((TkX.wd i4_14 (v := 6) (c := 7) (by decide) (by decide) (by decide)).mp w) (v_9810b78d9a h273)) (fun w => absurd ((TkX.sg i4_14 (v := 140) (by decide)).mp w) (v_ce976e4d7c h275)) h365 (Or.inl ((TkX.sg h363 (v := 160) (by decide)).mpr (v_53d1657b4a h393))) h436)⟩)
                  · refine J_aload_n dX5_plain_145 rfl rfl ?_
                    refine Z_bipush (n := 9) dX5_plain_146 (by decide +kernel) ?_
                    refine Z_iconst (n := 0) dX5_plain_148 ?_
                    refine J_callV (st := []) dX5_plain_149 cv_X5_72 (d_emit 9 0 ln z411 z412 z413 z414 z415 fl z464 f465 v_00f9f00cc1 v_b17331891f h466 h467 h470 rfl rfl) rfl rfl rfl (Nat.le_of_ble_eq_true rfl) ⟨(Nat.le_of_ble_eq_true rfl), (Nat.le_of_ble_eq_true rfl)⟩ ⟨(Nat.le_of_ble_eq_true rfl), (Nat.le_of_ble_eq_true rfl)⟩ (fun r h9 hp => ?_)
                    obtain ⟨z472, f473, rfl, rfl, h474, h475, h476, h477, h478⟩ := hp
                    refine J_nf (nh2 := nh) (ck2 := 0) (sk2 := 0) (st2 := [.int (zI z464)]) rfl rfl rfl rfl ?_
                    refine J_app (L3 := [(54, .inr (5, [.ref 55, .int (zI ln), .int (zI z411), .int (zI z412), .int (zI z413), .int (zI z414), .int (zI z415), .int (zI fl), .ref 56, .int (zI z472)])), (56, .inl (0, 412, .inl (zA f473))), (54, .inr (5, [.ref 55, .int (zI ln), .int (zI z411), .int (zI z412), .int (zI z413), .int (zI z414), .int (zI z415), .int (zI fl), .ref 56, .int (zI z464)])), (56, .inl (0, 412, .inl (zA f465)))]) rfl ?_
                    refine J_mask (L2 := [(54, .inr (5, [.ref 55, .int (zI ln), .int (zI z411), .int (zI z412), .int (zI z413), .int (zI z414), .int (zI z415), .int (zI fl), .ref 56, .int (zI z472)])), (56, .inl (0, 412, .inl (zA f473)))]) (ks := [54, 56, 54, 56]) [true, true, false, false] rfl (by decide +kernel) rfl ?_
                    refine J_pop dX5_plain_152 rfl ?_
                    refine Z_iconst (n := 1) dX5_plain_153 ?_
                    exact J_iret dX5_plain_154 rfl (jbn v_316afd7d0b v_bbcfac9b7d) (Nat.le_of_ble_eq_true rfl) (Nat.le_of_ble_eq_true rfl) (Or.inl ⟨z411, z412, z413, z414, z415, z472, f473, z418, rfl, rfl, h419, h420, h421, h422, h423, h424, h425, h426, h427, h474, h475, h430, h478, (v_1533bd4120 i4_2 i4_4 h361 g397 h404 h432 h469 h471 h477), (v_60a9ec55dc i4_2 i4_4 h362 g397 h404 h433), h434, h435, (PlR.y (v_d464d4c634 i4_15) i4_16 (fun w => absurd ((TkX.wd i4_14 (v := 6) (c := 7) (by decide) (by decide) (by decide)).mp w) (v_9810b78d9a h273)) (fun w => absurd ((TkX.sg i4_14 (v := 140) (by decide)).mp w) (v_ce976e4d7c h275)) h365 (Or.inl ((TkX.sg h363 (v := 160) (by decide)).mpr (v_53d1657b4a h393))) h436)⟩)
                · refine J_nf (nh2 := nh) (ck2 := 0) (sk2 := 0) (st2 := [.int (zI 0)]) rfl rfl rfl rfl ?_
                  refine J_app (L3 := [(54, .inr (5, [.ref 55, .int (zI ln), .int (zI z437), .int (zI z438), .int (zI z439), .int (zI z440), .int (zI z441), .int (zI z444), .ref 56, .int (zI z442)])), (56, .inl (0, 412, .inl (zA f443))), (54, .inr (5, [.ref 55, .int (zI ln), .int (zI z398), .int (zI z399), .int (zI z400), .int (zI z401), .int (zI z344), .int (zI fl), .ref 56, .int (zI z345)])), (56, .inl (0, 412, .inl (zA f346)))]) rfl ?_
                  refine J_mask (L2 := [(54, .inr (5, [.ref 55, .int (zI ln), .int (zI z437), .int (zI z438), .int (zI z439), .int (zI z440), .int (zI z441), .int (zI z444), .ref 56, .int (zI z442)])), (56, .inl (0, 412, .inl (zA f443)))]) (ks := [54, 56, 54, 56]) [true, true, false, false] rfl (by decide +kernel) rfl ?_
                  refine Z_if_ne (tgt := 134) dX5_plain_129 (by decide) v_b17331891f (fun h479 => absurd h479 (fun q => q v_2ca2bbca1f)) (fun h479 => ?_)
                  refine Z_iconst (n := 0) dX5_plain_132 ?_
                  exact J_iret dX5_plain_133 rfl (jbn v_939070ca3f v_316afd7d0b) (Nat.le_of_ble_eq_true rfl) (Nat.le_of_ble_eq_true rfl) (Or.inr ⟨z437, z438, z439, z440, z441, z442, f443, z444, z445, rfl, rfl, h446, h447, h448, h449, h450, h451, h452, h453, h454, h455, h456, h457, h458, h459, h460, (h461), (PlR.y (v_d464d4c634 i4_15) i4_16 (fun w => absurd ((TkX.wd i4_14 (v := 6) (c := 7) (by decide) (by decide) (by decide)).mp w) (v_9810b78d9a h273)) (fun w => absurd ((TkX.sg i4_14 (v := 140) (by decide)).mp w) (v_ce976e4d7c h275)) h365 (Or.inl ((TkX.sg h363 (v := 160) (by decide)).mpr (v_53d1657b4a h393))) h462)⟩)
              · refine J_nf (nh2 := nh) (ck2 := 0) (sk2 := 0) (st2 := [.int (zI 0)]) rfl rfl rfl rfl ?_
                refine Z_if_eq (tgt := 83) dX5_plain_75 (by decide) v_b17331891f (fun h480 => ?_) (fun h480 => absurd h480 (fun q => q v_2ca2bbca1f))
                refine J_aload_n dX5_plain_83 rfl rfl ?_
                refine Z_bipush (n := 62) dX5_plain_84 (by decide +kernel) ?_
                refine J_callV (st := []) dX5_plain_86 cv_X5_50 (d_isSign 62 ln z340 z341 z342 z343 z344 fl z345 v_722c6b3941 v_3996c1d9a8 h348 h349 rfl) rfl rfl rfl (Nat.le_of_ble_eq_true rfl) ⟨(Nat.le_of_ble_eq_true rfl), (Nat.le_of_ble_eq_true rfl)⟩ ⟨(Nat.le_of_ble_eq_true rfl), (Nat.le_of_ble_eq_true rfl)⟩ (fun r h9 hp => ?_)
                rcases hp with ⟨rfl, rfl, h481⟩ | ⟨rfl, rfl, h482⟩
                · refine J_nf (nh2 := nh) (ck2 := 0) (sk2 := 0) (st2 := [.int (zI 1)]) rfl rfl rfl rfl ?_
                  refine Z_if_eq (tgt := 97) dX5_plain_89 (by decide) v_4dcc24baa7 (fun h483 => absurd h483 v_3a47bfd896) (fun h483 => ?_)
                  refine Z_bipush (n := 7) dX5_plain_92 (by decide +kernel) ?_
                  refine J_goto (tgt := 99) dX5_plain_94 (by decide) ?_
                  refine J_istore_n dX5_plain_99 rfl (Nat.le_of_ble_eq_true rfl) rfl ?_
                  refine J_ls (ls2 := [some (.ref 54), some (.int (zI 4)), some (.int (zI dn_4)), some (.int (zI 7))]) rfl ?_
                  refine J_iload_n dX5_plain_100 rfl rfl ?_
                  refine Z_bipush (n := 8) dX5_plain_101 (by decide +kernel) ?_
                  refine Z_icmp_ne (tgt := 120) dX5_plain_103 (by decide) v_c3fe1a091f v_665891e294 (fun h484 => ?_) (fun h484 => absurd h484 v_d62b89f05c)
                  refine J_aload_n dX5_plain_120 rfl rfl ?_
                  have g485 := TokL.lt h359 (v_3ec9e003c7 h481)
                  refine J_callV (st := []) dX5_plain_121 cv_X5_43 (d_advance (z347 + 1) ln z340 z341 z342 z343 z344 fl z345 tp q0 q1 (v_d253cb2c59 h350 g485) h352 h353 h354 q15 (TkX.ps h363 (v_2b02420001 h364)) rfl hk55) rfl rfl rfl (Nat.le_of_ble_eq_true rfl) ⟨(Nat.le_of_ble_eq_true rfl), (Nat.le_of_ble_eq_true rfl)⟩ ⟨(Nat.le_of_ble_eq_true rfl), (Nat.le_of_ble_eq_true rfl)⟩ (fun r h9 hp => ?_)
                  obtain ⟨z486, z487, z488, z489, rfl, rfl, h490, h491, h492, h493, h494, h495, h496, h497, h498⟩ := hp
                  refine J_nf (nh2 := nh) (ck2 := 0) (sk2 := 0) (st2 := []) rfl rfl rfl rfl ?_
                  refine J_app (L3 := [(54, .inr (5, [.ref 55, .int (zI ln), .int (zI z486), .int (zI z487), .int (zI z488), .int (zI z489), .int (zI z344), .int (zI fl), .ref 56, .int (zI z345)])), (54, .inr (5, [.ref 55, .int (zI ln), .int (zI z340), .int (zI z341), .int (zI z342), .int (zI z343), .int (zI z344), .int (zI fl), .ref 56, .int (zI z345)])), (56, .inl (0, 412, .inl (zA f346)))]) rfl ?_
                  refine J_mask (L2 := [(54, .inr (5, [.ref 55, .int (zI ln), .int (zI z486), .int (zI z487), .int (zI z488), .int (zI z489), .int (zI z344), .int (zI fl), .ref 56, .int (zI z345)])), (56, .inl (0, 412, .inl (zA f346)))]) (ks := [54, 54, 56]) [true, false, true] rfl (by decide +kernel) rfl ?_
                  refine J_aload_n dX5_plain_124 rfl rfl ?_
                  refine J_iload_n dX5_plain_125 rfl rfl ?_
                  refine J_callV (st := []) dX5_plain_126 cv_X5_63 (d_sum4 ln z486 z487 z488 z489 z344 fl z345 tp f346 (z347 + 1) q0 q1 h490 h491 (v_9b2e2070a2 h350 g485 h492) h493 h494 h495 h496 h355 h356 q11 h357 h358 h497 q15 h360 h498 (v_da458fa48a h364) rfl hk55 rfl) rfl rfl rfl (Nat.le_of_ble_eq_true rfl) ⟨(Nat.le_of_ble_eq_true rfl), (Nat.le_of_ble_eq_true rfl)⟩ ⟨(Nat.le_of_ble_eq_true rfl), (Nat.le_of_ble_eq_true rfl)⟩ (fun r h9 hp => ?_)
                  rcases hp with ⟨z499, z500, z501, z502, z503, z504, f505, z506, rfl, rfl, h507, h508, h509, h510, h511, h512, h513, h514, h515, h516, h517, h518, h519, h520, h521, h522, h523, h524⟩ | ⟨z525, z526, z527, z528, z529, z530, f531, z532, z533, rfl, rfl, h534, h535, h536, h537, h538, h539, h540, h541, h542, h543, h544, h545, h546, h547, h548, h549, h550⟩
                  · refine J_nf (nh2 := nh) (ck2 := 0) (sk2 := 0) (st2 := [.int (zI 1)]) rfl rfl rfl rfl ?_
                    refine J_app (L3 := [(54, .inr (5, [.ref 55, .int (zI ln), .int (zI z499), .int (zI z500), .int (zI z501), .int (zI z502), .int (zI z503), .int (zI fl), .ref 56, .int (zI z504)])), (56, .inl (0, 412, .inl (zA f505))), (54, .inr (5, [.ref 55, .int (zI ln), .int (zI z486), .int (zI z487), .int (zI z488), .int (zI z489), .int (zI z344), .int (zI fl), .ref 56, .int (zI z345)])), (56, .inl (0, 412, .inl (zA f346)))]) rfl ?_
                    refine J_mask (L2 := [(54, .inr (5, [.ref 55, .int (zI ln), .int (zI z499), .int (zI z500), .int (zI z501), .int (zI z502), .int (zI z503), .int (zI fl), .ref 56, .int (zI z504)])), (56, .inl (0, 412, .inl (zA f505)))]) (ks := [54, 56, 54, 56]) [true, true, false, false] rfl (by decide +kernel) rfl ?_
                    refine Z_if_ne (tgt := 134) dX5_plain_129 (by decide) v_4dcc24baa7 (fun h551 => ?_) (fun h551 => absurd h551 v_3a47bfd896)
                    refine J_aload_n dX5_plain_134 rfl rfl ?_
                    refine J_iload_n dX5_plain_135 rfl rfl ?_
                    refine Z_iconst (n := 0) dX5_plain_136 ?_
                    refine J_callV (st := []) dX5_plain_137 cv_X5_72 (d_emit 7 0 ln z499 z500 z501 z502 z503 fl z504 f505 v_c3fe1a091f v_b17331891f h516 h517 h519 rfl rfl) rfl rfl rfl (Nat.le_of_ble_eq_true rfl) ⟨(Nat.le_of_ble_eq_true rfl), (Nat.le_of_ble_eq_true rfl)⟩ ⟨(Nat.le_of_ble_eq_true rfl), (Nat.le_of_ble_eq_true rfl)⟩ (fun r h9 hp => ?_)
                    obtain ⟨z552, f553, rfl, rfl, h554, h555, h556, h557, h558⟩ := hp
                    refine J_nf (nh2 := nh) (ck2 := 0) (sk2 := 0) (st2 := [.int (zI z504)]) rfl rfl rfl rfl ?_
                    refine J_app (L3 := [(54, .inr (5, [.ref 55, .int (zI ln), .int (zI z499), .int (zI z500), .int (zI z501), .int (zI z502), .int (zI z503), .int (zI fl), .ref 56, .int (zI z552)])), (56, .inl (0, 412, .inl (zA f553))), (54, .inr (5, [.ref 55, .int (zI ln), .int (zI z499), .int (zI z500), .int (zI z501), .int (zI z502), .int (zI z503), .int (zI fl), .ref 56, .int (zI z504)])), (56, .inl (0, 412, .inl (zA f505)))]) rfl ?_
                    refine J_mask (L2 := [(54, .inr (5, [.ref 55, .int (zI ln), .int (zI z499), .int (zI z500), .int (zI z501), .int (zI z502), .int (zI z503), .int (zI fl), .ref 56, .int (zI z552)])), (56, .inl (0, 412, .inl (zA f553)))]) (ks := [54, 56, 54, 56]) [true, true, false, false] rfl (by decide +kernel) rfl ?_
                    refine J_pop dX5_plain_140 rfl ?_
                    refine J_iload_n dX5_plain_141 rfl rfl ?_
                    refine Z_if_eq (tgt := 153) dX5_plain_142 (by decide) (v_5f10a759cd i4_2 i4_3) (fun h559 => ?_) (fun h559 => ?_)
                    · refine Z_iconst (n := 1) dX5_plain_153 ?_
                      exact J_iret dX5_plain_154 rfl (jbn v_316afd7d0b v_bbcfac9b7d) (Nat.le_of_ble_eq_true rfl) (Nat.le_of_ble_eq_true rfl) (Or.inl ⟨z499, z500, z501, z502, z503, z552, f553, z506, rfl, rfl, h507, h508, h509, h510, h511, h512, h513, h514, h515, h554, h555, h518, h558, (v_5848421b37 i4_2 i4_4 h361 g485 h492 h520 h557), (v_60a9ec55dc i4_2 i4_4 h362 g485 h492 h521), h522, h523, (PlR.y (v_d464d4c634 i4_15) i4_16 (fun w => absurd ((TkX.wd i4_14 (v := 6) (c := 7) (by decide) (by decide) (by decide)).mp w) (v_9810b78d9a h273)) (fun w => absurd ((TkX.sg i4_14 (v := 140) (by decide)).mp w) (v_ce976e4d7c h275)) h365 (Or.inr (Or.inr ((TkX.sg h363 (v := 162) (by decide)).mpr (v_99c0172699 h481)))) h524)⟩)
                    · refine J_aload_n dX5_plain_145 rfl rfl ?_
                      refine Z_bipush (n := 9) dX5_plain_146 (by decide +kernel) ?_
                      refine Z_iconst (n := 0) dX5_plain_148 ?_
                      refine J_callV (st := []) dX5_plain_149 cv_X5_72 (d_emit 9 0 ln z499 z500 z501 z502 z503 fl z552 f553 v_00f9f00cc1 v_b17331891f h554 h555 h558 rfl rfl) rfl rfl rfl (Nat.le_of_ble_eq_true rfl) ⟨(Nat.le_of_ble_eq_true rfl), (Nat.le_of_ble_eq_true rfl)⟩ ⟨(Nat.le_of_ble_eq_true rfl), (Nat.le_of_ble_eq_true rfl)⟩ (fun r h9 hp => ?_)
                      obtain ⟨z560, f561, rfl, rfl, h562, h563, h564, h565, h566⟩ := hp
                      refine J_nf (nh2 := nh) (ck2 := 0) (sk2 := 0) (st2 := [.int (zI z552)]) rfl rfl rfl rfl ?_
                      refine J_app (L3 := [(54, .inr (5, [.ref 55, .int (zI ln), .int (zI z499), .int (zI z500), .int (zI z501), .int (zI z502), .int (zI z503), .int (zI fl), .ref 56, .int (zI z560)])), (56, .inl (0, 412, .inl (zA f561))), (54, .inr (5, [.ref 55, .int (zI ln), .int (zI z499), .int (zI z500), .int (zI z501), .int (zI z502), .int (zI z503), .int (zI fl), .ref 56, .int (zI z552)])), (56, .inl (0, 412, .inl (zA f553)))]) rfl ?_
                      refine J_mask (L2 := [(54, .inr (5, [.ref 55, .int (zI ln), .int (zI z499), .int (zI z500), .int (zI z501), .int (zI z502), .int (zI z503), .int (zI fl), .ref 56, .int (zI z560)])), (56, .inl (0, 412, .inl (zA f561)))]) (ks := [54, 56, 54, 56]) [true, true, false, false] rfl (by decide +kernel) rfl ?_
                      refine J_pop dX5_plain_152 rfl ?_
                      refine Z_iconst (n := 1) dX5_plain_153 ?_
                      exact J_iret dX5_plain_154 rfl (jbn v_316afd7d0b v_bbcfac9b7d) (Nat.le_of_ble_eq_true rfl) (Nat.le_of_ble_eq_true rfl) (Or.inl ⟨z499, z500, z501, z502, z503, z560, f561, z506, rfl, rfl, h507, h508, h509, h510, h511, h512, h513, h514, h515, h562, h563, h518, h566, (v_1533bd4120 i4_2 i4_4 h361 g485 h492 h520 h557 h559 h565), (v_60a9ec55dc i4_2 i4_4 h362 g485 h492 h521), h522, h523, (PlR.y (v_d464d4c634 i4_15) i4_16 (fun w => absurd ((TkX.wd i4_14 (v := 6) (c := 7) (by decide) (by decide) (by decide)).mp w) (v_9810b78d9a h273)) (fun w => absurd ((TkX.sg i4_14 (v := 140) (by decide)).mp w) (v_ce976e4d7c h275)) h365 (Or.inr (Or.inr ((TkX.sg h363 (v := 162) (by decide)).mpr (v_99c0172699 h481)))) h524)⟩)
                  · refine J_nf (nh2 := nh) (ck2 := 0) (sk2 := 0) (st2 := [.int (zI 0)]) rfl rfl rfl rfl ?_
                    refine J_app (L3 := [(54, .inr (5, [.ref 55, .int (zI ln), .int (zI z525), .int (zI z526), .int (zI z527), .int (zI z528), .int (zI z529), .int (zI z532), .ref 56, .int (zI z530)])), (56, .inl (0, 412, .inl (zA f531))), (54, .inr (5, [.ref 55, .int (zI ln), .int (zI z486), .int (zI z487), .int (zI z488), .int (zI z489), .int (zI z344), .int (zI fl), .ref 56, .int (zI z345)])), (56, .inl (0, 412, .inl (zA f346)))]) rfl ?_
                    refine J_mask (L2 := [(54, .inr (5, [.ref 55, .int (zI ln), .int (zI z525), .int (zI z526), .int (zI z527), .int (zI z528), .int (zI z529), .int (zI z532), .ref 56, .int (zI z530)])), (56, .inl (0, 412, .inl (zA f531)))]) (ks := [54, 56, 54, 56]) [true, true, false, false] rfl (by decide +kernel) rfl ?_
                    refine Z_if_ne (tgt := 134) dX5_plain_129 (by decide) v_b17331891f (fun h567 => absurd h567 (fun q => q v_2ca2bbca1f)) (fun h567 => ?_)
                    refine Z_iconst (n := 0) dX5_plain_132 ?_
                    exact J_iret dX5_plain_133 rfl (jbn v_939070ca3f v_316afd7d0b) (Nat.le_of_ble_eq_true rfl) (Nat.le_of_ble_eq_true rfl) (Or.inr ⟨z525, z526, z527, z528, z529, z530, f531, z532, z533, rfl, rfl, h534, h535, h536, h537, h538, h539, h540, h541, h542, h543, h544, h545, h546, h547, h548, (h549), (PlR.y (v_d464d4c634 i4_15) i4_16 (fun w => absurd ((TkX.wd i4_14 (v := 6) (c := 7) (by decide) (by decide) (by decide)).mp w) (v_9810b78d9a h273)) (fun w => absurd ((TkX.sg i4_14 (v := 140) (by decide)).mp w) (v_ce976e4d7c h275)) h365 (Or.inr (Or.inr ((TkX.sg h363 (v := 162) (by decide)).mpr (v_99c0172699 h481)))) h550)⟩)
                · refine J_nf (nh2 := nh) (ck2 := 0) (sk2 := 0) (st2 := [.int (zI 0)]) rfl rfl rfl rfl ?_
                  refine Z_if_eq (tgt := 97) dX5_plain_89 (by decide) v_b17331891f (fun h568 => ?_) (fun h568 => absurd h568 (fun q => q v_2ca2bbca1f))
                  refine Z_bipush (n := 8) dX5_plain_97 (by decide +kernel) ?_
                  refine J_istore_n dX5_plain_99 rfl (Nat.le_of_ble_eq_true rfl) rfl ?_
                  refine J_ls (ls2 := [some (.ref 54), some (.int (zI 4)), some (.int (zI dn_4)), some (.int (zI 8))]) rfl ?_
                  refine J_iload_n dX5_plain_100 rfl rfl ?_
                  refine Z_bipush (n := 8) dX5_plain_101 (by decide +kernel) ?_
                  refine Z_icmp_ne (tgt := 120) dX5_plain_103 (by decide) v_665891e294 v_665891e294 (fun h569 => absurd h569 (fun q => q v_c1b8243509)) (fun h569 => ?_)
                  refine J_aload_n dX5_plain_106 rfl rfl ?_
                  refine Z_bipush (n := 61) dX5_plain_107 (by decide +kernel) ?_
                  refine J_callV (st := []) dX5_plain_109 cv_X5_50 (d_isSign 61 ln z340 z341 z342 z343 z344 fl z345 v_b92a3c53b8 v_7b9730a51b h348 h349 rfl) rfl rfl rfl (Nat.le_of_ble_eq_true rfl) ⟨(Nat.le_of_ble_eq_true rfl), (Nat.le_of_ble_eq_true rfl)⟩ ⟨(Nat.le_of_ble_eq_true rfl), (Nat.le_of_ble_eq_true rfl)⟩ (fun r h9 hp => ?_)
                  rcases hp with ⟨rfl, rfl, h570⟩ | ⟨rfl, rfl, h571⟩
                  · refine J_nf (nh2 := nh) (ck2 := 0) (sk2 := 0) (st2 := [.int (zI 1)]) rfl rfl rfl rfl ?_
                    refine Z_if_ne (tgt := 120) dX5_plain_112 (by decide) v_4dcc24baa7 (fun h572 => ?_) (fun h572 => absurd h572 v_3a47bfd896)
                    refine J_aload_n dX5_plain_120 rfl rfl ?_
                    have g573 := TokL.lt h359 (v_23eeeea057 h570)
                    refine J_callV (st := []) dX5_plain_121 cv_X5_43 (d_advance (z347 + 1) ln z340 z341 z342 z343 z344 fl z345 tp q0 q1 (v_d253cb2c59 h350 g573) h352 h353 h354 q15 (TkX.ps h363 (v_2b02420001 h364)) rfl hk55) rfl rfl rfl (Nat.le_of_ble_eq_true rfl) ⟨(Nat.le_of_ble_eq_true rfl), (Nat.le_of_ble_eq_true rfl)⟩ ⟨(Nat.le_of_ble_eq_true rfl), (Nat.le_of_ble_eq_true rfl)⟩ (fun r h9 hp => ?_)
                    obtain ⟨z574, z575, z576, z577, rfl, rfl, h578, h579, h580, h581, h582, h583, h584, h585, h586⟩ := hp
                    refine J_nf (nh2 := nh) (ck2 := 0) (sk2 := 0) (st2 := []) rfl rfl rfl rfl ?_
                    refine J_app (L3 := [(54, .inr (5, [.ref 55, .int (zI ln), .int (zI z574), .int (zI z575), .int (zI z576), .int (zI z577), .int (zI z344), .int (zI fl), .ref 56, .int (zI z345)])), (54, .inr (5, [.ref 55, .int (zI ln), .int (zI z340), .int (zI z341), .int (zI z342), .int (zI z343), .int (zI z344), .int (zI fl), .ref 56, .int (zI z345)])), (56, .inl (0, 412, .inl (zA f346)))]) rfl ?_
                    refine J_mask (L2 := [(54, .inr (5, [.ref 55, .int (zI ln), .int (zI z574), .int (zI z575), .int (zI z576), .int (zI z577), .int (zI z344), .int (zI fl), .ref 56, .int (zI z345)])), (56, .inl (0, 412, .inl (zA f346)))]) (ks := [54, 54, 56]) [true, false, true] rfl (by decide +kernel) rfl ?_
                    refine J_aload_n dX5_plain_124 rfl rfl ?_
                    refine J_iload_n dX5_plain_125 rfl rfl ?_
                    refine J_callV (st := []) dX5_plain_126 cv_X5_63 (d_sum4 ln z574 z575 z576 z577 z344 fl z345 tp f346 (z347 + 1) q0 q1 h578 h579 (v_9b2e2070a2 h350 g573 h580) h581 h582 h583 h584 h355 h356 q11 h357 h358 h585 q15 h360 h586 (v_da458fa48a h364) rfl hk55 rfl) rfl rfl rfl (Nat.le_of_ble_eq_true rfl) ⟨(Nat.le_of_ble_eq_true rfl), (Nat.le_of_ble_eq_true rfl)⟩ ⟨(Nat.le_of_ble_eq_true rfl), (Nat.le_of_ble_eq_true rfl)⟩ (fun r h9 hp => ?_)
                    rcases hp with ⟨z587, z588, z589, z590, z591, z592, f593, z594, rfl, rfl, h595, h596, h597, h598, h599, h600, h601, h602, h603, h604, h605, h606, h607, h608, h609, h610, h611, h612⟩ | ⟨z613, z614, z615, z616, z617, z618, f619, z620, z621, rfl, rfl, h622, h623, h624, h625, h626, h627, h628, h629, h630, h631, h632, h633, h634, h635, h636, h637, h638⟩
                    · refine J_nf (nh2 := nh) (ck2 := 0) (sk2 := 0) (st2 := [.int (zI 1)]) rfl rfl rfl rfl ?_
                      refine J_app (L3 := [(54, .inr (5, [.ref 55, .int (zI ln), .int (zI z587), .int (zI z588), .int (zI z589), .int (zI z590), .int (zI z591), .int (zI fl), .ref 56, .int (zI z592)])), (56, .inl (0, 412, .inl (zA f593))), (54, .inr (5, [.ref 55, .int (zI ln), .int (zI z574), .int (zI z575), .int (zI z576), .int (zI z577), .int (zI z344), .int (zI fl), .ref 56, .int (zI z345)])), (56, .inl (0, 412, .inl (zA f346)))]) rfl ?_
                      refine J_mask (L2 := [(54, .inr (5, [.ref 55, .int (zI ln), .int (zI z587), .int (zI z588), .int (zI z589), .int (zI z590), .int (zI z591), .int (zI fl), .ref 56, .int (zI z592)])), (56, .inl (0, 412, .inl (zA f593)))]) (ks := [54, 56, 54, 56]) [true, true, false, false] rfl (by decide +kernel) rfl ?_
                      refine Z_if_ne (tgt := 134) dX5_plain_129 (by decide) v_4dcc24baa7 (fun h639 => ?_) (fun h639 => absurd h639 v_3a47bfd896)
                      refine J_aload_n dX5_plain_134 rfl rfl ?_
                      refine J_iload_n dX5_plain_135 rfl rfl ?_
                      refine Z_iconst (n := 0) dX5_plain_136 ?_
                      refine J_callV (st := []) dX5_plain_137 cv_X5_72 (d_emit 8 0 ln z587 z588 z589 z590 z591 fl z592 f593 v_665891e294 v_b17331891f h604 h605 h607 rfl rfl) rfl rfl rfl (Nat.le_of_ble_eq_true rfl) ⟨(Nat.le_of_ble_eq_true rfl), (Nat.le_of_ble_eq_true rfl)⟩ ⟨(Nat.le_of_ble_eq_true rfl), (Nat.le_of_ble_eq_true rfl)⟩ (fun r h9 hp => ?_)
                      obtain ⟨z640, f641, rfl, rfl, h642, h643, h644, h645, h646⟩ := hp
                      refine J_nf (nh2 := nh) (ck2 := 0) (sk2 := 0) (st2 := [.int (zI z592)]) rfl rfl rfl rfl ?_
                      refine J_app (L3 := [(54, .inr (5, [.ref 55, .int (zI ln), .int (zI z587), .int (zI z588), .int (zI z589), .int (zI z590), .int (zI z591), .int (zI fl), .ref 56, .int (zI z640)])), (56, .inl (0, 412, .inl (zA f641))), (54, .inr (5, [.ref 55, .int (zI ln), .int (zI z587), .int (zI z588), .int (zI z589), .int (zI z590), .int (zI z591), .int (zI fl), .ref 56, .int (zI z592)])), (56, .inl (0, 412, .inl (zA f593)))]) rfl ?_
                      refine J_mask (L2 := [(54, .inr (5, [.ref 55, .int (zI ln), .int (zI z587), .int (zI z588), .int (zI z589), .int (zI z590), .int (zI z591), .int (zI fl), .ref 56, .int (zI z640)])), (56, .inl (0, 412, .inl (zA f641)))]) (ks := [54, 56, 54, 56]) [true, true, false, false] rfl (by decide +kernel) rfl ?_
                      refine J_pop dX5_plain_140 rfl ?_
                      refine J_iload_n dX5_plain_141 rfl rfl ?_
                      refine Z_if_eq (tgt := 153) dX5_plain_142 (by decide) (v_5f10a759cd i4_2 i4_3) (fun h647 => ?_) (fun h647 => ?_)
                      · refine Z_iconst (n := 1) dX5_plain_153 ?_
                        exact J_iret dX5_plain_154 rfl (jbn v_316afd7d0b v_bbcfac9b7d) (Nat.le_of_ble_eq_true rfl) (Nat.le_of_ble_eq_true rfl) (Or.inl ⟨z587, z588, z589, z590, z591, z640, f641, z594, rfl, rfl, h595, h596, h597, h598, h599, h600, h601, h602, h603, h642, h643, h606, h646, (v_5848421b37 i4_2 i4_4 h361 g573 h580 h608 h645), (v_60a9ec55dc i4_2 i4_4 h362 g573 h580 h609), h610, h611, (PlR.y (v_d464d4c634 i4_15) i4_16 (fun w => absurd ((TkX.wd i4_14 (v := 6) (c := 7) (by decide) (by decide) (by decide)).mp w) (v_9810b78d9a h273)) (fun w => absurd ((TkX.sg i4_14 (v := 140) (by decide)).mp w) (v_ce976e4d7c h275)) h365 (Or.inr (Or.inl ((TkX.sg h363 (v := 161) (by decide)).mpr (v_1bfbc8b266 h570)))) h612)⟩)
                      · refine J_aload_n dX5_plain_145 rfl rfl ?_
                        refine Z_bipush (n := 9) dX5_plain_146 (by decide +kernel) ?_
                        refine Z_iconst (n := 0) dX5_plain_148 ?_
                        refine J_callV (st := []) dX5_plain_149 cv_X5_72 (d_emit 9 0 ln z587 z588 z589 z590 z591 fl z640 f641 v_00f9f00cc1 v_b17331891f h642 h643 h646 rfl rfl) rfl rfl rfl (Nat.le_of_ble_eq_true rfl) ⟨(Nat.le_of_ble_eq_true rfl), (Nat.le_of_ble_eq_true rfl)⟩ ⟨(Nat.le_of_ble_eq_true rfl), (Nat.le_of_ble_eq_true rfl)⟩ (fun r h9 hp => ?_)
                        obtain ⟨z648, f649, rfl, rfl, h650, h651, h652, h653, h654⟩ := hp
                        refine J_nf (nh2 := nh) (ck2 := 0) (sk2 := 0) (st2 := [.int (zI z640)]) rfl rfl rfl rfl ?_
                        refine J_app (L3 := [(54, .inr (5, [.ref 55, .int (zI ln), .int (zI z587), .int (zI z588), .int (zI z589), .int (zI z590), .int (zI z591), .int (zI fl), .ref 56, .int (zI z648)])), (56, .inl (0, 412, .inl (zA f649))), (54, .inr (5, [.ref 55, .int (zI ln), .int (zI z587), .int (zI z588), .int (zI z589), .int (zI z590), .int (zI z591), .int (zI fl), .ref 56, .int (zI z640)])), (56, .inl (0, 412, .inl (zA f641)))]) rfl ?_
                        refine J_mask (L2 := [(54, .inr (5, [.ref 55, .int (zI ln), .int (zI z587), .int (zI z588), .int (zI z589), .int (zI z590), .int (zI z591), .int (zI fl), .ref 56, .int (zI z648)])), (56, .inl (0, 412, .inl (zA f649)))]) (ks := [54, 56, 54, 56]) [true, true, false, false] rfl (by decide +kernel) rfl ?_
                        refine J_pop dX5_plain_152 rfl ?_
                        refine Z_iconst (n := 1) dX5_plain_153 ?_
                        exact J_iret dX5_plain_154 rfl (jbn v_316afd7d0b v_bbcfac9b7d) (Nat.le_of_ble_eq_true rfl) (Nat.le_of_ble_eq_true rfl) (Or.inl ⟨z587, z588, z589, z590, z591, z648, f649, z594, rfl, rfl, h595, h596, h597, h598, h599, h600, h601, h602, h603, h650, h651, h606, h654, (v_1533bd4120 i4_2 i4_4 h361 g573 h580 h608 h645 h647 h653), (v_60a9ec55dc i4_2 i4_4 h362 g573 h580 h609), h610, h611, (PlR.y (v_d464d4c634 i4_15) i4_16 (fun w => absurd ((TkX.wd i4_14 (v := 6) (c := 7) (by decide) (by decide) (by decide)).mp w) (v_9810b78d9a h273)) (fun w => absurd ((TkX.sg i4_14 (v := 140) (by decide)).mp w) (v_ce976e4d7c h275)) h365 (Or.inr (Or.inl ((TkX.sg h363 (v := 161) (by decide)).mpr (v_1bfbc8b266 h570)))) h612)⟩)
                    · refine J_nf (nh2 := nh) (ck2 := 0) (sk2 := 0) (st2 := [.int (zI 0)]) rfl rfl rfl rfl ?_
                      refine J_app (L3 := [(54, .inr (5, [.ref 55, .int (zI ln), .int (zI z613), .int (zI z614), .int (zI z615), .int (zI z616), .int (zI z617), .int (zI z620), .ref 56, .int (zI z618)])), (56, .inl (0, 412, .inl (zA f619))), (54, .inr (5, [.ref 55, .int (zI ln), .int (zI z574), .int (zI z575), .int (zI z576), .int (zI z577), .int (zI z344), .int (zI fl), .ref 56, .int (zI z345)])), (56, .inl (0, 412, .inl (zA f346)))]) rfl ?_
                      refine J_mask (L2 := [(54, .inr (5, [.ref 55, .int (zI ln), .int (zI z613), .int (zI z614), .int (zI z615), .int (zI z616), .int (zI z617), .int (zI z620), .ref 56, .int (zI z618)])), (56, .inl (0, 412, .inl (zA f619)))]) (ks := [54, 56, 54, 56]) [true, true, false, false] rfl (by decide +kernel) rfl ?_
                      refine Z_if_ne (tgt := 134) dX5_plain_129 (by decide) v_b17331891f (fun h655 => absurd h655 (fun q => q v_2ca2bbca1f)) (fun h655 => ?_)
                      refine Z_iconst (n := 0) dX5_plain_132 ?_
                      exact J_iret dX5_plain_133 rfl (jbn v_939070ca3f v_316afd7d0b) (Nat.le_of_ble_eq_true rfl) (Nat.le_of_ble_eq_true rfl) (Or.inr ⟨z613, z614, z615, z616, z617, z618, f619, z620, z621, rfl, rfl, h622, h623, h624, h625, h626, h627, h628, h629, h630, h631, h632, h633, h634, h635, h636, (h637), (PlR.y (v_d464d4c634 i4_15) i4_16 (fun w => absurd ((TkX.wd i4_14 (v := 6) (c := 7) (by decide) (by decide) (by decide)).mp w) (v_9810b78d9a h273)) (fun w => absurd ((TkX.sg i4_14 (v := 140) (by decide)).mp w) (v_ce976e4d7c h275)) h365 (Or.inr (Or.inl ((TkX.sg h363 (v := 161) (by decide)).mpr (v_1bfbc8b266 h570)))) h638)⟩)
                  · refine J_nf (nh2 := nh) (ck2 := 0) (sk2 := 0) (st2 := [.int (zI 0)]) rfl rfl rfl rfl ?_
                    refine Z_if_ne (tgt := 120) dX5_plain_112 (by decide) v_b17331891f (fun h656 => absurd h656 (fun q => q v_2ca2bbca1f)) (fun h656 => ?_)
                    refine J_aload_n dX5_plain_115 rfl rfl ?_
                    refine J_callV (st := []) dX5_plain_116 cv_X5_54 (d_wrong ln z340 z341 z342 z343 z344 fl z345 h350 (v_1adcfdfee5 q1 h351 h352) rfl) rfl rfl rfl (Nat.le_of_ble_eq_true rfl) ⟨(Nat.le_of_ble_eq_true rfl), (Nat.le_of_ble_eq_true rfl)⟩ ⟨(Nat.le_of_ble_eq_true rfl), (Nat.le_of_ble_eq_true rfl)⟩ (fun r h9 hp => ?_)
                    obtain ⟨rfl, rfl⟩ := hp
                    refine J_nf (nh2 := nh) (ck2 := 0) (sk2 := 0) (st2 := [.int (zI 0)]) rfl rfl rfl rfl ?_
                    refine J_app (L3 := [(54, .inr (5, [.ref 55, .int (zI ln), .int (zI z340), .int (zI z341), .int (zI z342), .int (zI z343), .int (zI z344), .int (zI z341), .ref 56, .int (zI z345)])), (54, .inr (5, [.ref 55, .int (zI ln), .int (zI z340), .int (zI z341), .int (zI z342), .int (zI z343), .int (zI z344), .int (zI fl), .ref 56, .int (zI z345)])), (56, .inl (0, 412, .inl (zA f346)))]) rfl ?_
                    refine J_mask (L2 := [(54, .inr (5, [.ref 55, .int (zI ln), .int (zI z340), .int (zI z341), .int (zI z342), .int (zI z343), .int (zI z344), .int (zI z341), .ref 56, .int (zI z345)])), (56, .inl (0, 412, .inl (zA f346)))]) (ks := [54, 54, 56]) [true, false, true] rfl (by decide +kernel) rfl ?_
                    exact J_iret dX5_plain_119 rfl (jbn v_939070ca3f v_316afd7d0b) (Nat.le_of_ble_eq_true rfl) (Nat.le_of_ble_eq_true rfl) (Or.inr ⟨z340, z341, z342, z343, z344, z345, f346, z341, z347, rfl, rfl, h348, h349, h350, h351, h352, h353, h354, h355, h356, h357, h358, h359, h360, h350, (v_1adcfdfee5 q1 h351 h352), ((TkX.s h363)), (PlR.w (v_d464d4c634 i4_15) i4_16 (fun w => absurd ((TkX.wd i4_14 (v := 6) (c := 7) (by decide) (by decide) (by decide)).mp w) (v_9810b78d9a h273)) (fun w => absurd ((TkX.sg i4_14 (v := 140) (by decide)).mp w) (v_ce976e4d7c h275)) h365 (fun w => Or.elim w (fun w => absurd ((TkX.sg h363 (v := 160) (by decide)).mp w) (v_62784191f6 h394)) (fun w => Or.elim w (fun w => absurd ((TkX.sg h363 (v := 161) (by decide)).mp w) (v_e6bfb52c99 h571)) (fun w => absurd ((TkX.sg h363 (v := 162) (by decide)).mp w) (v_b61acea494 h482)))))⟩)
            · refine J_nf (nh2 := nh) (ck2 := 0) (sk2 := 0) (st2 := [.int (zI 0)]) rfl rfl rfl rfl ?_
              refine J_app (L3 := [(54, .inr (5, [.ref 55, .int (zI ln), .int (zI z366), .int (zI z367), .int (zI z368), .int (zI z369), .int (zI z370), .int (zI z373), .ref 56, .int (zI z371)])), (56, .inl (0, 412, .inl (zA f372))), (54, .inr (5, [.ref 55, .int (zI ln), .int (zI tx_4), .int (zI sx_4), .int (zI bx_4), .int (zI vx_4), .int (zI pa), .int (zI fl), .ref 56, .int (zI sz)]))]) rfl ?_
              refine J_mask (L2 := [(54, .inr (5, [.ref 55, .int (zI ln), .int (zI z366), .int (zI z367), .int (zI z368), .int (zI z369), .int (zI z370), .int (zI z373), .ref 56, .int (zI z371)])), (56, .inl (0, 412, .inl (zA f372)))]) (ks := [54, 56, 54]) [true, true, false] rfl (by decide +kernel) rfl ?_
              refine Z_if_ne (tgt := 69) dX5_plain_64 (by decide) v_b17331891f (fun h657 => absurd h657 (fun q => q v_2ca2bbca1f)) (fun h657 => ?_)
              refine Z_iconst (n := 0) dX5_plain_67 ?_
              exact J_iret dX5_plain_68 rfl (jbn v_939070ca3f v_316afd7d0b) (Nat.le_of_ble_eq_true rfl) (Nat.le_of_ble_eq_true rfl) (Or.inr ⟨z366, z367, z368, z369, z370, z371, f372, z373, z374, rfl, rfl, h375, h376, h377, h378, h379, h380, h381, h382, h383, h384, h385, h386, h387, h388, h389, (h390), (PlR.b1 (v_d464d4c634 i4_15) i4_16 (fun w => absurd ((TkX.wd i4_14 (v := 6) (c := 7) (by decide) (by decide) (by decide)).mp w) (v_9810b78d9a h273)) (fun w => absurd ((TkX.sg i4_14 (v := 140) (by decide)).mp w) (v_ce976e4d7c h275)) h391)⟩)
        · refine J_iload_n dX5_plain_20 rfl rfl ?_
          refine Z_if_ne (tgt := 28) dX5_plain_21 (by decide) (v_5f10a759cd i4_2 i4_3) (fun h658 => ?_) (fun h658 => ?_)
          · refine Z_iconst (n := 0) dX5_plain_28 ?_
            refine J_istore_n dX5_plain_29 rfl (Nat.le_of_ble_eq_true rfl) rfl ?_
            refine J_ls (ls2 := [some (.ref 54), some (.int (zI 4)), some (.int (zI 0)), some (.int (zI i_4))]) rfl ?_
            refine J_aload_n dX5_plain_30 rfl rfl ?_
            have g659 := TokL.lt i4_13 (v_3a5b2158d2 h273)
            refine J_callV (st := []) dX5_plain_31 cv_X5_43 (d_advance (ti_4 + 1) ln tx_4 sx_4 bx_4 vx_4 pa fl sz tp q0 q1 (v_d253cb2c59 i4_8 g659) i4_10 i4_11 i4_12 q15 (TkX.ps i4_14 (v_21976c7318 q18 i4_15)) rfl hk55) rfl rfl rfl (Nat.le_of_ble_eq_true rfl) ⟨(Nat.le_of_ble_eq_true rfl), (Nat.le_of_ble_eq_true rfl)⟩ ⟨(Nat.le_of_ble_eq_true rfl), (Nat.le_of_ble_eq_true rfl)⟩ (fun r h9 hp => ?_)
            obtain ⟨z660, z661, z662, z663, rfl, rfl, h664, h665, h666, h667, h668, h669, h670, h671, h672⟩ := hp
            refine J_nf (nh2 := nh) (ck2 := 0) (sk2 := 0) (st2 := []) rfl rfl rfl rfl ?_
            refine J_app (L3 := [(54, .inr (5, [.ref 55, .int (zI ln), .int (zI z660), .int (zI z661), .int (zI z662), .int (zI z663), .int (zI pa), .int (zI fl), .ref 56, .int (zI sz)])), (54, .inr (5, [.ref 55, .int (zI ln), .int (zI tx_4), .int (zI sx_4), .int (zI bx_4), .int (zI vx_4), .int (zI pa), .int (zI fl), .ref 56, .int (zI sz)]))]) rfl ?_
            refine J_mask (L2 := [(54, .inr (5, [.ref 55, .int (zI ln), .int (zI z660), .int (zI z661), .int (zI z662), .int (zI z663), .int (zI pa), .int (zI fl), .ref 56, .int (zI sz)]))]) (ks := [54, 54]) [true, false] rfl (by decide +kernel) rfl ?_
            refine Z_iinc (c := i_4 + 1) (ls2 := [some (.ref 54), some (.int (zI 4)), some (.int (zI 0)), some (.int (zI (i_4 + 1)))]) dX5_plain_34 rfl (Nat.le_of_ble_eq_true rfl) rfl rfl rfl ?_
            refine J_goto (tgt := 4) dX5_plain_37 (by decide) ?_
            exact ih4 0 (i_4 + 1) z660 z661 z662 z663 (ti_4 + 1) (v_da458fa48a i4_0) (v_6924477667 h1) v_939070ca3f v_316afd7d0b (v_17f5bda46b i4_2 i4_4 g659 h666) (v_ad4cf07083 i4_5 g659 h666) h664 h665 (v_9b2e2070a2 i4_8 g659 h666) h667 h668 h669 h670 h671 h672 (v_d50281bace i4_15) (NtX.add i4_16 ((TkX.wd i4_14 (v := 6) (c := 7) (by decide) (by decide) (by decide)).mpr (v_2e044925d6 h273))) (meas_lt v_ceb2ed6d2b (v_44ddc35e90 h1) hm4)
          · refine Z_iconst (n := 1) dX5_plain_24 ?_
            refine J_goto (tgt := 29) dX5_plain_25 (by decide) ?_
            refine J_istore_n dX5_plain_29 rfl (Nat.le_of_ble_eq_true rfl) rfl ?_
            refine J_ls (ls2 := [some (.ref 54), some (.int (zI 4)), some (.int (zI 1)), some (.int (zI i_4))]) rfl ?_
            refine J_aload_n dX5_plain_30 rfl rfl ?_
            have g673 := TokL.lt i4_13 (v_3a5b2158d2 h273)
            refine J_callV (st := []) dX5_plain_31 cv_X5_43 (d_advance (ti_4 + 1) ln tx_4 sx_4 bx_4 vx_4 pa fl sz tp q0 q1 (v_d253cb2c59 i4_8 g673) i4_10 i4_11 i4_12 q15 (TkX.ps i4_14 (v_21976c7318 q18 i4_15)) rfl hk55) rfl rfl rfl (Nat.le_of_ble_eq_true rfl) ⟨(Nat.le_of_ble_eq_true rfl), (Nat.le_of_ble_eq_true rfl)⟩ ⟨(Nat.le_of_ble_eq_true rfl), (Nat.le_of_ble_eq_true rfl)⟩ (fun r h9 hp => ?_)
            obtain ⟨z674, z675, z676, z677, rfl, rfl, h678, h679, h680, h681, h682, h683, h684, h685, h686⟩ := hp
            refine J_nf (nh2 := nh) (ck2 := 0) (sk2 := 0) (st2 := []) rfl rfl rfl rfl ?_
            refine J_app (L3 := [(54, .inr (5, [.ref 55, .int (zI ln), .int (zI z674), .int (zI z675), .int (zI z676), .int (zI z677), .int (zI pa), .int (zI fl), .ref 56, .int (zI sz)])), (54, .inr (5, [.ref 55, .int (zI ln), .int (zI tx_4), .int (zI sx_4), .int (zI bx_4), .int (zI vx_4), .int (zI pa), .int (zI fl), .ref 56, .int (zI sz)]))]) rfl ?_
            refine J_mask (L2 := [(54, .inr (5, [.ref 55, .int (zI ln), .int (zI z674), .int (zI z675), .int (zI z676), .int (zI z677), .int (zI pa), .int (zI fl), .ref 56, .int (zI sz)]))]) (ks := [54, 54]) [true, false] rfl (by decide +kernel) rfl ?_
            refine Z_iinc (c := i_4 + 1) (ls2 := [some (.ref 54), some (.int (zI 4)), some (.int (zI 1)), some (.int (zI (i_4 + 1)))]) dX5_plain_34 rfl (Nat.le_of_ble_eq_true rfl) rfl rfl rfl ?_
            refine J_goto (tgt := 4) dX5_plain_37 (by decide) ?_
            exact ih4 1 (i_4 + 1) z674 z675 z676 z677 (ti_4 + 1) (v_da458fa48a i4_0) (v_6924477667 h1) v_316afd7d0b v_bbcfac9b7d (v_9fcadba328 i4_2 i4_4 g673 h680) (v_ad4cf07083 i4_5 g673 h680) h678 h679 (v_9b2e2070a2 i4_8 g673 h680) h681 h682 h683 h684 h685 h686 (v_d50281bace i4_15) (NtX.add i4_16 ((TkX.wd i4_14 (v := 6) (c := 7) (by decide) (by decide) (by decide)).mpr (v_2e044925d6 h273))) (meas_lt v_ceb2ed6d2b (v_44ddc35e90 h1) hm4)
  exact lp4 _ 0 0 tk st bh va ti v_939070ca3f v_5ab96f7b5e v_939070ca3f v_316afd7d0b v_2776526004 v_2776526004 q2 q3 q4 q5 q6 q7 q8 q14 q17 v_0065452639 (NtX_0) (Nat.lt_succ_self _)
set_option maxHeartbeats 4000000 in
set_option maxRecDepth 100000 in
theorem d_both4 {l : Launch} {G : jG} {nh : Nat} {fh : Nat → Option va_E} (ln : Int) (tk : Int) (st : Int) (bh : Int) (va : Int) (pa : Int) (fl : Int) (sz : Int) (tp : Int → Int) (cd : Int → Int) (ti : Int) (q0 : 0 ≤ ln) (q1 : ln ≤ 400) (q2 : 0 ≤ tk) (q3 : tk ≤ 355) (q4 : 0 ≤ st) (q5 : st ≤ bh) (q6 : bh ≤ ln) (q7 : 0 ≤ va) (q8 : va ≤ 1001) (q9 : 0 ≤ pa) (q10 : pa ≤ 50) (q11 : zr fl) (q12 : 0 ≤ sz) (q13 : sz ≤ 412) (q14 : TokL tk st bh) (q15 : Rg tp 400 0 255) (q16 : Rg cd 412 (-2147483648) 2147483647) (q17 : TkX tp ln ti tk st bh va) (q18 : 0 ≤ ti) (hk54 : fh 54 = some (.inr (5, [.ref 55, .int (zI ln), .int (zI tk), .int (zI st), .int (zI bh), .int (zI va), .int (zI pa), .int (zI fl), .ref 56, .int (zI sz)]))) (hk55 : fh 55 = some (.inl (0, 400, .inl (zA tp)))) (hk56 : fh 56 = some (.inl (0, 412, .inl (zA cd)))) : JM l G yX5_both MX5_both { frames := 26, cells := 0, slots := 0, locals := 582 } [.ref 54, .int (zI 4)] (nh, fh) (fun rr h9 => (∃ tk2 : Int, ∃ st2 : Int, ∃ bh2 : Int, ∃ va2 : Int, ∃ pa2 : Int, ∃ sz2 : Int, ∃ cd2 : Int → Int, ∃ ti2 : Int, rr = some (.int (zI 1)) ∧ h9 = (nh, hc fh [(54, .inr (5, [.ref 55, .int (zI ln), .int (zI tk2), .int (zI st2), .int (zI bh2), .int (zI va2), .int (zI pa2), .int (zI fl), .ref 56, .int (zI sz2)])), (56, .inl (0, 412, .inl (zA cd2)))]) ∧ (0 ≤ tk2) ∧ (tk2 ≤ 355) ∧ (0 ≤ st2) ∧ (st2 ≤ bh2) ∧ (bh2 ≤ ln) ∧ (0 ≤ va2) ∧ (va2 ≤ 1001) ∧ (0 ≤ pa2) ∧ (pa2 ≤ 50) ∧ (0 ≤ sz2) ∧ (sz2 ≤ 412) ∧ (TokL tk2 st2 bh2) ∧ (Rg cd2 412 (-2147483648) 2147483647) ∧ (sz2 + st ≤ sz + st2) ∧ (st ≤ st2) ∧ (TkX tp ln ti2 tk2 st2 bh2 va2) ∧ (0 ≤ ti2) ∧ (BoR (CTk tp ln) (LF tp ln) 4 ti pa 1 ti2 pa2)) ∨ (∃ tk2 : Int, ∃ st2 : Int, ∃ bh2 : Int, ∃ va2 : Int, ∃ pa2 : Int, ∃ sz2 : Int, ∃ cd2 : Int → Int, ∃ fl2 : Int, ∃ ti2 : Int, rr = some (.int (zI 0)) ∧ h9 = (nh, hc fh [(54, .inr (5, [.ref 55, .int (zI ln), .int (zI tk2), .int (zI st2), .int (zI bh2), .int (zI va2), .int (zI pa2), .int (zI fl2), .ref 56, .int (zI sz2)])), (56, .inl (0, 412, .inl (zA cd2)))]) ∧ (0 ≤ tk2) ∧ (tk2 ≤ 355) ∧ (0 ≤ st2) ∧ (st2 ≤ bh2) ∧ (bh2 ≤ ln) ∧ (0 ≤ va2) ∧ (va2 ≤ 1001) ∧ (0 ≤ pa2) ∧ (pa2 ≤ 50) ∧ (0 ≤ sz2) ∧ (sz2 ≤ 412) ∧ (TokL tk2 st2 bh2) ∧ (Rg cd2 412 (-2147483648) 2147483647) ∧ (0 ≤ fl2) ∧ (fl2 ≤ 400) ∧ (FlX tp ln ti2 fl2) ∧ (BoR (CTk tp ln) (LF tp ln) 4 ti pa 0 ti2 0))) := by
  refine JM.of (by decide) rfl (fun h => by cases h) (Nat.le_of_ble_eq_true rfl) ⟨2, rfl⟩ ?_
  refine J_hc0 (J_ls (ls2 := [some (.ref 54), some (.int (zI 4)), none, none]) rfl ?_)
  refine J_aload_n dX5_both_0 rfl rfl ?_
  refine J_iload_n dX5_both_1 rfl rfl ?_
  refine J_callV (st := []) dX5_both_2 cv_X5_83 (d_plain4 ln tk st bh va pa fl sz tp cd ti q0 q1 q2 q3 q4 q5 q6 q7 q8 q9 q10 q11 q12 q13 q14 q15 q16 q17 q18 hk54 hk55 hk56) hk54 rfl rfl (Nat.le_of_ble_eq_true rfl) ⟨(Nat.le_of_ble_eq_true rfl), (Nat.le_of_ble_eq_true rfl)⟩ ⟨(Nat.le_of_ble_eq_true rfl), (Nat.le_of_ble_eq_true rfl)⟩ (fun r h9 hp => ?_)
  rcases hp with ⟨z1, z2, z3, z4, z5, z6, f7, z8, rfl, rfl, h9, h10, h11, h12, h13, h14, h15, h16, h17, h18, h19, h20, h21, h22, h23, h24, h25, h26⟩ | ⟨z27, z28, z29, z30, z31, z32, f33, z34, z35, rfl, rfl, h36, h37, h38, h39, h40, h41, h42, h43, h44, h45, h46, h47, h48, h49, h50, h51, h52⟩
  · refine J_nf (nh2 := nh) (ck2 := 0) (sk2 := 0) (st2 := [.int (zI 1)]) rfl rfl rfl rfl ?_
    refine J_app (L3 := [(54, .inr (5, [.ref 55, .int (zI ln), .int (zI z1), .int (zI z2), .int (zI z3), .int (zI z4), .int (zI z5), .int (zI fl), .ref 56, .int (zI z6)])), (56, .inl (0, 412, .inl (zA f7)))]) rfl ?_
    refine Z_if_ne (tgt := 10) dX5_both_5 (by decide) v_4dcc24baa7 (fun h53 => ?_) (fun h53 => absurd h53 v_3a47bfd896)
    refine Z_iconst (n := 0) dX5_both_10 ?_
    refine J_istore_n dX5_both_11 rfl (Nat.le_of_ble_eq_true rfl) rfl ?_
    refine J_ls (ls2 := [some (.ref 54), some (.int (zI 4)), some (.int (zI 0)), none]) rfl ?_
    have lp12 : ∀ (N12 : Nat) (i_12 : Int) (tx_12 : Int) (sx_12 : Int) (bx_12 : Int) (vx_12 : Int) (px_12 : Int) (zx_12 : Int) (cx_12 : Int → Int) (ti_12 : Int), (0 ≤ i_12) → (i_12 ≤ 400) → (zx_12 + st ≤ sz + sx_12) → (st ≤ sx_12) → (0 ≤ tx_12) → (tx_12 ≤ 355) → (0 ≤ sx_12) → (sx_12 ≤ bx_12) → (bx_12 ≤ ln) → (0 ≤ vx_12) → (vx_12 ≤ 1001) → (TokL tx_12 sx_12 bx_12) → (Rg cx_12 412 (-2147483648) 2147483647) → (0 ≤ zx_12) → (zx_12 ≤ 412) → (0 ≤ px_12) → (px_12 ≤ 50) → (st + i_12 ≤ sx_12) → (TkX tp ln ti_12 tx_12 sx_12 bx_12 vx_12) → (0 ≤ ti_12) → (SeP (PnR (CTk tp ln) (LF tp ln) 4) opN (CTk tp ln) ti pa ti_12 px_12) → (400 - i_12).toNat < N12 → J l G MX5_both { frames := 26, cells := 0, slots := 0, locals := 582 } jE (jMQ G { frames := 26, cells := 0, slots := 0, locals := 582 } (fun rr h9 => (∃ tk2 : Int, ∃ st2 : Int, ∃ bh2 : Int, ∃ va2 : Int, ∃ pa2 : Int, ∃ sz2 : Int, ∃ cd2 : Int → Int, ∃ ti2 : Int, rr = some (.int (zI 1)) ∧ h9 = (nh, hc fh [(54, .inr (5, [.ref 55, .int (zI ln), .int (zI tk2), .int (zI st2), .int (zI bh2), .int (zI va2), .int (zI pa2), .int (zI fl), .ref 56, .int (zI sz2)])), (56, .inl (0, 412, .inl (zA cd2)))]) ∧ (0 ≤ tk2) ∧ (tk2 ≤ 355) ∧ (0 ≤ st2) ∧ (st2 ≤ bh2) ∧ (bh2 ≤ ln) ∧ (0 ≤ va2) ∧ (va2 ≤ 1001) ∧ (0 ≤ pa2) ∧ (pa2 ≤ 50) ∧ (0 ≤ sz2) ∧ (sz2 ≤ 412) ∧ (TokL tk2 st2 bh2) ∧ (Rg cd2 412 (-2147483648) 2147483647) ∧ (sz2 + st ≤ sz + st2) ∧ (st ≤ st2) ∧ (TkX tp ln ti2 tk2 st2 bh2 va2) ∧ (0 ≤ ti2) ∧ (BoR (CTk tp ln) (LF tp ln) 4 ti pa 1 ti2 pa2)) ∨ (∃ tk2 : Int, ∃ st2 : Int, ∃ bh2 : Int, ∃ va2 : Int, ∃ pa2 : Int, ∃ sz2 : Int, ∃ cd2 : Int → Int, ∃ fl2 : Int, ∃ ti2 : Int, rr = some (.int (zI 0)) ∧ h9 = (nh, hc fh [(54, .inr (5, [.ref 55, .int (zI ln), .int (zI tk2), .int (zI st2), .int (zI bh2), .int (zI va2), .int (zI pa2), .int (zI fl2), .ref 56, .int (zI sz2)])), (56, .inl (0, 412, .inl (zA cd2)))]) ∧ (0 ≤ tk2) ∧ (tk2 ≤ 355) ∧ (0 ≤ st2) ∧ (st2 ≤ bh2) ∧ (bh2 ≤ ln) ∧ (0 ≤ va2) ∧ (va2 ≤ 1001) ∧ (0 ≤ pa2) ∧ (pa2 ≤ 50) ∧ (0 ≤ sz2) ∧ (sz2 ≤ 412) ∧ (TokL tk2 st2 bh2) ∧ (Rg cd2 412 (-2147483648) 2147483647) ∧ (0 ≤ fl2) ∧ (fl2 ≤ 400) ∧ (FlX tp ln ti2 fl2) ∧ (BoR (CTk tp ln) (LF tp ln) 4 ti pa 0 ti2 0)))) (nh, hc fh [(54, .inr (5, [.ref 55, .int (zI ln), .int (zI tx_12), .int (zI sx_12), .int (zI bx_12), .int (zI vx_12), .int (zI px_12), .int (zI fl), .ref 56, .int (zI zx_12)])), (56, .inl (0, 412, .inl (zA cx_12)))]) 0 0 12 [some (.ref 54), some (.int (zI 4)), some (.int (zI i_12)), none] [] := by
      intro N12
      induction N12 with
      | zero => intro i_12 tx_12 sx_12 bx_12 vx_12 px_12 zx_12 cx_12 ti_12 i12_0 i12_1 i12_2 i12_3 i12_4 i12_5 i12_6 i12_7 i12_8 i12_9 i12_10 i12_11 i12_12 i12_13 i12_14 i12_15 i12_16 i12_17 i12_18 i12_19 i12_20 hm; exact absurd hm (Nat.not_lt_zero _)
      | succ N12 ih12 =>
        intro i_12 tx_12 sx_12 bx_12 vx_12 px_12 zx_12 cx_12 ti_12 i12_0 i12_1 i12_2 i12_3 i12_4 i12_5 i12_6 i12_7 i12_8 i12_9 i12_10 i12_11 i12_12 i12_13 i12_14 i12_15 i12_16 i12_17 i12_18 i12_19 i12_20 hm12
        refine J_iload_n dX5_both_12 rfl rfl ?_
        refine Z_sipush (n := 400) dX5_both_13 (by decide +kernel) ?_
        refine Z_icmp_ge (tgt := 60) dX5_both_16 (by decide) (v_d7389cde0f i12_0 i12_1) v_d8dcd4dd52 (fun h54 => ?_) (fun h54 => ?_)
        · have g55 : tx_12 = 17 := TkX.lo i12_18 (v_96ef693267 q1 q4 i12_7 i12_8 i12_17 h54)
          refine Z_iconst (n := 1) dX5_both_60 ?_
          exact J_iret dX5_both_61 rfl (jbn v_316afd7d0b v_bbcfac9b7d) (Nat.le_of_ble_eq_true rfl) (Nat.le_of_ble_eq_true rfl) (Or.inl ⟨tx_12, sx_12, bx_12, vx_12, px_12, zx_12, cx_12, ti_12, rfl, rfl, i12_4, i12_5, i12_6, i12_7, i12_8, i12_9, i12_10, i12_15, i12_16, i12_13, i12_14, i12_11, i12_12, i12_2, i12_3, i12_18, i12_19, (SeP.end i12_20 (fun w => absurd ((TkX.wd i12_18 (v := 5) (c := 6) (by decide) (by decide) (by decide)).mp w) (v_ffc4fbfbcd g55)))⟩)
        · refine J_aload_n dX5_both_19 rfl rfl ?_
          refine J_get (v := .int (zI tx_12)) dX5_both_20 fl_X5_19 rfl rfl ?_
          refine Z_iconst (n := 5) dX5_both_23 ?_
          refine Z_icmp_ne (tgt := 60) dX5_both_24 (by decide) (v_96bf6f782e i12_4 i12_5) v_3961fe0d0d (fun h56 => ?_) (fun h56 => ?_)
          · refine Z_iconst (n := 1) dX5_both_60 ?_
            exact J_iret dX5_both_61 rfl (jbn v_316afd7d0b v_bbcfac9b7d) (Nat.le_of_ble_eq_true rfl) (Nat.le_of_ble_eq_true rfl) (Or.inl ⟨tx_12, sx_12, bx_12, vx_12, px_12, zx_12, cx_12, ti_12, rfl, rfl, i12_4, i12_5, i12_6, i12_7, i12_8, i12_9, i12_10, i12_15, i12_16, i12_13, i12_14, i12_11, i12_12, i12_2, i12_3, i12_18, i12_19, (SeP.end i12_20 (fun w => absurd ((TkX.wd i12_18 (v := 5) (c := 6) (by decide) (by decide) (by decide)).mp w) (v_6cacba8012 h56)))⟩)
          · refine J_aload_n dX5_both_27 rfl rfl ?_
            have g57 := TokL.lt i12_11 (v_9ad38f4709 h56)
            refine J_callV (st := []) dX5_both_28 cv_X5_43 (d_advance (ti_12 + 1) ln tx_12 sx_12 bx_12 vx_12 px_12 fl zx_12 tp q0 q1 (v_d253cb2c59 i12_6 g57) i12_8 i12_9 i12_10 q15 (TkX.ps i12_18 (v_2b02420001 i12_19)) rfl hk55) rfl rfl rfl (Nat.le_of_ble_eq_true rfl) ⟨(Nat.le_of_ble_eq_true rfl), (Nat.le_of_ble_eq_true rfl)⟩ ⟨(Nat.le_of_ble_eq_true rfl), (Nat.le_of_ble_eq_true rfl)⟩ (fun r h9 hp => ?_)
            obtain ⟨z58, z59, z60, z61, rfl, rfl, h62, h63, h64, h65, h66, h67, h68, h69, h70⟩ := hp
            refine J_nf (nh2 := nh) (ck2 := 0) (sk2 := 0) (st2 := []) rfl rfl rfl rfl ?_
            refine J_app (L3 := [(54, .inr (5, [.ref 55, .int (zI ln), .int (zI z58), .int (zI z59), .int (zI z60), .int (zI z61), .int (zI px_12), .int (zI fl), .ref 56, .int (zI zx_12)])), (54, .inr (5, [.ref 55, .int (zI ln), .int (zI tx_12), .int (zI sx_12), .int (zI bx_12), .int (zI vx_12), .int (zI px_12), .int (zI fl), .ref 56, .int (zI zx_12)])), (56, .inl (0, 412, .inl (zA cx_12)))]) rfl ?_
            refine J_mask (L2 := [(54, .inr (5, [.ref 55, .int (zI ln), .int (zI z58), .int (zI z59), .int (zI z60), .int (zI z61), .int (zI px_12), .int (zI fl), .ref 56, .int (zI zx_12)])), (56, .inl (0, 412, .inl (zA cx_12)))]) (ks := [54, 54, 56]) [true, false, true] rfl (by decide +kernel) rfl ?_
            refine J_aload_n dX5_both_31 rfl rfl ?_
            refine Z_bipush (n := 11) dX5_both_32 (by decide +kernel) ?_
            refine Z_iconst (n := 0) dX5_both_34 ?_
            refine J_callV (st := []) dX5_both_35 cv_X5_72 (d_emit 11 0 ln z58 z59 z60 z61 px_12 fl zx_12 cx_12 v_d58e110b81 v_b17331891f i12_13 i12_14 i12_12 rfl rfl) rfl rfl rfl (Nat.le_of_ble_eq_true rfl) ⟨(Nat.le_of_ble_eq_true rfl), (Nat.le_of_ble_eq_true rfl)⟩ ⟨(Nat.le_of_ble_eq_true rfl), (Nat.le_of_ble_eq_true rfl)⟩ (fun r h9 hp => ?_)
            obtain ⟨z71, f72, rfl, rfl, h73, h74, h75, h76, h77⟩ := hp
            refine J_nf (nh2 := nh) (ck2 := 0) (sk2 := 0) (st2 := [.int (zI zx_12)]) rfl rfl rfl rfl ?_
            refine J_app (L3 := [(54, .inr (5, [.ref 55, .int (zI ln), .int (zI z58), .int (zI z59), .int (zI z60), .int (zI z61), .int (zI px_12), .int (zI fl), .ref 56, .int (zI z71)])), (56, .inl (0, 412, .inl (zA f72))), (54, .inr (5, [.ref 55, .int (zI ln), .int (zI z58), .int (zI z59), .int (zI z60), .int (zI z61), .int (zI px_12), .int (zI fl), .ref 56, .int (zI zx_12)])), (56, .inl (0, 412, .inl (zA cx_12)))]) rfl ?_
            refine J_mask (L2 := [(54, .inr (5, [.ref 55, .int (zI ln), .int (zI z58), .int (zI z59), .int (zI z60), .int (zI z61), .int (zI px_12), .int (zI fl), .ref 56, .int (zI z71)])), (56, .inl (0, 412, .inl (zA f72)))]) (ks := [54, 56, 54, 56]) [true, true, false, false] rfl (by decide +kernel) rfl ?_
            refine J_istore_n dX5_both_38 rfl (Nat.le_of_ble_eq_true rfl) rfl ?_
            refine J_ls (ls2 := [some (.ref 54), some (.int (zI 4)), some (.int (zI i_12)), some (.int (zI zx_12))]) rfl ?_
            refine J_aload_n dX5_both_39 rfl rfl ?_
            refine J_iload_n dX5_both_40 rfl rfl ?_
            refine J_callV (st := []) dX5_both_41 cv_X5_83 (d_plain4 ln z58 z59 z60 z61 px_12 fl z71 tp f72 (ti_12 + 1) q0 q1 h62 h63 (v_9b2e2070a2 i12_6 g57 h64) h65 h66 h67 h68 i12_15 i12_16 q11 h73 h74 h69 q15 h77 h70 (v_da458fa48a i12_19) rfl hk55 rfl) rfl rfl rfl (Nat.le_of_ble_eq_true rfl) ⟨(Nat.le_of_ble_eq_true rfl), (Nat.le_of_ble_eq_true rfl)⟩ ⟨(Nat.le_of_ble_eq_true rfl), (Nat.le_of_ble_eq_true rfl)⟩ (fun r h9 hp => ?_)
            rcases hp with ⟨z78, z79, z80, z81, z82, z83, f84, z85, rfl, rfl, h86, h87, h88, h89, h90, h91, h92, h93, h94, h95, h96, h97, h98, h99, h100, h101, h102, h103⟩ | ⟨z104, z105, z106, z107, z108, z109, f110, z111, z112, rfl, rfl, h113, h114, h115, h116, h117, h118, h119, h120, h121, h122, h123, h124, h125, h126, h127, h128, h129⟩
            · refine J_nf (nh2 := nh) (ck2 := 0) (sk2 := 0) (st2 := [.int (zI 1)]) rfl rfl rfl rfl ?_
              refine J_app (L3 := [(54, .inr (5, [.ref 55, .int (zI ln), .int (zI z78), .int (zI z79), .int (zI z80), .int (zI z81), .int (zI z82), .int (zI fl), .ref 56, .int (zI z83)])), (56, .inl (0, 412, .inl (zA f84))), (54, .inr (5, [.ref 55, .int (zI ln), .int (zI z58), .int (zI z59), .int (zI z60), .int (zI z61), .int (zI px_12), .int (zI fl), .ref 56, .int (zI z71)])), (56, .inl (0, 412, .inl (zA f72)))]) rfl ?_
              refine J_mask (L2 := [(54, .inr (5, [.ref 55, .int (zI ln), .int (zI z78), .int (zI z79), .int (zI z80), .int (zI z81), .int (zI z82), .int (zI fl), .ref 56, .int (zI z83)])), (56, .inl (0, 412, .inl (zA f84)))]) (ks := [54, 56, 54, 56]) [true, true, false, false] rfl (by decide +kernel) rfl ?_
              refine Z_if_ne (tgt := 49) dX5_both_44 (by decide) v_4dcc24baa7 (fun h130 => ?_) (fun h130 => absurd h130 v_3a47bfd896)
              refine J_aload_n dX5_both_49 rfl rfl ?_
              refine J_iload_n dX5_both_50 rfl rfl ?_
              refine J_callV (st := []) dX5_both_51 cv_X5_79 (d_aim zx_12 ln z78 z79 z80 z81 z82 fl z83 f84 (v_9099852440 i12_13 i12_14) h95 h96 h98 rfl rfl) rfl rfl rfl (Nat.le_of_ble_eq_true rfl) ⟨(Nat.le_of_ble_eq_true rfl), (Nat.le_of_ble_eq_true rfl)⟩ ⟨(Nat.le_of_ble_eq_true rfl), (Nat.le_of_ble_eq_true rfl)⟩ (fun r h9 hp => ?_)
              obtain ⟨f131, rfl, rfl, h132⟩ := hp
              refine J_nf (nh2 := nh) (ck2 := 0) (sk2 := 0) (st2 := []) rfl rfl rfl rfl ?_
              refine J_app (L3 := [(56, .inl (0, 412, .inl (zA f131))), (54, .inr (5, [.ref 55, .int (zI ln), .int (zI z78), .int (zI z79), .int (zI z80), .int (zI z81), .int (zI z82), .int (zI fl), .ref 56, .int (zI z83)])), (56, .inl (0, 412, .inl (zA f84)))]) rfl ?_
              refine J_mask (L2 := [(56, .inl (0, 412, .inl (zA f131))), (54, .inr (5, [.ref 55, .int (zI ln), .int (zI z78), .int (zI z79), .int (zI z80), .int (zI z81), .int (zI z82), .int (zI fl), .ref 56, .int (zI z83)]))]) (ks := [56, 54, 56]) [true, true, false] rfl (by decide +kernel) rfl ?_
              refine Z_iinc (c := i_12 + 1) (ls2 := [some (.ref 54), some (.int (zI 4)), some (.int (zI (i_12 + 1))), some (.int (zI zx_12))]) dX5_both_54 rfl (Nat.le_of_ble_eq_true rfl) rfl rfl rfl ?_
              refine J_goto (tgt := 12) dX5_both_57 (by decide) ?_
              refine J_touch (k := 56) (e := .inl (0, 412, .inl (zA f131))) rfl ?_
              refine J_touch (k := 54) (e := .inr (5, [.ref 55, .int (zI ln), .int (zI z78), .int (zI z79), .int (zI z80), .int (zI z81), .int (zI z82), .int (zI fl), .ref 56, .int (zI z83)])) rfl ?_
              refine J_mask (L2 := [(54, .inr (5, [.ref 55, .int (zI ln), .int (zI z78), .int (zI z79), .int (zI z80), .int (zI z81), .int (zI z82), .int (zI fl), .ref 56, .int (zI z83)])), (56, .inl (0, 412, .inl (zA f131)))]) (ks := [54, 56, 56, 54]) [true, true, false, false] rfl (by decide +kernel) rfl ?_
              refine J_drop (ls2 := [some (.ref 54), some (.int (zI 4)), some (.int (zI (i_12 + 1))), none]) [true, true, true, false] rfl ?_
              exact ih12 (i_12 + 1) z78 z79 z80 z81 z82 z83 f131 z85 (v_da458fa48a i12_0) (v_6924477667 h54) (v_f82b1dc229 i12_2 g57 h64 h76 h99) (v_269579bf42 i12_3 g57 h64 h100) h86 h87 h88 h89 h90 h91 h92 h97 h132 h95 h96 h93 h94 (v_974edc800f i12_17 g57 h64 h100) h101 h102 (SeP.add i12_20 ((TkX.wd i12_18 (v := 5) (c := 6) (by decide) (by decide) (by decide)).mpr (v_666cdbe95c h56)) h103) (meas_lt v_ceb2ed6d2b (v_44ddc35e90 h54) hm12)
            · refine J_nf (nh2 := nh) (ck2 := 0) (sk2 := 0) (st2 := [.int (zI 0)]) rfl rfl rfl rfl ?_
              refine J_app (L3 := [(54, .inr (5, [.ref 55, .int (zI ln), .int (zI z104), .int (zI z105), .int (zI z106), .int (zI z107), .int (zI z108), .int (zI z111), .ref 56, .int (zI z109)])), (56, .inl (0, 412, .inl (zA f110))), (54, .inr (5, [.ref 55, .int (zI ln), .int (zI z58), .int (zI z59), .int (zI z60), .int (zI z61), .int (zI px_12), .int (zI fl), .ref 56, .int (zI z71)])), (56, .inl (0, 412, .inl (zA f72)))]) rfl ?_
              refine J_mask (L2 := [(54, .inr (5, [.ref 55, .int (zI ln), .int (zI z104), .int (zI z105), .int (zI z106), .int (zI z107), .int (zI z108), .int (zI z111), .ref 56, .int (zI z109)])), (56, .inl (0, 412, .inl (zA f110)))]) (ks := [54, 56, 54, 56]) [true, true, false, false] rfl (by decide +kernel) rfl ?_
              refine Z_if_ne (tgt := 49) dX5_both_44 (by decide) v_b17331891f (fun h133 => absurd h133 (fun q => q v_2ca2bbca1f)) (fun h133 => ?_)
              refine Z_iconst (n := 0) dX5_both_47 ?_
              exact J_iret dX5_both_48 rfl (jbn v_939070ca3f v_316afd7d0b) (Nat.le_of_ble_eq_true rfl) (Nat.le_of_ble_eq_true rfl) (Or.inr ⟨z104, z105, z106, z107, z108, z109, f110, z111, z112, rfl, rfl, h113, h114, h115, h116, h117, h118, h119, h120, h121, h122, h123, h124, h125, h126, h127, (h128), (SeP.bad i12_20 ((TkX.wd i12_18 (v := 5) (c := 6) (by decide) (by decide) (by decide)).mpr (v_666cdbe95c h56)) h129)⟩)
    exact lp12 _ 0 z1 z2 z3 z4 z5 z6 f7 z8 v_939070ca3f v_5ab96f7b5e h22 h23 h9 h10 h11 h12 h13 h14 h15 h20 h21 h18 h19 h16 h17 (v_3c1faf939c h23) h24 h25 (SeP.one h26) (Nat.lt_succ_self _)
  · refine J_nf (nh2 := nh) (ck2 := 0) (sk2 := 0) (st2 := [.int (zI 0)]) rfl rfl rfl rfl ?_
    refine J_app (L3 := [(54, .inr (5, [.ref 55, .int (zI ln), .int (zI z27), .int (zI z28), .int (zI z29), .int (zI z30), .int (zI z31), .int (zI z34), .ref 56, .int (zI z32)])), (56, .inl (0, 412, .inl (zA f33)))]) rfl ?_
    refine Z_if_ne (tgt := 10) dX5_both_5 (by decide) v_b17331891f (fun h134 => absurd h134 (fun q => q v_2ca2bbca1f)) (fun h134 => ?_)
    refine Z_iconst (n := 0) dX5_both_8 ?_
    exact J_iret dX5_both_9 rfl (jbn v_939070ca3f v_316afd7d0b) (Nat.le_of_ble_eq_true rfl) (Nat.le_of_ble_eq_true rfl) (Or.inr ⟨z27, z28, z29, z30, z31, z32, f33, z34, z35, rfl, rfl, h36, h37, h38, h39, h40, h41, h42, h43, h44, h45, h46, h47, h48, h49, h50, (h51), (SeR.b h52)⟩)
set_option maxHeartbeats 4000000 in
set_option maxRecDepth 100000 in
theorem d_test4 {l : Launch} {G : jG} {nh : Nat} {fh : Nat → Option va_E} (ln : Int) (tk : Int) (st : Int) (bh : Int) (va : Int) (pa : Int) (fl : Int) (sz : Int) (tp : Int → Int) (cd : Int → Int) (ti : Int) (q0 : 0 ≤ ln) (q1 : ln ≤ 400) (q2 : 0 ≤ tk) (q3 : tk ≤ 355) (q4 : 0 ≤ st) (q5 : st ≤ bh) (q6 : bh ≤ ln) (q7 : 0 ≤ va) (q8 : va ≤ 1001) (q9 : 0 ≤ pa) (q10 : pa ≤ 50) (q11 : zr fl) (q12 : 0 ≤ sz) (q13 : sz ≤ 412) (q14 : TokL tk st bh) (q15 : Rg tp 400 0 255) (q16 : Rg cd 412 (-2147483648) 2147483647) (q17 : TkX tp ln ti tk st bh va) (q18 : 0 ≤ ti) (hk54 : fh 54 = some (.inr (5, [.ref 55, .int (zI ln), .int (zI tk), .int (zI st), .int (zI bh), .int (zI va), .int (zI pa), .int (zI fl), .ref 56, .int (zI sz)]))) (hk55 : fh 55 = some (.inl (0, 400, .inl (zA tp)))) (hk56 : fh 56 = some (.inl (0, 412, .inl (zA cd)))) : JM l G yX5_test MX5_test { frames := 27, cells := 0, slots := 0, locals := 605 } [.ref 54, .int (zI 4)] (nh, fh) (fun rr h9 => (∃ tk2 : Int, ∃ st2 : Int, ∃ bh2 : Int, ∃ va2 : Int, ∃ pa2 : Int, ∃ sz2 : Int, ∃ cd2 : Int → Int, ∃ ti2 : Int, rr = some (.int (zI 1)) ∧ h9 = (nh, hc fh [(54, .inr (5, [.ref 55, .int (zI ln), .int (zI tk2), .int (zI st2), .int (zI bh2), .int (zI va2), .int (zI pa2), .int (zI fl), .ref 56, .int (zI sz2)])), (56, .inl (0, 412, .inl (zA cd2)))]) ∧ (0 ≤ tk2) ∧ (tk2 ≤ 355) ∧ (0 ≤ st2) ∧ (st2 ≤ bh2) ∧ (bh2 ≤ ln) ∧ (0 ≤ va2) ∧ (va2 ≤ 1001) ∧ (0 ≤ pa2) ∧ (pa2 ≤ 50) ∧ (0 ≤ sz2) ∧ (sz2 ≤ 412) ∧ (TokL tk2 st2 bh2) ∧ (Rg cd2 412 (-2147483648) 2147483647) ∧ (sz2 + st ≤ sz + st2) ∧ (st ≤ st2) ∧ (TkX tp ln ti2 tk2 st2 bh2 va2) ∧ (0 ≤ ti2) ∧ (TeR (CTk tp ln) (LF tp ln) 4 ti pa 1 ti2 pa2)) ∨ (∃ tk2 : Int, ∃ st2 : Int, ∃ bh2 : Int, ∃ va2 : Int, ∃ pa2 : Int, ∃ sz2 : Int, ∃ cd2 : Int → Int, ∃ fl2 : Int, ∃ ti2 : Int, rr = some (.int (zI 0)) ∧ h9 = (nh, hc fh [(54, .inr (5, [.ref 55, .int (zI ln), .int (zI tk2), .int (zI st2), .int (zI bh2), .int (zI va2), .int (zI pa2), .int (zI fl2), .ref 56, .int (zI sz2)])), (56, .inl (0, 412, .inl (zA cd2)))]) ∧ (0 ≤ tk2) ∧ (tk2 ≤ 355) ∧ (0 ≤ st2) ∧ (st2 ≤ bh2) ∧ (bh2 ≤ ln) ∧ (0 ≤ va2) ∧ (va2 ≤ 1001) ∧ (0 ≤ pa2) ∧ (pa2 ≤ 50) ∧ (0 ≤ sz2) ∧ (sz2 ≤ 412) ∧ (TokL tk2 st2 bh2) ∧ (Rg cd2 412 (-2147483648) 2147483647) ∧ (0 ≤ fl2) ∧ (fl2 ≤ 400) ∧ (FlX tp ln ti2 fl2) ∧ (TeR (CTk tp ln) (LF tp ln) 4 ti pa 0 ti2 0))) := by
  refine JM.of (by decide) rfl (fun h => by cases h) (Nat.le_of_ble_eq_true rfl) ⟨2, rfl⟩ ?_
  refine J_hc0 (J_ls (ls2 := [some (.ref 54), some (.int (zI 4)), none, none]) rfl ?_)
  refine J_aload_n dX5_test_0 rfl rfl ?_
  refine J_iload_n dX5_test_1 rfl rfl ?_
  refine J_callV (st := []) dX5_test_2 cv_X5_76 (d_both4 ln tk st bh va pa fl sz tp cd ti q0 q1 q2 q3 q4 q5 q6 q7 q8 q9 q10 q11 q12 q13 q14 q15 q16 q17 q18 hk54 hk55 hk56) hk54 rfl rfl (Nat.le_of_ble_eq_true rfl) ⟨(Nat.le_of_ble_eq_true rfl), (Nat.le_of_ble_eq_true rfl)⟩ ⟨(Nat.le_of_ble_eq_true rfl), (Nat.le_of_ble_eq_true rfl)⟩ (fun r h9 hp => ?_)
  rcases hp with ⟨z1, z2, z3, z4, z5, z6, f7, z8, rfl, rfl, h9, h10, h11, h12, h13, h14, h15, h16, h17, h18, h19, h20, h21, h22, h23, h24, h25, h26⟩ | ⟨z27, z28, z29, z30, z31, z32, f33, z34, z35, rfl, rfl, h36, h37, h38, h39, h40, h41, h42, h43, h44, h45, h46, h47, h48, h49, h50, h51, h52⟩
  · refine J_nf (nh2 := nh) (ck2 := 0) (sk2 := 0) (st2 := [.int (zI 1)]) rfl rfl rfl rfl ?_
    refine J_app (L3 := [(54, .inr (5, [.ref 55, .int (zI ln), .int (zI z1), .int (zI z2), .int (zI z3), .int (zI z4), .int (zI z5), .int (zI fl), .ref 56, .int (zI z6)])), (56, .inl (0, 412, .inl (zA f7)))]) rfl ?_
    refine Z_if_ne (tgt := 10) dX5_test_5 (by decide) v_4dcc24baa7 (fun h53 => ?_) (fun h53 => absurd h53 v_3a47bfd896)
    refine Z_iconst (n := 0) dX5_test_10 ?_
    refine J_istore_n dX5_test_11 rfl (Nat.le_of_ble_eq_true rfl) rfl ?_
    refine J_ls (ls2 := [some (.ref 54), some (.int (zI 4)), some (.int (zI 0)), none]) rfl ?_
    have lp12 : ∀ (N12 : Nat) (i_12 : Int) (tx_12 : Int) (sx_12 : Int) (bx_12 : Int) (vx_12 : Int) (px_12 : Int) (zx_12 : Int) (cx_12 : Int → Int) (ti_12 : Int), (0 ≤ i_12) → (i_12 ≤ 400) → (zx_12 + st ≤ sz + sx_12) → (st ≤ sx_12) → (0 ≤ tx_12) → (tx_12 ≤ 355) → (0 ≤ sx_12) → (sx_12 ≤ bx_12) → (bx_12 ≤ ln) → (0 ≤ vx_12) → (vx_12 ≤ 1001) → (TokL tx_12 sx_12 bx_12) → (Rg cx_12 412 (-2147483648) 2147483647) → (0 ≤ zx_12) → (zx_12 ≤ 412) → (0 ≤ px_12) → (px_12 ≤ 50) → (st + i_12 ≤ sx_12) → (TkX tp ln ti_12 tx_12 sx_12 bx_12 vx_12) → (0 ≤ ti_12) → (SeP (BoR (CTk tp ln) (LF tp ln) 4) opO (CTk tp ln) ti pa ti_12 px_12) → (400 - i_12).toNat < N12 → J l G MX5_test { frames := 27, cells := 0, slots := 0, locals := 605 } jE (jMQ G { frames := 27, cells := 0, slots := 0, locals := 605 } (fun rr h9 => (∃ tk2 : Int, ∃ st2 : Int, ∃ bh2 : Int, ∃ va2 : Int, ∃ pa2 : Int, ∃ sz2 : Int, ∃ cd2 : Int → Int, ∃ ti2 : Int, rr = some (.int (zI 1)) ∧ h9 = (nh, hc fh [(54, .inr (5, [.ref 55, .int (zI ln), .int (zI tk2), .int (zI st2), .int (zI bh2), .int (zI va2), .int (zI pa2), .int (zI fl), .ref 56, .int (zI sz2)])), (56, .inl (0, 412, .inl (zA cd2)))]) ∧ (0 ≤ tk2) ∧ (tk2 ≤ 355) ∧ (0 ≤ st2) ∧ (st2 ≤ bh2) ∧ (bh2 ≤ ln) ∧ (0 ≤ va2) ∧ (va2 ≤ 1001) ∧ (0 ≤ pa2) ∧ (pa2 ≤ 50) ∧ (0 ≤ sz2) ∧ (sz2 ≤ 412) ∧ (TokL tk2 st2 bh2) ∧ (Rg cd2 412 (-2147483648) 2147483647) ∧ (sz2 + st ≤ sz + st2) ∧ (st ≤ st2) ∧ (TkX tp ln ti2 tk2 st2 bh2 va2) ∧ (0 ≤ ti2) ∧ (TeR (CTk tp ln) (LF tp ln) 4 ti pa 1 ti2 pa2)) ∨ (∃ tk2 : Int, ∃ st2 : Int, ∃ bh2 : Int, ∃ va2 : Int, ∃ pa2 : Int, ∃ sz2 : Int, ∃ cd2 : Int → Int, ∃ fl2 : Int, ∃ ti2 : Int, rr = some (.int (zI 0)) ∧ h9 = (nh, hc fh [(54, .inr (5, [.ref 55, .int (zI ln), .int (zI tk2), .int (zI st2), .int (zI bh2), .int (zI va2), .int (zI pa2), .int (zI fl2), .ref 56, .int (zI sz2)])), (56, .inl (0, 412, .inl (zA cd2)))]) ∧ (0 ≤ tk2) ∧ (tk2 ≤ 355) ∧ (0 ≤ st2) ∧ (st2 ≤ bh2) ∧ (bh2 ≤ ln) ∧ (0 ≤ va2) ∧ (va2 ≤ 1001) ∧ (0 ≤ pa2) ∧ (pa2 ≤ 50) ∧ (0 ≤ sz2) ∧ (sz2 ≤ 412) ∧ (TokL tk2 st2 bh2) ∧ (Rg cd2 412 (-2147483648) 2147483647) ∧ (0 ≤ fl2) ∧ (fl2 ≤ 400) ∧ (FlX tp ln ti2 fl2) ∧ (TeR (CTk tp ln) (LF tp ln) 4 ti pa 0 ti2 0)))) (nh, hc fh [(54, .inr (5, [.ref 55, .int (zI ln), .int (zI tx_12), .int (zI sx_12), .int (zI bx_12), .int (zI vx_12), .int (zI px_12), .int (zI fl), .ref 56, .int (zI zx_12)])), (56, .inl (0, 412, .inl (zA cx_12)))]) 0 0 12 [some (.ref 54), some (.int (zI 4)), some (.int (zI i_12)), none] [] := by
      intro N12
      induction N12 with
      | zero => intro i_12 tx_12 sx_12 bx_12 vx_12 px_12 zx_12 cx_12 ti_12 i12_0 i12_1 i12_2 i12_3 i12_4 i12_5 i12_6 i12_7 i12_8 i12_9 i12_10 i12_11 i12_12 i12_13 i12_14 i12_15 i12_16 i12_17 i12_18 i12_19 i12_20 hm; exact absurd hm (Nat.not_lt_zero _)
      | succ N12 ih12 =>
        intro i_12 tx_12 sx_12 bx_12 vx_12 px_12 zx_12 cx_12 ti_12 i12_0 i12_1 i12_2 i12_3 i12_4 i12_5 i12_6 i12_7 i12_8 i12_9 i12_10 i12_11 i12_12 i12_13 i12_14 i12_15 i12_16 i12_17 i12_18 i12_19 i12_20 hm12
        refine J_iload_n dX5_test_12 rfl rfl ?_
        refine Z_sipush (n := 400) dX5_test_13 (by decide +kernel) ?_
        refine Z_icmp_ge (tgt := 60) dX5_test_16 (by decide) (v_d7389cde0f i12_0 i12_1) v_d8dcd4dd52 (fun h54 => ?_) (fun h54 => ?_)
        · have g55 : tx_12 = 17 := TkX.lo i12_18 (v_96ef693267 q1 q4 i12_7 i12_8 i12_17 h54)
          refine Z_iconst (n := 1) dX5_test_60 ?_
          exact J_iret dX5_test_61 rfl (jbn v_316afd7d0b v_bbcfac9b7d) (Nat.le_of_ble_eq_true rfl) (Nat.le_of_ble_eq_true rfl) (Or.inl ⟨tx_12, sx_12, bx_12, vx_12, px_12, zx_12, cx_12, ti_12, rfl, rfl, i12_4, i12_5, i12_6, i12_7, i12_8, i12_9, i12_10, i12_15, i12_16, i12_13, i12_14, i12_11, i12_12, i12_2, i12_3, i12_18, i12_19, (SeP.end i12_20 (fun w => absurd ((TkX.wd i12_18 (v := 4) (c := 5) (by decide) (by decide) (by decide)).mp w) (v_6cdd333bcc g55)))⟩)
        · refine J_aload_n dX5_test_19 rfl rfl ?_
          refine J_get (v := .int (zI tx_12)) dX5_test_20 fl_X5_19 rfl rfl ?_
          refine Z_iconst (n := 4) dX5_test_23 ?_
          refine Z_icmp_ne (tgt := 60) dX5_test_24 (by decide) (v_96bf6f782e i12_4 i12_5) v_ffb526fa28 (fun h56 => ?_) (fun h56 => ?_)
          · refine Z_iconst (n := 1) dX5_test_60 ?_
            exact J_iret dX5_test_61 rfl (jbn v_316afd7d0b v_bbcfac9b7d) (Nat.le_of_ble_eq_true rfl) (Nat.le_of_ble_eq_true rfl) (Or.inl ⟨tx_12, sx_12, bx_12, vx_12, px_12, zx_12, cx_12, ti_12, rfl, rfl, i12_4, i12_5, i12_6, i12_7, i12_8, i12_9, i12_10, i12_15, i12_16, i12_13, i12_14, i12_11, i12_12, i12_2, i12_3, i12_18, i12_19, (SeP.end i12_20 (fun w => absurd ((TkX.wd i12_18 (v := 4) (c := 5) (by decide) (by decide) (by decide)).mp w) (v_77b8f78401 h56)))⟩)
          · refine J_aload_n dX5_test_27 rfl rfl ?_
            have g57 := TokL.lt i12_11 (v_5ca91df03c h56)
            refine J_callV (st := []) dX5_test_28 cv_X5_43 (d_advance (ti_12 + 1) ln tx_12 sx_12 bx_12 vx_12 px_12 fl zx_12 tp q0 q1 (v_d253cb2c59 i12_6 g57) i12_8 i12_9 i12_10 q15 (TkX.ps i12_18 (v_2b02420001 i12_19)) rfl hk55) rfl rfl rfl (Nat.le_of_ble_eq_true rfl) ⟨(Nat.le_of_ble_eq_true rfl), (Nat.le_of_ble_eq_true rfl)⟩ ⟨(Nat.le_of_ble_eq_true rfl), (Nat.le_of_ble_eq_true rfl)⟩ (fun r h9 hp => ?_)
            obtain ⟨z58, z59, z60, z61, rfl, rfl, h62, h63, h64, h65, h66, h67, h68, h69, h70⟩ := hp
            refine J_nf (nh2 := nh) (ck2 := 0) (sk2 := 0) (st2 := []) rfl rfl rfl rfl ?_
            refine J_app (L3 := [(54, .inr (5, [.ref 55, .int (zI ln), .int (zI z58), .int (zI z59), .int (zI z60), .int (zI z61), .int (zI px_12), .int (zI fl), .ref 56, .int (zI zx_12)])), (54, .inr (5, [.ref 55, .int (zI ln), .int (zI tx_12), .int (zI sx_12), .int (zI bx_12), .int (zI vx_12), .int (zI px_12), .int (zI fl), .ref 56, .int (zI zx_12)])), (56, .inl (0, 412, .inl (zA cx_12)))]) rfl ?_
            refine J_mask (L2 := [(54, .inr (5, [.ref 55, .int (zI ln), .int (zI z58), .int (zI z59), .int (zI z60), .int (zI z61), .int (zI px_12), .int (zI fl), .ref 56, .int (zI zx_12)])), (56, .inl (0, 412, .inl (zA cx_12)))]) (ks := [54, 54, 56]) [true, false, true] rfl (by decide +kernel) rfl ?_
            refine J_aload_n dX5_test_31 rfl rfl ?_
            refine Z_bipush (n := 10) dX5_test_32 (by decide +kernel) ?_
            refine Z_iconst (n := 0) dX5_test_34 ?_
            refine J_callV (st := []) dX5_test_35 cv_X5_72 (d_emit 10 0 ln z58 z59 z60 z61 px_12 fl zx_12 cx_12 v_2388fd5833 v_b17331891f i12_13 i12_14 i12_12 rfl rfl) rfl rfl rfl (Nat.le_of_ble_eq_true rfl) ⟨(Nat.le_of_ble_eq_true rfl), (Nat.le_of_ble_eq_true rfl)⟩ ⟨(Nat.le_of_ble_eq_true rfl), (Nat.le_of_ble_eq_true rfl)⟩ (fun r h9 hp => ?_)
            obtain ⟨z71, f72, rfl, rfl, h73, h74, h75, h76, h77⟩ := hp
            refine J_nf (nh2 := nh) (ck2 := 0) (sk2 := 0) (st2 := [.int (zI zx_12)]) rfl rfl rfl rfl ?_
            refine J_app (L3 := [(54, .inr (5, [.ref 55, .int (zI ln), .int (zI z58), .int (zI z59), .int (zI z60), .int (zI z61), .int (zI px_12), .int (zI fl), .ref 56, .int (zI z71)])), (56, .inl (0, 412, .inl (zA f72))), (54, .inr (5, [.ref 55, .int (zI ln), .int (zI z58), .int (zI z59), .int (zI z60), .int (zI z61), .int (zI px_12), .int (zI fl), .ref 56, .int (zI zx_12)])), (56, .inl (0, 412, .inl (zA cx_12)))]) rfl ?_
            refine J_mask (L2 := [(54, .inr (5, [.ref 55, .int (zI ln), .int (zI z58), .int (zI z59), .int (zI z60), .int (zI z61), .int (zI px_12), .int (zI fl), .ref 56, .int (zI z71)])), (56, .inl (0, 412, .inl (zA f72)))]) (ks := [54, 56, 54, 56]) [true, true, false, false] rfl (by decide +kernel) rfl ?_
            refine J_istore_n dX5_test_38 rfl (Nat.le_of_ble_eq_true rfl) rfl ?_
            refine J_ls (ls2 := [some (.ref 54), some (.int (zI 4)), some (.int (zI i_12)), some (.int (zI zx_12))]) rfl ?_
            refine J_aload_n dX5_test_39 rfl rfl ?_
            refine J_iload_n dX5_test_40 rfl rfl ?_
            refine J_callV (st := []) dX5_test_41 cv_X5_76 (d_both4 ln z58 z59 z60 z61 px_12 fl z71 tp f72 (ti_12 + 1) q0 q1 h62 h63 (v_9b2e2070a2 i12_6 g57 h64) h65 h66 h67 h68 i12_15 i12_16 q11 h73 h74 h69 q15 h77 h70 (v_da458fa48a i12_19) rfl hk55 rfl) rfl rfl rfl (Nat.le_of_ble_eq_true rfl) ⟨(Nat.le_of_ble_eq_true rfl), (Nat.le_of_ble_eq_true rfl)⟩ ⟨(Nat.le_of_ble_eq_true rfl), (Nat.le_of_ble_eq_true rfl)⟩ (fun r h9 hp => ?_)
            rcases hp with ⟨z78, z79, z80, z81, z82, z83, f84, z85, rfl, rfl, h86, h87, h88, h89, h90, h91, h92, h93, h94, h95, h96, h97, h98, h99, h100, h101, h102, h103⟩ | ⟨z104, z105, z106, z107, z108, z109, f110, z111, z112, rfl, rfl, h113, h114, h115, h116, h117, h118, h119, h120, h121, h122, h123, h124, h125, h126, h127, h128, h129⟩
            · refine J_nf (nh2 := nh) (ck2 := 0) (sk2 := 0) (st2 := [.int (zI 1)]) rfl rfl rfl rfl ?_
              refine J_app (L3 := [(54, .inr (5, [.ref 55, .int (zI ln), .int (zI z78), .int (zI z79), .int (zI z80), .int (zI z81), .int (zI z82), .int (zI fl), .ref 56, .int (zI z83)])), (56, .inl (0, 412, .inl (zA f84))), (54, .inr (5, [.ref 55, .int (zI ln), .int (zI z58), .int (zI z59), .int (zI z60), .int (zI z61), .int (zI px_12), .int (zI fl), .ref 56, .int (zI z71)])), (56, .inl (0, 412, .inl (zA f72)))]) rfl ?_
              refine J_mask (L2 := [(54, .inr (5, [.ref 55, .int (zI ln), .int (zI z78), .int (zI z79), .int (zI z80), .int (zI z81), .int (zI z82), .int (zI fl), .ref 56, .int (zI z83)])), (56, .inl (0, 412, .inl (zA f84)))]) (ks := [54, 56, 54, 56]) [true, true, false, false] rfl (by decide +kernel) rfl ?_
              refine Z_if_ne (tgt := 49) dX5_test_44 (by decide) v_4dcc24baa7 (fun h130 => ?_) (fun h130 => absurd h130 v_3a47bfd896)
              refine J_aload_n dX5_test_49 rfl rfl ?_
              refine J_iload_n dX5_test_50 rfl rfl ?_
              refine J_callV (st := []) dX5_test_51 cv_X5_79 (d_aim zx_12 ln z78 z79 z80 z81 z82 fl z83 f84 (v_9099852440 i12_13 i12_14) h95 h96 h98 rfl rfl) rfl rfl rfl (Nat.le_of_ble_eq_true rfl) ⟨(Nat.le_of_ble_eq_true rfl), (Nat.le_of_ble_eq_true rfl)⟩ ⟨(Nat.le_of_ble_eq_true rfl), (Nat.le_of_ble_eq_true rfl)⟩ (fun r h9 hp => ?_)
              obtain ⟨f131, rfl, rfl, h132⟩ := hp
              refine J_nf (nh2 := nh) (ck2 := 0) (sk2 := 0) (st2 := []) rfl rfl rfl rfl ?_
              refine J_app (L3 := [(56, .inl (0, 412, .inl (zA f131))), (54, .inr (5, [.ref 55, .int (zI ln), .int (zI z78), .int (zI z79), .int (zI z80), .int (zI z81), .int (zI z82), .int (zI fl), .ref 56, .int (zI z83)])), (56, .inl (0, 412, .inl (zA f84)))]) rfl ?_
              refine J_mask (L2 := [(56, .inl (0, 412, .inl (zA f131))), (54, .inr (5, [.ref 55, .int (zI ln), .int (zI z78), .int (zI z79), .int (zI z80), .int (zI z81), .int (zI z82), .int (zI fl), .ref 56, .int (zI z83)]))]) (ks := [56, 54, 56]) [true, true, false] rfl (by decide +kernel) rfl ?_
              refine Z_iinc (c := i_12 + 1) (ls2 := [some (.ref 54), some (.int (zI 4)), some (.int (zI (i_12 + 1))), some (.int (zI zx_12))]) dX5_test_54 rfl (Nat.le_of_ble_eq_true rfl) rfl rfl rfl ?_
              refine J_goto (tgt := 12) dX5_test_57 (by decide) ?_
              refine J_touch (k := 56) (e := .inl (0, 412, .inl (zA f131))) rfl ?_
              refine J_touch (k := 54) (e := .inr (5, [.ref 55, .int (zI ln), .int (zI z78), .int (zI z79), .int (zI z80), .int (zI z81), .int (zI z82), .int (zI fl), .ref 56, .int (zI z83)])) rfl ?_
              refine J_mask (L2 := [(54, .inr (5, [.ref 55, .int (zI ln), .int (zI z78), .int (zI z79), .int (zI z80), .int (zI z81), .int (zI z82), .int (zI fl), .ref 56, .int (zI z83)])), (56, .inl (0, 412, .inl (zA f131)))]) (ks := [54, 56, 56, 54]) [true, true, false, false] rfl (by decide +kernel) rfl ?_
              refine J_drop (ls2 := [some (.ref 54), some (.int (zI 4)), some (.int (zI (i_12 + 1))), none]) [true, true, true, false] rfl ?_
              exact ih12 (i_12 + 1) z78 z79 z80 z81 z82 z83 f131 z85 (v_da458fa48a i12_0) (v_6924477667 h54) (v_f82b1dc229 i12_2 g57 h64 h76 h99) (v_269579bf42 i12_3 g57 h64 h100) h86 h87 h88 h89 h90 h91 h92 h97 h132 h95 h96 h93 h94 (v_974edc800f i12_17 g57 h64 h100) h101 h102 (SeP.add i12_20 ((TkX.wd i12_18 (v := 4) (c := 5) (by decide) (by decide) (by decide)).mpr (v_e7bb9e21ac h56)) h103) (meas_lt v_ceb2ed6d2b (v_44ddc35e90 h54) hm12)
            · refine J_nf (nh2 := nh) (ck2 := 0) (sk2 := 0) (st2 := [.int (zI 0)]) rfl rfl rfl rfl ?_
              refine J_app (L3 := [(54, .inr (5, [.ref 55, .int (zI ln), .int (zI z104), .int (zI z105), .int (zI z106), .int (zI z107), .int (zI z108), .int (zI z111), .ref 56, .int (zI z109)])), (56, .inl (0, 412, .inl (zA f110))), (54, .inr (5, [.ref 55, .int (zI ln), .int (zI z58), .int (zI z59), .int (zI z60), .int (zI z61), .int (zI px_12), .int (zI fl), .ref 56, .int (zI z71)])), (56, .inl (0, 412, .inl (zA f72)))]) rfl ?_
              refine J_mask (L2 := [(54, .inr (5, [.ref 55, .int (zI ln), .int (zI z104), .int (zI z105), .int (zI z106), .int (zI z107), .int (zI z108), .int (zI z111), .ref 56, .int (zI z109)])), (56, .inl (0, 412, .inl (zA f110)))]) (ks := [54, 56, 54, 56]) [true, true, false, false] rfl (by decide +kernel) rfl ?_
              refine Z_if_ne (tgt := 49) dX5_test_44 (by decide) v_b17331891f (fun h133 => absurd h133 (fun q => q v_2ca2bbca1f)) (fun h133 => ?_)
              refine Z_iconst (n := 0) dX5_test_47 ?_
              exact J_iret dX5_test_48 rfl (jbn v_939070ca3f v_316afd7d0b) (Nat.le_of_ble_eq_true rfl) (Nat.le_of_ble_eq_true rfl) (Or.inr ⟨z104, z105, z106, z107, z108, z109, f110, z111, z112, rfl, rfl, h113, h114, h115, h116, h117, h118, h119, h120, h121, h122, h123, h124, h125, h126, h127, (h128), (SeP.bad i12_20 ((TkX.wd i12_18 (v := 4) (c := 5) (by decide) (by decide) (by decide)).mpr (v_e7bb9e21ac h56)) h129)⟩)
    exact lp12 _ 0 z1 z2 z3 z4 z5 z6 f7 z8 v_939070ca3f v_5ab96f7b5e h22 h23 h9 h10 h11 h12 h13 h14 h15 h20 h21 h18 h19 h16 h17 (v_3c1faf939c h23) h24 h25 (SeP.one h26) (Nat.lt_succ_self _)
  · refine J_nf (nh2 := nh) (ck2 := 0) (sk2 := 0) (st2 := [.int (zI 0)]) rfl rfl rfl rfl ?_
    refine J_app (L3 := [(54, .inr (5, [.ref 55, .int (zI ln), .int (zI z27), .int (zI z28), .int (zI z29), .int (zI z30), .int (zI z31), .int (zI z34), .ref 56, .int (zI z32)])), (56, .inl (0, 412, .inl (zA f33)))]) rfl ?_
    refine Z_if_ne (tgt := 10) dX5_test_5 (by decide) v_b17331891f (fun h134 => absurd h134 (fun q => q v_2ca2bbca1f)) (fun h134 => ?_)
    refine Z_iconst (n := 0) dX5_test_8 ?_
    exact J_iret dX5_test_9 rfl (jbn v_939070ca3f v_316afd7d0b) (Nat.le_of_ble_eq_true rfl) (Nat.le_of_ble_eq_true rfl) (Or.inr ⟨z27, z28, z29, z30, z31, z32, f33, z34, z35, rfl, rfl, h36, h37, h38, h39, h40, h41, h42, h43, h44, h45, h46, h47, h48, h49, h50, (h51), (SeR.b h52)⟩)
set_option maxHeartbeats 4000000 in
set_option maxRecDepth 100000 in
theorem d_bracketedSum3 {l : Launch} {G : jG} {nh : Nat} {fh : Nat → Option va_E} (ln : Int) (tk : Int) (st : Int) (bh : Int) (va : Int) (pa : Int) (fl : Int) (sz : Int) (tp : Int → Int) (cd : Int → Int) (ti : Int) (q0 : 0 ≤ ln) (q1 : ln ≤ 400) (q2 : 0 ≤ tk) (q3 : tk ≤ 355) (q4 : 0 ≤ st) (q5 : st ≤ bh) (q6 : bh ≤ ln) (q7 : 0 ≤ va) (q8 : va ≤ 1001) (q9 : 0 ≤ pa) (q10 : pa ≤ 50) (q11 : zr fl) (q12 : 0 ≤ sz) (q13 : sz ≤ 412) (q14 : TokL tk st bh) (q15 : Rg tp 400 0 255) (q16 : Rg cd 412 (-2147483648) 2147483647) (q17 : TkX tp ln ti tk st bh va) (q18 : 0 ≤ ti) (hk54 : fh 54 = some (.inr (5, [.ref 55, .int (zI ln), .int (zI tk), .int (zI st), .int (zI bh), .int (zI va), .int (zI pa), .int (zI fl), .ref 56, .int (zI sz)]))) (hk55 : fh 55 = some (.inl (0, 400, .inl (zA tp)))) (hk56 : fh 56 = some (.inl (0, 412, .inl (zA cd)))) : JM l G yX5_bracketedSum MX5_bracketedSum { frames := 25, cells := 0, slots := 0, locals := 559 } [.ref 54, .int (zI 3)] (nh, fh) (fun rr h9 => (∃ tk2 : Int, ∃ st2 : Int, ∃ bh2 : Int, ∃ va2 : Int, ∃ pa2 : Int, ∃ sz2 : Int, ∃ cd2 : Int → Int, ∃ ti2 : Int, rr = some (.int (zI 1)) ∧ h9 = (nh, hc fh [(54, .inr (5, [.ref 55, .int (zI ln), .int (zI tk2), .int (zI st2), .int (zI bh2), .int (zI va2), .int (zI pa2), .int (zI fl), .ref 56, .int (zI sz2)])), (56, .inl (0, 412, .inl (zA cd2)))]) ∧ (0 ≤ tk2) ∧ (tk2 ≤ 355) ∧ (0 ≤ st2) ∧ (st2 ≤ bh2) ∧ (bh2 ≤ ln) ∧ (0 ≤ va2) ∧ (va2 ≤ 1001) ∧ (0 ≤ pa2) ∧ (pa2 ≤ 50) ∧ (0 ≤ sz2) ∧ (sz2 ≤ 412) ∧ (TokL tk2 st2 bh2) ∧ (Rg cd2 412 (-2147483648) 2147483647) ∧ (sz2 + st ≤ sz + st2) ∧ (st ≤ st2) ∧ (TkX tp ln ti2 tk2 st2 bh2 va2) ∧ (0 ≤ ti2) ∧ (BsR (CTk tp ln) (LF tp ln) 5 ti pa 1 ti2 pa2)) ∨ (∃ tk2 : Int, ∃ st2 : Int, ∃ bh2 : Int, ∃ va2 : Int, ∃ pa2 : Int, ∃ sz2 : Int, ∃ cd2 : Int → Int, ∃ fl2 : Int, ∃ ti2 : Int, rr = some (.int (zI 0)) ∧ h9 = (nh, hc fh [(54, .inr (5, [.ref 55, .int (zI ln), .int (zI tk2), .int (zI st2), .int (zI bh2), .int (zI va2), .int (zI pa2), .int (zI fl2), .ref 56, .int (zI sz2)])), (56, .inl (0, 412, .inl (zA cd2)))]) ∧ (0 ≤ tk2) ∧ (tk2 ≤ 355) ∧ (0 ≤ st2) ∧ (st2 ≤ bh2) ∧ (bh2 ≤ ln) ∧ (0 ≤ va2) ∧ (va2 ≤ 1001) ∧ (0 ≤ pa2) ∧ (pa2 ≤ 50) ∧ (0 ≤ sz2) ∧ (sz2 ≤ 412) ∧ (TokL tk2 st2 bh2) ∧ (Rg cd2 412 (-2147483648) 2147483647) ∧ (0 ≤ fl2) ∧ (fl2 ≤ 400) ∧ (FlX tp ln ti2 fl2) ∧ (BsR (CTk tp ln) (LF tp ln) 5 ti pa 0 ti2 0))) := by
  refine JM.of (by decide) rfl (fun h => by cases h) (Nat.le_of_ble_eq_true rfl) ⟨0, rfl⟩ ?_
  refine J_hc0 (J_ls (ls2 := [some (.ref 54), some (.int (zI 3))]) rfl ?_)
  refine J_iload_n dX5_bracketedSum_0 rfl rfl ?_
  refine Z_bipush (n := 8) dX5_bracketedSum_1 (by decide +kernel) ?_
  refine Z_icmp_lt (tgt := 11) dX5_bracketedSum_3 (by decide) v_1cc5223c3a v_665891e294 (fun h1 => ?_) (fun h1 => absurd h1 (fun q => q v_58b9537003))
  refine J_aload_n dX5_bracketedSum_11 rfl rfl ?_
  refine J_callV (st := []) dX5_bracketedSum_12 cv_X5_43 (d_advance (ti + 1) ln tk st bh va pa fl sz tp q0 q1 (v_21976c7318 q4 q5) q6 q7 q8 q15 (TkX.ps q17 (v_2b02420001 q18)) hk54 hk55) hk54 rfl rfl (Nat.le_of_ble_eq_true rfl) ⟨(Nat.le_of_ble_eq_true rfl), (Nat.le_of_ble_eq_true rfl)⟩ ⟨(Nat.le_of_ble_eq_true rfl), (Nat.le_of_ble_eq_true rfl)⟩ (fun r h9 hp => ?_)
  obtain ⟨z2, z3, z4, z5, rfl, rfl, h6, h7, h8, h9, h10, h11, h12, h13, h14⟩ := hp
  refine J_nf (nh2 := nh) (ck2 := 0) (sk2 := 0) (st2 := []) rfl rfl rfl rfl ?_
  refine J_app (L3 := [(54, .inr (5, [.ref 55, .int (zI ln), .int (zI z2), .int (zI z3), .int (zI z4), .int (zI z5), .int (zI pa), .int (zI fl), .ref 56, .int (zI sz)]))]) rfl ?_
  refine J_aload_n dX5_bracketedSum_15 rfl rfl ?_
  refine J_iload_n dX5_bracketedSum_16 rfl rfl ?_
  refine Z_iconst (n := 1) dX5_bracketedSum_17 ?_
  refine Z_iadd (c := 4) dX5_bracketedSum_18 v_c793779b3d ?_
  refine J_callV (st := []) dX5_bracketedSum_19 cv_X5_63 (d_sum4 ln z2 z3 z4 z5 pa fl sz tp cd (ti + 1) q0 q1 h6 h7 (v_7eaccd6eb1 q4 q5 h8) h9 h10 h11 h12 q9 q10 q11 q12 q13 h13 q15 q16 h14 (v_da458fa48a q18) rfl hk55 hk56) rfl rfl rfl (Nat.le_of_ble_eq_true rfl) ⟨(Nat.le_of_ble_eq_true rfl), (Nat.le_of_ble_eq_true rfl)⟩ ⟨(Nat.le_of_ble_eq_true rfl), (Nat.le_of_ble_eq_true rfl)⟩ (fun r h9 hp => ?_)
  rcases hp with ⟨z15, z16, z17, z18, z19, z20, f21, z22, rfl, rfl, h23, h24, h25, h26, h27, h28, h29, h30, h31, h32, h33, h34, h35, h36, h37, h38, h39, h40⟩ | ⟨z41, z42, z43, z44, z45, z46, f47, z48, z49, rfl, rfl, h50, h51, h52, h53, h54, h55, h56, h57, h58, h59, h60, h61, h62, h63, h64, h65, h66⟩
  · refine J_nf (nh2 := nh) (ck2 := 0) (sk2 := 0) (st2 := [.int (zI 1)]) rfl rfl rfl rfl ?_
    refine J_app (L3 := [(54, .inr (5, [.ref 55, .int (zI ln), .int (zI z15), .int (zI z16), .int (zI z17), .int (zI z18), .int (zI z19), .int (zI fl), .ref 56, .int (zI z20)])), (56, .inl (0, 412, .inl (zA f21))), (54, .inr (5, [.ref 55, .int (zI ln), .int (zI z2), .int (zI z3), .int (zI z4), .int (zI z5), .int (zI pa), .int (zI fl), .ref 56, .int (zI sz)]))]) rfl ?_
    refine J_mask (L2 := [(54, .inr (5, [.ref 55, .int (zI ln), .int (zI z15), .int (zI z16), .int (zI z17), .int (zI z18), .int (zI z19), .int (zI fl), .ref 56, .int (zI z20)])), (56, .inl (0, 412, .inl (zA f21)))]) (ks := [54, 56, 54]) [true, true, false] rfl (by decide +kernel) rfl ?_
    refine Z_if_ne (tgt := 27) dX5_bracketedSum_22 (by decide) v_4dcc24baa7 (fun h67 => ?_) (fun h67 => absurd h67 v_3a47bfd896)
    refine J_aload_n dX5_bracketedSum_27 rfl rfl ?_
    refine Z_bipush (n := 93) dX5_bracketedSum_28 (by decide +kernel) ?_
    refine J_callV (st := []) dX5_bracketedSum_30 cv_X5_50 (d_isSign 93 ln z15 z16 z17 z18 z19 fl z20 v_57eea63119 v_eeebb5ff41 h23 h24 rfl) rfl rfl rfl (Nat.le_of_ble_eq_true rfl) ⟨(Nat.le_of_ble_eq_true rfl), (Nat.le_of_ble_eq_true rfl)⟩ ⟨(Nat.le_of_ble_eq_true rfl), (Nat.le_of_ble_eq_true rfl)⟩ (fun r h9 hp => ?_)
    rcases hp with ⟨rfl, rfl, h68⟩ | ⟨rfl, rfl, h69⟩
    · refine J_nf (nh2 := nh) (ck2 := 0) (sk2 := 0) (st2 := [.int (zI 1)]) rfl rfl rfl rfl ?_
      refine Z_if_ne (tgt := 41) dX5_bracketedSum_33 (by decide) v_4dcc24baa7 (fun h70 => ?_) (fun h70 => absurd h70 v_3a47bfd896)
      refine J_aload_n dX5_bracketedSum_41 rfl rfl ?_
      have g71 := TokL.lt h34 (v_0603afac7b h68)
      refine J_callV (st := []) dX5_bracketedSum_42 cv_X5_43 (d_advance (z22 + 1) ln z15 z16 z17 z18 z19 fl z20 tp q0 q1 (v_d253cb2c59 h25 g71) h27 h28 h29 q15 (TkX.ps h38 (v_2b02420001 h39)) rfl hk55) rfl rfl rfl (Nat.le_of_ble_eq_true rfl) ⟨(Nat.le_of_ble_eq_true rfl), (Nat.le_of_ble_eq_true rfl)⟩ ⟨(Nat.le_of_ble_eq_true rfl), (Nat.le_of_ble_eq_true rfl)⟩ (fun r h9 hp => ?_)
      obtain ⟨z72, z73, z74, z75, rfl, rfl, h76, h77, h78, h79, h80, h81, h82, h83, h84⟩ := hp
      refine J_nf (nh2 := nh) (ck2 := 0) (sk2 := 0) (st2 := []) rfl rfl rfl rfl ?_
      refine J_app (L3 := [(54, .inr (5, [.ref 55, .int (zI ln), .int (zI z72), .int (zI z73), .int (zI z74), .int (zI z75), .int (zI z19), .int (zI fl), .ref 56, .int (zI z20)])), (54, .inr (5, [.ref 55, .int (zI ln), .int (zI z15), .int (zI z16), .int (zI z17), .int (zI z18), .int (zI z19), .int (zI fl), .ref 56, .int (zI z20)])), (56, .inl (0, 412, .inl (zA f21)))]) rfl ?_
      refine J_mask (L2 := [(54, .inr (5, [.ref 55, .int (zI ln), .int (zI z72), .int (zI z73), .int (zI z74), .int (zI z75), .int (zI z19), .int (zI fl), .ref 56, .int (zI z20)])), (56, .inl (0, 412, .inl (zA f21)))]) (ks := [54, 54, 56]) [true, false, true] rfl (by decide +kernel) rfl ?_
      refine Z_iconst (n := 1) dX5_bracketedSum_45 ?_
      exact J_iret dX5_bracketedSum_46 rfl (jbn v_316afd7d0b v_bbcfac9b7d) (Nat.le_of_ble_eq_true rfl) (Nat.le_of_ble_eq_true rfl) (Or.inl ⟨z72, z73, z74, z75, z19, z20, f21, (z22 + 1), rfl, rfl, h76, h77, (v_9b2e2070a2 h25 g71 h78), h79, h80, h81, h82, h30, h31, h32, h33, h83, h35, (v_a156850946 q5 h8 h36 g71 h78), (v_b3d66fcd45 q5 h8 h37 g71 h78), h84, (v_da458fa48a h39), (BrR.y h40 ((TkX.sg h38 (v := 193) (by decide)).mpr (v_878a2e7c0a h68)))⟩)
    · refine J_nf (nh2 := nh) (ck2 := 0) (sk2 := 0) (st2 := [.int (zI 0)]) rfl rfl rfl rfl ?_
      refine Z_if_ne (tgt := 41) dX5_bracketedSum_33 (by decide) v_b17331891f (fun h85 => absurd h85 (fun q => q v_2ca2bbca1f)) (fun h85 => ?_)
      refine J_aload_n dX5_bracketedSum_36 rfl rfl ?_
      refine J_callV (st := []) dX5_bracketedSum_37 cv_X5_54 (d_wrong ln z15 z16 z17 z18 z19 fl z20 h25 (v_1adcfdfee5 q1 h26 h27) rfl) rfl rfl rfl (Nat.le_of_ble_eq_true rfl) ⟨(Nat.le_of_ble_eq_true rfl), (Nat.le_of_ble_eq_true rfl)⟩ ⟨(Nat.le_of_ble_eq_true rfl), (Nat.le_of_ble_eq_true rfl)⟩ (fun r h9 hp => ?_)
      obtain ⟨rfl, rfl⟩ := hp
      refine J_nf (nh2 := nh) (ck2 := 0) (sk2 := 0) (st2 := [.int (zI 0)]) rfl rfl rfl rfl ?_
      refine J_app (L3 := [(54, .inr (5, [.ref 55, .int (zI ln), .int (zI z15), .int (zI z16), .int (zI z17), .int (zI z18), .int (zI z19), .int (zI z16), .ref 56, .int (zI z20)])), (54, .inr (5, [.ref 55, .int (zI ln), .int (zI z15), .int (zI z16), .int (zI z17), .int (zI z18), .int (zI z19), .int (zI fl), .ref 56, .int (zI z20)])), (56, .inl (0, 412, .inl (zA f21)))]) rfl ?_
      refine J_mask (L2 := [(54, .inr (5, [.ref 55, .int (zI ln), .int (zI z15), .int (zI z16), .int (zI z17), .int (zI z18), .int (zI z19), .int (zI z16), .ref 56, .int (zI z20)])), (56, .inl (0, 412, .inl (zA f21)))]) (ks := [54, 54, 56]) [true, false, true] rfl (by decide +kernel) rfl ?_
      exact J_iret dX5_bracketedSum_40 rfl (jbn v_939070ca3f v_316afd7d0b) (Nat.le_of_ble_eq_true rfl) (Nat.le_of_ble_eq_true rfl) (Or.inr ⟨z15, z16, z17, z18, z19, z20, f21, z16, z22, rfl, rfl, h23, h24, h25, h26, h27, h28, h29, h30, h31, h32, h33, h34, h35, h25, (v_1adcfdfee5 q1 h26 h27), ((TkX.s h38)), (BrR.w h40 (fun w => absurd ((TkX.sg h38 (v := 193) (by decide)).mp w) (v_ce1099fe70 h69)))⟩)
  · refine J_nf (nh2 := nh) (ck2 := 0) (sk2 := 0) (st2 := [.int (zI 0)]) rfl rfl rfl rfl ?_
    refine J_app (L3 := [(54, .inr (5, [.ref 55, .int (zI ln), .int (zI z41), .int (zI z42), .int (zI z43), .int (zI z44), .int (zI z45), .int (zI z48), .ref 56, .int (zI z46)])), (56, .inl (0, 412, .inl (zA f47))), (54, .inr (5, [.ref 55, .int (zI ln), .int (zI z2), .int (zI z3), .int (zI z4), .int (zI z5), .int (zI pa), .int (zI fl), .ref 56, .int (zI sz)]))]) rfl ?_
    refine J_mask (L2 := [(54, .inr (5, [.ref 55, .int (zI ln), .int (zI z41), .int (zI z42), .int (zI z43), .int (zI z44), .int (zI z45), .int (zI z48), .ref 56, .int (zI z46)])), (56, .inl (0, 412, .inl (zA f47)))]) (ks := [54, 56, 54]) [true, true, false] rfl (by decide +kernel) rfl ?_
    refine Z_if_ne (tgt := 27) dX5_bracketedSum_22 (by decide) v_b17331891f (fun h86 => absurd h86 (fun q => q v_2ca2bbca1f)) (fun h86 => ?_)
    refine Z_iconst (n := 0) dX5_bracketedSum_25 ?_
    exact J_iret dX5_bracketedSum_26 rfl (jbn v_939070ca3f v_316afd7d0b) (Nat.le_of_ble_eq_true rfl) (Nat.le_of_ble_eq_true rfl) (Or.inr ⟨z41, z42, z43, z44, z45, z46, f47, z48, z49, rfl, rfl, h50, h51, h52, h53, h54, h55, h56, h57, h58, h59, h60, h61, h62, h63, h64, (h65), (BrR.b h66)⟩)
set_option maxHeartbeats 4000000 in
set_option maxRecDepth 100000 in
theorem d_part3 {l : Launch} {G : jG} {nh : Nat} {fh : Nat → Option va_E} (ln : Int) (tk : Int) (st : Int) (bh : Int) (va : Int) (pa : Int) (fl : Int) (sz : Int) (tp : Int → Int) (cd : Int → Int) (ti : Int) (q0 : 0 ≤ ln) (q1 : ln ≤ 400) (q2 : 0 ≤ tk) (q3 : tk ≤ 355) (q4 : 0 ≤ st) (q5 : st ≤ bh) (q6 : bh ≤ ln) (q7 : 0 ≤ va) (q8 : va ≤ 1001) (q9 : 0 ≤ pa) (q10 : pa ≤ 50) (q11 : zr fl) (q12 : 0 ≤ sz) (q13 : sz ≤ 412) (q14 : TokL tk st bh) (q15 : Rg tp 400 0 255) (q16 : Rg cd 412 (-2147483648) 2147483647) (q17 : TkX tp ln ti tk st bh va) (q18 : 0 ≤ ti) (hk54 : fh 54 = some (.inr (5, [.ref 55, .int (zI ln), .int (zI tk), .int (zI st), .int (zI bh), .int (zI va), .int (zI pa), .int (zI fl), .ref 56, .int (zI sz)]))) (hk55 : fh 55 = some (.inl (0, 400, .inl (zA tp)))) (hk56 : fh 56 = some (.inl (0, 412, .inl (zA cd)))) : JM l G yX5_part MX5_part { frames := 26, cells := 0, slots := 0, locals := 580 } [.ref 54, .int (zI 3)] (nh, fh) (fun rr h9 => (∃ tk2 : Int, ∃ st2 : Int, ∃ bh2 : Int, ∃ va2 : Int, ∃ pa2 : Int, ∃ sz2 : Int, ∃ cd2 : Int → Int, ∃ ti2 : Int, rr = some (.int (zI 1)) ∧ h9 = (nh, hc fh [(54, .inr (5, [.ref 55, .int (zI ln), .int (zI tk2), .int (zI st2), .int (zI bh2), .int (zI va2), .int (zI pa2), .int (zI fl), .ref 56, .int (zI sz2)])), (56, .inl (0, 412, .inl (zA cd2)))]) ∧ (0 ≤ tk2) ∧ (tk2 ≤ 355) ∧ (0 ≤ st2) ∧ (st2 ≤ bh2) ∧ (bh2 ≤ ln) ∧ (0 ≤ va2) ∧ (va2 ≤ 1001) ∧ (0 ≤ pa2) ∧ (pa2 ≤ 50) ∧ (0 ≤ sz2) ∧ (sz2 ≤ 412) ∧ (TokL tk2 st2 bh2) ∧ (Rg cd2 412 (-2147483648) 2147483647) ∧ (sz2 + st ≤ sz + st2) ∧ (st ≤ st2) ∧ (TkX tp ln ti2 tk2 st2 bh2 va2) ∧ (0 ≤ ti2) ∧ (PtR (CTk tp ln) (LF tp ln) 5 ti pa 1 ti2 pa2)) ∨ (∃ tk2 : Int, ∃ st2 : Int, ∃ bh2 : Int, ∃ va2 : Int, ∃ pa2 : Int, ∃ sz2 : Int, ∃ cd2 : Int → Int, ∃ fl2 : Int, ∃ ti2 : Int, rr = some (.int (zI 0)) ∧ h9 = (nh, hc fh [(54, .inr (5, [.ref 55, .int (zI ln), .int (zI tk2), .int (zI st2), .int (zI bh2), .int (zI va2), .int (zI pa2), .int (zI fl2), .ref 56, .int (zI sz2)])), (56, .inl (0, 412, .inl (zA cd2)))]) ∧ (0 ≤ tk2) ∧ (tk2 ≤ 355) ∧ (0 ≤ st2) ∧ (st2 ≤ bh2) ∧ (bh2 ≤ ln) ∧ (0 ≤ va2) ∧ (va2 ≤ 1001) ∧ (0 ≤ pa2) ∧ (pa2 ≤ 50) ∧ (0 ≤ sz2) ∧ (sz2 ≤ 412) ∧ (TokL tk2 st2 bh2) ∧ (Rg cd2 412 (-2147483648) 2147483647) ∧ (0 ≤ fl2) ∧ (fl2 ≤ 400) ∧ (FlX tp ln ti2 fl2) ∧ (PtR (CTk tp ln) (LF tp ln) 5 ti pa 0 ti2 0))) := by
  refine JM.of (by decide) rfl (fun h => by cases h) (Nat.le_of_ble_eq_true rfl) ⟨2, rfl⟩ ?_
  refine J_hc0 (J_ls (ls2 := [some (.ref 54), some (.int (zI 3)), none, none]) rfl ?_)
  refine J_aload_n dX5_part_0 rfl rfl ?_
  refine Z_bipush (n := 91) dX5_part_1 (by decide +kernel) ?_
  refine J_callV (st := []) dX5_part_3 cv_X5_50 (d_isSign 91 ln tk st bh va pa fl sz v_df2cb83190 v_d563f19a9d q2 q3 hk54) hk54 rfl rfl (Nat.le_of_ble_eq_true rfl) ⟨(Nat.le_of_ble_eq_true rfl), (Nat.le_of_ble_eq_true rfl)⟩ ⟨(Nat.le_of_ble_eq_true rfl), (Nat.le_of_ble_eq_true rfl)⟩ (fun r h9 hp => ?_)
  rcases hp with ⟨rfl, rfl, h1⟩ | ⟨rfl, rfl, h2⟩
  · refine J_nf (nh2 := nh) (ck2 := 0) (sk2 := 0) (st2 := [.int (zI 1)]) rfl rfl rfl rfl ?_
    refine Z_if_eq (tgt := 15) dX5_part_6 (by decide) v_4dcc24baa7 (fun h3 => absurd h3 v_3a47bfd896) (fun h3 => ?_)
    refine J_aload_n dX5_part_9 rfl rfl ?_
    refine J_iload_n dX5_part_10 rfl rfl ?_
    refine J_callV (st := []) dX5_part_11 cv_X5_95 (d_bracketedSum3 ln tk st bh va pa fl sz tp cd ti q0 q1 q2 q3 q4 q5 q6 q7 q8 q9 q10 q11 q12 q13 q14 q15 q16 q17 q18 hk54 hk55 hk56) hk54 rfl rfl (Nat.le_of_ble_eq_true rfl) ⟨(Nat.le_of_ble_eq_true rfl), (Nat.le_of_ble_eq_true rfl)⟩ ⟨(Nat.le_of_ble_eq_true rfl), (Nat.le_of_ble_eq_true rfl)⟩ (fun r h9 hp => ?_)
    rcases hp with ⟨z4, z5, z6, z7, z8, z9, f10, z11, rfl, rfl, h12, h13, h14, h15, h16, h17, h18, h19, h20, h21, h22, h23, h24, h25, h26, h27, h28, h29⟩ | ⟨z30, z31, z32, z33, z34, z35, f36, z37, z38, rfl, rfl, h39, h40, h41, h42, h43, h44, h45, h46, h47, h48, h49, h50, h51, h52, h53, h54, h55⟩
    · refine J_nf (nh2 := nh) (ck2 := 0) (sk2 := 0) (st2 := [.int (zI 1)]) rfl rfl rfl rfl ?_
      refine J_app (L3 := [(54, .inr (5, [.ref 55, .int (zI ln), .int (zI z4), .int (zI z5), .int (zI z6), .int (zI z7), .int (zI z8), .int (zI fl), .ref 56, .int (zI z9)])), (56, .inl (0, 412, .inl (zA f10)))]) rfl ?_
      exact J_iret dX5_part_14 rfl (jbn v_316afd7d0b v_bbcfac9b7d) (Nat.le_of_ble_eq_true rfl) (Nat.le_of_ble_eq_true rfl) (Or.inl ⟨z4, z5, z6, z7, z8, z9, f10, z11, rfl, rfl, h12, h13, h14, h15, h16, h17, h18, h19, h20, h21, h22, h23, h24, h25, h26, h27, h28, (PaR.br ((TkX.sg q17 (v := 191) (by decide)).mpr (v_eae1bbf095 h1)) h29)⟩)
    · refine J_nf (nh2 := nh) (ck2 := 0) (sk2 := 0) (st2 := [.int (zI 0)]) rfl rfl rfl rfl ?_
      refine J_app (L3 := [(54, .inr (5, [.ref 55, .int (zI ln), .int (zI z30), .int (zI z31), .int (zI z32), .int (zI z33), .int (zI z34), .int (zI z37), .ref 56, .int (zI z35)])), (56, .inl (0, 412, .inl (zA f36)))]) rfl ?_
      exact J_iret dX5_part_14 rfl (jbn v_939070ca3f v_316afd7d0b) (Nat.le_of_ble_eq_true rfl) (Nat.le_of_ble_eq_true rfl) (Or.inr ⟨z30, z31, z32, z33, z34, z35, f36, z37, z38, rfl, rfl, h39, h40, h41, h42, h43, h44, h45, h46, h47, h48, h49, h50, h51, h52, h53, (h54), (PaR.br ((TkX.sg q17 (v := 191) (by decide)).mpr (v_eae1bbf095 h1)) h55)⟩)
  · refine J_nf (nh2 := nh) (ck2 := 0) (sk2 := 0) (st2 := [.int (zI 0)]) rfl rfl rfl rfl ?_
    refine Z_if_eq (tgt := 15) dX5_part_6 (by decide) v_b17331891f (fun h56 => ?_) (fun h56 => absurd h56 (fun q => q v_2ca2bbca1f))
    refine J_aload_n dX5_part_15 rfl rfl ?_
    refine J_get (v := .int (zI tk)) dX5_part_16 fl_X5_19 hk54 rfl ?_
    refine Z_bipush (n := 16) dX5_part_19 (by decide +kernel) ?_
    refine Z_icmp_ne (tgt := 38) dX5_part_21 (by decide) (v_96bf6f782e q2 q3) v_1b6115d470 (fun h57 => ?_) (fun h57 => ?_)
    · refine Z_iconst (n := 0) dX5_part_38 ?_
      refine J_istore_n dX5_part_39 rfl (Nat.le_of_ble_eq_true rfl) rfl ?_
      refine J_ls (ls2 := [some (.ref 54), some (.int (zI 3)), some (.int (zI 0)), none]) rfl ?_
      refine J_aload_n dX5_part_40 rfl rfl ?_
      refine J_get (v := .int (zI tk)) dX5_part_41 fl_X5_19 hk54 rfl ?_
      refine Z_bipush (n := 7) dX5_part_44 (by decide +kernel) ?_
      refine Z_icmp_lt (tgt := 62) dX5_part_46 (by decide) (v_96bf6f782e q2 q3) v_c3fe1a091f (fun h58 => ?_) (fun h58 => ?_)
      · refine Z_iconst (n := 0) dX5_part_62 ?_
        refine J_istore_n dX5_part_63 rfl (Nat.le_of_ble_eq_true rfl) rfl ?_
        refine J_ls (ls2 := [some (.ref 54), some (.int (zI 3)), some (.int (zI 0)), some (.int (zI 0))]) rfl ?_
        refine J_iload_n dX5_part_64 rfl rfl ?_
        refine Z_if_ne (tgt := 72) dX5_part_65 (by decide) v_b17331891f (fun h59 => absurd h59 (fun q => q v_2ca2bbca1f)) (fun h59 => ?_)
        refine J_iload_n dX5_part_68 rfl rfl ?_
        refine Z_if_eq (tgt := 81) dX5_part_69 (by decide) v_b17331891f (fun h60 => ?_) (fun h60 => absurd h60 (fun q => q v_2ca2bbca1f))
        refine J_aload_n dX5_part_81 rfl rfl ?_
        refine J_callV (st := []) dX5_part_82 cv_X5_54 (d_wrong ln tk st bh va pa fl sz q4 (v_1adcfdfee5 q1 q5 q6) hk54) hk54 rfl rfl (Nat.le_of_ble_eq_true rfl) ⟨(Nat.le_of_ble_eq_true rfl), (Nat.le_of_ble_eq_true rfl)⟩ ⟨(Nat.le_of_ble_eq_true rfl), (Nat.le_of_ble_eq_true rfl)⟩ (fun r h9 hp => ?_)
        obtain ⟨rfl, rfl⟩ := hp
        refine J_nf (nh2 := nh) (ck2 := 0) (sk2 := 0) (st2 := [.int (zI 0)]) rfl rfl rfl rfl ?_
        refine J_app (L3 := [(54, .inr (5, [.ref 55, .int (zI ln), .int (zI tk), .int (zI st), .int (zI bh), .int (zI va), .int (zI pa), .int (zI st), .ref 56, .int (zI sz)]))]) rfl ?_
        refine J_touch (k := 56) (e := .inl (0, 412, .inl (zA cd))) hk56 ?_
        refine J_touch (k := 54) (e := .inr (5, [.ref 55, .int (zI ln), .int (zI tk), .int (zI st), .int (zI bh), .int (zI va), .int (zI pa), .int (zI st), .ref 56, .int (zI sz)])) rfl ?_
        refine J_mask (L2 := [(54, .inr (5, [.ref 55, .int (zI ln), .int (zI tk), .int (zI st), .int (zI bh), .int (zI va), .int (zI pa), .int (zI st), .ref 56, .int (zI sz)])), (56, .inl (0, 412, .inl (zA cd)))]) (ks := [54, 56, 54]) [true, true, false] rfl (by decide +kernel) rfl ?_
        exact J_iret dX5_part_85 rfl (jbn v_939070ca3f v_316afd7d0b) (Nat.le_of_ble_eq_true rfl) (Nat.le_of_ble_eq_true rfl) (Or.inr ⟨tk, st, bh, va, pa, sz, cd, st, ti, rfl, rfl, q2, q3, q4, q5, q6, q7, q8, q9, q10, q12, q13, q14, q16, q4, (v_1adcfdfee5 q1 q5 q6), ((TkX.s q17)), (PaR.w (fun w => absurd ((TkX.sg q17 (v := 191) (by decide)).mp w) (v_2e180fcab9 h58)) (fun w => by have u := (TkX.lf q17).mp w.1; have u0 := h2; have u1 := h57; have u2 := h58; omega))⟩)
      · refine J_aload_n dX5_part_49 rfl rfl ?_
        refine J_get (v := .int (zI tk)) dX5_part_50 fl_X5_19 hk54 rfl ?_
        refine Z_bipush (n := 14) dX5_part_53 (by decide +kernel) ?_
        refine Z_icmp_gt (tgt := 62) dX5_part_55 (by decide) (v_e33259c014 q3 h58) v_2a4719925a (fun h61 => ?_) (fun h61 => ?_)
        · refine Z_iconst (n := 0) dX5_part_62 ?_
          refine J_istore_n dX5_part_63 rfl (Nat.le_of_ble_eq_true rfl) rfl ?_
          refine J_ls (ls2 := [some (.ref 54), some (.int (zI 3)), some (.int (zI 0)), some (.int (zI 0))]) rfl ?_
          refine J_iload_n dX5_part_64 rfl rfl ?_
          refine Z_if_ne (tgt := 72) dX5_part_65 (by decide) v_b17331891f (fun h62 => absurd h62 (fun q => q v_2ca2bbca1f)) (fun h62 => ?_)
          refine J_iload_n dX5_part_68 rfl rfl ?_
          refine Z_if_eq (tgt := 81) dX5_part_69 (by decide) v_b17331891f (fun h63 => ?_) (fun h63 => absurd h63 (fun q => q v_2ca2bbca1f))
          refine J_aload_n dX5_part_81 rfl rfl ?_
          refine J_callV (st := []) dX5_part_82 cv_X5_54 (d_wrong ln tk st bh va pa fl sz q4 (v_1adcfdfee5 q1 q5 q6) hk54) hk54 rfl rfl (Nat.le_of_ble_eq_true rfl) ⟨(Nat.le_of_ble_eq_true rfl), (Nat.le_of_ble_eq_true rfl)⟩ ⟨(Nat.le_of_ble_eq_true rfl), (Nat.le_of_ble_eq_true rfl)⟩ (fun r h9 hp => ?_)
          obtain ⟨rfl, rfl⟩ := hp
          refine J_nf (nh2 := nh) (ck2 := 0) (sk2 := 0) (st2 := [.int (zI 0)]) rfl rfl rfl rfl ?_
          refine J_app (L3 := [(54, .inr (5, [.ref 55, .int (zI ln), .int (zI tk), .int (zI st), .int (zI bh), .int (zI va), .int (zI pa), .int (zI st), .ref 56, .int (zI sz)]))]) rfl ?_
          refine J_touch (k := 56) (e := .inl (0, 412, .inl (zA cd))) hk56 ?_
          refine J_touch (k := 54) (e := .inr (5, [.ref 55, .int (zI ln), .int (zI tk), .int (zI st), .int (zI bh), .int (zI va), .int (zI pa), .int (zI st), .ref 56, .int (zI sz)])) rfl ?_
          refine J_mask (L2 := [(54, .inr (5, [.ref 55, .int (zI ln), .int (zI tk), .int (zI st), .int (zI bh), .int (zI va), .int (zI pa), .int (zI st), .ref 56, .int (zI sz)])), (56, .inl (0, 412, .inl (zA cd)))]) (ks := [54, 56, 54]) [true, true, false] rfl (by decide +kernel) rfl ?_
          exact J_iret dX5_part_85 rfl (jbn v_939070ca3f v_316afd7d0b) (Nat.le_of_ble_eq_true rfl) (Nat.le_of_ble_eq_true rfl) (Or.inr ⟨tk, st, bh, va, pa, sz, cd, st, ti, rfl, rfl, q2, q3, q4, q5, q6, q7, q8, q9, q10, q12, q13, q14, q16, q4, (v_1adcfdfee5 q1 q5 q6), ((TkX.s q17)), (PaR.w (fun w => absurd ((TkX.sg q17 (v := 191) (by decide)).mp w) (v_9327ef7f5d h2)) (fun w => by have u := (TkX.lf q17).mp w.1; have u0 := h2; have u1 := h57; have u2 := h58; have u3 := h61; omega))⟩)
        · refine Z_iconst (n := 1) dX5_part_58 ?_
          refine J_goto (tgt := 63) dX5_part_59 (by decide) ?_
          refine J_istore_n dX5_part_63 rfl (Nat.le_of_ble_eq_true rfl) rfl ?_
          refine J_ls (ls2 := [some (.ref 54), some (.int (zI 3)), some (.int (zI 0)), some (.int (zI 1))]) rfl ?_
          refine J_iload_n dX5_part_64 rfl rfl ?_
          refine Z_if_ne (tgt := 72) dX5_part_65 (by decide) v_b17331891f (fun h64 => absurd h64 (fun q => q v_2ca2bbca1f)) (fun h64 => ?_)
          refine J_iload_n dX5_part_68 rfl rfl ?_
          refine Z_if_eq (tgt := 81) dX5_part_69 (by decide) v_4dcc24baa7 (fun h65 => absurd h65 v_3a47bfd896) (fun h65 => ?_)
          refine J_aload_n dX5_part_72 rfl rfl ?_
          refine J_get (v := .int (zI pa)) dX5_part_73 fl_X5_31 hk54 rfl ?_
          refine Z_bipush (n := 50) dX5_part_76 (by decide +kernel) ?_
          refine Z_icmp_lt (tgt := 86) dX5_part_78 (by decide) (v_196348439e q9 q10) v_e1e0ea2c24 (fun h66 => ?_) (fun h66 => ?_)
          · refine J_aload_n dX5_part_86 rfl rfl ?_
            refine J_dup dX5_part_87 rfl ?_
            refine J_get (v := .int (zI pa)) dX5_part_88 fl_X5_31 hk54 rfl ?_
            refine Z_iconst (n := 1) dX5_part_91 ?_
            refine Z_iadd (c := pa + 1) dX5_part_92 rfl ?_
            refine K_put (fs2 := [.ref 55, .int (zI ln), .int (zI tk), .int (zI st), .int (zI bh), .int (zI va), .int (zI (pa + 1)), .int (zI fl), .ref 56, .int (zI sz)]) dX5_part_93 fw_X5_31 hk54 (Nat.le_of_ble_eq_true rfl) (fun _ => ⟨rfl, rfl⟩) rfl ?_
            refine J_iload_n dX5_part_96 rfl rfl ?_
            refine Z_if_eq (tgt := 113) dX5_part_97 (by decide) v_b17331891f (fun h67 => ?_) (fun h67 => absurd h67 (fun q => q v_2ca2bbca1f))
            refine J_aload_n dX5_part_113 rfl rfl ?_
            refine Z_iconst (n := 1) dX5_part_114 ?_
            refine J_aload_n dX5_part_115 rfl rfl ?_
            refine J_get (v := .int (zI tk)) dX5_part_116 fl_X5_19 rfl rfl ?_
            refine Z_bipush (n := 7) dX5_part_119 (by decide +kernel) ?_
            refine Z_isub (c := tk - 7) dX5_part_121 rfl ?_
            refine J_callV (st := []) dX5_part_122 cv_X5_72 (d_emit 1 (tk - 7) ln tk st bh va (pa + 1) fl sz cd v_4dcc24baa7 (v_2b807321aa h58 h61) q12 q13 q16 rfl hk56) rfl rfl rfl (Nat.le_of_ble_eq_true rfl) ⟨(Nat.le_of_ble_eq_true rfl), (Nat.le_of_ble_eq_true rfl)⟩ ⟨(Nat.le_of_ble_eq_true rfl), (Nat.le_of_ble_eq_true rfl)⟩ (fun r h9 hp => ?_)
            obtain ⟨z68, f69, rfl, rfl, h70, h71, h72, h73, h74⟩ := hp
            refine J_nf (nh2 := nh) (ck2 := 0) (sk2 := 0) (st2 := [.int (zI sz)]) rfl rfl rfl rfl ?_
            refine J_app (L3 := [(54, .inr (5, [.ref 55, .int (zI ln), .int (zI tk), .int (zI st), .int (zI bh), .int (zI va), .int (zI (pa + 1)), .int (zI fl), .ref 56, .int (zI z68)])), (56, .inl (0, 412, .inl (zA f69))), (54, .inr (5, [.ref 55, .int (zI ln), .int (zI tk), .int (zI st), .int (zI bh), .int (zI va), .int (zI (pa + 1)), .int (zI fl), .ref 56, .int (zI sz)]))]) rfl ?_
            refine J_mask (L2 := [(54, .inr (5, [.ref 55, .int (zI ln), .int (zI tk), .int (zI st), .int (zI bh), .int (zI va), .int (zI (pa + 1)), .int (zI fl), .ref 56, .int (zI z68)])), (56, .inl (0, 412, .inl (zA f69)))]) (ks := [54, 56, 54]) [true, true, false] rfl (by decide +kernel) rfl ?_
            refine J_pop dX5_part_125 rfl ?_
            refine J_aload_n dX5_part_126 rfl rfl ?_
            have g75 := TokL.lt q14 (v_b0bfd58e62 h61)
            refine J_callV (st := []) dX5_part_127 cv_X5_43 (d_advance (ti + 1) ln tk st bh va (pa + 1) fl z68 tp q0 q1 (v_d253cb2c59 q4 g75) q6 q7 q8 q15 (TkX.ps q17 (v_2b02420001 q18)) rfl hk55) rfl rfl rfl (Nat.le_of_ble_eq_true rfl) ⟨(Nat.le_of_ble_eq_true rfl), (Nat.le_of_ble_eq_true rfl)⟩ ⟨(Nat.le_of_ble_eq_true rfl), (Nat.le_of_ble_eq_true rfl)⟩ (fun r h9 hp => ?_)
            obtain ⟨z76, z77, z78, z79, rfl, rfl, h80, h81, h82, h83, h84, h85, h86, h87, h88⟩ := hp
            refine J_nf (nh2 := nh) (ck2 := 0) (sk2 := 0) (st2 := []) rfl rfl rfl rfl ?_
            refine J_app (L3 := [(54, .inr (5, [.ref 55, .int (zI ln), .int (zI z76), .int (zI z77), .int (zI z78), .int (zI z79), .int (zI (pa + 1)), .int (zI fl), .ref 56, .int (zI z68)])), (54, .inr (5, [.ref 55, .int (zI ln), .int (zI tk), .int (zI st), .int (zI bh), .int (zI va), .int (zI (pa + 1)), .int (zI fl), .ref 56, .int (zI z68)])), (56, .inl (0, 412, .inl (zA f69)))]) rfl ?_
            refine J_mask (L2 := [(54, .inr (5, [.ref 55, .int (zI ln), .int (zI z76), .int (zI z77), .int (zI z78), .int (zI z79), .int (zI (pa + 1)), .int (zI fl), .ref 56, .int (zI z68)])), (56, .inl (0, 412, .inl (zA f69)))]) (ks := [54, 54, 56]) [true, false, true] rfl (by decide +kernel) rfl ?_
            refine Z_iconst (n := 1) dX5_part_130 ?_
            exact J_iret dX5_part_131 rfl (jbn v_316afd7d0b v_bbcfac9b7d) (Nat.le_of_ble_eq_true rfl) (Nat.le_of_ble_eq_true rfl) (Or.inl ⟨z76, z77, z78, z79, (pa + 1), z68, f69, (ti + 1), rfl, rfl, h80, h81, (v_9b2e2070a2 q4 g75 h82), h83, h84, h85, h86, (v_da458fa48a q9), (v_dc0d6dc503 h66), h70, h71, h87, h74, (v_37ad0bc16a h73 g75 h82), (v_016485883e g75 h82), h88, (v_da458fa48a q18), (PaR.y (fun w => absurd ((TkX.sg q17 (v := 191) (by decide)).mp w) (v_9d80ef7c91 h61)) ((TkX.lf q17).mpr (Or.inr ⟨(v_14fb5ed6b5 h58), (v_fd1ff53b5c h61)⟩)) (v_ba201db0a2 h66))⟩)
          · refine J_aload_n dX5_part_81 rfl rfl ?_
            refine J_callV (st := []) dX5_part_82 cv_X5_54 (d_wrong ln tk st bh va pa fl sz q4 (v_1adcfdfee5 q1 q5 q6) hk54) hk54 rfl rfl (Nat.le_of_ble_eq_true rfl) ⟨(Nat.le_of_ble_eq_true rfl), (Nat.le_of_ble_eq_true rfl)⟩ ⟨(Nat.le_of_ble_eq_true rfl), (Nat.le_of_ble_eq_true rfl)⟩ (fun r h9 hp => ?_)
            obtain ⟨rfl, rfl⟩ := hp
            refine J_nf (nh2 := nh) (ck2 := 0) (sk2 := 0) (st2 := [.int (zI 0)]) rfl rfl rfl rfl ?_
            refine J_app (L3 := [(54, .inr (5, [.ref 55, .int (zI ln), .int (zI tk), .int (zI st), .int (zI bh), .int (zI va), .int (zI pa), .int (zI st), .ref 56, .int (zI sz)]))]) rfl ?_
            refine J_touch (k := 56) (e := .inl (0, 412, .inl (zA cd))) hk56 ?_
            refine J_touch (k := 54) (e := .inr (5, [.ref 55, .int (zI ln), .int (zI tk), .int (zI st), .int (zI bh), .int (zI va), .int (zI pa), .int (zI st), .ref 56, .int (zI sz)])) rfl ?_
            refine J_mask (L2 := [(54, .inr (5, [.ref 55, .int (zI ln), .int (zI tk), .int (zI st), .int (zI bh), .int (zI va), .int (zI pa), .int (zI st), .ref 56, .int (zI sz)])), (56, .inl (0, 412, .inl (zA cd)))]) (ks := [54, 56, 54]) [true, true, false] rfl (by decide +kernel) rfl ?_
            exact J_iret dX5_part_85 rfl (jbn v_939070ca3f v_316afd7d0b) (Nat.le_of_ble_eq_true rfl) (Nat.le_of_ble_eq_true rfl) (Or.inr ⟨tk, st, bh, va, pa, sz, cd, st, ti, rfl, rfl, q2, q3, q4, q5, q6, q7, q8, q9, q10, q12, q13, q14, q16, q4, (v_1adcfdfee5 q1 q5 q6), ((TkX.s q17)), (PaR.w (fun w => absurd ((TkX.sg q17 (v := 191) (by decide)).mp w) (v_9d80ef7c91 h61)) (fun w => absurd w.2 (v_6f05a3a39a h66)))⟩)
    · refine J_aload_n dX5_part_24 rfl rfl ?_
      refine J_get (v := .int (zI va)) dX5_part_25 fl_X5_28 hk54 rfl ?_
      refine Z_sipush (n := 1000) dX5_part_28 (by decide +kernel) ?_
      refine Z_icmp_gt (tgt := 38) dX5_part_31 (by decide) (v_c986789e97 q7 q8) v_822edaa202 (fun h89 => ?_) (fun h89 => ?_)
      · refine Z_iconst (n := 0) dX5_part_38 ?_
        refine J_istore_n dX5_part_39 rfl (Nat.le_of_ble_eq_true rfl) rfl ?_
        refine J_ls (ls2 := [some (.ref 54), some (.int (zI 3)), some (.int (zI 0)), none]) rfl ?_
        refine J_aload_n dX5_part_40 rfl rfl ?_
        refine J_get (v := .int (zI tk)) dX5_part_41 fl_X5_19 hk54 rfl ?_
        refine Z_bipush (n := 7) dX5_part_44 (by decide +kernel) ?_
        refine Z_icmp_lt (tgt := 62) dX5_part_46 (by decide) (v_87f911991b h57) v_c3fe1a091f (fun h90 => absurd h90 (v_a610ec54f4 h57)) (fun h90 => ?_)
        refine J_aload_n dX5_part_49 rfl rfl ?_
        refine J_get (v := .int (zI tk)) dX5_part_50 fl_X5_19 hk54 rfl ?_
        refine Z_bipush (n := 14) dX5_part_53 (by decide +kernel) ?_
        refine Z_icmp_gt (tgt := 62) dX5_part_55 (by decide) (v_87f911991b h57) v_2a4719925a (fun h91 => ?_) (fun h91 => absurd h91 (fun q => q (v_8a408c96ed h57)))
        refine Z_iconst (n := 0) dX5_part_62 ?_
        refine J_istore_n dX5_part_63 rfl (Nat.le_of_ble_eq_true rfl) rfl ?_
        refine J_ls (ls2 := [some (.ref 54), some (.int (zI 3)), some (.int (zI 0)), some (.int (zI 0))]) rfl ?_
        refine J_iload_n dX5_part_64 rfl rfl ?_
        refine Z_if_ne (tgt := 72) dX5_part_65 (by decide) v_b17331891f (fun h92 => absurd h92 (fun q => q v_2ca2bbca1f)) (fun h92 => ?_)
        refine J_iload_n dX5_part_68 rfl rfl ?_
        refine Z_if_eq (tgt := 81) dX5_part_69 (by decide) v_b17331891f (fun h93 => ?_) (fun h93 => absurd h93 (fun q => q v_2ca2bbca1f))
        refine J_aload_n dX5_part_81 rfl rfl ?_
        refine J_callV (st := []) dX5_part_82 cv_X5_54 (d_wrong ln tk st bh va pa fl sz q4 (v_1adcfdfee5 q1 q5 q6) hk54) hk54 rfl rfl (Nat.le_of_ble_eq_true rfl) ⟨(Nat.le_of_ble_eq_true rfl), (Nat.le_of_ble_eq_true rfl)⟩ ⟨(Nat.le_of_ble_eq_true rfl), (Nat.le_of_ble_eq_true rfl)⟩ (fun r h9 hp => ?_)
        obtain ⟨rfl, rfl⟩ := hp
        refine J_nf (nh2 := nh) (ck2 := 0) (sk2 := 0) (st2 := [.int (zI 0)]) rfl rfl rfl rfl ?_
        refine J_app (L3 := [(54, .inr (5, [.ref 55, .int (zI ln), .int (zI tk), .int (zI st), .int (zI bh), .int (zI va), .int (zI pa), .int (zI st), .ref 56, .int (zI sz)]))]) rfl ?_
        refine J_touch (k := 56) (e := .inl (0, 412, .inl (zA cd))) hk56 ?_
        refine J_touch (k := 54) (e := .inr (5, [.ref 55, .int (zI ln), .int (zI tk), .int (zI st), .int (zI bh), .int (zI va), .int (zI pa), .int (zI st), .ref 56, .int (zI sz)])) rfl ?_
        refine J_mask (L2 := [(54, .inr (5, [.ref 55, .int (zI ln), .int (zI tk), .int (zI st), .int (zI bh), .int (zI va), .int (zI pa), .int (zI st), .ref 56, .int (zI sz)])), (56, .inl (0, 412, .inl (zA cd)))]) (ks := [54, 56, 54]) [true, true, false] rfl (by decide +kernel) rfl ?_
        exact J_iret dX5_part_85 rfl (jbn v_939070ca3f v_316afd7d0b) (Nat.le_of_ble_eq_true rfl) (Nat.le_of_ble_eq_true rfl) (Or.inr ⟨tk, st, bh, va, pa, sz, cd, st, ti, rfl, rfl, q2, q3, q4, q5, q6, q7, q8, q9, q10, q12, q13, q14, q16, q4, (v_1adcfdfee5 q1 q5 q6), ((TkX.s q17)), (PaR.w (fun w => absurd ((TkX.sg q17 (v := 191) (by decide)).mp w) (v_ba43a80476 h57)) (fun w => by have u := (TkX.lf q17).mp w.1; have u0 := h2; have u1 := h57; have u2 := h89; have u3 := h90; have u4 := h91; omega))⟩)
      · refine Z_iconst (n := 1) dX5_part_34 ?_
        refine J_goto (tgt := 39) dX5_part_35 (by decide) ?_
        refine J_istore_n dX5_part_39 rfl (Nat.le_of_ble_eq_true rfl) rfl ?_
        refine J_ls (ls2 := [some (.ref 54), some (.int (zI 3)), some (.int (zI 1)), none]) rfl ?_
        refine J_aload_n dX5_part_40 rfl rfl ?_
        refine J_get (v := .int (zI tk)) dX5_part_41 fl_X5_19 hk54 rfl ?_
        refine Z_bipush (n := 7) dX5_part_44 (by decide +kernel) ?_
        refine Z_icmp_lt (tgt := 62) dX5_part_46 (by decide) (v_87f911991b h57) v_c3fe1a091f (fun h94 => absurd h94 (v_a610ec54f4 h57)) (fun h94 => ?_)
        refine J_aload_n dX5_part_49 rfl rfl ?_
        refine J_get (v := .int (zI tk)) dX5_part_50 fl_X5_19 hk54 rfl ?_
        refine Z_bipush (n := 14) dX5_part_53 (by decide +kernel) ?_
        refine Z_icmp_gt (tgt := 62) dX5_part_55 (by decide) (v_87f911991b h57) v_2a4719925a (fun h95 => ?_) (fun h95 => absurd h95 (fun q => q (v_8a408c96ed h57)))
        refine Z_iconst (n := 0) dX5_part_62 ?_
        refine J_istore_n dX5_part_63 rfl (Nat.le_of_ble_eq_true rfl) rfl ?_
        refine J_ls (ls2 := [some (.ref 54), some (.int (zI 3)), some (.int (zI 1)), some (.int (zI 0))]) rfl ?_
        refine J_iload_n dX5_part_64 rfl rfl ?_
        refine Z_if_ne (tgt := 72) dX5_part_65 (by decide) v_4dcc24baa7 (fun h96 => ?_) (fun h96 => absurd h96 v_3a47bfd896)
        refine J_aload_n dX5_part_72 rfl rfl ?_
        refine J_get (v := .int (zI pa)) dX5_part_73 fl_X5_31 hk54 rfl ?_
        refine Z_bipush (n := 50) dX5_part_76 (by decide +kernel) ?_
        refine Z_icmp_lt (tgt := 86) dX5_part_78 (by decide) (v_196348439e q9 q10) v_e1e0ea2c24 (fun h97 => ?_) (fun h97 => ?_)
        · refine J_aload_n dX5_part_86 rfl rfl ?_
          refine J_dup dX5_part_87 rfl ?_
          refine J_get (v := .int (zI pa)) dX5_part_88 fl_X5_31 hk54 rfl ?_
          refine Z_iconst (n := 1) dX5_part_91 ?_
          refine Z_iadd (c := pa + 1) dX5_part_92 rfl ?_
          refine K_put (fs2 := [.ref 55, .int (zI ln), .int (zI tk), .int (zI st), .int (zI bh), .int (zI va), .int (zI (pa + 1)), .int (zI fl), .ref 56, .int (zI sz)]) dX5_part_93 fw_X5_31 hk54 (Nat.le_of_ble_eq_true rfl) (fun _ => ⟨rfl, rfl⟩) rfl ?_
          refine J_iload_n dX5_part_96 rfl rfl ?_
          refine Z_if_eq (tgt := 113) dX5_part_97 (by decide) v_4dcc24baa7 (fun h98 => absurd h98 v_3a47bfd896) (fun h98 => ?_)
          refine J_aload_n dX5_part_100 rfl rfl ?_
          refine Z_iconst (n := 0) dX5_part_101 ?_
          refine J_aload_n dX5_part_102 rfl rfl ?_
          refine J_get (v := .int (zI va)) dX5_part_103 fl_X5_28 rfl rfl ?_
          refine J_callV (st := []) dX5_part_106 cv_X5_72 (d_emit 0 va ln tk st bh va (pa + 1) fl sz cd v_b17331891f (v_3f1e82a223 q7 h89) q12 q13 q16 rfl hk56) rfl rfl rfl (Nat.le_of_ble_eq_true rfl) ⟨(Nat.le_of_ble_eq_true rfl), (Nat.le_of_ble_eq_true rfl)⟩ ⟨(Nat.le_of_ble_eq_true rfl), (Nat.le_of_ble_eq_true rfl)⟩ (fun r h9 hp => ?_)
          obtain ⟨z99, f100, rfl, rfl, h101, h102, h103, h104, h105⟩ := hp
          refine J_nf (nh2 := nh) (ck2 := 0) (sk2 := 0) (st2 := [.int (zI sz)]) rfl rfl rfl rfl ?_
          refine J_app (L3 := [(54, .inr (5, [.ref 55, .int (zI ln), .int (zI tk), .int (zI st), .int (zI bh), .int (zI va), .int (zI (pa + 1)), .int (zI fl), .ref 56, .int (zI z99)])), (56, .inl (0, 412, .inl (zA f100))), (54, .inr (5, [.ref 55, .int (zI ln), .int (zI tk), .int (zI st), .int (zI bh), .int (zI va), .int (zI (pa + 1)), .int (zI fl), .ref 56, .int (zI sz)]))]) rfl ?_
          refine J_mask (L2 := [(54, .inr (5, [.ref 55, .int (zI ln), .int (zI tk), .int (zI st), .int (zI bh), .int (zI va), .int (zI (pa + 1)), .int (zI fl), .ref 56, .int (zI z99)])), (56, .inl (0, 412, .inl (zA f100)))]) (ks := [54, 56, 54]) [true, true, false] rfl (by decide +kernel) rfl ?_
          refine J_pop dX5_part_109 rfl ?_
          refine J_goto (tgt := 126) dX5_part_110 (by decide) ?_
          refine J_aload_n dX5_part_126 rfl rfl ?_
          have g106 := TokL.lt q14 (v_842fc1ac99 h57)
          refine J_callV (st := []) dX5_part_127 cv_X5_43 (d_advance (ti + 1) ln tk st bh va (pa + 1) fl z99 tp q0 q1 (v_d253cb2c59 q4 g106) q6 q7 q8 q15 (TkX.ps q17 (v_2b02420001 q18)) rfl hk55) rfl rfl rfl (Nat.le_of_ble_eq_true rfl) ⟨(Nat.le_of_ble_eq_true rfl), (Nat.le_of_ble_eq_true rfl)⟩ ⟨(Nat.le_of_ble_eq_true rfl), (Nat.le_of_ble_eq_true rfl)⟩ (fun r h9 hp => ?_)
          obtain ⟨z107, z108, z109, z110, rfl, rfl, h111, h112, h113, h114, h115, h116, h117, h118, h119⟩ := hp
          refine J_nf (nh2 := nh) (ck2 := 0) (sk2 := 0) (st2 := []) rfl rfl rfl rfl ?_
          refine J_app (L3 := [(54, .inr (5, [.ref 55, .int (zI ln), .int (zI z107), .int (zI z108), .int (zI z109), .int (zI z110), .int (zI (pa + 1)), .int (zI fl), .ref 56, .int (zI z99)])), (54, .inr (5, [.ref 55, .int (zI ln), .int (zI tk), .int (zI st), .int (zI bh), .int (zI va), .int (zI (pa + 1)), .int (zI fl), .ref 56, .int (zI z99)])), (56, .inl (0, 412, .inl (zA f100)))]) rfl ?_
          refine J_mask (L2 := [(54, .inr (5, [.ref 55, .int (zI ln), .int (zI z107), .int (zI z108), .int (zI z109), .int (zI z110), .int (zI (pa + 1)), .int (zI fl), .ref 56, .int (zI z99)])), (56, .inl (0, 412, .inl (zA f100)))]) (ks := [54, 54, 56]) [true, false, true] rfl (by decide +kernel) rfl ?_
          refine Z_iconst (n := 1) dX5_part_130 ?_
          exact J_iret dX5_part_131 rfl (jbn v_316afd7d0b v_bbcfac9b7d) (Nat.le_of_ble_eq_true rfl) (Nat.le_of_ble_eq_true rfl) (Or.inl ⟨z107, z108, z109, z110, (pa + 1), z99, f100, (ti + 1), rfl, rfl, h111, h112, (v_9b2e2070a2 q4 g106 h113), h114, h115, h116, h117, (v_da458fa48a q9), (v_dc0d6dc503 h97), h101, h102, h118, h105, (v_37ad0bc16a h104 g106 h113), (v_016485883e g106 h113), h119, (v_da458fa48a q18), (PaR.y (fun w => absurd ((TkX.sg q17 (v := 191) (by decide)).mp w) (v_ba43a80476 h57)) ((TkX.lf q17).mpr (Or.inl ⟨(v_c5b5cc5484 h57), (v_34f25c0213 h89)⟩)) (v_ba201db0a2 h97))⟩)
        · refine J_aload_n dX5_part_81 rfl rfl ?_
          refine J_callV (st := []) dX5_part_82 cv_X5_54 (d_wrong ln tk st bh va pa fl sz q4 (v_1adcfdfee5 q1 q5 q6) hk54) hk54 rfl rfl (Nat.le_of_ble_eq_true rfl) ⟨(Nat.le_of_ble_eq_true rfl), (Nat.le_of_ble_eq_true rfl)⟩ ⟨(Nat.le_of_ble_eq_true rfl), (Nat.le_of_ble_eq_true rfl)⟩ (fun r h9 hp => ?_)
          obtain ⟨rfl, rfl⟩ := hp
          refine J_nf (nh2 := nh) (ck2 := 0) (sk2 := 0) (st2 := [.int (zI 0)]) rfl rfl rfl rfl ?_
          refine J_app (L3 := [(54, .inr (5, [.ref 55, .int (zI ln), .int (zI tk), .int (zI st), .int (zI bh), .int (zI va), .int (zI pa), .int (zI st), .ref 56, .int (zI sz)]))]) rfl ?_
          refine J_touch (k := 56) (e := .inl (0, 412, .inl (zA cd))) hk56 ?_
          refine J_touch (k := 54) (e := .inr (5, [.ref 55, .int (zI ln), .int (zI tk), .int (zI st), .int (zI bh), .int (zI va), .int (zI pa), .int (zI st), .ref 56, .int (zI sz)])) rfl ?_
          refine J_mask (L2 := [(54, .inr (5, [.ref 55, .int (zI ln), .int (zI tk), .int (zI st), .int (zI bh), .int (zI va), .int (zI pa), .int (zI st), .ref 56, .int (zI sz)])), (56, .inl (0, 412, .inl (zA cd)))]) (ks := [54, 56, 54]) [true, true, false] rfl (by decide +kernel) rfl ?_
          exact J_iret dX5_part_85 rfl (jbn v_939070ca3f v_316afd7d0b) (Nat.le_of_ble_eq_true rfl) (Nat.le_of_ble_eq_true rfl) (Or.inr ⟨tk, st, bh, va, pa, sz, cd, st, ti, rfl, rfl, q2, q3, q4, q5, q6, q7, q8, q9, q10, q12, q13, q14, q16, q4, (v_1adcfdfee5 q1 q5 q6), ((TkX.s q17)), (PaR.w (fun w => absurd ((TkX.sg q17 (v := 191) (by decide)).mp w) (v_ba43a80476 h57)) (fun w => absurd w.2 (v_6f05a3a39a h97)))⟩)
set_option maxHeartbeats 4000000 in
set_option maxRecDepth 100000 in
theorem d_term3 {l : Launch} {G : jG} {nh : Nat} {fh : Nat → Option va_E} (ln : Int) (tk : Int) (st : Int) (bh : Int) (va : Int) (pa : Int) (fl : Int) (sz : Int) (tp : Int → Int) (cd : Int → Int) (ti : Int) (q0 : 0 ≤ ln) (q1 : ln ≤ 400) (q2 : 0 ≤ tk) (q3 : tk ≤ 355) (q4 : 0 ≤ st) (q5 : st ≤ bh) (q6 : bh ≤ ln) (q7 : 0 ≤ va) (q8 : va ≤ 1001) (q9 : 0 ≤ pa) (q10 : pa ≤ 50) (q11 : zr fl) (q12 : 0 ≤ sz) (q13 : sz ≤ 412) (q14 : TokL tk st bh) (q15 : Rg tp 400 0 255) (q16 : Rg cd 412 (-2147483648) 2147483647) (q17 : TkX tp ln ti tk st bh va) (q18 : 0 ≤ ti) (hk54 : fh 54 = some (.inr (5, [.ref 55, .int (zI ln), .int (zI tk), .int (zI st), .int (zI bh), .int (zI va), .int (zI pa), .int (zI fl), .ref 56, .int (zI sz)]))) (hk55 : fh 55 = some (.inl (0, 400, .inl (zA tp)))) (hk56 : fh 56 = some (.inl (0, 412, .inl (zA cd)))) : JM l G yX5_term MX5_term { frames := 27, cells := 0, slots := 0, locals := 603 } [.ref 54, .int (zI 3)] (nh, fh) (fun rr h9 => (∃ tk2 : Int, ∃ st2 : Int, ∃ bh2 : Int, ∃ va2 : Int, ∃ pa2 : Int, ∃ sz2 : Int, ∃ cd2 : Int → Int, ∃ ti2 : Int, rr = some (.int (zI 1)) ∧ h9 = (nh, hc fh [(54, .inr (5, [.ref 55, .int (zI ln), .int (zI tk2), .int (zI st2), .int (zI bh2), .int (zI va2), .int (zI pa2), .int (zI fl), .ref 56, .int (zI sz2)])), (56, .inl (0, 412, .inl (zA cd2)))]) ∧ (0 ≤ tk2) ∧ (tk2 ≤ 355) ∧ (0 ≤ st2) ∧ (st2 ≤ bh2) ∧ (bh2 ≤ ln) ∧ (0 ≤ va2) ∧ (va2 ≤ 1001) ∧ (0 ≤ pa2) ∧ (pa2 ≤ 50) ∧ (0 ≤ sz2) ∧ (sz2 ≤ 412) ∧ (TokL tk2 st2 bh2) ∧ (Rg cd2 412 (-2147483648) 2147483647) ∧ (sz2 + st ≤ sz + st2) ∧ (st ≤ st2) ∧ (TkX tp ln ti2 tk2 st2 bh2 va2) ∧ (0 ≤ ti2) ∧ (TmR (CTk tp ln) (LF tp ln) 5 ti pa 1 ti2 pa2)) ∨ (∃ tk2 : Int, ∃ st2 : Int, ∃ bh2 : Int, ∃ va2 : Int, ∃ pa2 : Int, ∃ sz2 : Int, ∃ cd2 : Int → Int, ∃ fl2 : Int, ∃ ti2 : Int, rr = some (.int (zI 0)) ∧ h9 = (nh, hc fh [(54, .inr (5, [.ref 55, .int (zI ln), .int (zI tk2), .int (zI st2), .int (zI bh2), .int (zI va2), .int (zI pa2), .int (zI fl2), .ref 56, .int (zI sz2)])), (56, .inl (0, 412, .inl (zA cd2)))]) ∧ (0 ≤ tk2) ∧ (tk2 ≤ 355) ∧ (0 ≤ st2) ∧ (st2 ≤ bh2) ∧ (bh2 ≤ ln) ∧ (0 ≤ va2) ∧ (va2 ≤ 1001) ∧ (0 ≤ pa2) ∧ (pa2 ≤ 50) ∧ (0 ≤ sz2) ∧ (sz2 ≤ 412) ∧ (TokL tk2 st2 bh2) ∧ (Rg cd2 412 (-2147483648) 2147483647) ∧ (0 ≤ fl2) ∧ (fl2 ≤ 400) ∧ (FlX tp ln ti2 fl2) ∧ (TmR (CTk tp ln) (LF tp ln) 5 ti pa 0 ti2 0))) := by
  refine JM.of (by decide) rfl (fun h => by cases h) (Nat.le_of_ble_eq_true rfl) ⟨2, rfl⟩ ?_
  refine J_hc0 (J_ls (ls2 := [some (.ref 54), some (.int (zI 3)), none, none]) rfl ?_)
  refine J_aload_n dX5_term_0 rfl rfl ?_
  refine J_iload_n dX5_term_1 rfl rfl ?_
  refine J_callV (st := []) dX5_term_2 cv_X5_92 (d_part3 ln tk st bh va pa fl sz tp cd ti q0 q1 q2 q3 q4 q5 q6 q7 q8 q9 q10 q11 q12 q13 q14 q15 q16 q17 q18 hk54 hk55 hk56) hk54 rfl rfl (Nat.le_of_ble_eq_true rfl) ⟨(Nat.le_of_ble_eq_true rfl), (Nat.le_of_ble_eq_true rfl)⟩ ⟨(Nat.le_of_ble_eq_true rfl), (Nat.le_of_ble_eq_true rfl)⟩ (fun r h9 hp => ?_)
  rcases hp with ⟨z1, z2, z3, z4, z5, z6, f7, z8, rfl, rfl, h9, h10, h11, h12, h13, h14, h15, h16, h17, h18, h19, h20, h21, h22, h23, h24, h25, h26⟩ | ⟨z27, z28, z29, z30, z31, z32, f33, z34, z35, rfl, rfl, h36, h37, h38, h39, h40, h41, h42, h43, h44, h45, h46, h47, h48, h49, h50, h51, h52⟩
  · refine J_nf (nh2 := nh) (ck2 := 0) (sk2 := 0) (st2 := [.int (zI 1)]) rfl rfl rfl rfl ?_
    refine J_app (L3 := [(54, .inr (5, [.ref 55, .int (zI ln), .int (zI z1), .int (zI z2), .int (zI z3), .int (zI z4), .int (zI z5), .int (zI fl), .ref 56, .int (zI z6)])), (56, .inl (0, 412, .inl (zA f7)))]) rfl ?_
    refine Z_if_ne (tgt := 10) dX5_term_5 (by decide) v_4dcc24baa7 (fun h53 => ?_) (fun h53 => absurd h53 v_3a47bfd896)
    refine Z_iconst (n := 0) dX5_term_10 ?_
    refine J_istore_n dX5_term_11 rfl (Nat.le_of_ble_eq_true rfl) rfl ?_
    refine J_ls (ls2 := [some (.ref 54), some (.int (zI 3)), some (.int (zI 0)), none]) rfl ?_
    have lp12 : ∀ (N12 : Nat) (i_12 : Int) (tx_12 : Int) (sx_12 : Int) (bx_12 : Int) (vx_12 : Int) (px_12 : Int) (zx_12 : Int) (cx_12 : Int → Int) (ti_12 : Int), (0 ≤ i_12) → (i_12 ≤ 400) → (zx_12 + st ≤ sz + sx_12) → (st ≤ sx_12) → (0 ≤ tx_12) → (tx_12 ≤ 355) → (0 ≤ sx_12) → (sx_12 ≤ bx_12) → (bx_12 ≤ ln) → (0 ≤ vx_12) → (vx_12 ≤ 1001) → (TokL tx_12 sx_12 bx_12) → (Rg cx_12 412 (-2147483648) 2147483647) → (0 ≤ zx_12) → (zx_12 ≤ 412) → (0 ≤ px_12) → (px_12 ≤ 50) → (st + i_12 ≤ sx_12) → (TkX tp ln ti_12 tx_12 sx_12 bx_12 vx_12) → (0 ≤ ti_12) → (SeP (PtR (CTk tp ln) (LF tp ln) 5) opM (CTk tp ln) ti pa ti_12 px_12) → (400 - i_12).toNat < N12 → J l G MX5_term { frames := 27, cells := 0, slots := 0, locals := 603 } jE (jMQ G { frames := 27, cells := 0, slots := 0, locals := 603 } (fun rr h9 => (∃ tk2 : Int, ∃ st2 : Int, ∃ bh2 : Int, ∃ va2 : Int, ∃ pa2 : Int, ∃ sz2 : Int, ∃ cd2 : Int → Int, ∃ ti2 : Int, rr = some (.int (zI 1)) ∧ h9 = (nh, hc fh [(54, .inr (5, [.ref 55, .int (zI ln), .int (zI tk2), .int (zI st2), .int (zI bh2), .int (zI va2), .int (zI pa2), .int (zI fl), .ref 56, .int (zI sz2)])), (56, .inl (0, 412, .inl (zA cd2)))]) ∧ (0 ≤ tk2) ∧ (tk2 ≤ 355) ∧ (0 ≤ st2) ∧ (st2 ≤ bh2) ∧ (bh2 ≤ ln) ∧ (0 ≤ va2) ∧ (va2 ≤ 1001) ∧ (0 ≤ pa2) ∧ (pa2 ≤ 50) ∧ (0 ≤ sz2) ∧ (sz2 ≤ 412) ∧ (TokL tk2 st2 bh2) ∧ (Rg cd2 412 (-2147483648) 2147483647) ∧ (sz2 + st ≤ sz + st2) ∧ (st ≤ st2) ∧ (TkX tp ln ti2 tk2 st2 bh2 va2) ∧ (0 ≤ ti2) ∧ (TmR (CTk tp ln) (LF tp ln) 5 ti pa 1 ti2 pa2)) ∨ (∃ tk2 : Int, ∃ st2 : Int, ∃ bh2 : Int, ∃ va2 : Int, ∃ pa2 : Int, ∃ sz2 : Int, ∃ cd2 : Int → Int, ∃ fl2 : Int, ∃ ti2 : Int, rr = some (.int (zI 0)) ∧ h9 = (nh, hc fh [(54, .inr (5, [.ref 55, .int (zI ln), .int (zI tk2), .int (zI st2), .int (zI bh2), .int (zI va2), .int (zI pa2), .int (zI fl2), .ref 56, .int (zI sz2)])), (56, .inl (0, 412, .inl (zA cd2)))]) ∧ (0 ≤ tk2) ∧ (tk2 ≤ 355) ∧ (0 ≤ st2) ∧ (st2 ≤ bh2) ∧ (bh2 ≤ ln) ∧ (0 ≤ va2) ∧ (va2 ≤ 1001) ∧ (0 ≤ pa2) ∧ (pa2 ≤ 50) ∧ (0 ≤ sz2) ∧ (sz2 ≤ 412) ∧ (TokL tk2 st2 bh2) ∧ (Rg cd2 412 (-2147483648) 2147483647) ∧ (0 ≤ fl2) ∧ (fl2 ≤ 400) ∧ (FlX tp ln ti2 fl2) ∧ (TmR (CTk tp ln) (LF tp ln) 5 ti pa 0 ti2 0)))) (nh, hc fh [(54, .inr (5, [.ref 55, .int (zI ln), .int (zI tx_12), .int (zI sx_12), .int (zI bx_12), .int (zI vx_12), .int (zI px_12), .int (zI fl), .ref 56, .int (zI zx_12)])), (56, .inl (0, 412, .inl (zA cx_12)))]) 0 0 12 [some (.ref 54), some (.int (zI 3)), some (.int (zI i_12)), none] [] := by
      intro N12
      induction N12 with
      | zero => intro i_12 tx_12 sx_12 bx_12 vx_12 px_12 zx_12 cx_12 ti_12 i12_0 i12_1 i12_2 i12_3 i12_4 i12_5 i12_6 i12_7 i12_8 i12_9 i12_10 i12_11 i12_12 i12_13 i12_14 i12_15 i12_16 i12_17 i12_18 i12_19 i12_20 hm; exact absurd hm (Nat.not_lt_zero _)
      | succ N12 ih12 =>
        intro i_12 tx_12 sx_12 bx_12 vx_12 px_12 zx_12 cx_12 ti_12 i12_0 i12_1 i12_2 i12_3 i12_4 i12_5 i12_6 i12_7 i12_8 i12_9 i12_10 i12_11 i12_12 i12_13 i12_14 i12_15 i12_16 i12_17 i12_18 i12_19 i12_20 hm12
        refine J_iload_n dX5_term_12 rfl rfl ?_
        refine Z_sipush (n := 400) dX5_term_13 (by decide +kernel) ?_
        refine Z_icmp_ge (tgt := 79) dX5_term_16 (by decide) (v_d7389cde0f i12_0 i12_1) v_d8dcd4dd52 (fun h54 => ?_) (fun h54 => ?_)
        · have g55 : tx_12 = 17 := TkX.lo i12_18 (v_96ef693267 q1 q4 i12_7 i12_8 i12_17 h54)
          refine Z_iconst (n := 1) dX5_term_79 ?_
          exact J_iret dX5_term_80 rfl (jbn v_316afd7d0b v_bbcfac9b7d) (Nat.le_of_ble_eq_true rfl) (Nat.le_of_ble_eq_true rfl) (Or.inl ⟨tx_12, sx_12, bx_12, vx_12, px_12, zx_12, cx_12, ti_12, rfl, rfl, i12_4, i12_5, i12_6, i12_7, i12_8, i12_9, i12_10, i12_15, i12_16, i12_13, i12_14, i12_11, i12_12, i12_2, i12_3, i12_18, i12_19, (SeP.end i12_20 (fun w => Or.elim w (fun w => absurd ((TkX.sg i12_18 (v := 142) (by decide)).mp w) (v_d9c44388fb g55)) (fun w => absurd ((TkX.sg i12_18 (v := 147) (by decide)).mp w) (v_33dade03bd g55))))⟩)
        · refine J_aload_n dX5_term_19 rfl rfl ?_
          refine Z_bipush (n := 42) dX5_term_20 (by decide +kernel) ?_
          refine J_callV (st := []) dX5_term_22 cv_X5_50 (d_isSign 42 ln tx_12 sx_12 bx_12 vx_12 px_12 fl zx_12 v_19b0ad2cd1 v_1f79c0c2c4 i12_4 i12_5 rfl) rfl rfl rfl (Nat.le_of_ble_eq_true rfl) ⟨(Nat.le_of_ble_eq_true rfl), (Nat.le_of_ble_eq_true rfl)⟩ ⟨(Nat.le_of_ble_eq_true rfl), (Nat.le_of_ble_eq_true rfl)⟩ (fun r h9 hp => ?_)
          rcases hp with ⟨rfl, rfl, h56⟩ | ⟨rfl, rfl, h57⟩
          · refine J_nf (nh2 := nh) (ck2 := 0) (sk2 := 0) (st2 := [.int (zI 1)]) rfl rfl rfl rfl ?_
            refine Z_if_ne (tgt := 37) dX5_term_25 (by decide) v_4dcc24baa7 (fun h58 => ?_) (fun h58 => absurd h58 v_3a47bfd896)
            refine J_aload_n dX5_term_37 rfl rfl ?_
            refine Z_bipush (n := 42) dX5_term_38 (by decide +kernel) ?_
            refine J_callV (st := []) dX5_term_40 cv_X5_50 (d_isSign 42 ln tx_12 sx_12 bx_12 vx_12 px_12 fl zx_12 v_19b0ad2cd1 v_1f79c0c2c4 i12_4 i12_5 rfl) rfl rfl rfl (Nat.le_of_ble_eq_true rfl) ⟨(Nat.le_of_ble_eq_true rfl), (Nat.le_of_ble_eq_true rfl)⟩ ⟨(Nat.le_of_ble_eq_true rfl), (Nat.le_of_ble_eq_true rfl)⟩ (fun r h9 hp => ?_)
            rcases hp with ⟨rfl, rfl, h59⟩ | ⟨rfl, rfl, h60⟩
            · refine J_nf (nh2 := nh) (ck2 := 0) (sk2 := 0) (st2 := [.int (zI 1)]) rfl rfl rfl rfl ?_
              refine Z_if_eq (tgt := 50) dX5_term_43 (by decide) v_4dcc24baa7 (fun h61 => absurd h61 v_3a47bfd896) (fun h61 => ?_)
              refine Z_iconst (n := 4) dX5_term_46 ?_
              refine J_goto (tgt := 51) dX5_term_47 (by decide) ?_
              refine J_istore_n dX5_term_51 rfl (Nat.le_of_ble_eq_true rfl) rfl ?_
              refine J_ls (ls2 := [some (.ref 54), some (.int (zI 3)), some (.int (zI i_12)), some (.int (zI 4))]) rfl ?_
              refine J_aload_n dX5_term_52 rfl rfl ?_
              have g62 := TokL.lt i12_11 (v_4a9f236eb2 h56)
              refine J_callV (st := []) dX5_term_53 cv_X5_43 (d_advance (ti_12 + 1) ln tx_12 sx_12 bx_12 vx_12 px_12 fl zx_12 tp q0 q1 (v_d253cb2c59 i12_6 g62) i12_8 i12_9 i12_10 q15 (TkX.ps i12_18 (v_2b02420001 i12_19)) rfl hk55) rfl rfl rfl (Nat.le_of_ble_eq_true rfl) ⟨(Nat.le_of_ble_eq_true rfl), (Nat.le_of_ble_eq_true rfl)⟩ ⟨(Nat.le_of_ble_eq_true rfl), (Nat.le_of_ble_eq_true rfl)⟩ (fun r h9 hp => ?_)
              obtain ⟨z63, z64, z65, z66, rfl, rfl, h67, h68, h69, h70, h71, h72, h73, h74, h75⟩ := hp
              refine J_nf (nh2 := nh) (ck2 := 0) (sk2 := 0) (st2 := []) rfl rfl rfl rfl ?_
              refine J_app (L3 := [(54, .inr (5, [.ref 55, .int (zI ln), .int (zI z63), .int (zI z64), .int (zI z65), .int (zI z66), .int (zI px_12), .int (zI fl), .ref 56, .int (zI zx_12)])), (54, .inr (5, [.ref 55, .int (zI ln), .int (zI tx_12), .int (zI sx_12), .int (zI bx_12), .int (zI vx_12), .int (zI px_12), .int (zI fl), .ref 56, .int (zI zx_12)])), (56, .inl (0, 412, .inl (zA cx_12)))]) rfl ?_
              refine J_mask (L2 := [(54, .inr (5, [.ref 55, .int (zI ln), .int (zI z63), .int (zI z64), .int (zI z65), .int (zI z66), .int (zI px_12), .int (zI fl), .ref 56, .int (zI zx_12)])), (56, .inl (0, 412, .inl (zA cx_12)))]) (ks := [54, 54, 56]) [true, false, true] rfl (by decide +kernel) rfl ?_
              refine J_aload_n dX5_term_56 rfl rfl ?_
              refine J_iload_n dX5_term_57 rfl rfl ?_
              refine J_callV (st := []) dX5_term_58 cv_X5_92 (d_part3 ln z63 z64 z65 z66 px_12 fl zx_12 tp cx_12 (ti_12 + 1) q0 q1 h67 h68 (v_9b2e2070a2 i12_6 g62 h69) h70 h71 h72 h73 i12_15 i12_16 q11 i12_13 i12_14 h74 q15 i12_12 h75 (v_da458fa48a i12_19) rfl hk55 rfl) rfl rfl rfl (Nat.le_of_ble_eq_true rfl) ⟨(Nat.le_of_ble_eq_true rfl), (Nat.le_of_ble_eq_true rfl)⟩ ⟨(Nat.le_of_ble_eq_true rfl), (Nat.le_of_ble_eq_true rfl)⟩ (fun r h9 hp => ?_)
              rcases hp with ⟨z76, z77, z78, z79, z80, z81, f82, z83, rfl, rfl, h84, h85, h86, h87, h88, h89, h90, h91, h92, h93, h94, h95, h96, h97, h98, h99, h100, h101⟩ | ⟨z102, z103, z104, z105, z106, z107, f108, z109, z110, rfl, rfl, h111, h112, h113, h114, h115, h116, h117, h118, h119, h120, h121, h122, h123, h124, h125, h126, h127⟩
              · refine J_nf (nh2 := nh) (ck2 := 0) (sk2 := 0) (st2 := [.int (zI 1)]) rfl rfl rfl rfl ?_
                refine J_app (L3 := [(54, .inr (5, [.ref 55, .int (zI ln), .int (zI z76), .int (zI z77), .int (zI z78), .int (zI z79), .int (zI z80), .int (zI fl), .ref 56, .int (zI z81)])), (56, .inl (0, 412, .inl (zA f82))), (54, .inr (5, [.ref 55, .int (zI ln), .int (zI z63), .int (zI z64), .int (zI z65), .int (zI z66), .int (zI px_12), .int (zI fl), .ref 56, .int (zI zx_12)])), (56, .inl (0, 412, .inl (zA cx_12)))]) rfl ?_
                refine J_mask (L2 := [(54, .inr (5, [.ref 55, .int (zI ln), .int (zI z76), .int (zI z77), .int (zI z78), .int (zI z79), .int (zI z80), .int (zI fl), .ref 56, .int (zI z81)])), (56, .inl (0, 412, .inl (zA f82)))]) (ks := [54, 56, 54, 56]) [true, true, false, false] rfl (by decide +kernel) rfl ?_
                refine Z_if_ne (tgt := 66) dX5_term_61 (by decide) v_4dcc24baa7 (fun h128 => ?_) (fun h128 => absurd h128 v_3a47bfd896)
                refine J_aload_n dX5_term_66 rfl rfl ?_
                refine J_iload_n dX5_term_67 rfl rfl ?_
                refine Z_iconst (n := 0) dX5_term_68 ?_
                refine J_callV (st := []) dX5_term_69 cv_X5_72 (d_emit 4 0 ln z76 z77 z78 z79 z80 fl z81 f82 v_ffb526fa28 v_b17331891f h93 h94 h96 rfl rfl) rfl rfl rfl (Nat.le_of_ble_eq_true rfl) ⟨(Nat.le_of_ble_eq_true rfl), (Nat.le_of_ble_eq_true rfl)⟩ ⟨(Nat.le_of_ble_eq_true rfl), (Nat.le_of_ble_eq_true rfl)⟩ (fun r h9 hp => ?_)
                obtain ⟨z129, f130, rfl, rfl, h131, h132, h133, h134, h135⟩ := hp
                refine J_nf (nh2 := nh) (ck2 := 0) (sk2 := 0) (st2 := [.int (zI z81)]) rfl rfl rfl rfl ?_
                refine J_app (L3 := [(54, .inr (5, [.ref 55, .int (zI ln), .int (zI z76), .int (zI z77), .int (zI z78), .int (zI z79), .int (zI z80), .int (zI fl), .ref 56, .int (zI z129)])), (56, .inl (0, 412, .inl (zA f130))), (54, .inr (5, [.ref 55, .int (zI ln), .int (zI z76), .int (zI z77), .int (zI z78), .int (zI z79), .int (zI z80), .int (zI fl), .ref 56, .int (zI z81)])), (56, .inl (0, 412, .inl (zA f82)))]) rfl ?_
                refine J_mask (L2 := [(54, .inr (5, [.ref 55, .int (zI ln), .int (zI z76), .int (zI z77), .int (zI z78), .int (zI z79), .int (zI z80), .int (zI fl), .ref 56, .int (zI z129)])), (56, .inl (0, 412, .inl (zA f130)))]) (ks := [54, 56, 54, 56]) [true, true, false, false] rfl (by decide +kernel) rfl ?_
                refine J_pop dX5_term_72 rfl ?_
                refine Z_iinc (c := i_12 + 1) (ls2 := [some (.ref 54), some (.int (zI 3)), some (.int (zI (i_12 + 1))), some (.int (zI 4))]) dX5_term_73 rfl (Nat.le_of_ble_eq_true rfl) rfl rfl rfl ?_
                refine J_goto (tgt := 12) dX5_term_76 (by decide) ?_
                refine J_drop (ls2 := [some (.ref 54), some (.int (zI 3)), some (.int (zI (i_12 + 1))), none]) [true, true, true, false] rfl ?_
                exact ih12 (i_12 + 1) z76 z77 z78 z79 z80 z129 f130 z83 (v_da458fa48a i12_0) (v_6924477667 h54) (v_5af1455273 i12_2 g62 h69 h97 h134) (v_269579bf42 i12_3 g62 h69 h98) h84 h85 h86 h87 h88 h89 h90 h95 h135 h131 h132 h91 h92 (v_974edc800f i12_17 g62 h69 h98) h99 h100 (SeP.add i12_20 (Or.inl ((TkX.sg i12_18 (v := 142) (by decide)).mpr (v_1500549be1 h56))) h101) (meas_lt v_ceb2ed6d2b (v_44ddc35e90 h54) hm12)
              · refine J_nf (nh2 := nh) (ck2 := 0) (sk2 := 0) (st2 := [.int (zI 0)]) rfl rfl rfl rfl ?_
                refine J_app (L3 := [(54, .inr (5, [.ref 55, .int (zI ln), .int (zI z102), .int (zI z103), .int (zI z104), .int (zI z105), .int (zI z106), .int (zI z109), .ref 56, .int (zI z107)])), (56, .inl (0, 412, .inl (zA f108))), (54, .inr (5, [.ref 55, .int (zI ln), .int (zI z63), .int (zI z64), .int (zI z65), .int (zI z66), .int (zI px_12), .int (zI fl), .ref 56, .int (zI zx_12)])), (56, .inl (0, 412, .inl (zA cx_12)))]) rfl ?_
                refine J_mask (L2 := [(54, .inr (5, [.ref 55, .int (zI ln), .int (zI z102), .int (zI z103), .int (zI z104), .int (zI z105), .int (zI z106), .int (zI z109), .ref 56, .int (zI z107)])), (56, .inl (0, 412, .inl (zA f108)))]) (ks := [54, 56, 54, 56]) [true, true, false, false] rfl (by decide +kernel) rfl ?_
                refine Z_if_ne (tgt := 66) dX5_term_61 (by decide) v_b17331891f (fun h136 => absurd h136 (fun q => q v_2ca2bbca1f)) (fun h136 => ?_)
                refine Z_iconst (n := 0) dX5_term_64 ?_
                exact J_iret dX5_term_65 rfl (jbn v_939070ca3f v_316afd7d0b) (Nat.le_of_ble_eq_true rfl) (Nat.le_of_ble_eq_true rfl) (Or.inr ⟨z102, z103, z104, z105, z106, z107, f108, z109, z110, rfl, rfl, h111, h112, h113, h114, h115, h116, h117, h118, h119, h120, h121, h122, h123, h124, h125, (h126), (SeP.bad i12_20 (Or.inl ((TkX.sg i12_18 (v := 142) (by decide)).mpr (v_1500549be1 h56))) h127)⟩)
            · exact False.elim (v_dc1247e06b h56 h60)
          · refine J_nf (nh2 := nh) (ck2 := 0) (sk2 := 0) (st2 := [.int (zI 0)]) rfl rfl rfl rfl ?_
            refine Z_if_ne (tgt := 37) dX5_term_25 (by decide) v_b17331891f (fun h137 => absurd h137 (fun q => q v_2ca2bbca1f)) (fun h137 => ?_)
            refine J_aload_n dX5_term_28 rfl rfl ?_
            refine Z_bipush (n := 47) dX5_term_29 (by decide +kernel) ?_
            refine J_callV (st := []) dX5_term_31 cv_X5_50 (d_isSign 47 ln tx_12 sx_12 bx_12 vx_12 px_12 fl zx_12 v_a2835897db v_8710bb8462 i12_4 i12_5 rfl) rfl rfl rfl (Nat.le_of_ble_eq_true rfl) ⟨(Nat.le_of_ble_eq_true rfl), (Nat.le_of_ble_eq_true rfl)⟩ ⟨(Nat.le_of_ble_eq_true rfl), (Nat.le_of_ble_eq_true rfl)⟩ (fun r h9 hp => ?_)
            rcases hp with ⟨rfl, rfl, h138⟩ | ⟨rfl, rfl, h139⟩
            · refine J_nf (nh2 := nh) (ck2 := 0) (sk2 := 0) (st2 := [.int (zI 1)]) rfl rfl rfl rfl ?_
              refine Z_if_eq (tgt := 79) dX5_term_34 (by decide) v_4dcc24baa7 (fun h140 => absurd h140 v_3a47bfd896) (fun h140 => ?_)
              refine J_aload_n dX5_term_37 rfl rfl ?_
              refine Z_bipush (n := 42) dX5_term_38 (by decide +kernel) ?_
              refine J_callV (st := []) dX5_term_40 cv_X5_50 (d_isSign 42 ln tx_12 sx_12 bx_12 vx_12 px_12 fl zx_12 v_19b0ad2cd1 v_1f79c0c2c4 i12_4 i12_5 rfl) rfl rfl rfl (Nat.le_of_ble_eq_true rfl) ⟨(Nat.le_of_ble_eq_true rfl), (Nat.le_of_ble_eq_true rfl)⟩ ⟨(Nat.le_of_ble_eq_true rfl), (Nat.le_of_ble_eq_true rfl)⟩ (fun r h9 hp => ?_)
              rcases hp with ⟨rfl, rfl, h141⟩ | ⟨rfl, rfl, h142⟩
              · exact False.elim (v_4c7f0d169f h138 h141)
              · refine J_nf (nh2 := nh) (ck2 := 0) (sk2 := 0) (st2 := [.int (zI 0)]) rfl rfl rfl rfl ?_
                refine Z_if_eq (tgt := 50) dX5_term_43 (by decide) v_b17331891f (fun h143 => ?_) (fun h143 => absurd h143 (fun q => q v_2ca2bbca1f))
                refine Z_iconst (n := 5) dX5_term_50 ?_
                refine J_istore_n dX5_term_51 rfl (Nat.le_of_ble_eq_true rfl) rfl ?_
                refine J_ls (ls2 := [some (.ref 54), some (.int (zI 3)), some (.int (zI i_12)), some (.int (zI 5))]) rfl ?_
                refine J_aload_n dX5_term_52 rfl rfl ?_
                have g144 := TokL.lt i12_11 (v_6abada17c7 h138)
                refine J_callV (st := []) dX5_term_53 cv_X5_43 (d_advance (ti_12 + 1) ln tx_12 sx_12 bx_12 vx_12 px_12 fl zx_12 tp q0 q1 (v_d253cb2c59 i12_6 g144) i12_8 i12_9 i12_10 q15 (TkX.ps i12_18 (v_2b02420001 i12_19)) rfl hk55) rfl rfl rfl (Nat.le_of_ble_eq_true rfl) ⟨(Nat.le_of_ble_eq_true rfl), (Nat.le_of_ble_eq_true rfl)⟩ ⟨(Nat.le_of_ble_eq_true rfl), (Nat.le_of_ble_eq_true rfl)⟩ (fun r h9 hp => ?_)
                obtain ⟨z145, z146, z147, z148, rfl, rfl, h149, h150, h151, h152, h153, h154, h155, h156, h157⟩ := hp
                refine J_nf (nh2 := nh) (ck2 := 0) (sk2 := 0) (st2 := []) rfl rfl rfl rfl ?_
                refine J_app (L3 := [(54, .inr (5, [.ref 55, .int (zI ln), .int (zI z145), .int (zI z146), .int (zI z147), .int (zI z148), .int (zI px_12), .int (zI fl), .ref 56, .int (zI zx_12)])), (54, .inr (5, [.ref 55, .int (zI ln), .int (zI tx_12), .int (zI sx_12), .int (zI bx_12), .int (zI vx_12), .int (zI px_12), .int (zI fl), .ref 56, .int (zI zx_12)])), (56, .inl (0, 412, .inl (zA cx_12)))]) rfl ?_
                refine J_mask (L2 := [(54, .inr (5, [.ref 55, .int (zI ln), .int (zI z145), .int (zI z146), .int (zI z147), .int (zI z148), .int (zI px_12), .int (zI fl), .ref 56, .int (zI zx_12)])), (56, .inl (0, 412, .inl (zA cx_12)))]) (ks := [54, 54, 56]) [true, false, true] rfl (by decide +kernel) rfl ?_
                refine J_aload_n dX5_term_56 rfl rfl ?_
                refine J_iload_n dX5_term_57 rfl rfl ?_
                refine J_callV (st := []) dX5_term_58 cv_X5_92 (d_part3 ln z145 z146 z147 z148 px_12 fl zx_12 tp cx_12 (ti_12 + 1) q0 q1 h149 h150 (v_9b2e2070a2 i12_6 g144 h151) h152 h153 h154 h155 i12_15 i12_16 q11 i12_13 i12_14 h156 q15 i12_12 h157 (v_da458fa48a i12_19) rfl hk55 rfl) rfl rfl rfl (Nat.le_of_ble_eq_true rfl) ⟨(Nat.le_of_ble_eq_true rfl), (Nat.le_of_ble_eq_true rfl)⟩ ⟨(Nat.le_of_ble_eq_true rfl), (Nat.le_of_ble_eq_true rfl)⟩ (fun r h9 hp => ?_)
                rcases hp with ⟨z158, z159, z160, z161, z162, z163, f164, z165, rfl, rfl, h166, h167, h168, h169, h170, h171, h172, h173, h174, h175, h176, h177, h178, h179, h180, h181, h182, h183⟩ | ⟨z184, z185, z186, z187, z188, z189, f190, z191, z192, rfl, rfl, h193, h194, h195, h196, h197, h198, h199, h200, h201, h202, h203, h204, h205, h206, h207, h208, h209⟩
                · refine J_nf (nh2 := nh) (ck2 := 0) (sk2 := 0) (st2 := [.int (zI 1)]) rfl rfl rfl rfl ?_
                  refine J_app (L3 := [(54, .inr (5, [.ref 55, .int (zI ln), .int (zI z158), .int (zI z159), .int (zI z160), .int (zI z161), .int (zI z162), .int (zI fl), .ref 56, .int (zI z163)])), (56, .inl (0, 412, .inl (zA f164))), (54, .inr (5, [.ref 55, .int (zI ln), .int (zI z145), .int (zI z146), .int (zI z147), .int (zI z148), .int (zI px_12), .int (zI fl), .ref 56, .int (zI zx_12)])), (56, .inl (0, 412, .inl (zA cx_12)))]) rfl ?_
                  refine J_mask (L2 := [(54, .inr (5, [.ref 55, .int (zI ln), .int (zI z158), .int (zI z159), .int (zI z160), .int (zI z161), .int (zI z162), .int (zI fl), .ref 56, .int (zI z163)])), (56, .inl (0, 412, .inl (zA f164)))]) (ks := [54, 56, 54, 56]) [true, true, false, false] rfl (by decide +kernel) rfl ?_
                  refine Z_if_ne (tgt := 66) dX5_term_61 (by decide) v_4dcc24baa7 (fun h210 => ?_) (fun h210 => absurd h210 v_3a47bfd896)
                  refine J_aload_n dX5_term_66 rfl rfl ?_
                  refine J_iload_n dX5_term_67 rfl rfl ?_
                  refine Z_iconst (n := 0) dX5_term_68 ?_
                  refine J_callV (st := []) dX5_term_69 cv_X5_72 (d_emit 5 0 ln z158 z159 z160 z161 z162 fl z163 f164 v_3961fe0d0d v_b17331891f h175 h176 h178 rfl rfl) rfl rfl rfl (Nat.le_of_ble_eq_true rfl) ⟨(Nat.le_of_ble_eq_true rfl), (Nat.le_of_ble_eq_true rfl)⟩ ⟨(Nat.le_of_ble_eq_true rfl), (Nat.le_of_ble_eq_true rfl)⟩ (fun r h9 hp => ?_)
                  obtain ⟨z211, f212, rfl, rfl, h213, h214, h215, h216, h217⟩ := hp
                  refine J_nf (nh2 := nh) (ck2 := 0) (sk2 := 0) (st2 := [.int (zI z163)]) rfl rfl rfl rfl ?_
                  refine J_app (L3 := [(54, .inr (5, [.ref 55, .int (zI ln), .int (zI z158), .int (zI z159), .int (zI z160), .int (zI z161), .int (zI z162), .int (zI fl), .ref 56, .int (zI z211)])), (56, .inl (0, 412, .inl (zA f212))), (54, .inr (5, [.ref 55, .int (zI ln), .int (zI z158), .int (zI z159), .int (zI z160), .int (zI z161), .int (zI z162), .int (zI fl), .ref 56, .int (zI z163)])), (56, .inl (0, 412, .inl (zA f164)))]) rfl ?_
                  refine J_mask (L2 := [(54, .inr (5, [.ref 55, .int (zI ln), .int (zI z158), .int (zI z159), .int (zI z160), .int (zI z161), .int (zI z162), .int (zI fl), .ref 56, .int (zI z211)])), (56, .inl (0, 412, .inl (zA f212)))]) (ks := [54, 56, 54, 56]) [true, true, false, false] rfl (by decide +kernel) rfl ?_
                  refine J_pop dX5_term_72 rfl ?_
                  refine Z_iinc (c := i_12 + 1) (ls2 := [some (.ref 54), some (.int (zI 3)), some (.int (zI (i_12 + 1))), some (.int (zI 5))]) dX5_term_73 rfl (Nat.le_of_ble_eq_true rfl) rfl rfl rfl ?_
                  refine J_goto (tgt := 12) dX5_term_76 (by decide) ?_
                  refine J_drop (ls2 := [some (.ref 54), some (.int (zI 3)), some (.int (zI (i_12 + 1))), none]) [true, true, true, false] rfl ?_
                  exact ih12 (i_12 + 1) z158 z159 z160 z161 z162 z211 f212 z165 (v_da458fa48a i12_0) (v_6924477667 h54) (v_5af1455273 i12_2 g144 h151 h179 h216) (v_269579bf42 i12_3 g144 h151 h180) h166 h167 h168 h169 h170 h171 h172 h177 h217 h213 h214 h173 h174 (v_974edc800f i12_17 g144 h151 h180) h181 h182 (SeP.add i12_20 (Or.inr ((TkX.sg i12_18 (v := 147) (by decide)).mpr (v_963e78d969 h138))) h183) (meas_lt v_ceb2ed6d2b (v_44ddc35e90 h54) hm12)
                · refine J_nf (nh2 := nh) (ck2 := 0) (sk2 := 0) (st2 := [.int (zI 0)]) rfl rfl rfl rfl ?_
                  refine J_app (L3 := [(54, .inr (5, [.ref 55, .int (zI ln), .int (zI z184), .int (zI z185), .int (zI z186), .int (zI z187), .int (zI z188), .int (zI z191), .ref 56, .int (zI z189)])), (56, .inl (0, 412, .inl (zA f190))), (54, .inr (5, [.ref 55, .int (zI ln), .int (zI z145), .int (zI z146), .int (zI z147), .int (zI z148), .int (zI px_12), .int (zI fl), .ref 56, .int (zI zx_12)])), (56, .inl (0, 412, .inl (zA cx_12)))]) rfl ?_
                  refine J_mask (L2 := [(54, .inr (5, [.ref 55, .int (zI ln), .int (zI z184), .int (zI z185), .int (zI z186), .int (zI z187), .int (zI z188), .int (zI z191), .ref 56, .int (zI z189)])), (56, .inl (0, 412, .inl (zA f190)))]) (ks := [54, 56, 54, 56]) [true, true, false, false] rfl (by decide +kernel) rfl ?_
                  refine Z_if_ne (tgt := 66) dX5_term_61 (by decide) v_b17331891f (fun h218 => absurd h218 (fun q => q v_2ca2bbca1f)) (fun h218 => ?_)
                  refine Z_iconst (n := 0) dX5_term_64 ?_
                  exact J_iret dX5_term_65 rfl (jbn v_939070ca3f v_316afd7d0b) (Nat.le_of_ble_eq_true rfl) (Nat.le_of_ble_eq_true rfl) (Or.inr ⟨z184, z185, z186, z187, z188, z189, f190, z191, z192, rfl, rfl, h193, h194, h195, h196, h197, h198, h199, h200, h201, h202, h203, h204, h205, h206, h207, (h208), (SeP.bad i12_20 (Or.inr ((TkX.sg i12_18 (v := 147) (by decide)).mpr (v_963e78d969 h138))) h209)⟩)
            · refine J_nf (nh2 := nh) (ck2 := 0) (sk2 := 0) (st2 := [.int (zI 0)]) rfl rfl rfl rfl ?_
              refine Z_if_eq (tgt := 79) dX5_term_34 (by decide) v_b17331891f (fun h219 => ?_) (fun h219 => absurd h219 (fun q => q v_2ca2bbca1f))
              refine Z_iconst (n := 1) dX5_term_79 ?_
              exact J_iret dX5_term_80 rfl (jbn v_316afd7d0b v_bbcfac9b7d) (Nat.le_of_ble_eq_true rfl) (Nat.le_of_ble_eq_true rfl) (Or.inl ⟨tx_12, sx_12, bx_12, vx_12, px_12, zx_12, cx_12, ti_12, rfl, rfl, i12_4, i12_5, i12_6, i12_7, i12_8, i12_9, i12_10, i12_15, i12_16, i12_13, i12_14, i12_11, i12_12, i12_2, i12_3, i12_18, i12_19, (SeP.end i12_20 (fun w => Or.elim w (fun w => absurd ((TkX.sg i12_18 (v := 142) (by decide)).mp w) (v_bfc3241138 h57)) (fun w => absurd ((TkX.sg i12_18 (v := 147) (by decide)).mp w) (v_446b74d554 h139))))⟩)
    exact lp12 _ 0 z1 z2 z3 z4 z5 z6 f7 z8 v_939070ca3f v_5ab96f7b5e h22 h23 h9 h10 h11 h12 h13 h14 h15 h20 h21 h18 h19 h16 h17 (v_3c1faf939c h23) h24 h25 (SeP.one h26) (Nat.lt_succ_self _)
  · refine J_nf (nh2 := nh) (ck2 := 0) (sk2 := 0) (st2 := [.int (zI 0)]) rfl rfl rfl rfl ?_
    refine J_app (L3 := [(54, .inr (5, [.ref 55, .int (zI ln), .int (zI z27), .int (zI z28), .int (zI z29), .int (zI z30), .int (zI z31), .int (zI z34), .ref 56, .int (zI z32)])), (56, .inl (0, 412, .inl (zA f33)))]) rfl ?_
    refine Z_if_ne (tgt := 10) dX5_term_5 (by decide) v_b17331891f (fun h220 => absurd h220 (fun q => q v_2ca2bbca1f)) (fun h220 => ?_)
    refine Z_iconst (n := 0) dX5_term_8 ?_
    exact J_iret dX5_term_9 rfl (jbn v_939070ca3f v_316afd7d0b) (Nat.le_of_ble_eq_true rfl) (Nat.le_of_ble_eq_true rfl) (Or.inr ⟨z27, z28, z29, z30, z31, z32, f33, z34, z35, rfl, rfl, h36, h37, h38, h39, h40, h41, h42, h43, h44, h45, h46, h47, h48, h49, h50, (h51), (SeR.b h52)⟩)
set_option maxHeartbeats 4000000 in
set_option maxRecDepth 100000 in
theorem d_sum3 {l : Launch} {G : jG} {nh : Nat} {fh : Nat → Option va_E} (ln : Int) (tk : Int) (st : Int) (bh : Int) (va : Int) (pa : Int) (fl : Int) (sz : Int) (tp : Int → Int) (cd : Int → Int) (ti : Int) (q0 : 0 ≤ ln) (q1 : ln ≤ 400) (q2 : 0 ≤ tk) (q3 : tk ≤ 355) (q4 : 0 ≤ st) (q5 : st ≤ bh) (q6 : bh ≤ ln) (q7 : 0 ≤ va) (q8 : va ≤ 1001) (q9 : 0 ≤ pa) (q10 : pa ≤ 50) (q11 : zr fl) (q12 : 0 ≤ sz) (q13 : sz ≤ 412) (q14 : TokL tk st bh) (q15 : Rg tp 400 0 255) (q16 : Rg cd 412 (-2147483648) 2147483647) (q17 : TkX tp ln ti tk st bh va) (q18 : 0 ≤ ti) (hk54 : fh 54 = some (.inr (5, [.ref 55, .int (zI ln), .int (zI tk), .int (zI st), .int (zI bh), .int (zI va), .int (zI pa), .int (zI fl), .ref 56, .int (zI sz)]))) (hk55 : fh 55 = some (.inl (0, 400, .inl (zA tp)))) (hk56 : fh 56 = some (.inl (0, 412, .inl (zA cd)))) : JM l G yX5_sum MX5_sum { frames := 28, cells := 0, slots := 0, locals := 626 } [.ref 54, .int (zI 3)] (nh, fh) (fun rr h9 => (∃ tk2 : Int, ∃ st2 : Int, ∃ bh2 : Int, ∃ va2 : Int, ∃ pa2 : Int, ∃ sz2 : Int, ∃ cd2 : Int → Int, ∃ ti2 : Int, rr = some (.int (zI 1)) ∧ h9 = (nh, hc fh [(54, .inr (5, [.ref 55, .int (zI ln), .int (zI tk2), .int (zI st2), .int (zI bh2), .int (zI va2), .int (zI pa2), .int (zI fl), .ref 56, .int (zI sz2)])), (56, .inl (0, 412, .inl (zA cd2)))]) ∧ (0 ≤ tk2) ∧ (tk2 ≤ 355) ∧ (0 ≤ st2) ∧ (st2 ≤ bh2) ∧ (bh2 ≤ ln) ∧ (0 ≤ va2) ∧ (va2 ≤ 1001) ∧ (0 ≤ pa2) ∧ (pa2 ≤ 50) ∧ (0 ≤ sz2) ∧ (sz2 ≤ 412) ∧ (TokL tk2 st2 bh2) ∧ (Rg cd2 412 (-2147483648) 2147483647) ∧ (sz2 + st ≤ sz + st2) ∧ (st ≤ st2) ∧ (TkX tp ln ti2 tk2 st2 bh2 va2) ∧ (0 ≤ ti2) ∧ (SmR (CTk tp ln) (LF tp ln) 5 ti pa 1 ti2 pa2)) ∨ (∃ tk2 : Int, ∃ st2 : Int, ∃ bh2 : Int, ∃ va2 : Int, ∃ pa2 : Int, ∃ sz2 : Int, ∃ cd2 : Int → Int, ∃ fl2 : Int, ∃ ti2 : Int, rr = some (.int (zI 0)) ∧ h9 = (nh, hc fh [(54, .inr (5, [.ref 55, .int (zI ln), .int (zI tk2), .int (zI st2), .int (zI bh2), .int (zI va2), .int (zI pa2), .int (zI fl2), .ref 56, .int (zI sz2)])), (56, .inl (0, 412, .inl (zA cd2)))]) ∧ (0 ≤ tk2) ∧ (tk2 ≤ 355) ∧ (0 ≤ st2) ∧ (st2 ≤ bh2) ∧ (bh2 ≤ ln) ∧ (0 ≤ va2) ∧ (va2 ≤ 1001) ∧ (0 ≤ pa2) ∧ (pa2 ≤ 50) ∧ (0 ≤ sz2) ∧ (sz2 ≤ 412) ∧ (TokL tk2 st2 bh2) ∧ (Rg cd2 412 (-2147483648) 2147483647) ∧ (0 ≤ fl2) ∧ (fl2 ≤ 400) ∧ (FlX tp ln ti2 fl2) ∧ (SmR (CTk tp ln) (LF tp ln) 5 ti pa 0 ti2 0))) := by
  refine JM.of (by decide) rfl (fun h => by cases h) (Nat.le_of_ble_eq_true rfl) ⟨2, rfl⟩ ?_
  refine J_hc0 (J_ls (ls2 := [some (.ref 54), some (.int (zI 3)), none, none]) rfl ?_)
  refine J_aload_n dX5_sum_0 rfl rfl ?_
  refine J_iload_n dX5_sum_1 rfl rfl ?_
  refine J_callV (st := []) dX5_sum_2 cv_X5_89 (d_term3 ln tk st bh va pa fl sz tp cd ti q0 q1 q2 q3 q4 q5 q6 q7 q8 q9 q10 q11 q12 q13 q14 q15 q16 q17 q18 hk54 hk55 hk56) hk54 rfl rfl (Nat.le_of_ble_eq_true rfl) ⟨(Nat.le_of_ble_eq_true rfl), (Nat.le_of_ble_eq_true rfl)⟩ ⟨(Nat.le_of_ble_eq_true rfl), (Nat.le_of_ble_eq_true rfl)⟩ (fun r h9 hp => ?_)
  rcases hp with ⟨z1, z2, z3, z4, z5, z6, f7, z8, rfl, rfl, h9, h10, h11, h12, h13, h14, h15, h16, h17, h18, h19, h20, h21, h22, h23, h24, h25, h26⟩ | ⟨z27, z28, z29, z30, z31, z32, f33, z34, z35, rfl, rfl, h36, h37, h38, h39, h40, h41, h42, h43, h44, h45, h46, h47, h48, h49, h50, h51, h52⟩
  · refine J_nf (nh2 := nh) (ck2 := 0) (sk2 := 0) (st2 := [.int (zI 1)]) rfl rfl rfl rfl ?_
    refine J_app (L3 := [(54, .inr (5, [.ref 55, .int (zI ln), .int (zI z1), .int (zI z2), .int (zI z3), .int (zI z4), .int (zI z5), .int (zI fl), .ref 56, .int (zI z6)])), (56, .inl (0, 412, .inl (zA f7)))]) rfl ?_
    refine Z_if_ne (tgt := 10) dX5_sum_5 (by decide) v_4dcc24baa7 (fun h53 => ?_) (fun h53 => absurd h53 v_3a47bfd896)
    refine Z_iconst (n := 0) dX5_sum_10 ?_
    refine J_istore_n dX5_sum_11 rfl (Nat.le_of_ble_eq_true rfl) rfl ?_
    refine J_ls (ls2 := [some (.ref 54), some (.int (zI 3)), some (.int (zI 0)), none]) rfl ?_
    have lp12 : ∀ (N12 : Nat) (i_12 : Int) (tx_12 : Int) (sx_12 : Int) (bx_12 : Int) (vx_12 : Int) (px_12 : Int) (zx_12 : Int) (cx_12 : Int → Int) (ti_12 : Int), (0 ≤ i_12) → (i_12 ≤ 400) → (zx_12 + st ≤ sz + sx_12) → (st ≤ sx_12) → (0 ≤ tx_12) → (tx_12 ≤ 355) → (0 ≤ sx_12) → (sx_12 ≤ bx_12) → (bx_12 ≤ ln) → (0 ≤ vx_12) → (vx_12 ≤ 1001) → (TokL tx_12 sx_12 bx_12) → (Rg cx_12 412 (-2147483648) 2147483647) → (0 ≤ zx_12) → (zx_12 ≤ 412) → (0 ≤ px_12) → (px_12 ≤ 50) → (st + i_12 ≤ sx_12) → (TkX tp ln ti_12 tx_12 sx_12 bx_12 vx_12) → (0 ≤ ti_12) → (SeP (TmR (CTk tp ln) (LF tp ln) 5) opA (CTk tp ln) ti pa ti_12 px_12) → (400 - i_12).toNat < N12 → J l G MX5_sum { frames := 28, cells := 0, slots := 0, locals := 626 } jE (jMQ G { frames := 28, cells := 0, slots := 0, locals := 626 } (fun rr h9 => (∃ tk2 : Int, ∃ st2 : Int, ∃ bh2 : Int, ∃ va2 : Int, ∃ pa2 : Int, ∃ sz2 : Int, ∃ cd2 : Int → Int, ∃ ti2 : Int, rr = some (.int (zI 1)) ∧ h9 = (nh, hc fh [(54, .inr (5, [.ref 55, .int (zI ln), .int (zI tk2), .int (zI st2), .int (zI bh2), .int (zI va2), .int (zI pa2), .int (zI fl), .ref 56, .int (zI sz2)])), (56, .inl (0, 412, .inl (zA cd2)))]) ∧ (0 ≤ tk2) ∧ (tk2 ≤ 355) ∧ (0 ≤ st2) ∧ (st2 ≤ bh2) ∧ (bh2 ≤ ln) ∧ (0 ≤ va2) ∧ (va2 ≤ 1001) ∧ (0 ≤ pa2) ∧ (pa2 ≤ 50) ∧ (0 ≤ sz2) ∧ (sz2 ≤ 412) ∧ (TokL tk2 st2 bh2) ∧ (Rg cd2 412 (-2147483648) 2147483647) ∧ (sz2 + st ≤ sz + st2) ∧ (st ≤ st2) ∧ (TkX tp ln ti2 tk2 st2 bh2 va2) ∧ (0 ≤ ti2) ∧ (SmR (CTk tp ln) (LF tp ln) 5 ti pa 1 ti2 pa2)) ∨ (∃ tk2 : Int, ∃ st2 : Int, ∃ bh2 : Int, ∃ va2 : Int, ∃ pa2 : Int, ∃ sz2 : Int, ∃ cd2 : Int → Int, ∃ fl2 : Int, ∃ ti2 : Int, rr = some (.int (zI 0)) ∧ h9 = (nh, hc fh [(54, .inr (5, [.ref 55, .int (zI ln), .int (zI tk2), .int (zI st2), .int (zI bh2), .int (zI va2), .int (zI pa2), .int (zI fl2), .ref 56, .int (zI sz2)])), (56, .inl (0, 412, .inl (zA cd2)))]) ∧ (0 ≤ tk2) ∧ (tk2 ≤ 355) ∧ (0 ≤ st2) ∧ (st2 ≤ bh2) ∧ (bh2 ≤ ln) ∧ (0 ≤ va2) ∧ (va2 ≤ 1001) ∧ (0 ≤ pa2) ∧ (pa2 ≤ 50) ∧ (0 ≤ sz2) ∧ (sz2 ≤ 412) ∧ (TokL tk2 st2 bh2) ∧ (Rg cd2 412 (-2147483648) 2147483647) ∧ (0 ≤ fl2) ∧ (fl2 ≤ 400) ∧ (FlX tp ln ti2 fl2) ∧ (SmR (CTk tp ln) (LF tp ln) 5 ti pa 0 ti2 0)))) (nh, hc fh [(54, .inr (5, [.ref 55, .int (zI ln), .int (zI tx_12), .int (zI sx_12), .int (zI bx_12), .int (zI vx_12), .int (zI px_12), .int (zI fl), .ref 56, .int (zI zx_12)])), (56, .inl (0, 412, .inl (zA cx_12)))]) 0 0 12 [some (.ref 54), some (.int (zI 3)), some (.int (zI i_12)), none] [] := by
      intro N12
      induction N12 with
      | zero => intro i_12 tx_12 sx_12 bx_12 vx_12 px_12 zx_12 cx_12 ti_12 i12_0 i12_1 i12_2 i12_3 i12_4 i12_5 i12_6 i12_7 i12_8 i12_9 i12_10 i12_11 i12_12 i12_13 i12_14 i12_15 i12_16 i12_17 i12_18 i12_19 i12_20 hm; exact absurd hm (Nat.not_lt_zero _)
      | succ N12 ih12 =>
        intro i_12 tx_12 sx_12 bx_12 vx_12 px_12 zx_12 cx_12 ti_12 i12_0 i12_1 i12_2 i12_3 i12_4 i12_5 i12_6 i12_7 i12_8 i12_9 i12_10 i12_11 i12_12 i12_13 i12_14 i12_15 i12_16 i12_17 i12_18 i12_19 i12_20 hm12
        refine J_iload_n dX5_sum_12 rfl rfl ?_
        refine Z_sipush (n := 400) dX5_sum_13 (by decide +kernel) ?_
        refine Z_icmp_ge (tgt := 79) dX5_sum_16 (by decide) (v_d7389cde0f i12_0 i12_1) v_d8dcd4dd52 (fun h54 => ?_) (fun h54 => ?_)
        · have g55 : tx_12 = 17 := TkX.lo i12_18 (v_96ef693267 q1 q4 i12_7 i12_8 i12_17 h54)
          refine Z_iconst (n := 1) dX5_sum_79 ?_
          exact J_iret dX5_sum_80 rfl (jbn v_316afd7d0b v_bbcfac9b7d) (Nat.le_of_ble_eq_true rfl) (Nat.le_of_ble_eq_true rfl) (Or.inl ⟨tx_12, sx_12, bx_12, vx_12, px_12, zx_12, cx_12, ti_12, rfl, rfl, i12_4, i12_5, i12_6, i12_7, i12_8, i12_9, i12_10, i12_15, i12_16, i12_13, i12_14, i12_11, i12_12, i12_2, i12_3, i12_18, i12_19, (SeP.end i12_20 (fun w => Or.elim w (fun w => absurd ((TkX.sg i12_18 (v := 143) (by decide)).mp w) (v_01b9cf9fa7 g55)) (fun w => absurd ((TkX.sg i12_18 (v := 145) (by decide)).mp w) (v_03a7f166d3 g55))))⟩)
        · refine J_aload_n dX5_sum_19 rfl rfl ?_
          refine Z_bipush (n := 43) dX5_sum_20 (by decide +kernel) ?_
          refine J_callV (st := []) dX5_sum_22 cv_X5_50 (d_isSign 43 ln tx_12 sx_12 bx_12 vx_12 px_12 fl zx_12 v_8b70ad274a v_ff10987188 i12_4 i12_5 rfl) rfl rfl rfl (Nat.le_of_ble_eq_true rfl) ⟨(Nat.le_of_ble_eq_true rfl), (Nat.le_of_ble_eq_true rfl)⟩ ⟨(Nat.le_of_ble_eq_true rfl), (Nat.le_of_ble_eq_true rfl)⟩ (fun r h9 hp => ?_)
          rcases hp with ⟨rfl, rfl, h56⟩ | ⟨rfl, rfl, h57⟩
          · refine J_nf (nh2 := nh) (ck2 := 0) (sk2 := 0) (st2 := [.int (zI 1)]) rfl rfl rfl rfl ?_
            refine Z_if_ne (tgt := 37) dX5_sum_25 (by decide) v_4dcc24baa7 (fun h58 => ?_) (fun h58 => absurd h58 v_3a47bfd896)
            refine J_aload_n dX5_sum_37 rfl rfl ?_
            refine Z_bipush (n := 43) dX5_sum_38 (by decide +kernel) ?_
            refine J_callV (st := []) dX5_sum_40 cv_X5_50 (d_isSign 43 ln tx_12 sx_12 bx_12 vx_12 px_12 fl zx_12 v_8b70ad274a v_ff10987188 i12_4 i12_5 rfl) rfl rfl rfl (Nat.le_of_ble_eq_true rfl) ⟨(Nat.le_of_ble_eq_true rfl), (Nat.le_of_ble_eq_true rfl)⟩ ⟨(Nat.le_of_ble_eq_true rfl), (Nat.le_of_ble_eq_true rfl)⟩ (fun r h9 hp => ?_)
            rcases hp with ⟨rfl, rfl, h59⟩ | ⟨rfl, rfl, h60⟩
            · refine J_nf (nh2 := nh) (ck2 := 0) (sk2 := 0) (st2 := [.int (zI 1)]) rfl rfl rfl rfl ?_
              refine Z_if_eq (tgt := 50) dX5_sum_43 (by decide) v_4dcc24baa7 (fun h61 => absurd h61 v_3a47bfd896) (fun h61 => ?_)
              refine Z_iconst (n := 2) dX5_sum_46 ?_
              refine J_goto (tgt := 51) dX5_sum_47 (by decide) ?_
              refine J_istore_n dX5_sum_51 rfl (Nat.le_of_ble_eq_true rfl) rfl ?_
              refine J_ls (ls2 := [some (.ref 54), some (.int (zI 3)), some (.int (zI i_12)), some (.int (zI 2))]) rfl ?_
              refine J_aload_n dX5_sum_52 rfl rfl ?_
              have g62 := TokL.lt i12_11 (v_7a588369ee h56)
              refine J_callV (st := []) dX5_sum_53 cv_X5_43 (d_advance (ti_12 + 1) ln tx_12 sx_12 bx_12 vx_12 px_12 fl zx_12 tp q0 q1 (v_d253cb2c59 i12_6 g62) i12_8 i12_9 i12_10 q15 (TkX.ps i12_18 (v_2b02420001 i12_19)) rfl hk55) rfl rfl rfl (Nat.le_of_ble_eq_true rfl) ⟨(Nat.le_of_ble_eq_true rfl), (Nat.le_of_ble_eq_true rfl)⟩ ⟨(Nat.le_of_ble_eq_true rfl), (Nat.le_of_ble_eq_true rfl)⟩ (fun r h9 hp => ?_)
              obtain ⟨z63, z64, z65, z66, rfl, rfl, h67, h68, h69, h70, h71, h72, h73, h74, h75⟩ := hp
              refine J_nf (nh2 := nh) (ck2 := 0) (sk2 := 0) (st2 := []) rfl rfl rfl rfl ?_
              refine J_app (L3 := [(54, .inr (5, [.ref 55, .int (zI ln), .int (zI z63), .int (zI z64), .int (zI z65), .int (zI z66), .int (zI px_12), .int (zI fl), .ref 56, .int (zI zx_12)])), (54, .inr (5, [.ref 55, .int (zI ln), .int (zI tx_12), .int (zI sx_12), .int (zI bx_12), .int (zI vx_12), .int (zI px_12), .int (zI fl), .ref 56, .int (zI zx_12)])), (56, .inl (0, 412, .inl (zA cx_12)))]) rfl ?_
              refine J_mask (L2 := [(54, .inr (5, [.ref 55, .int (zI ln), .int (zI z63), .int (zI z64), .int (zI z65), .int (zI z66), .int (zI px_12), .int (zI fl), .ref 56, .int (zI zx_12)])), (56, .inl (0, 412, .inl (zA cx_12)))]) (ks := [54, 54, 56]) [true, false, true] rfl (by decide +kernel) rfl ?_
              refine J_aload_n dX5_sum_56 rfl rfl ?_
              refine J_iload_n dX5_sum_57 rfl rfl ?_
              refine J_callV (st := []) dX5_sum_58 cv_X5_89 (d_term3 ln z63 z64 z65 z66 px_12 fl zx_12 tp cx_12 (ti_12 + 1) q0 q1 h67 h68 (v_9b2e2070a2 i12_6 g62 h69) h70 h71 h72 h73 i12_15 i12_16 q11 i12_13 i12_14 h74 q15 i12_12 h75 (v_da458fa48a i12_19) rfl hk55 rfl) rfl rfl rfl (Nat.le_of_ble_eq_true rfl) ⟨(Nat.le_of_ble_eq_true rfl), (Nat.le_of_ble_eq_true rfl)⟩ ⟨(Nat.le_of_ble_eq_true rfl), (Nat.le_of_ble_eq_true rfl)⟩ (fun r h9 hp => ?_)
              rcases hp with ⟨z76, z77, z78, z79, z80, z81, f82, z83, rfl, rfl, h84, h85, h86, h87, h88, h89, h90, h91, h92, h93, h94, h95, h96, h97, h98, h99, h100, h101⟩ | ⟨z102, z103, z104, z105, z106, z107, f108, z109, z110, rfl, rfl, h111, h112, h113, h114, h115, h116, h117, h118, h119, h120, h121, h122, h123, h124, h125, h126, h127⟩
              · refine J_nf (nh2 := nh) (ck2 := 0) (sk2 := 0) (st2 := [.int (zI 1)]) rfl rfl rfl rfl ?_
                refine J_app (L3 := [(54, .inr (5, [.ref 55, .int (zI ln), .int (zI z76), .int (zI z77), .int (zI z78), .int (zI z79), .int (zI z80), .int (zI fl), .ref 56, .int (zI z81)])), (56, .inl (0, 412, .inl (zA f82))), (54, .inr (5, [.ref 55, .int (zI ln), .int (zI z63), .int (zI z64), .int (zI z65), .int (zI z66), .int (zI px_12), .int (zI fl), .ref 56, .int (zI zx_12)])), (56, .inl (0, 412, .inl (zA cx_12)))]) rfl ?_
                refine J_mask (L2 := [(54, .inr (5, [.ref 55, .int (zI ln), .int (zI z76), .int (zI z77), .int (zI z78), .int (zI z79), .int (zI z80), .int (zI fl), .ref 56, .int (zI z81)])), (56, .inl (0, 412, .inl (zA f82)))]) (ks := [54, 56, 54, 56]) [true, true, false, false] rfl (by decide +kernel) rfl ?_
                refine Z_if_ne (tgt := 66) dX5_sum_61 (by decide) v_4dcc24baa7 (fun h128 => ?_) (fun h128 => absurd h128 v_3a47bfd896)
                refine J_aload_n dX5_sum_66 rfl rfl ?_
                refine J_iload_n dX5_sum_67 rfl rfl ?_
                refine Z_iconst (n := 0) dX5_sum_68 ?_
                refine J_callV (st := []) dX5_sum_69 cv_X5_72 (d_emit 2 0 ln z76 z77 z78 z79 z80 fl z81 f82 v_9ea63c5f56 v_b17331891f h93 h94 h96 rfl rfl) rfl rfl rfl (Nat.le_of_ble_eq_true rfl) ⟨(Nat.le_of_ble_eq_true rfl), (Nat.le_of_ble_eq_true rfl)⟩ ⟨(Nat.le_of_ble_eq_true rfl), (Nat.le_of_ble_eq_true rfl)⟩ (fun r h9 hp => ?_)
                obtain ⟨z129, f130, rfl, rfl, h131, h132, h133, h134, h135⟩ := hp
                refine J_nf (nh2 := nh) (ck2 := 0) (sk2 := 0) (st2 := [.int (zI z81)]) rfl rfl rfl rfl ?_
                refine J_app (L3 := [(54, .inr (5, [.ref 55, .int (zI ln), .int (zI z76), .int (zI z77), .int (zI z78), .int (zI z79), .int (zI z80), .int (zI fl), .ref 56, .int (zI z129)])), (56, .inl (0, 412, .inl (zA f130))), (54, .inr (5, [.ref 55, .int (zI ln), .int (zI z76), .int (zI z77), .int (zI z78), .int (zI z79), .int (zI z80), .int (zI fl), .ref 56, .int (zI z81)])), (56, .inl (0, 412, .inl (zA f82)))]) rfl ?_
                refine J_mask (L2 := [(54, .inr (5, [.ref 55, .int (zI ln), .int (zI z76), .int (zI z77), .int (zI z78), .int (zI z79), .int (zI z80), .int (zI fl), .ref 56, .int (zI z129)])), (56, .inl (0, 412, .inl (zA f130)))]) (ks := [54, 56, 54, 56]) [true, true, false, false] rfl (by decide +kernel) rfl ?_
                refine J_pop dX5_sum_72 rfl ?_
                refine Z_iinc (c := i_12 + 1) (ls2 := [some (.ref 54), some (.int (zI 3)), some (.int (zI (i_12 + 1))), some (.int (zI 2))]) dX5_sum_73 rfl (Nat.le_of_ble_eq_true rfl) rfl rfl rfl ?_
                refine J_goto (tgt := 12) dX5_sum_76 (by decide) ?_
                refine J_drop (ls2 := [some (.ref 54), some (.int (zI 3)), some (.int (zI (i_12 + 1))), none]) [true, true, true, false] rfl ?_
                exact ih12 (i_12 + 1) z76 z77 z78 z79 z80 z129 f130 z83 (v_da458fa48a i12_0) (v_6924477667 h54) (v_5af1455273 i12_2 g62 h69 h97 h134) (v_269579bf42 i12_3 g62 h69 h98) h84 h85 h86 h87 h88 h89 h90 h95 h135 h131 h132 h91 h92 (v_974edc800f i12_17 g62 h69 h98) h99 h100 (SeP.add i12_20 (Or.inl ((TkX.sg i12_18 (v := 143) (by decide)).mpr (v_b4c0db470d h56))) h101) (meas_lt v_ceb2ed6d2b (v_44ddc35e90 h54) hm12)
              · refine J_nf (nh2 := nh) (ck2 := 0) (sk2 := 0) (st2 := [.int (zI 0)]) rfl rfl rfl rfl ?_
                refine J_app (L3 := [(54, .inr (5, [.ref 55, .int (zI ln), .int (zI z102), .int (zI z103), .int (zI z104), .int (zI z105), .int (zI z106), .int (zI z109), .ref 56, .int (zI z107)])), (56, .inl (0, 412, .inl (zA f108))), (54, .inr (5, [.ref 55, .int (zI ln), .int (zI z63), .int (zI z64), .int (zI z65), .int (zI z66), .int (zI px_12), .int (zI fl), .ref 56, .int (zI zx_12)])), (56, .inl (0, 412, .inl (zA cx_12)))]) rfl ?_
                refine J_mask (L2 := [(54, .inr (5, [.ref 55, .int (zI ln), .int (zI z102), .int (zI z103), .int (zI z104), .int (zI z105), .int (zI z106), .int (zI z109), .ref 56, .int (zI z107)])), (56, .inl (0, 412, .inl (zA f108)))]) (ks := [54, 56, 54, 56]) [true, true, false, false] rfl (by decide +kernel) rfl ?_
                refine Z_if_ne (tgt := 66) dX5_sum_61 (by decide) v_b17331891f (fun h136 => absurd h136 (fun q => q v_2ca2bbca1f)) (fun h136 => ?_)
                refine Z_iconst (n := 0) dX5_sum_64 ?_
                exact J_iret dX5_sum_65 rfl (jbn v_939070ca3f v_316afd7d0b) (Nat.le_of_ble_eq_true rfl) (Nat.le_of_ble_eq_true rfl) (Or.inr ⟨z102, z103, z104, z105, z106, z107, f108, z109, z110, rfl, rfl, h111, h112, h113, h114, h115, h116, h117, h118, h119, h120, h121, h122, h123, h124, h125, (h126), (SeP.bad i12_20 (Or.inl ((TkX.sg i12_18 (v := 143) (by decide)).mpr (v_b4c0db470d h56))) h127)⟩)
            · exact False.elim (v_a48d9a0d20 h56 h60)
          · refine J_nf (nh2 := nh) (ck2 := 0) (sk2 := 0) (st2 := [.int (zI 0)]) rfl rfl rfl rfl ?_
            refine Z_if_ne (tgt := 37) dX5_sum_25 (by decide) v_b17331891f (fun h137 => absurd h137 (fun q => q v_2ca2bbca1f)) (fun h137 => ?_)
            refine J_aload_n dX5_sum_28 rfl rfl ?_
            refine Z_bipush (n := 45) dX5_sum_29 (by decide +kernel) ?_
            refine J_callV (st := []) dX5_sum_31 cv_X5_50 (d_isSign 45 ln tx_12 sx_12 bx_12 vx_12 px_12 fl zx_12 v_8bc5410605 v_46bbb1acae i12_4 i12_5 rfl) rfl rfl rfl (Nat.le_of_ble_eq_true rfl) ⟨(Nat.le_of_ble_eq_true rfl), (Nat.le_of_ble_eq_true rfl)⟩ ⟨(Nat.le_of_ble_eq_true rfl), (Nat.le_of_ble_eq_true rfl)⟩ (fun r h9 hp => ?_)
            rcases hp with ⟨rfl, rfl, h138⟩ | ⟨rfl, rfl, h139⟩
            · refine J_nf (nh2 := nh) (ck2 := 0) (sk2 := 0) (st2 := [.int (zI 1)]) rfl rfl rfl rfl ?_
              refine Z_if_eq (tgt := 79) dX5_sum_34 (by decide) v_4dcc24baa7 (fun h140 => absurd h140 v_3a47bfd896) (fun h140 => ?_)
              refine J_aload_n dX5_sum_37 rfl rfl ?_
              refine Z_bipush (n := 43) dX5_sum_38 (by decide +kernel) ?_
              refine J_callV (st := []) dX5_sum_40 cv_X5_50 (d_isSign 43 ln tx_12 sx_12 bx_12 vx_12 px_12 fl zx_12 v_8b70ad274a v_ff10987188 i12_4 i12_5 rfl) rfl rfl rfl (Nat.le_of_ble_eq_true rfl) ⟨(Nat.le_of_ble_eq_true rfl), (Nat.le_of_ble_eq_true rfl)⟩ ⟨(Nat.le_of_ble_eq_true rfl), (Nat.le_of_ble_eq_true rfl)⟩ (fun r h9 hp => ?_)
              rcases hp with ⟨rfl, rfl, h141⟩ | ⟨rfl, rfl, h142⟩
              · exact False.elim (v_1d6e974349 h138 h141)
              · refine J_nf (nh2 := nh) (ck2 := 0) (sk2 := 0) (st2 := [.int (zI 0)]) rfl rfl rfl rfl ?_
                refine Z_if_eq (tgt := 50) dX5_sum_43 (by decide) v_b17331891f (fun h143 => ?_) (fun h143 => absurd h143 (fun q => q v_2ca2bbca1f))
                refine Z_iconst (n := 3) dX5_sum_50 ?_
                refine J_istore_n dX5_sum_51 rfl (Nat.le_of_ble_eq_true rfl) rfl ?_
                refine J_ls (ls2 := [some (.ref 54), some (.int (zI 3)), some (.int (zI i_12)), some (.int (zI 3))]) rfl ?_
                refine J_aload_n dX5_sum_52 rfl rfl ?_
                have g144 := TokL.lt i12_11 (v_1c70dbbeab h138)
                refine J_callV (st := []) dX5_sum_53 cv_X5_43 (d_advance (ti_12 + 1) ln tx_12 sx_12 bx_12 vx_12 px_12 fl zx_12 tp q0 q1 (v_d253cb2c59 i12_6 g144) i12_8 i12_9 i12_10 q15 (TkX.ps i12_18 (v_2b02420001 i12_19)) rfl hk55) rfl rfl rfl (Nat.le_of_ble_eq_true rfl) ⟨(Nat.le_of_ble_eq_true rfl), (Nat.le_of_ble_eq_true rfl)⟩ ⟨(Nat.le_of_ble_eq_true rfl), (Nat.le_of_ble_eq_true rfl)⟩ (fun r h9 hp => ?_)
                obtain ⟨z145, z146, z147, z148, rfl, rfl, h149, h150, h151, h152, h153, h154, h155, h156, h157⟩ := hp
                refine J_nf (nh2 := nh) (ck2 := 0) (sk2 := 0) (st2 := []) rfl rfl rfl rfl ?_
                refine J_app (L3 := [(54, .inr (5, [.ref 55, .int (zI ln), .int (zI z145), .int (zI z146), .int (zI z147), .int (zI z148), .int (zI px_12), .int (zI fl), .ref 56, .int (zI zx_12)])), (54, .inr (5, [.ref 55, .int (zI ln), .int (zI tx_12), .int (zI sx_12), .int (zI bx_12), .int (zI vx_12), .int (zI px_12), .int (zI fl), .ref 56, .int (zI zx_12)])), (56, .inl (0, 412, .inl (zA cx_12)))]) rfl ?_
                refine J_mask (L2 := [(54, .inr (5, [.ref 55, .int (zI ln), .int (zI z145), .int (zI z146), .int (zI z147), .int (zI z148), .int (zI px_12), .int (zI fl), .ref 56, .int (zI zx_12)])), (56, .inl (0, 412, .inl (zA cx_12)))]) (ks := [54, 54, 56]) [true, false, true] rfl (by decide +kernel) rfl ?_
                refine J_aload_n dX5_sum_56 rfl rfl ?_
                refine J_iload_n dX5_sum_57 rfl rfl ?_
                refine J_callV (st := []) dX5_sum_58 cv_X5_89 (d_term3 ln z145 z146 z147 z148 px_12 fl zx_12 tp cx_12 (ti_12 + 1) q0 q1 h149 h150 (v_9b2e2070a2 i12_6 g144 h151) h152 h153 h154 h155 i12_15 i12_16 q11 i12_13 i12_14 h156 q15 i12_12 h157 (v_da458fa48a i12_19) rfl hk55 rfl) rfl rfl rfl (Nat.le_of_ble_eq_true rfl) ⟨(Nat.le_of_ble_eq_true rfl), (Nat.le_of_ble_eq_true rfl)⟩ ⟨(Nat.le_of_ble_eq_true rfl), (Nat.le_of_ble_eq_true rfl)⟩ (fun r h9 hp => ?_)
                rcases hp with ⟨z158, z159, z160, z161, z162, z163, f164, z165, rfl, rfl, h166, h167, h168, h169, h170, h171, h172, h173, h174, h175, h176, h177, h178, h179, h180, h181, h182, h183⟩ | ⟨z184, z185, z186, z187, z188, z189, f190, z191, z192, rfl, rfl, h193, h194, h195, h196, h197, h198, h199, h200, h201, h202, h203, h204, h205, h206, h207, h208, h209⟩
                · refine J_nf (nh2 := nh) (ck2 := 0) (sk2 := 0) (st2 := [.int (zI 1)]) rfl rfl rfl rfl ?_
                  refine J_app (L3 := [(54, .inr (5, [.ref 55, .int (zI ln), .int (zI z158), .int (zI z159), .int (zI z160), .int (zI z161), .int (zI z162), .int (zI fl), .ref 56, .int (zI z163)])), (56, .inl (0, 412, .inl (zA f164))), (54, .inr (5, [.ref 55, .int (zI ln), .int (zI z145), .int (zI z146), .int (zI z147), .int (zI z148), .int (zI px_12), .int (zI fl), .ref 56, .int (zI zx_12)])), (56, .inl (0, 412, .inl (zA cx_12)))]) rfl ?_
                  refine J_mask (L2 := [(54, .inr (5, [.ref 55, .int (zI ln), .int (zI z158), .int (zI z159), .int (zI z160), .int (zI z161), .int (zI z162), .int (zI fl), .ref 56, .int (zI z163)])), (56, .inl (0, 412, .inl (zA f164)))]) (ks := [54, 56, 54, 56]) [true, true, false, false] rfl (by decide +kernel) rfl ?_
                  refine Z_if_ne (tgt := 66) dX5_sum_61 (by decide) v_4dcc24baa7 (fun h210 => ?_) (fun h210 => absurd h210 v_3a47bfd896)
                  refine J_aload_n dX5_sum_66 rfl rfl ?_
                  refine J_iload_n dX5_sum_67 rfl rfl ?_
                  refine Z_iconst (n := 0) dX5_sum_68 ?_
                  refine J_callV (st := []) dX5_sum_69 cv_X5_72 (d_emit 3 0 ln z158 z159 z160 z161 z162 fl z163 f164 v_1cc5223c3a v_b17331891f h175 h176 h178 rfl rfl) rfl rfl rfl (Nat.le_of_ble_eq_true rfl) ⟨(Nat.le_of_ble_eq_true rfl), (Nat.le_of_ble_eq_true rfl)⟩ ⟨(Nat.le_of_ble_eq_true rfl), (Nat.le_of_ble_eq_true rfl)⟩ (fun r h9 hp => ?_)
                  obtain ⟨z211, f212, rfl, rfl, h213, h214, h215, h216, h217⟩ := hp
                  refine J_nf (nh2 := nh) (ck2 := 0) (sk2 := 0) (st2 := [.int (zI z163)]) rfl rfl rfl rfl ?_
                  refine J_app (L3 := [(54, .inr (5, [.ref 55, .int (zI ln), .int (zI z158), .int (zI z159), .int (zI z160), .int (zI z161), .int (zI z162), .int (zI fl), .ref 56, .int (zI z211)])), (56, .inl (0, 412, .inl (zA f212))), (54, .inr (5, [.ref 55, .int (zI ln), .int (zI z158), .int (zI z159), .int (zI z160), .int (zI z161), .int (zI z162), .int (zI fl), .ref 56, .int (zI z163)])), (56, .inl (0, 412, .inl (zA f164)))]) rfl ?_
                  refine J_mask (L2 := [(54, .inr (5, [.ref 55, .int (zI ln), .int (zI z158), .int (zI z159), .int (zI z160), .int (zI z161), .int (zI z162), .int (zI fl), .ref 56, .int (zI z211)])), (56, .inl (0, 412, .inl (zA f212)))]) (ks := [54, 56, 54, 56]) [true, true, false, false] rfl (by decide +kernel) rfl ?_
                  refine J_pop dX5_sum_72 rfl ?_
                  refine Z_iinc (c := i_12 + 1) (ls2 := [some (.ref 54), some (.int (zI 3)), some (.int (zI (i_12 + 1))), some (.int (zI 3))]) dX5_sum_73 rfl (Nat.le_of_ble_eq_true rfl) rfl rfl rfl ?_
                  refine J_goto (tgt := 12) dX5_sum_76 (by decide) ?_
                  refine J_drop (ls2 := [some (.ref 54), some (.int (zI 3)), some (.int (zI (i_12 + 1))), none]) [true, true, true, false] rfl ?_
                  exact ih12 (i_12 + 1) z158 z159 z160 z161 z162 z211 f212 z165 (v_da458fa48a i12_0) (v_6924477667 h54) (v_5af1455273 i12_2 g144 h151 h179 h216) (v_269579bf42 i12_3 g144 h151 h180) h166 h167 h168 h169 h170 h171 h172 h177 h217 h213 h214 h173 h174 (v_974edc800f i12_17 g144 h151 h180) h181 h182 (SeP.add i12_20 (Or.inr ((TkX.sg i12_18 (v := 145) (by decide)).mpr (v_7912200c83 h138))) h183) (meas_lt v_ceb2ed6d2b (v_44ddc35e90 h54) hm12)
                · refine J_nf (nh2 := nh) (ck2 := 0) (sk2 := 0) (st2 := [.int (zI 0)]) rfl rfl rfl rfl ?_
                  refine J_app (L3 := [(54, .inr (5, [.ref 55, .int (zI ln), .int (zI z184), .int (zI z185), .int (zI z186), .int (zI z187), .int (zI z188), .int (zI z191), .ref 56, .int (zI z189)])), (56, .inl (0, 412, .inl (zA f190))), (54, .inr (5, [.ref 55, .int (zI ln), .int (zI z145), .int (zI z146), .int (zI z147), .int (zI z148), .int (zI px_12), .int (zI fl), .ref 56, .int (zI zx_12)])), (56, .inl (0, 412, .inl (zA cx_12)))]) rfl ?_
                  refine J_mask (L2 := [(54, .inr (5, [.ref 55, .int (zI ln), .int (zI z184), .int (zI z185), .int (zI z186), .int (zI z187), .int (zI z188), .int (zI z191), .ref 56, .int (zI z189)])), (56, .inl (0, 412, .inl (zA f190)))]) (ks := [54, 56, 54, 56]) [true, true, false, false] rfl (by decide +kernel) rfl ?_
                  refine Z_if_ne (tgt := 66) dX5_sum_61 (by decide) v_b17331891f (fun h218 => absurd h218 (fun q => q v_2ca2bbca1f)) (fun h218 => ?_)
                  refine Z_iconst (n := 0) dX5_sum_64 ?_
                  exact J_iret dX5_sum_65 rfl (jbn v_939070ca3f v_316afd7d0b) (Nat.le_of_ble_eq_true rfl) (Nat.le_of_ble_eq_true rfl) (Or.inr ⟨z184, z185, z186, z187, z188, z189, f190, z191, z192, rfl, rfl, h193, h194, h195, h196, h197, h198, h199, h200, h201, h202, h203, h204, h205, h206, h207, (h208), (SeP.bad i12_20 (Or.inr ((TkX.sg i12_18 (v := 145) (by decide)).mpr (v_7912200c83 h138))) h209)⟩)
            · refine J_nf (nh2 := nh) (ck2 := 0) (sk2 := 0) (st2 := [.int (zI 0)]) rfl rfl rfl rfl ?_
              refine Z_if_eq (tgt := 79) dX5_sum_34 (by decide) v_b17331891f (fun h219 => ?_) (fun h219 => absurd h219 (fun q => q v_2ca2bbca1f))
              refine Z_iconst (n := 1) dX5_sum_79 ?_
              exact J_iret dX5_sum_80 rfl (jbn v_316afd7d0b v_bbcfac9b7d) (Nat.le_of_ble_eq_true rfl) (Nat.le_of_ble_eq_true rfl) (Or.inl ⟨tx_12, sx_12, bx_12, vx_12, px_12, zx_12, cx_12, ti_12, rfl, rfl, i12_4, i12_5, i12_6, i12_7, i12_8, i12_9, i12_10, i12_15, i12_16, i12_13, i12_14, i12_11, i12_12, i12_2, i12_3, i12_18, i12_19, (SeP.end i12_20 (fun w => Or.elim w (fun w => absurd ((TkX.sg i12_18 (v := 143) (by decide)).mp w) (v_4e9b5acef3 h57)) (fun w => absurd ((TkX.sg i12_18 (v := 145) (by decide)).mp w) (v_fa17f015bb h139))))⟩)
    exact lp12 _ 0 z1 z2 z3 z4 z5 z6 f7 z8 v_939070ca3f v_5ab96f7b5e h22 h23 h9 h10 h11 h12 h13 h14 h15 h20 h21 h18 h19 h16 h17 (v_3c1faf939c h23) h24 h25 (SeP.one h26) (Nat.lt_succ_self _)
  · refine J_nf (nh2 := nh) (ck2 := 0) (sk2 := 0) (st2 := [.int (zI 0)]) rfl rfl rfl rfl ?_
    refine J_app (L3 := [(54, .inr (5, [.ref 55, .int (zI ln), .int (zI z27), .int (zI z28), .int (zI z29), .int (zI z30), .int (zI z31), .int (zI z34), .ref 56, .int (zI z32)])), (56, .inl (0, 412, .inl (zA f33)))]) rfl ?_
    refine Z_if_ne (tgt := 10) dX5_sum_5 (by decide) v_b17331891f (fun h220 => absurd h220 (fun q => q v_2ca2bbca1f)) (fun h220 => ?_)
    refine Z_iconst (n := 0) dX5_sum_8 ?_
    exact J_iret dX5_sum_9 rfl (jbn v_939070ca3f v_316afd7d0b) (Nat.le_of_ble_eq_true rfl) (Nat.le_of_ble_eq_true rfl) (Or.inr ⟨z27, z28, z29, z30, z31, z32, f33, z34, z35, rfl, rfl, h36, h37, h38, h39, h40, h41, h42, h43, h44, h45, h46, h47, h48, h49, h50, (h51), (SeR.b h52)⟩)
