set_option maxHeartbeats 4000000 in
set_option maxRecDepth 100000 in
theorem d_sum1 {l : Launch} {G : jG} {nh : Nat} {fh : Nat → Option va_E} (ln : Int) (tk : Int) (st : Int) (bh : Int) (va : Int) (pa : Int) (fl : Int) (sz : Int) (tp : Int → Int) (cd : Int → Int) (q0 : 0 ≤ ln) (q1 : ln ≤ 400) (q2 : 0 ≤ tk) (q3 : tk ≤ 355) (q4 : 0 ≤ st) (q5 : st ≤ bh) (q6 : bh ≤ ln) (q7 : 0 ≤ va) (q8 : va ≤ 1001) (q9 : 0 ≤ pa) (q10 : pa ≤ 50) (q11 : zr fl) (q12 : 0 ≤ sz) (q13 : sz ≤ 412) (q14 : TokL tk st bh) (q15 : Rg tp 400 0 255) (q16 : Rg cd 412 (-2147483648) 2147483647) (hk54 : fh 54 = some (.inr (5, [.ref 55, .int (zI ln), .int (zI tk), .int (zI st), .int (zI bh), .int (zI va), .int (zI pa), .int (zI fl), .ref 56, .int (zI sz)]))) (hk55 : fh 55 = some (.inl (0, 400, .inl (zA tp)))) (hk56 : fh 56 = some (.inl (0, 412, .inl (zA cd)))) : JM l G yX5_sum MX5_sum { frames := 36, cells := 0, slots := 0, locals := 806 } [.ref 54, .int (zI 1)] (nh, fh) (fun rr h9 => (∃ tk2 : Int, ∃ st2 : Int, ∃ bh2 : Int, ∃ va2 : Int, ∃ pa2 : Int, ∃ sz2 : Int, ∃ cd2 : Int → Int, rr = some (.int (zI 1)) ∧ h9 = (nh, hc fh [(54, .inr (5, [.ref 55, .int (zI ln), .int (zI tk2), .int (zI st2), .int (zI bh2), .int (zI va2), .int (zI pa2), .int (zI fl), .ref 56, .int (zI sz2)])), (56, .inl (0, 412, .inl (zA cd2)))]) ∧ (0 ≤ tk2) ∧ (tk2 ≤ 355) ∧ (0 ≤ st2) ∧ (st2 ≤ bh2) ∧ (bh2 ≤ ln) ∧ (0 ≤ va2) ∧ (va2 ≤ 1001) ∧ (0 ≤ pa2) ∧ (pa2 ≤ 50) ∧ (0 ≤ sz2) ∧ (sz2 ≤ 412) ∧ (TokL tk2 st2 bh2) ∧ (Rg cd2 412 (-2147483648) 2147483647) ∧ (sz2 + st ≤ sz + st2) ∧ (st ≤ st2)) ∨ (∃ tk2 : Int, ∃ st2 : Int, ∃ bh2 : Int, ∃ va2 : Int, ∃ pa2 : Int, ∃ sz2 : Int, ∃ cd2 : Int → Int, ∃ fl2 : Int, rr = some (.int (zI 0)) ∧ h9 = (nh, hc fh [(54, .inr (5, [.ref 55, .int (zI ln), .int (zI tk2), .int (zI st2), .int (zI bh2), .int (zI va2), .int (zI pa2), .int (zI fl2), .ref 56, .int (zI sz2)])), (56, .inl (0, 412, .inl (zA cd2)))]) ∧ (0 ≤ tk2) ∧ (tk2 ≤ 355) ∧ (0 ≤ st2) ∧ (st2 ≤ bh2) ∧ (bh2 ≤ ln) ∧ (0 ≤ va2) ∧ (va2 ≤ 1001) ∧ (0 ≤ pa2) ∧ (pa2 ≤ 50) ∧ (0 ≤ sz2) ∧ (sz2 ≤ 412) ∧ (TokL tk2 st2 bh2) ∧ (Rg cd2 412 (-2147483648) 2147483647) ∧ (0 ≤ fl2) ∧ (fl2 ≤ 400))) := by
  refine JM.of (by decide) rfl (fun h => by cases h) (Nat.le_of_ble_eq_true rfl) ⟨2, rfl⟩ ?_
  refine J_hc0 (J_ls (ls2 := [some (.ref 54), some (.int (zI 1)), none, none]) rfl ?_)
  refine J_aload_n dX5_sum_0 rfl rfl ?_
  refine J_iload_n dX5_sum_1 rfl rfl ?_
  refine J_callV (st := []) dX5_sum_2 cv_X5_89 (d_term1 ln tk st bh va pa fl sz tp cd q0 q1 q2 q3 q4 q5 q6 q7 q8 q9 q10 q11 q12 q13 q14 q15 q16 hk54 hk55 hk56) hk54 rfl rfl (Nat.le_of_ble_eq_true rfl) ⟨(Nat.le_of_ble_eq_true rfl), (Nat.le_of_ble_eq_true rfl)⟩ ⟨(Nat.le_of_ble_eq_true rfl), (Nat.le_of_ble_eq_true rfl)⟩ (fun r h9 hp => ?_)
  rcases hp with ⟨z1, z2, z3, z4, z5, z6, f7, rfl, rfl, h8, h9, h10, h11, h12, h13, h14, h15, h16, h17, h18, h19, h20, h21, h22⟩ | ⟨z23, z24, z25, z26, z27, z28, f29, z30, rfl, rfl, h31, h32, h33, h34, h35, h36, h37, h38, h39, h40, h41, h42, h43, h44, h45⟩
  · refine J_nf (nh2 := nh) (ck2 := 0) (sk2 := 0) (st2 := [.int (zI 1)]) rfl rfl rfl rfl ?_
    refine J_app (L3 := [(54, .inr (5, [.ref 55, .int (zI ln), .int (zI z1), .int (zI z2), .int (zI z3), .int (zI z4), .int (zI z5), .int (zI fl), .ref 56, .int (zI z6)])), (56, .inl (0, 412, .inl (zA f7)))]) rfl ?_
    refine Z_if_ne (tgt := 10) dX5_sum_5 (by decide) v_4dcc24baa7 (fun h46 => ?_) (fun h46 => absurd h46 v_3a47bfd896)
    refine Z_iconst (n := 0) dX5_sum_10 ?_
    refine J_istore_n dX5_sum_11 rfl (Nat.le_of_ble_eq_true rfl) rfl ?_
    refine J_ls (ls2 := [some (.ref 54), some (.int (zI 1)), some (.int (zI 0)), none]) rfl ?_
    have lp12 : ∀ (N12 : Nat) (i_12 : Int) (tx_12 : Int) (sx_12 : Int) (bx_12 : Int) (vx_12 : Int) (px_12 : Int) (zx_12 : Int) (cx_12 : Int → Int), (0 ≤ i_12) → (i_12 ≤ 400) → (zx_12 + st ≤ sz + sx_12) → (st ≤ sx_12) → (0 ≤ tx_12) → (tx_12 ≤ 355) → (0 ≤ sx_12) → (sx_12 ≤ bx_12) → (bx_12 ≤ ln) → (0 ≤ vx_12) → (vx_12 ≤ 1001) → (TokL tx_12 sx_12 bx_12) → (Rg cx_12 412 (-2147483648) 2147483647) → (0 ≤ zx_12) → (zx_12 ≤ 412) → (0 ≤ px_12) → (px_12 ≤ 50) → (400 - i_12).toNat < N12 → J l G MX5_sum { frames := 36, cells := 0, slots := 0, locals := 806 } jE (jMQ G { frames := 36, cells := 0, slots := 0, locals := 806 } (fun rr h9 => (∃ tk2 : Int, ∃ st2 : Int, ∃ bh2 : Int, ∃ va2 : Int, ∃ pa2 : Int, ∃ sz2 : Int, ∃ cd2 : Int → Int, rr = some (.int (zI 1)) ∧ h9 = (nh, hc fh [(54, .inr (5, [.ref 55, .int (zI ln), .int (zI tk2), .int (zI st2), .int (zI bh2), .int (zI va2), .int (zI pa2), .int (zI fl), .ref 56, .int (zI sz2)])), (56, .inl (0, 412, .inl (zA cd2)))]) ∧ (0 ≤ tk2) ∧ (tk2 ≤ 355) ∧ (0 ≤ st2) ∧ (st2 ≤ bh2) ∧ (bh2 ≤ ln) ∧ (0 ≤ va2) ∧ (va2 ≤ 1001) ∧ (0 ≤ pa2) ∧ (pa2 ≤ 50) ∧ (0 ≤ sz2) ∧ (sz2 ≤ 412) ∧ (TokL tk2 st2 bh2) ∧ (Rg cd2 412 (-2147483648) 2147483647) ∧ (sz2 + st ≤ sz + st2) ∧ (st ≤ st2)) ∨ (∃ tk2 : Int, ∃ st2 : Int, ∃ bh2 : Int, ∃ va2 : Int, ∃ pa2 : Int, ∃ sz2 : Int, ∃ cd2 : Int → Int, ∃ fl2 : Int, rr = some (.int (zI 0)) ∧ h9 = (nh, hc fh [(54, .inr (5, [.ref 55, .int (zI ln), .int (zI tk2), .int (zI st2), .int (zI bh2), .int (zI va2), .int (zI pa2), .int (zI fl2), .ref 56, .int (zI sz2)])), (56, .inl (0, 412, .inl (zA cd2)))]) ∧ (0 ≤ tk2) ∧ (tk2 ≤ 355) ∧ (0 ≤ st2) ∧ (st2 ≤ bh2) ∧ (bh2 ≤ ln) ∧ (0 ≤ va2) ∧ (va2 ≤ 1001) ∧ (0 ≤ pa2) ∧ (pa2 ≤ 50) ∧ (0 ≤ sz2) ∧ (sz2 ≤ 412) ∧ (TokL tk2 st2 bh2) ∧ (Rg cd2 412 (-2147483648) 2147483647) ∧ (0 ≤ fl2) ∧ (fl2 ≤ 400)))) (nh, hc fh [(54, .inr (5, [.ref 55, .int (zI ln), .int (zI tx_12), .int (zI sx_12), .int (zI bx_12), .int (zI vx_12), .int (zI px_12), .int (zI fl), .ref 56, .int (zI zx_12)])), (56, .inl (0, 412, .inl (zA cx_12)))]) 0 0 12 [some (.ref 54), some (.int (zI 1)), some (.int (zI i_12)), none] [] := by
      intro N12
      induction N12 with
      | zero => intro i_12 tx_12 sx_12 bx_12 vx_12 px_12 zx_12 cx_12 i12_0 i12_1 i12_2 i12_3 i12_4 i12_5 i12_6 i12_7 i12_8 i12_9 i12_10 i12_11 i12_12 i12_13 i12_14 i12_15 i12_16 hm; exact absurd hm (Nat.not_lt_zero _)
      | succ N12 ih12 =>
        intro i_12 tx_12 sx_12 bx_12 vx_12 px_12 zx_12 cx_12 i12_0 i12_1 i12_2 i12_3 i12_4 i12_5 i12_6 i12_7 i12_8 i12_9 i12_10 i12_11 i12_12 i12_13 i12_14 i12_15 i12_16 hm12
        refine J_iload_n dX5_sum_12 rfl rfl ?_
        refine Z_sipush (n := 400) dX5_sum_13 (by decide +kernel) ?_
        refine Z_icmp_ge (tgt := 79) dX5_sum_16 (by decide) (v_d7389cde0f i12_0 i12_1) v_d8dcd4dd52 (fun h47 => ?_) (fun h47 => ?_)
        · refine Z_iconst (n := 1) dX5_sum_79 ?_
          exact J_iret dX5_sum_80 rfl (jbn v_316afd7d0b v_bbcfac9b7d) (Nat.le_of_ble_eq_true rfl) (Nat.le_of_ble_eq_true rfl) (Or.inl ⟨tx_12, sx_12, bx_12, vx_12, px_12, zx_12, cx_12, rfl, rfl, i12_4, i12_5, i12_6, i12_7, i12_8, i12_9, i12_10, i12_15, i12_16, i12_13, i12_14, i12_11, i12_12, i12_2, i12_3⟩)
        · refine J_aload_n dX5_sum_19 rfl rfl ?_
          refine Z_bipush (n := 43) dX5_sum_20 (by decide +kernel) ?_
          refine J_callV (st := []) dX5_sum_22 cv_X5_50 (d_isSign 43 ln tx_12 sx_12 bx_12 vx_12 px_12 fl zx_12 v_8b70ad274a v_ff10987188 i12_4 i12_5 rfl) rfl rfl rfl (Nat.le_of_ble_eq_true rfl) ⟨(Nat.le_of_ble_eq_true rfl), (Nat.le_of_ble_eq_true rfl)⟩ ⟨(Nat.le_of_ble_eq_true rfl), (Nat.le_of_ble_eq_true rfl)⟩ (fun r h9 hp => ?_)
          rcases hp with ⟨rfl, rfl, h48⟩ | ⟨rfl, rfl, h49⟩
          · refine J_nf (nh2 := nh) (ck2 := 0) (sk2 := 0) (st2 := [.int (zI 1)]) rfl rfl rfl rfl ?_
            refine Z_if_ne (tgt := 37) dX5_sum_25 (by decide) v_4dcc24baa7 (fun h50 => ?_) (fun h50 => absurd h50 v_3a47bfd896)
            refine J_aload_n dX5_sum_37 rfl rfl ?_
            refine Z_bipush (n := 43) dX5_sum_38 (by decide +kernel) ?_
            refine J_callV (st := []) dX5_sum_40 cv_X5_50 (d_isSign 43 ln tx_12 sx_12 bx_12 vx_12 px_12 fl zx_12 v_8b70ad274a v_ff10987188 i12_4 i12_5 rfl) rfl rfl rfl (Nat.le_of_ble_eq_true rfl) ⟨(Nat.le_of_ble_eq_true rfl), (Nat.le_of_ble_eq_true rfl)⟩ ⟨(Nat.le_of_ble_eq_true rfl), (Nat.le_of_ble_eq_true rfl)⟩ (fun r h9 hp => ?_)
            rcases hp with ⟨rfl, rfl, h51⟩ | ⟨rfl, rfl, h52⟩
            · refine J_nf (nh2 := nh) (ck2 := 0) (sk2 := 0) (st2 := [.int (zI 1)]) rfl rfl rfl rfl ?_
              refine Z_if_eq (tgt := 50) dX5_sum_43 (by decide) v_4dcc24baa7 (fun h53 => absurd h53 v_3a47bfd896) (fun h53 => ?_)
              refine Z_iconst (n := 2) dX5_sum_46 ?_
              refine J_goto (tgt := 51) dX5_sum_47 (by decide) ?_
              refine J_istore_n dX5_sum_51 rfl (Nat.le_of_ble_eq_true rfl) rfl ?_
              refine J_ls (ls2 := [some (.ref 54), some (.int (zI 1)), some (.int (zI i_12)), some (.int (zI 2))]) rfl ?_
              refine J_aload_n dX5_sum_52 rfl rfl ?_
              have g54 := TokL.lt i12_11 (v_7a588369ee h48)
              refine J_callV (st := []) dX5_sum_53 cv_X5_43 (d_advance ln tx_12 sx_12 bx_12 vx_12 px_12 fl zx_12 tp q0 q1 (v_d253cb2c59 i12_6 g54) i12_8 i12_9 i12_10 q15 rfl hk55) rfl rfl rfl (Nat.le_of_ble_eq_true rfl) ⟨(Nat.le_of_ble_eq_true rfl), (Nat.le_of_ble_eq_true rfl)⟩ ⟨(Nat.le_of_ble_eq_true rfl), (Nat.le_of_ble_eq_true rfl)⟩ (fun r h9 hp => ?_)
              obtain ⟨z55, z56, z57, z58, rfl, rfl, h59, h60, h61, h62, h63, h64, h65, h66⟩ := hp
              refine J_nf (nh2 := nh) (ck2 := 0) (sk2 := 0) (st2 := []) rfl rfl rfl rfl ?_
              refine J_app (L3 := [(54, .inr (5, [.ref 55, .int (zI ln), .int (zI z55), .int (zI z56), .int (zI z57), .int (zI z58), .int (zI px_12), .int (zI fl), .ref 56, .int (zI zx_12)])), (54, .inr (5, [.ref 55, .int (zI ln), .int (zI tx_12), .int (zI sx_12), .int (zI bx_12), .int (zI vx_12), .int (zI px_12), .int (zI fl), .ref 56, .int (zI zx_12)])), (56, .inl (0, 412, .inl (zA cx_12)))]) rfl ?_
              refine J_mask (L2 := [(54, .inr (5, [.ref 55, .int (zI ln), .int (zI z55), .int (zI z56), .int (zI z57), .int (zI z58), .int (zI px_12), .int (zI fl), .ref 56, .int (zI zx_12)])), (56, .inl (0, 412, .inl (zA cx_12)))]) (ks := [54, 54, 56]) [true, false, true] rfl (by decide +kernel) rfl ?_
              refine J_aload_n dX5_sum_56 rfl rfl ?_
              refine J_iload_n dX5_sum_57 rfl rfl ?_
              refine J_callV (st := []) dX5_sum_58 cv_X5_89 (d_term1 ln z55 z56 z57 z58 px_12 fl zx_12 tp cx_12 q0 q1 h59 h60 (v_9b2e2070a2 i12_6 g54 h61) h62 h63 h64 h65 i12_15 i12_16 q11 i12_13 i12_14 h66 q15 i12_12 rfl hk55 rfl) rfl rfl rfl (Nat.le_of_ble_eq_true rfl) ⟨(Nat.le_of_ble_eq_true rfl), (Nat.le_of_ble_eq_true rfl)⟩ ⟨(Nat.le_of_ble_eq_true rfl), (Nat.le_of_ble_eq_true rfl)⟩ (fun r h9 hp => ?_)
              rcases hp with ⟨z67, z68, z69, z70, z71, z72, f73, rfl, rfl, h74, h75, h76, h77, h78, h79, h80, h81, h82, h83, h84, h85, h86, h87, h88⟩ | ⟨z89, z90, z91, z92, z93, z94, f95, z96, rfl, rfl, h97, h98, h99, h100, h101, h102, h103, h104, h105, h106, h107, h108, h109, h110, h111⟩
              · refine J_nf (nh2 := nh) (ck2 := 0) (sk2 := 0) (st2 := [.int (zI 1)]) rfl rfl rfl rfl ?_
                refine J_app (L3 := [(54, .inr (5, [.ref 55, .int (zI ln), .int (zI z67), .int (zI z68), .int (zI z69), .int (zI z70), .int (zI z71), .int (zI fl), .ref 56, .int (zI z72)])), (56, .inl (0, 412, .inl (zA f73))), (54, .inr (5, [.ref 55, .int (zI ln), .int (zI z55), .int (zI z56), .int (zI z57), .int (zI z58), .int (zI px_12), .int (zI fl), .ref 56, .int (zI zx_12)])), (56, .inl (0, 412, .inl (zA cx_12)))]) rfl ?_
                refine J_mask (L2 := [(54, .inr (5, [.ref 55, .int (zI ln), .int (zI z67), .int (zI z68), .int (zI z69), .int (zI z70), .int (zI z71), .int (zI fl), .ref 56, .int (zI z72)])), (56, .inl (0, 412, .inl (zA f73)))]) (ks := [54, 56, 54, 56]) [true, true, false, false] rfl (by decide +kernel) rfl ?_
                refine Z_if_ne (tgt := 66) dX5_sum_61 (by decide) v_4dcc24baa7 (fun h112 => ?_) (fun h112 => absurd h112 v_3a47bfd896)
                refine J_aload_n dX5_sum_66 rfl rfl ?_
                refine J_iload_n dX5_sum_67 rfl rfl ?_
                refine Z_iconst (n := 0) dX5_sum_68 ?_
                refine J_callV (st := []) dX5_sum_69 cv_X5_72 (d_emit 2 0 ln z67 z68 z69 z70 z71 fl z72 f73 v_9ea63c5f56 v_b17331891f h83 h84 h86 rfl rfl) rfl rfl rfl (Nat.le_of_ble_eq_true rfl) ⟨(Nat.le_of_ble_eq_true rfl), (Nat.le_of_ble_eq_true rfl)⟩ ⟨(Nat.le_of_ble_eq_true rfl), (Nat.le_of_ble_eq_true rfl)⟩ (fun r h9 hp => ?_)
                obtain ⟨z113, f114, rfl, rfl, h115, h116, h117, h118, h119⟩ := hp
                refine J_nf (nh2 := nh) (ck2 := 0) (sk2 := 0) (st2 := [.int (zI z72)]) rfl rfl rfl rfl ?_
                refine J_app (L3 := [(54, .inr (5, [.ref 55, .int (zI ln), .int (zI z67), .int (zI z68), .int (zI z69), .int (zI z70), .int (zI z71), .int (zI fl), .ref 56, .int (zI z113)])), (56, .inl (0, 412, .inl (zA f114))), (54, .inr (5, [.ref 55, .int (zI ln), .int (zI z67), .int (zI z68), .int (zI z69), .int (zI z70), .int (zI z71), .int (zI fl), .ref 56, .int (zI z72)])), (56, .inl (0, 412, .inl (zA f73)))]) rfl ?_
                refine J_mask (L2 := [(54, .inr (5, [.ref 55, .int (zI ln), .int (zI z67), .int (zI z68), .int (zI z69), .int (zI z70), .int (zI z71), .int (zI fl), .ref 56, .int (zI z113)])), (56, .inl (0, 412, .inl (zA f114)))]) (ks := [54, 56, 54, 56]) [true, true, false, false] rfl (by decide +kernel) rfl ?_
                refine J_pop dX5_sum_72 rfl ?_
                refine Z_iinc (c := i_12 + 1) (ls2 := [some (.ref 54), some (.int (zI 1)), some (.int (zI (i_12 + 1))), some (.int (zI 2))]) dX5_sum_73 rfl (Nat.le_of_ble_eq_true rfl) rfl rfl rfl ?_
                refine J_goto (tgt := 12) dX5_sum_76 (by decide) ?_
                refine J_drop (ls2 := [some (.ref 54), some (.int (zI 1)), some (.int (zI (i_12 + 1))), none]) [true, true, true, false] rfl ?_
                exact ih12 (i_12 + 1) z67 z68 z69 z70 z71 z113 f114 (v_da458fa48a i12_0) (v_6924477667 h47) (v_5af1455273 i12_2 g54 h61 h87 h118) (v_269579bf42 i12_3 g54 h61 h88) h74 h75 h76 h77 h78 h79 h80 h85 h119 h115 h116 h81 h82 (meas_lt v_ceb2ed6d2b (v_44ddc35e90 h47) hm12)
              · refine J_nf (nh2 := nh) (ck2 := 0) (sk2 := 0) (st2 := [.int (zI 0)]) rfl rfl rfl rfl ?_
                refine J_app (L3 := [(54, .inr (5, [.ref 55, .int (zI ln), .int (zI z89), .int (zI z90), .int (zI z91), .int (zI z92), .int (zI z93), .int (zI z96), .ref 56, .int (zI z94)])), (56, .inl (0, 412, .inl (zA f95))), (54, .inr (5, [.ref 55, .int (zI ln), .int (zI z55), .int (zI z56), .int (zI z57), .int (zI z58), .int (zI px_12), .int (zI fl), .ref 56, .int (zI zx_12)])), (56, .inl (0, 412, .inl (zA cx_12)))]) rfl ?_
                refine J_mask (L2 := [(54, .inr (5, [.ref 55, .int (zI ln), .int (zI z89), .int (zI z90), .int (zI z91), .int (zI z92), .int (zI z93), .int (zI z96), .ref 56, .int (zI z94)])), (56, .inl (0, 412, .inl (zA f95)))]) (ks := [54, 56, 54, 56]) [true, true, false, false] rfl (by decide +kernel) rfl ?_
                refine Z_if_ne (tgt := 66) dX5_sum_61 (by decide) v_b17331891f (fun h120 => absurd h120 (fun q => q v_2ca2bbca1f)) (fun h120 => ?_)
                refine Z_iconst (n := 0) dX5_sum_64 ?_
                exact J_iret dX5_sum_65 rfl (jbn v_939070ca3f v_316afd7d0b) (Nat.le_of_ble_eq_true rfl) (Nat.le_of_ble_eq_true rfl) (Or.inr ⟨z89, z90, z91, z92, z93, z94, f95, z96, rfl, rfl, h97, h98, h99, h100, h101, h102, h103, h104, h105, h106, h107, h108, h109, h110, h111⟩)
            · exact False.elim (v_a48d9a0d20 h48 h52)
          · refine J_nf (nh2 := nh) (ck2 := 0) (sk2 := 0) (st2 := [.int (zI 0)]) rfl rfl rfl rfl ?_
            refine Z_if_ne (tgt := 37) dX5_sum_25 (by decide) v_b17331891f (fun h121 => absurd h121 (fun q => q v_2ca2bbca1f)) (fun h121 => ?_)
            refine J_aload_n dX5_sum_28 rfl rfl ?_
            refine Z_bipush (n := 45) dX5_sum_29 (by decide +kernel) ?_
            refine J_callV (st := []) dX5_sum_31 cv_X5_50 (d_isSign 45 ln tx_12 sx_12 bx_12 vx_12 px_12 fl zx_12 v_8bc5410605 v_46bbb1acae i12_4 i12_5 rfl) rfl rfl rfl (Nat.le_of_ble_eq_true rfl) ⟨(Nat.le_of_ble_eq_true rfl), (Nat.le_of_ble_eq_true rfl)⟩ ⟨(Nat.le_of_ble_eq_true rfl), (Nat.le_of_ble_eq_true rfl)⟩ (fun r h9 hp => ?_)
            rcases hp with ⟨rfl, rfl, h122⟩ | ⟨rfl, rfl, h123⟩
            · refine J_nf (nh2 := nh) (ck2 := 0) (sk2 := 0) (st2 := [.int (zI 1)]) rfl rfl rfl rfl ?_
              refine Z_if_eq (tgt := 79) dX5_sum_34 (by decide) v_4dcc24baa7 (fun h124 => absurd h124 v_3a47bfd896) (fun h124 => ?_)
              refine J_aload_n dX5_sum_37 rfl rfl ?_
              refine Z_bipush (n := 43) dX5_sum_38 (by decide +kernel) ?_
              refine J_callV (st := []) dX5_sum_40 cv_X5_50 (d_isSign 43 ln tx_12 sx_12 bx_12 vx_12 px_12 fl zx_12 v_8b70ad274a v_ff10987188 i12_4 i12_5 rfl) rfl rfl rfl (Nat.le_of_ble_eq_true rfl) ⟨(Nat.le_of_ble_eq_true rfl), (Nat.le_of_ble_eq_true rfl)⟩ ⟨(Nat.le_of_ble_eq_true rfl), (Nat.le_of_ble_eq_true rfl)⟩ (fun r h9 hp => ?_)
              rcases hp with ⟨rfl, rfl, h125⟩ | ⟨rfl, rfl, h126⟩
              · exact False.elim (v_1d6e974349 h122 h125)
              · refine J_nf (nh2 := nh) (ck2 := 0) (sk2 := 0) (st2 := [.int (zI 0)]) rfl rfl rfl rfl ?_
                refine Z_if_eq (tgt := 50) dX5_sum_43 (by decide) v_b17331891f (fun h127 => ?_) (fun h127 => absurd h127 (fun q => q v_2ca2bbca1f))
                refine Z_iconst (n := 3) dX5_sum_50 ?_
                refine J_istore_n dX5_sum_51 rfl (Nat.le_of_ble_eq_true rfl) rfl ?_
                refine J_ls (ls2 := [some (.ref 54), some (.int (zI 1)), some (.int (zI i_12)), some (.int (zI 3))]) rfl ?_
                refine J_aload_n dX5_sum_52 rfl rfl ?_
                have g128 := TokL.lt i12_11 (v_1c70dbbeab h122)
                refine J_callV (st := []) dX5_sum_53 cv_X5_43 (d_advance ln tx_12 sx_12 bx_12 vx_12 px_12 fl zx_12 tp q0 q1 (v_d253cb2c59 i12_6 g128) i12_8 i12_9 i12_10 q15 rfl hk55) rfl rfl rfl (Nat.le_of_ble_eq_true rfl) ⟨(Nat.le_of_ble_eq_true rfl), (Nat.le_of_ble_eq_true rfl)⟩ ⟨(Nat.le_of_ble_eq_true rfl), (Nat.le_of_ble_eq_true rfl)⟩ (fun r h9 hp => ?_)
                obtain ⟨z129, z130, z131, z132, rfl, rfl, h133, h134, h135, h136, h137, h138, h139, h140⟩ := hp
                refine J_nf (nh2 := nh) (ck2 := 0) (sk2 := 0) (st2 := []) rfl rfl rfl rfl ?_
                refine J_app (L3 := [(54, .inr (5, [.ref 55, .int (zI ln), .int (zI z129), .int (zI z130), .int (zI z131), .int (zI z132), .int (zI px_12), .int (zI fl), .ref 56, .int (zI zx_12)])), (54, .inr (5, [.ref 55, .int (zI ln), .int (zI tx_12), .int (zI sx_12), .int (zI bx_12), .int (zI vx_12), .int (zI px_12), .int (zI fl), .ref 56, .int (zI zx_12)])), (56, .inl (0, 412, .inl (zA cx_12)))]) rfl ?_
                refine J_mask (L2 := [(54, .inr (5, [.ref 55, .int (zI ln), .int (zI z129), .int (zI z130), .int (zI z131), .int (zI z132), .int (zI px_12), .int (zI fl), .ref 56, .int (zI zx_12)])), (56, .inl (0, 412, .inl (zA cx_12)))]) (ks := [54, 54, 56]) [true, false, true] rfl (by decide +kernel) rfl ?_
                refine J_aload_n dX5_sum_56 rfl rfl ?_
                refine J_iload_n dX5_sum_57 rfl rfl ?_
                refine J_callV (st := []) dX5_sum_58 cv_X5_89 (d_term1 ln z129 z130 z131 z132 px_12 fl zx_12 tp cx_12 q0 q1 h133 h134 (v_9b2e2070a2 i12_6 g128 h135) h136 h137 h138 h139 i12_15 i12_16 q11 i12_13 i12_14 h140 q15 i12_12 rfl hk55 rfl) rfl rfl rfl (Nat.le_of_ble_eq_true rfl) ⟨(Nat.le_of_ble_eq_true rfl), (Nat.le_of_ble_eq_true rfl)⟩ ⟨(Nat.le_of_ble_eq_true rfl), (Nat.le_of_ble_eq_true rfl)⟩ (fun r h9 hp => ?_)
                rcases hp with ⟨z141, z142, z143, z144, z145, z146, f147, rfl, rfl, h148, h149, h150, h151, h152, h153, h154, h155, h156, h157, h158, h159, h160, h161, h162⟩ | ⟨z163, z164, z165, z166, z167, z168, f169, z170, rfl, rfl, h171, h172, h173, h174, h175, h176, h177, h178, h179, h180, h181, h182, h183, h184, h185⟩
                · refine J_nf (nh2 := nh) (ck2 := 0) (sk2 := 0) (st2 := [.int (zI 1)]) rfl rfl rfl rfl ?_
                  refine J_app (L3 := [(54, .inr (5, [.ref 55, .int (zI ln), .int (zI z141), .int (zI z142), .int (zI z143), .int (zI z144), .int (zI z145), .int (zI fl), .ref 56, .int (zI z146)])), (56, .inl (0, 412, .inl (zA f147))), (54, .inr (5, [.ref 55, .int (zI ln), .int (zI z129), .int (zI z130), .int (zI z131), .int (zI z132), .int (zI px_12), .int (zI fl), .ref 56, .int (zI zx_12)])), (56, .inl (0, 412, .inl (zA cx_12)))]) rfl ?_
                  refine J_mask (L2 := [(54, .inr (5, [.ref 55, .int (zI ln), .int (zI z141), .int (zI z142), .int (zI z143), .int (zI z144), .int (zI z145), .int (zI fl), .ref 56, .int (zI z146)])), (56, .inl (0, 412, .inl (zA f147)))]) (ks := [54, 56, 54, 56]) [true, true, false, false] rfl (by decide +kernel) rfl ?_
                  refine Z_if_ne (tgt := 66) dX5_sum_61 (by decide) v_4dcc24baa7 (fun h186 => ?_) (fun h186 => absurd h186 v_3a47bfd896)
                  refine J_aload_n dX5_sum_66 rfl rfl ?_
                  refine J_iload_n dX5_sum_67 rfl rfl ?_
                  refine Z_iconst (n := 0) dX5_sum_68 ?_
                  refine J_callV (st := []) dX5_sum_69 cv_X5_72 (d_emit 3 0 ln z141 z142 z143 z144 z145 fl z146 f147 v_1cc5223c3a v_b17331891f h157 h158 h160 rfl rfl) rfl rfl rfl (Nat.le_of_ble_eq_true rfl) ⟨(Nat.le_of_ble_eq_true rfl), (Nat.le_of_ble_eq_true rfl)⟩ ⟨(Nat.le_of_ble_eq_true rfl), (Nat.le_of_ble_eq_true rfl)⟩ (fun r h9 hp => ?_)
                  obtain ⟨z187, f188, rfl, rfl, h189, h190, h191, h192, h193⟩ := hp
                  refine J_nf (nh2 := nh) (ck2 := 0) (sk2 := 0) (st2 := [.int (zI z146)]) rfl rfl rfl rfl ?_
                  refine J_app (L3 := [(54, .inr (5, [.ref 55, .int (zI ln), .int (zI z141), .int (zI z142), .int (zI z143), .int (zI z144), .int (zI z145), .int (zI fl), .ref 56, .int (zI z187)])), (56, .inl (0, 412, .inl (zA f188))), (54, .inr (5, [.ref 55, .int (zI ln), .int (zI z141), .int (zI z142), .int (zI z143), .int (zI z144), .int (zI z145), .int (zI fl), .ref 56, .int (zI z146)])), (56, .inl (0, 412, .inl (zA f147)))]) rfl ?_
                  refine J_mask (L2 := [(54, .inr (5, [.ref 55, .int (zI ln), .int (zI z141), .int (zI z142), .int (zI z143), .int (zI z144), .int (zI z145), .int (zI fl), .ref 56, .int (zI z187)])), (56, .inl (0, 412, .inl (zA f188)))]) (ks := [54, 56, 54, 56]) [true, true, false, false] rfl (by decide +kernel) rfl ?_
                  refine J_pop dX5_sum_72 rfl ?_
                  refine Z_iinc (c := i_12 + 1) (ls2 := [some (.ref 54), some (.int (zI 1)), some (.int (zI (i_12 + 1))), some (.int (zI 3))]) dX5_sum_73 rfl (Nat.le_of_ble_eq_true rfl) rfl rfl rfl ?_
                  refine J_goto (tgt := 12) dX5_sum_76 (by decide) ?_
                  refine J_drop (ls2 := [some (.ref 54), some (.int (zI 1)), some (.int (zI (i_12 + 1))), none]) [true, true, true, false] rfl ?_
                  exact ih12 (i_12 + 1) z141 z142 z143 z144 z145 z187 f188 (v_da458fa48a i12_0) (v_6924477667 h47) (v_5af1455273 i12_2 g128 h135 h161 h192) (v_269579bf42 i12_3 g128 h135 h162) h148 h149 h150 h151 h152 h153 h154 h159 h193 h189 h190 h155 h156 (meas_lt v_ceb2ed6d2b (v_44ddc35e90 h47) hm12)
                · refine J_nf (nh2 := nh) (ck2 := 0) (sk2 := 0) (st2 := [.int (zI 0)]) rfl rfl rfl rfl ?_
                  refine J_app (L3 := [(54, .inr (5, [.ref 55, .int (zI ln), .int (zI z163), .int (zI z164), .int (zI z165), .int (zI z166), .int (zI z167), .int (zI z170), .ref 56, .int (zI z168)])), (56, .inl (0, 412, .inl (zA f169))), (54, .inr (5, [.ref 55, .int (zI ln), .int (zI z129), .int (zI z130), .int (zI z131), .int (zI z132), .int (zI px_12), .int (zI fl), .ref 56, .int (zI zx_12)])), (56, .inl (0, 412, .inl (zA cx_12)))]) rfl ?_
                  refine J_mask (L2 := [(54, .inr (5, [.ref 55, .int (zI ln), .int (zI z163), .int (zI z164), .int (zI z165), .int (zI z166), .int (zI z167), .int (zI z170), .ref 56, .int (zI z168)])), (56, .inl (0, 412, .inl (zA f169)))]) (ks := [54, 56, 54, 56]) [true, true, false, false] rfl (by decide +kernel) rfl ?_
                  refine Z_if_ne (tgt := 66) dX5_sum_61 (by decide) v_b17331891f (fun h194 => absurd h194 (fun q => q v_2ca2bbca1f)) (fun h194 => ?_)
                  refine Z_iconst (n := 0) dX5_sum_64 ?_
                  exact J_iret dX5_sum_65 rfl (jbn v_939070ca3f v_316afd7d0b) (Nat.le_of_ble_eq_true rfl) (Nat.le_of_ble_eq_true rfl) (Or.inr ⟨z163, z164, z165, z166, z167, z168, f169, z170, rfl, rfl, h171, h172, h173, h174, h175, h176, h177, h178, h179, h180, h181, h182, h183, h184, h185⟩)
            · refine J_nf (nh2 := nh) (ck2 := 0) (sk2 := 0) (st2 := [.int (zI 0)]) rfl rfl rfl rfl ?_
              refine Z_if_eq (tgt := 79) dX5_sum_34 (by decide) v_b17331891f (fun h195 => ?_) (fun h195 => absurd h195 (fun q => q v_2ca2bbca1f))
              refine Z_iconst (n := 1) dX5_sum_79 ?_
              exact J_iret dX5_sum_80 rfl (jbn v_316afd7d0b v_bbcfac9b7d) (Nat.le_of_ble_eq_true rfl) (Nat.le_of_ble_eq_true rfl) (Or.inl ⟨tx_12, sx_12, bx_12, vx_12, px_12, zx_12, cx_12, rfl, rfl, i12_4, i12_5, i12_6, i12_7, i12_8, i12_9, i12_10, i12_15, i12_16, i12_13, i12_14, i12_11, i12_12, i12_2, i12_3⟩)
    exact lp12 _ 0 z1 z2 z3 z4 z5 z6 f7 v_939070ca3f v_5ab96f7b5e h21 h22 h8 h9 h10 h11 h12 h13 h14 h19 h20 h17 h18 h15 h16 (Nat.lt_succ_self _)
  · refine J_nf (nh2 := nh) (ck2 := 0) (sk2 := 0) (st2 := [.int (zI 0)]) rfl rfl rfl rfl ?_
    refine J_app (L3 := [(54, .inr (5, [.ref 55, .int (zI ln), .int (zI z23), .int (zI z24), .int (zI z25), .int (zI z26), .int (zI z27), .int (zI z30), .ref 56, .int (zI z28)])), (56, .inl (0, 412, .inl (zA f29)))]) rfl ?_
    refine Z_if_ne (tgt := 10) dX5_sum_5 (by decide) v_b17331891f (fun h196 => absurd h196 (fun q => q v_2ca2bbca1f)) (fun h196 => ?_)
    refine Z_iconst (n := 0) dX5_sum_8 ?_
    exact J_iret dX5_sum_9 rfl (jbn v_939070ca3f v_316afd7d0b) (Nat.le_of_ble_eq_true rfl) (Nat.le_of_ble_eq_true rfl) (Or.inr ⟨z23, z24, z25, z26, z27, z28, f29, z30, rfl, rfl, h31, h32, h33, h34, h35, h36, h37, h38, h39, h40, h41, h42, h43, h44, h45⟩)
set_option maxHeartbeats 4000000 in
set_option maxRecDepth 100000 in
theorem d_bracketedTest1 {l : Launch} {G : jG} {nh : Nat} {fh : Nat → Option va_E} (ln : Int) (tk : Int) (st : Int) (bh : Int) (va : Int) (pa : Int) (fl : Int) (sz : Int) (tp : Int → Int) (cd : Int → Int) (q0 : 0 ≤ ln) (q1 : ln ≤ 400) (q2 : 0 ≤ tk) (q3 : tk ≤ 355) (q4 : 0 ≤ st) (q5 : st ≤ bh) (q6 : bh ≤ ln) (q7 : 0 ≤ va) (q8 : va ≤ 1001) (q9 : 0 ≤ pa) (q10 : pa ≤ 50) (q11 : zr fl) (q12 : 0 ≤ sz) (q13 : sz ≤ 412) (q14 : TokL tk st bh) (q15 : Rg tp 400 0 255) (q16 : Rg cd 412 (-2147483648) 2147483647) (hk54 : fh 54 = some (.inr (5, [.ref 55, .int (zI ln), .int (zI tk), .int (zI st), .int (zI bh), .int (zI va), .int (zI pa), .int (zI fl), .ref 56, .int (zI sz)]))) (hk55 : fh 55 = some (.inl (0, 400, .inl (zA tp)))) (hk56 : fh 56 = some (.inl (0, 412, .inl (zA cd)))) : JM l G yX5_bracketedTest MX5_bracketedTest { frames := 36, cells := 0, slots := 0, locals := 808 } [.ref 54, .int (zI 1)] (nh, fh) (fun rr h9 => (∃ tk2 : Int, ∃ st2 : Int, ∃ bh2 : Int, ∃ va2 : Int, ∃ pa2 : Int, ∃ sz2 : Int, ∃ cd2 : Int → Int, rr = some (.int (zI 1)) ∧ h9 = (nh, hc fh [(54, .inr (5, [.ref 55, .int (zI ln), .int (zI tk2), .int (zI st2), .int (zI bh2), .int (zI va2), .int (zI pa2), .int (zI fl), .ref 56, .int (zI sz2)])), (56, .inl (0, 412, .inl (zA cd2)))]) ∧ (0 ≤ tk2) ∧ (tk2 ≤ 355) ∧ (0 ≤ st2) ∧ (st2 ≤ bh2) ∧ (bh2 ≤ ln) ∧ (0 ≤ va2) ∧ (va2 ≤ 1001) ∧ (0 ≤ pa2) ∧ (pa2 ≤ 50) ∧ (0 ≤ sz2) ∧ (sz2 ≤ 412) ∧ (TokL tk2 st2 bh2) ∧ (Rg cd2 412 (-2147483648) 2147483647) ∧ (sz2 + st ≤ sz + st2) ∧ (st ≤ st2)) ∨ (∃ tk2 : Int, ∃ st2 : Int, ∃ bh2 : Int, ∃ va2 : Int, ∃ pa2 : Int, ∃ sz2 : Int, ∃ cd2 : Int → Int, ∃ fl2 : Int, rr = some (.int (zI 0)) ∧ h9 = (nh, hc fh [(54, .inr (5, [.ref 55, .int (zI ln), .int (zI tk2), .int (zI st2), .int (zI bh2), .int (zI va2), .int (zI pa2), .int (zI fl2), .ref 56, .int (zI sz2)])), (56, .inl (0, 412, .inl (zA cd2)))]) ∧ (0 ≤ tk2) ∧ (tk2 ≤ 355) ∧ (0 ≤ st2) ∧ (st2 ≤ bh2) ∧ (bh2 ≤ ln) ∧ (0 ≤ va2) ∧ (va2 ≤ 1001) ∧ (0 ≤ pa2) ∧ (pa2 ≤ 50) ∧ (0 ≤ sz2) ∧ (sz2 ≤ 412) ∧ (TokL tk2 st2 bh2) ∧ (Rg cd2 412 (-2147483648) 2147483647) ∧ (0 ≤ fl2) ∧ (fl2 ≤ 400))) := by
  refine JM.of (by decide) rfl (fun h => by cases h) (Nat.le_of_ble_eq_true rfl) ⟨0, rfl⟩ ?_
  refine J_hc0 (J_ls (ls2 := [some (.ref 54), some (.int (zI 1))]) rfl ?_)
  refine J_iload_n dX5_bracketedTest_0 rfl rfl ?_
  refine Z_bipush (n := 8) dX5_bracketedTest_1 (by decide +kernel) ?_
  refine Z_icmp_lt (tgt := 11) dX5_bracketedTest_3 (by decide) v_4dcc24baa7 v_665891e294 (fun h1 => ?_) (fun h1 => absurd h1 (fun q => q v_d89e2b4e60))
  refine J_aload_n dX5_bracketedTest_11 rfl rfl ?_
  refine J_callV (st := []) dX5_bracketedTest_12 cv_X5_43 (d_advance ln tk st bh va pa fl sz tp q0 q1 (v_21976c7318 q4 q5) q6 q7 q8 q15 hk54 hk55) hk54 rfl rfl (Nat.le_of_ble_eq_true rfl) ⟨(Nat.le_of_ble_eq_true rfl), (Nat.le_of_ble_eq_true rfl)⟩ ⟨(Nat.le_of_ble_eq_true rfl), (Nat.le_of_ble_eq_true rfl)⟩ (fun r h9 hp => ?_)
  obtain ⟨z2, z3, z4, z5, rfl, rfl, h6, h7, h8, h9, h10, h11, h12, h13⟩ := hp
  refine J_nf (nh2 := nh) (ck2 := 0) (sk2 := 0) (st2 := []) rfl rfl rfl rfl ?_
  refine J_app (L3 := [(54, .inr (5, [.ref 55, .int (zI ln), .int (zI z2), .int (zI z3), .int (zI z4), .int (zI z5), .int (zI pa), .int (zI fl), .ref 56, .int (zI sz)]))]) rfl ?_
  refine J_aload_n dX5_bracketedTest_15 rfl rfl ?_
  refine J_iload_n dX5_bracketedTest_16 rfl rfl ?_
  refine Z_iconst (n := 1) dX5_bracketedTest_17 ?_
  refine Z_iadd (c := 2) dX5_bracketedTest_18 v_3afe9cbc68 ?_
  refine J_callV (st := []) dX5_bracketedTest_19 cv_X5_67 (d_test2 ln z2 z3 z4 z5 pa fl sz tp cd q0 q1 h6 h7 (v_7eaccd6eb1 q4 q5 h8) h9 h10 h11 h12 q9 q10 q11 q12 q13 h13 q15 q16 rfl hk55 hk56) rfl rfl rfl (Nat.le_of_ble_eq_true rfl) ⟨(Nat.le_of_ble_eq_true rfl), (Nat.le_of_ble_eq_true rfl)⟩ ⟨(Nat.le_of_ble_eq_true rfl), (Nat.le_of_ble_eq_true rfl)⟩ (fun r h9 hp => ?_)
  rcases hp with ⟨z14, z15, z16, z17, z18, z19, f20, rfl, rfl, h21, h22, h23, h24, h25, h26, h27, h28, h29, h30, h31, h32, h33, h34, h35⟩ | ⟨z36, z37, z38, z39, z40, z41, f42, z43, rfl, rfl, h44, h45, h46, h47, h48, h49, h50, h51, h52, h53, h54, h55, h56, h57, h58⟩
  · refine J_nf (nh2 := nh) (ck2 := 0) (sk2 := 0) (st2 := [.int (zI 1)]) rfl rfl rfl rfl ?_
    refine J_app (L3 := [(54, .inr (5, [.ref 55, .int (zI ln), .int (zI z14), .int (zI z15), .int (zI z16), .int (zI z17), .int (zI z18), .int (zI fl), .ref 56, .int (zI z19)])), (56, .inl (0, 412, .inl (zA f20))), (54, .inr (5, [.ref 55, .int (zI ln), .int (zI z2), .int (zI z3), .int (zI z4), .int (zI z5), .int (zI pa), .int (zI fl), .ref 56, .int (zI sz)]))]) rfl ?_
    refine J_mask (L2 := [(54, .inr (5, [.ref 55, .int (zI ln), .int (zI z14), .int (zI z15), .int (zI z16), .int (zI z17), .int (zI z18), .int (zI fl), .ref 56, .int (zI z19)])), (56, .inl (0, 412, .inl (zA f20)))]) (ks := [54, 56, 54]) [true, true, false] rfl (by decide +kernel) rfl ?_
    refine Z_if_ne (tgt := 27) dX5_bracketedTest_22 (by decide) v_4dcc24baa7 (fun h59 => ?_) (fun h59 => absurd h59 v_3a47bfd896)
    refine J_aload_n dX5_bracketedTest_27 rfl rfl ?_
    refine Z_bipush (n := 41) dX5_bracketedTest_28 (by decide +kernel) ?_
    refine J_callV (st := []) dX5_bracketedTest_30 cv_X5_50 (d_isSign 41 ln z14 z15 z16 z17 z18 fl z19 v_eff0eb06dc v_d0aa1234d6 h21 h22 rfl) rfl rfl rfl (Nat.le_of_ble_eq_true rfl) ⟨(Nat.le_of_ble_eq_true rfl), (Nat.le_of_ble_eq_true rfl)⟩ ⟨(Nat.le_of_ble_eq_true rfl), (Nat.le_of_ble_eq_true rfl)⟩ (fun r h9 hp => ?_)
    rcases hp with ⟨rfl, rfl, h60⟩ | ⟨rfl, rfl, h61⟩
    · refine J_nf (nh2 := nh) (ck2 := 0) (sk2 := 0) (st2 := [.int (zI 1)]) rfl rfl rfl rfl ?_
      refine Z_if_ne (tgt := 41) dX5_bracketedTest_33 (by decide) v_4dcc24baa7 (fun h62 => ?_) (fun h62 => absurd h62 v_3a47bfd896)
      refine J_aload_n dX5_bracketedTest_41 rfl rfl ?_
      have g63 := TokL.lt h32 (v_5f6578b310 h60)
      refine J_callV (st := []) dX5_bracketedTest_42 cv_X5_43 (d_advance ln z14 z15 z16 z17 z18 fl z19 tp q0 q1 (v_d253cb2c59 h23 g63) h25 h26 h27 q15 rfl hk55) rfl rfl rfl (Nat.le_of_ble_eq_true rfl) ⟨(Nat.le_of_ble_eq_true rfl), (Nat.le_of_ble_eq_true rfl)⟩ ⟨(Nat.le_of_ble_eq_true rfl), (Nat.le_of_ble_eq_true rfl)⟩ (fun r h9 hp => ?_)
      obtain ⟨z64, z65, z66, z67, rfl, rfl, h68, h69, h70, h71, h72, h73, h74, h75⟩ := hp
      refine J_nf (nh2 := nh) (ck2 := 0) (sk2 := 0) (st2 := []) rfl rfl rfl rfl ?_
      refine J_app (L3 := [(54, .inr (5, [.ref 55, .int (zI ln), .int (zI z64), .int (zI z65), .int (zI z66), .int (zI z67), .int (zI z18), .int (zI fl), .ref 56, .int (zI z19)])), (54, .inr (5, [.ref 55, .int (zI ln), .int (zI z14), .int (zI z15), .int (zI z16), .int (zI z17), .int (zI z18), .int (zI fl), .ref 56, .int (zI z19)])), (56, .inl (0, 412, .inl (zA f20)))]) rfl ?_
      refine J_mask (L2 := [(54, .inr (5, [.ref 55, .int (zI ln), .int (zI z64), .int (zI z65), .int (zI z66), .int (zI z67), .int (zI z18), .int (zI fl), .ref 56, .int (zI z19)])), (56, .inl (0, 412, .inl (zA f20)))]) (ks := [54, 54, 56]) [true, false, true] rfl (by decide +kernel) rfl ?_
      refine Z_iconst (n := 1) dX5_bracketedTest_45 ?_
      exact J_iret dX5_bracketedTest_46 rfl (jbn v_316afd7d0b v_bbcfac9b7d) (Nat.le_of_ble_eq_true rfl) (Nat.le_of_ble_eq_true rfl) (Or.inl ⟨z64, z65, z66, z67, z18, z19, f20, rfl, rfl, h68, h69, (v_9b2e2070a2 h23 g63 h70), h71, h72, h73, h74, h28, h29, h30, h31, h75, h33, (v_a156850946 q5 h8 h34 g63 h70), (v_b3d66fcd45 q5 h8 h35 g63 h70)⟩)
    · refine J_nf (nh2 := nh) (ck2 := 0) (sk2 := 0) (st2 := [.int (zI 0)]) rfl rfl rfl rfl ?_
      refine Z_if_ne (tgt := 41) dX5_bracketedTest_33 (by decide) v_b17331891f (fun h76 => absurd h76 (fun q => q v_2ca2bbca1f)) (fun h76 => ?_)
      refine J_aload_n dX5_bracketedTest_36 rfl rfl ?_
      refine J_callV (st := []) dX5_bracketedTest_37 cv_X5_54 (d_wrong ln z14 z15 z16 z17 z18 fl z19 h23 (v_1adcfdfee5 q1 h24 h25) rfl) rfl rfl rfl (Nat.le_of_ble_eq_true rfl) ⟨(Nat.le_of_ble_eq_true rfl), (Nat.le_of_ble_eq_true rfl)⟩ ⟨(Nat.le_of_ble_eq_true rfl), (Nat.le_of_ble_eq_true rfl)⟩ (fun r h9 hp => ?_)
      obtain ⟨rfl, rfl⟩ := hp
      refine J_nf (nh2 := nh) (ck2 := 0) (sk2 := 0) (st2 := [.int (zI 0)]) rfl rfl rfl rfl ?_
      refine J_app (L3 := [(54, .inr (5, [.ref 55, .int (zI ln), .int (zI z14), .int (zI z15), .int (zI z16), .int (zI z17), .int (zI z18), .int (zI z15), .ref 56, .int (zI z19)])), (54, .inr (5, [.ref 55, .int (zI ln), .int (zI z14), .int (zI z15), .int (zI z16), .int (zI z17), .int (zI z18), .int (zI fl), .ref 56, .int (zI z19)])), (56, .inl (0, 412, .inl (zA f20)))]) rfl ?_
      refine J_mask (L2 := [(54, .inr (5, [.ref 55, .int (zI ln), .int (zI z14), .int (zI z15), .int (zI z16), .int (zI z17), .int (zI z18), .int (zI z15), .ref 56, .int (zI z19)])), (56, .inl (0, 412, .inl (zA f20)))]) (ks := [54, 54, 56]) [true, false, true] rfl (by decide +kernel) rfl ?_
      exact J_iret dX5_bracketedTest_40 rfl (jbn v_939070ca3f v_316afd7d0b) (Nat.le_of_ble_eq_true rfl) (Nat.le_of_ble_eq_true rfl) (Or.inr ⟨z14, z15, z16, z17, z18, z19, f20, z15, rfl, rfl, h21, h22, h23, h24, h25, h26, h27, h28, h29, h30, h31, h32, h33, h23, (v_1adcfdfee5 q1 h24 h25)⟩)
  · refine J_nf (nh2 := nh) (ck2 := 0) (sk2 := 0) (st2 := [.int (zI 0)]) rfl rfl rfl rfl ?_
    refine J_app (L3 := [(54, .inr (5, [.ref 55, .int (zI ln), .int (zI z36), .int (zI z37), .int (zI z38), .int (zI z39), .int (zI z40), .int (zI z43), .ref 56, .int (zI z41)])), (56, .inl (0, 412, .inl (zA f42))), (54, .inr (5, [.ref 55, .int (zI ln), .int (zI z2), .int (zI z3), .int (zI z4), .int (zI z5), .int (zI pa), .int (zI fl), .ref 56, .int (zI sz)]))]) rfl ?_
    refine J_mask (L2 := [(54, .inr (5, [.ref 55, .int (zI ln), .int (zI z36), .int (zI z37), .int (zI z38), .int (zI z39), .int (zI z40), .int (zI z43), .ref 56, .int (zI z41)])), (56, .inl (0, 412, .inl (zA f42)))]) (ks := [54, 56, 54]) [true, true, false] rfl (by decide +kernel) rfl ?_
    refine Z_if_ne (tgt := 27) dX5_bracketedTest_22 (by decide) v_b17331891f (fun h77 => absurd h77 (fun q => q v_2ca2bbca1f)) (fun h77 => ?_)
    refine Z_iconst (n := 0) dX5_bracketedTest_25 ?_
    exact J_iret dX5_bracketedTest_26 rfl (jbn v_939070ca3f v_316afd7d0b) (Nat.le_of_ble_eq_true rfl) (Nat.le_of_ble_eq_true rfl) (Or.inr ⟨z36, z37, z38, z39, z40, z41, f42, z43, rfl, rfl, h44, h45, h46, h47, h48, h49, h50, h51, h52, h53, h54, h55, h56, h57, h58⟩)
set_option maxHeartbeats 4000000 in
set_option maxRecDepth 100000 in
theorem d_plain1 {l : Launch} {G : jG} {nh : Nat} {fh : Nat → Option va_E} (ln : Int) (tk : Int) (st : Int) (bh : Int) (va : Int) (pa : Int) (fl : Int) (sz : Int) (tp : Int → Int) (cd : Int → Int) (q0 : 0 ≤ ln) (q1 : ln ≤ 400) (q2 : 0 ≤ tk) (q3 : tk ≤ 355) (q4 : 0 ≤ st) (q5 : st ≤ bh) (q6 : bh ≤ ln) (q7 : 0 ≤ va) (q8 : va ≤ 1001) (q9 : 0 ≤ pa) (q10 : pa ≤ 50) (q11 : zr fl) (q12 : 0 ≤ sz) (q13 : sz ≤ 412) (q14 : TokL tk st bh) (q15 : Rg tp 400 0 255) (q16 : Rg cd 412 (-2147483648) 2147483647) (hk54 : fh 54 = some (.inr (5, [.ref 55, .int (zI ln), .int (zI tk), .int (zI st), .int (zI bh), .int (zI va), .int (zI pa), .int (zI fl), .ref 56, .int (zI sz)]))) (hk55 : fh 55 = some (.inl (0, 400, .inl (zA tp)))) (hk56 : fh 56 = some (.inl (0, 412, .inl (zA cd)))) : JM l G yX5_plain MX5_plain { frames := 37, cells := 0, slots := 0, locals := 829 } [.ref 54, .int (zI 1)] (nh, fh) (fun rr h9 => (∃ tk2 : Int, ∃ st2 : Int, ∃ bh2 : Int, ∃ va2 : Int, ∃ pa2 : Int, ∃ sz2 : Int, ∃ cd2 : Int → Int, rr = some (.int (zI 1)) ∧ h9 = (nh, hc fh [(54, .inr (5, [.ref 55, .int (zI ln), .int (zI tk2), .int (zI st2), .int (zI bh2), .int (zI va2), .int (zI pa2), .int (zI fl), .ref 56, .int (zI sz2)])), (56, .inl (0, 412, .inl (zA cd2)))]) ∧ (0 ≤ tk2) ∧ (tk2 ≤ 355) ∧ (0 ≤ st2) ∧ (st2 ≤ bh2) ∧ (bh2 ≤ ln) ∧ (0 ≤ va2) ∧ (va2 ≤ 1001) ∧ (0 ≤ pa2) ∧ (pa2 ≤ 50) ∧ (0 ≤ sz2) ∧ (sz2 ≤ 412) ∧ (TokL tk2 st2 bh2) ∧ (Rg cd2 412 (-2147483648) 2147483647) ∧ (sz2 + st ≤ sz + st2) ∧ (st ≤ st2)) ∨ (∃ tk2 : Int, ∃ st2 : Int, ∃ bh2 : Int, ∃ va2 : Int, ∃ pa2 : Int, ∃ sz2 : Int, ∃ cd2 : Int → Int, ∃ fl2 : Int, rr = some (.int (zI 0)) ∧ h9 = (nh, hc fh [(54, .inr (5, [.ref 55, .int (zI ln), .int (zI tk2), .int (zI st2), .int (zI bh2), .int (zI va2), .int (zI pa2), .int (zI fl2), .ref 56, .int (zI sz2)])), (56, .inl (0, 412, .inl (zA cd2)))]) ∧ (0 ≤ tk2) ∧ (tk2 ≤ 355) ∧ (0 ≤ st2) ∧ (st2 ≤ bh2) ∧ (bh2 ≤ ln) ∧ (0 ≤ va2) ∧ (va2 ≤ 1001) ∧ (0 ≤ pa2) ∧ (pa2 ≤ 50) ∧ (0 ≤ sz2) ∧ (sz2 ≤ 412) ∧ (TokL tk2 st2 bh2) ∧ (Rg cd2 412 (-2147483648) 2147483647) ∧ (0 ≤ fl2) ∧ (fl2 ≤ 400))) := by
  refine JM.of (by decide) rfl (fun h => by cases h) (Nat.le_of_ble_eq_true rfl) ⟨2, rfl⟩ ?_
  refine J_hc0 (J_ls (ls2 := [some (.ref 54), some (.int (zI 1)), none, none]) rfl ?_)
  refine Z_iconst (n := 0) dX5_plain_0 ?_
  refine J_istore_n dX5_plain_1 rfl (Nat.le_of_ble_eq_true rfl) rfl ?_
  refine J_ls (ls2 := [some (.ref 54), some (.int (zI 1)), some (.int (zI 0)), none]) rfl ?_
  refine Z_iconst (n := 0) dX5_plain_2 ?_
  refine J_istore_n dX5_plain_3 rfl (Nat.le_of_ble_eq_true rfl) rfl ?_
  refine J_ls (ls2 := [some (.ref 54), some (.int (zI 1)), some (.int (zI 0)), some (.int (zI 0))]) rfl ?_
  refine J_touch (k := 54) (e := .inr (5, [.ref 55, .int (zI ln), .int (zI tk), .int (zI st), .int (zI bh), .int (zI va), .int (zI pa), .int (zI fl), .ref 56, .int (zI sz)])) hk54 ?_
  have lp4 : ∀ (N4 : Nat) (dn_4 : Int) (i_4 : Int) (tx_4 : Int) (sx_4 : Int) (bx_4 : Int) (vx_4 : Int), (0 ≤ i_4) → (i_4 ≤ 400) → (0 ≤ dn_4) → (dn_4 ≤ 1) → (st + dn_4 ≤ sx_4) → (0 ≤ tx_4) → (tx_4 ≤ 355) → (0 ≤ sx_4) → (sx_4 ≤ bx_4) → (bx_4 ≤ ln) → (0 ≤ vx_4) → (vx_4 ≤ 1001) → (TokL tx_4 sx_4 bx_4) → (400 - i_4).toNat < N4 → J l G MX5_plain { frames := 37, cells := 0, slots := 0, locals := 829 } jE (jMQ G { frames := 37, cells := 0, slots := 0, locals := 829 } (fun rr h9 => (∃ tk2 : Int, ∃ st2 : Int, ∃ bh2 : Int, ∃ va2 : Int, ∃ pa2 : Int, ∃ sz2 : Int, ∃ cd2 : Int → Int, rr = some (.int (zI 1)) ∧ h9 = (nh, hc fh [(54, .inr (5, [.ref 55, .int (zI ln), .int (zI tk2), .int (zI st2), .int (zI bh2), .int (zI va2), .int (zI pa2), .int (zI fl), .ref 56, .int (zI sz2)])), (56, .inl (0, 412, .inl (zA cd2)))]) ∧ (0 ≤ tk2) ∧ (tk2 ≤ 355) ∧ (0 ≤ st2) ∧ (st2 ≤ bh2) ∧ (bh2 ≤ ln) ∧ (0 ≤ va2) ∧ (va2 ≤ 1001) ∧ (0 ≤ pa2) ∧ (pa2 ≤ 50) ∧ (0 ≤ sz2) ∧ (sz2 ≤ 412) ∧ (TokL tk2 st2 bh2) ∧ (Rg cd2 412 (-2147483648) 2147483647) ∧ (sz2 + st ≤ sz + st2) ∧ (st ≤ st2)) ∨ (∃ tk2 : Int, ∃ st2 : Int, ∃ bh2 : Int, ∃ va2 : Int, ∃ pa2 : Int, ∃ sz2 : Int, ∃ cd2 : Int → Int, ∃ fl2 : Int, rr = some (.int (zI 0)) ∧ h9 = (nh, hc fh [(54, .inr (5, [.ref 55, .int (zI ln), .int (zI tk2), .int (zI st2), .int (zI bh2), .int (zI va2), .int (zI pa2), .int (zI fl2), .ref 56, .int (zI sz2)])), (56, .inl (0, 412, .inl (zA cd2)))]) ∧ (0 ≤ tk2) ∧ (tk2 ≤ 355) ∧ (0 ≤ st2) ∧ (st2 ≤ bh2) ∧ (bh2 ≤ ln) ∧ (0 ≤ va2) ∧ (va2 ≤ 1001) ∧ (0 ≤ pa2) ∧ (pa2 ≤ 50) ∧ (0 ≤ sz2) ∧ (sz2 ≤ 412) ∧ (TokL tk2 st2 bh2) ∧ (Rg cd2 412 (-2147483648) 2147483647) ∧ (0 ≤ fl2) ∧ (fl2 ≤ 400)))) (nh, hc fh [(54, .inr (5, [.ref 55, .int (zI ln), .int (zI tx_4), .int (zI sx_4), .int (zI bx_4), .int (zI vx_4), .int (zI pa), .int (zI fl), .ref 56, .int (zI sz)]))]) 0 0 4 [some (.ref 54), some (.int (zI 1)), some (.int (zI dn_4)), some (.int (zI i_4))] [] := by
    intro N4
    induction N4 with
    | zero => intro dn_4 i_4 tx_4 sx_4 bx_4 vx_4 i4_0 i4_1 i4_2 i4_3 i4_4 i4_5 i4_6 i4_7 i4_8 i4_9 i4_10 i4_11 i4_12 hm; exact absurd hm (Nat.not_lt_zero _)
    | succ N4 ih4 =>
      intro dn_4 i_4 tx_4 sx_4 bx_4 vx_4 i4_0 i4_1 i4_2 i4_3 i4_4 i4_5 i4_6 i4_7 i4_8 i4_9 i4_10 i4_11 i4_12 hm4
      refine J_iload_n dX5_plain_4 rfl rfl ?_
      refine Z_sipush (n := 400) dX5_plain_5 (by decide +kernel) ?_
      refine Z_icmp_ge (tgt := 40) dX5_plain_8 (by decide) (v_d7389cde0f i4_0 i4_1) v_d8dcd4dd52 (fun h1 => ?_) (fun h1 => ?_)
      · refine J_aload_n dX5_plain_40 rfl rfl ?_
        refine Z_bipush (n := 40) dX5_plain_41 (by decide +kernel) ?_
        refine J_callV (st := []) dX5_plain_43 cv_X5_50 (d_isSign 40 ln tx_4 sx_4 bx_4 vx_4 pa fl sz v_3958fe4c87 v_fdd2493dbb i4_5 i4_6 rfl) rfl rfl rfl (Nat.le_of_ble_eq_true rfl) ⟨(Nat.le_of_ble_eq_true rfl), (Nat.le_of_ble_eq_true rfl)⟩ ⟨(Nat.le_of_ble_eq_true rfl), (Nat.le_of_ble_eq_true rfl)⟩ (fun r h9 hp => ?_)
        rcases hp with ⟨rfl, rfl, h2⟩ | ⟨rfl, rfl, h3⟩
        · refine J_nf (nh2 := nh) (ck2 := 0) (sk2 := 0) (st2 := [.int (zI 1)]) rfl rfl rfl rfl ?_
          refine Z_if_eq (tgt := 59) dX5_plain_46 (by decide) v_4dcc24baa7 (fun h4 => absurd h4 v_3a47bfd896) (fun h4 => ?_)
          refine J_aload_n dX5_plain_49 rfl rfl ?_
          refine J_iload_n dX5_plain_50 rfl rfl ?_
          refine J_callV (st := []) dX5_plain_51 cv_X5_86 (d_bracketedTest1 ln tx_4 sx_4 bx_4 vx_4 pa fl sz tp cd q0 q1 i4_5 i4_6 i4_7 i4_8 i4_9 i4_10 i4_11 q9 q10 q11 q12 q13 i4_12 q15 q16 rfl hk55 hk56) rfl rfl rfl (Nat.le_of_ble_eq_true rfl) ⟨(Nat.le_of_ble_eq_true rfl), (Nat.le_of_ble_eq_true rfl)⟩ ⟨(Nat.le_of_ble_eq_true rfl), (Nat.le_of_ble_eq_true rfl)⟩ (fun r h9 hp => ?_)
          rcases hp with ⟨z5, z6, z7, z8, z9, z10, f11, rfl, rfl, h12, h13, h14, h15, h16, h17, h18, h19, h20, h21, h22, h23, h24, h25, h26⟩ | ⟨z27, z28, z29, z30, z31, z32, f33, z34, rfl, rfl, h35, h36, h37, h38, h39, h40, h41, h42, h43, h44, h45, h46, h47, h48, h49⟩
          · refine J_nf (nh2 := nh) (ck2 := 0) (sk2 := 0) (st2 := [.int (zI 1)]) rfl rfl rfl rfl ?_
            refine J_app (L3 := [(54, .inr (5, [.ref 55, .int (zI ln), .int (zI z5), .int (zI z6), .int (zI z7), .int (zI z8), .int (zI z9), .int (zI fl), .ref 56, .int (zI z10)])), (56, .inl (0, 412, .inl (zA f11))), (54, .inr (5, [.ref 55, .int (zI ln), .int (zI tx_4), .int (zI sx_4), .int (zI bx_4), .int (zI vx_4), .int (zI pa), .int (zI fl), .ref 56, .int (zI sz)]))]) rfl ?_
            refine J_mask (L2 := [(54, .inr (5, [.ref 55, .int (zI ln), .int (zI z5), .int (zI z6), .int (zI z7), .int (zI z8), .int (zI z9), .int (zI fl), .ref 56, .int (zI z10)])), (56, .inl (0, 412, .inl (zA f11)))]) (ks := [54, 56, 54]) [true, true, false] rfl (by decide +kernel) rfl ?_
            refine Z_if_ne (tgt := 141) dX5_plain_54 (by decide) v_4dcc24baa7 (fun h50 => ?_) (fun h50 => absurd h50 v_3a47bfd896)
            refine J_iload_n dX5_plain_141 rfl rfl ?_
            refine Z_if_eq (tgt := 153) dX5_plain_142 (by decide) (v_5f10a759cd i4_2 i4_3) (fun h51 => ?_) (fun h51 => ?_)
            · refine Z_iconst (n := 1) dX5_plain_153 ?_
              exact J_iret dX5_plain_154 rfl (jbn v_316afd7d0b v_bbcfac9b7d) (Nat.le_of_ble_eq_true rfl) (Nat.le_of_ble_eq_true rfl) (Or.inl ⟨z5, z6, z7, z8, z9, z10, f11, rfl, rfl, h12, h13, h14, h15, h16, h17, h18, h19, h20, h21, h22, h23, h24, (v_f7907ed2b5 i4_2 i4_4 h25), (v_4790cfd5f0 i4_2 i4_4 h26)⟩)
            · refine J_aload_n dX5_plain_145 rfl rfl ?_
              refine Z_bipush (n := 9) dX5_plain_146 (by decide +kernel) ?_
              refine Z_iconst (n := 0) dX5_plain_148 ?_
              refine J_callV (st := []) dX5_plain_149 cv_X5_72 (d_emit 9 0 ln z5 z6 z7 z8 z9 fl z10 f11 v_00f9f00cc1 v_b17331891f h21 h22 h24 rfl rfl) rfl rfl rfl (Nat.le_of_ble_eq_true rfl) ⟨(Nat.le_of_ble_eq_true rfl), (Nat.le_of_ble_eq_true rfl)⟩ ⟨(Nat.le_of_ble_eq_true rfl), (Nat.le_of_ble_eq_true rfl)⟩ (fun r h9 hp => ?_)
              obtain ⟨z52, f53, rfl, rfl, h54, h55, h56, h57, h58⟩ := hp
              refine J_nf (nh2 := nh) (ck2 := 0) (sk2 := 0) (st2 := [.int (zI z10)]) rfl rfl rfl rfl ?_
              refine J_app (L3 := [(54, .inr (5, [.ref 55, .int (zI ln), .int (zI z5), .int (zI z6), .int (zI z7), .int (zI z8), .int (zI z9), .int (zI fl), .ref 56, .int (zI z52)])), (56, .inl (0, 412, .inl (zA f53))), (54, .inr (5, [.ref 55, .int (zI ln), .int (zI z5), .int (zI z6), .int (zI z7), .int (zI z8), .int (zI z9), .int (zI fl), .ref 56, .int (zI z10)])), (56, .inl (0, 412, .inl (zA f11)))]) rfl ?_
              refine J_mask (L2 := [(54, .inr (5, [.ref 55, .int (zI ln), .int (zI z5), .int (zI z6), .int (zI z7), .int (zI z8), .int (zI z9), .int (zI fl), .ref 56, .int (zI z52)])), (56, .inl (0, 412, .inl (zA f53)))]) (ks := [54, 56, 54, 56]) [true, true, false, false] rfl (by decide +kernel) rfl ?_
              refine J_pop dX5_plain_152 rfl ?_
              refine Z_iconst (n := 1) dX5_plain_153 ?_
              exact J_iret dX5_plain_154 rfl (jbn v_316afd7d0b v_bbcfac9b7d) (Nat.le_of_ble_eq_true rfl) (Nat.le_of_ble_eq_true rfl) (Or.inl ⟨z5, z6, z7, z8, z9, z52, f53, rfl, rfl, h12, h13, h14, h15, h16, h17, h18, h19, h20, h54, h55, h23, h58, (v_6cbc4edc5d i4_2 i4_4 h25 h51 h57), (v_4790cfd5f0 i4_2 i4_4 h26)⟩)
          · refine J_nf (nh2 := nh) (ck2 := 0) (sk2 := 0) (st2 := [.int (zI 0)]) rfl rfl rfl rfl ?_
            refine J_app (L3 := [(54, .inr (5, [.ref 55, .int (zI ln), .int (zI z27), .int (zI z28), .int (zI z29), .int (zI z30), .int (zI z31), .int (zI z34), .ref 56, .int (zI z32)])), (56, .inl (0, 412, .inl (zA f33))), (54, .inr (5, [.ref 55, .int (zI ln), .int (zI tx_4), .int (zI sx_4), .int (zI bx_4), .int (zI vx_4), .int (zI pa), .int (zI fl), .ref 56, .int (zI sz)]))]) rfl ?_
            refine J_mask (L2 := [(54, .inr (5, [.ref 55, .int (zI ln), .int (zI z27), .int (zI z28), .int (zI z29), .int (zI z30), .int (zI z31), .int (zI z34), .ref 56, .int (zI z32)])), (56, .inl (0, 412, .inl (zA f33)))]) (ks := [54, 56, 54]) [true, true, false] rfl (by decide +kernel) rfl ?_
            refine Z_if_ne (tgt := 141) dX5_plain_54 (by decide) v_b17331891f (fun h59 => absurd h59 (fun q => q v_2ca2bbca1f)) (fun h59 => ?_)
            refine Z_iconst (n := 0) dX5_plain_57 ?_
            exact J_iret dX5_plain_58 rfl (jbn v_939070ca3f v_316afd7d0b) (Nat.le_of_ble_eq_true rfl) (Nat.le_of_ble_eq_true rfl) (Or.inr ⟨z27, z28, z29, z30, z31, z32, f33, z34, rfl, rfl, h35, h36, h37, h38, h39, h40, h41, h42, h43, h44, h45, h46, h47, h48, h49⟩)
        · refine J_nf (nh2 := nh) (ck2 := 0) (sk2 := 0) (st2 := [.int (zI 0)]) rfl rfl rfl rfl ?_
          refine Z_if_eq (tgt := 59) dX5_plain_46 (by decide) v_b17331891f (fun h60 => ?_) (fun h60 => absurd h60 (fun q => q v_2ca2bbca1f))
          refine J_aload_n dX5_plain_59 rfl rfl ?_
          refine J_iload_n dX5_plain_60 rfl rfl ?_
          refine J_callV (st := []) dX5_plain_61 cv_X5_63 (d_sum1 ln tx_4 sx_4 bx_4 vx_4 pa fl sz tp cd q0 q1 i4_5 i4_6 i4_7 i4_8 i4_9 i4_10 i4_11 q9 q10 q11 q12 q13 i4_12 q15 q16 rfl hk55 hk56) rfl rfl rfl (Nat.le_of_ble_eq_true rfl) ⟨(Nat.le_of_ble_eq_true rfl), (Nat.le_of_ble_eq_true rfl)⟩ ⟨(Nat.le_of_ble_eq_true rfl), (Nat.le_of_ble_eq_true rfl)⟩ (fun r h9 hp => ?_)
          rcases hp with ⟨z61, z62, z63, z64, z65, z66, f67, rfl, rfl, h68, h69, h70, h71, h72, h73, h74, h75, h76, h77, h78, h79, h80, h81, h82⟩ | ⟨z83, z84, z85, z86, z87, z88, f89, z90, rfl, rfl, h91, h92, h93, h94, h95, h96, h97, h98, h99, h100, h101, h102, h103, h104, h105⟩
          · refine J_nf (nh2 := nh) (ck2 := 0) (sk2 := 0) (st2 := [.int (zI 1)]) rfl rfl rfl rfl ?_
            refine J_app (L3 := [(54, .inr (5, [.ref 55, .int (zI ln), .int (zI z61), .int (zI z62), .int (zI z63), .int (zI z64), .int (zI z65), .int (zI fl), .ref 56, .int (zI z66)])), (56, .inl (0, 412, .inl (zA f67))), (54, .inr (5, [.ref 55, .int (zI ln), .int (zI tx_4), .int (zI sx_4), .int (zI bx_4), .int (zI vx_4), .int (zI pa), .int (zI fl), .ref 56, .int (zI sz)]))]) rfl ?_
            refine J_mask (L2 := [(54, .inr (5, [.ref 55, .int (zI ln), .int (zI z61), .int (zI z62), .int (zI z63), .int (zI z64), .int (zI z65), .int (zI fl), .ref 56, .int (zI z66)])), (56, .inl (0, 412, .inl (zA f67)))]) (ks := [54, 56, 54]) [true, true, false] rfl (by decide +kernel) rfl ?_
            refine Z_if_ne (tgt := 69) dX5_plain_64 (by decide) v_4dcc24baa7 (fun h106 => ?_) (fun h106 => absurd h106 v_3a47bfd896)
            refine J_aload_n dX5_plain_69 rfl rfl ?_
            refine Z_bipush (n := 60) dX5_plain_70 (by decide +kernel) ?_
            refine J_callV (st := []) dX5_plain_72 cv_X5_50 (d_isSign 60 ln z61 z62 z63 z64 z65 fl z66 v_eb2f5e1e3a v_382af52349 h68 h69 rfl) rfl rfl rfl (Nat.le_of_ble_eq_true rfl) ⟨(Nat.le_of_ble_eq_true rfl), (Nat.le_of_ble_eq_true rfl)⟩ ⟨(Nat.le_of_ble_eq_true rfl), (Nat.le_of_ble_eq_true rfl)⟩ (fun r h9 hp => ?_)
            rcases hp with ⟨rfl, rfl, h107⟩ | ⟨rfl, rfl, h108⟩
            · refine J_nf (nh2 := nh) (ck2 := 0) (sk2 := 0) (st2 := [.int (zI 1)]) rfl rfl rfl rfl ?_
              refine Z_if_eq (tgt := 83) dX5_plain_75 (by decide) v_4dcc24baa7 (fun h109 => absurd h109 v_3a47bfd896) (fun h109 => ?_)
              refine Z_bipush (n := 6) dX5_plain_78 (by decide +kernel) ?_
              refine J_goto (tgt := 99) dX5_plain_80 (by decide) ?_
              refine J_istore_n dX5_plain_99 rfl (Nat.le_of_ble_eq_true rfl) rfl ?_
              refine J_ls (ls2 := [some (.ref 54), some (.int (zI 1)), some (.int (zI dn_4)), some (.int (zI 6))]) rfl ?_
              refine J_iload_n dX5_plain_100 rfl rfl ?_
              refine Z_bipush (n := 8) dX5_plain_101 (by decide +kernel) ?_
              refine Z_icmp_ne (tgt := 120) dX5_plain_103 (by decide) v_8f5ecbc95e v_665891e294 (fun h110 => ?_) (fun h110 => absurd h110 v_ada6685030)
              refine J_aload_n dX5_plain_120 rfl rfl ?_
              have g111 := TokL.lt h79 (v_f5333b39e4 h107)
              refine J_callV (st := []) dX5_plain_121 cv_X5_43 (d_advance ln z61 z62 z63 z64 z65 fl z66 tp q0 q1 (v_d253cb2c59 h70 g111) h72 h73 h74 q15 rfl hk55) rfl rfl rfl (Nat.le_of_ble_eq_true rfl) ⟨(Nat.le_of_ble_eq_true rfl), (Nat.le_of_ble_eq_true rfl)⟩ ⟨(Nat.le_of_ble_eq_true rfl), (Nat.le_of_ble_eq_true rfl)⟩ (fun r h9 hp => ?_)
              obtain ⟨z112, z113, z114, z115, rfl, rfl, h116, h117, h118, h119, h120, h121, h122, h123⟩ := hp
              refine J_nf (nh2 := nh) (ck2 := 0) (sk2 := 0) (st2 := []) rfl rfl rfl rfl ?_
              refine J_app (L3 := [(54, .inr (5, [.ref 55, .int (zI ln), .int (zI z112), .int (zI z113), .int (zI z114), .int (zI z115), .int (zI z65), .int (zI fl), .ref 56, .int (zI z66)])), (54, .inr (5, [.ref 55, .int (zI ln), .int (zI z61), .int (zI z62), .int (zI z63), .int (zI z64), .int (zI z65), .int (zI fl), .ref 56, .int (zI z66)])), (56, .inl (0, 412, .inl (zA f67)))]) rfl ?_
              refine J_mask (L2 := [(54, .inr (5, [.ref 55, .int (zI ln), .int (zI z112), .int (zI z113), .int (zI z114), .int (zI z115), .int (zI z65), .int (zI fl), .ref 56, .int (zI z66)])), (56, .inl (0, 412, .inl (zA f67)))]) (ks := [54, 54, 56]) [true, false, true] rfl (by decide +kernel) rfl ?_
              refine J_aload_n dX5_plain_124 rfl rfl ?_
              refine J_iload_n dX5_plain_125 rfl rfl ?_
              refine J_callV (st := []) dX5_plain_126 cv_X5_63 (d_sum1 ln z112 z113 z114 z115 z65 fl z66 tp f67 q0 q1 h116 h117 (v_9b2e2070a2 h70 g111 h118) h119 h120 h121 h122 h75 h76 q11 h77 h78 h123 q15 h80 rfl hk55 rfl) rfl rfl rfl (Nat.le_of_ble_eq_true rfl) ⟨(Nat.le_of_ble_eq_true rfl), (Nat.le_of_ble_eq_true rfl)⟩ ⟨(Nat.le_of_ble_eq_true rfl), (Nat.le_of_ble_eq_true rfl)⟩ (fun r h9 hp => ?_)
              rcases hp with ⟨z124, z125, z126, z127, z128, z129, f130, rfl, rfl, h131, h132, h133, h134, h135, h136, h137, h138, h139, h140, h141, h142, h143, h144, h145⟩ | ⟨z146, z147, z148, z149, z150, z151, f152, z153, rfl, rfl, h154, h155, h156, h157, h158, h159, h160, h161, h162, h163, h164, h165, h166, h167, h168⟩
              · refine J_nf (nh2 := nh) (ck2 := 0) (sk2 := 0) (st2 := [.int (zI 1)]) rfl rfl rfl rfl ?_
                refine J_app (L3 := [(54, .inr (5, [.ref 55, .int (zI ln), .int (zI z124), .int (zI z125), .int (zI z126), .int (zI z127), .int (zI z128), .int (zI fl), .ref 56, .int (zI z129)])), (56, .inl (0, 412, .inl (zA f130))), (54, .inr (5, [.ref 55, .int (zI ln), .int (zI z112), .int (zI z113), .int (zI z114), .int (zI z115), .int (zI z65), .int (zI fl), .ref 56, .int (zI z66)])), (56, .inl (0, 412, .inl (zA f67)))]) rfl ?_
                refine J_mask (L2 := [(54, .inr (5, [.ref 55, .int (zI ln), .int (zI z124), .int (zI z125), .int (zI z126), .int (zI z127), .int (zI z128), .int (zI fl), .ref 56, .int (zI z129)])), (56, .inl (0, 412, .inl (zA f130)))]) (ks := [54, 56, 54, 56]) [true, true, false, false] rfl (by decide +kernel) rfl ?_
                refine Z_if_ne (tgt := 134) dX5_plain_129 (by decide) v_4dcc24baa7 (fun h169 => ?_) (fun h169 => absurd h169 v_3a47bfd896)
                refine J_aload_n dX5_plain_134 rfl rfl ?_
                refine J_iload_n dX5_plain_135 rfl rfl ?_
                refine Z_iconst (n := 0) dX5_plain_136 ?_
                refine J_callV (st := []) dX5_plain_137 cv_X5_72 (d_emit 6 0 ln z124 z125 z126 z127 z128 fl z129 f130 v_8f5ecbc95e v_b17331891f h140 h141 h143 rfl rfl) rfl rfl rfl (Nat.le_of_ble_eq_true rfl) ⟨(Nat.le_of_ble_eq_true rfl), (Nat.le_of_ble_eq_true rfl)⟩ ⟨(Nat.le_of_ble_eq_true rfl), (Nat.le_of_ble_eq_true rfl)⟩ (fun r h9 hp => ?_)
                obtain ⟨z170, f171, rfl, rfl, h172, h173, h174, h175, h176⟩ := hp
                refine J_nf (nh2 := nh) (ck2 := 0) (sk2 := 0) (st2 := [.int (zI z129)]) rfl rfl rfl rfl ?_
                refine J_app (L3 := [(54, .inr (5, [.ref 55, .int (zI ln), .int (zI z124), .int (zI z125), .int (zI z126), .int (zI z127), .int (zI z128), .int (zI fl), .ref 56, .int (zI z170)])), (56, .inl (0, 412, .inl (zA f171))), (54, .inr (5, [.ref 55, .int (zI ln), .int (zI z124), .int (zI z125), .int (zI z126), .int (zI z127), .int (zI z128), .int (zI fl), .ref 56, .int (zI z129)])), (56, .inl (0, 412, .inl (zA f130)))]) rfl ?_
                refine J_mask (L2 := [(54, .inr (5, [.ref 55, .int (zI ln), .int (zI z124), .int (zI z125), .int (zI z126), .int (zI z127), .int (zI z128), .int (zI fl), .ref 56, .int (zI z170)])), (56, .inl (0, 412, .inl (zA f171)))]) (ks := [54, 56, 54, 56]) [true, true, false, false] rfl (by decide +kernel) rfl ?_
                refine J_pop dX5_plain_140 rfl ?_
                refine J_iload_n dX5_plain_141 rfl rfl ?_
                refine Z_if_eq (tgt := 153) dX5_plain_142 (by decide) (v_5f10a759cd i4_2 i4_3) (fun h177 => ?_) (fun h177 => ?_)
                · refine Z_iconst (n := 1) dX5_plain_153 ?_
                  exact J_iret dX5_plain_154 rfl (jbn v_316afd7d0b v_bbcfac9b7d) (Nat.le_of_ble_eq_true rfl) (Nat.le_of_ble_eq_true rfl) (Or.inl ⟨z124, z125, z126, z127, z128, z170, f171, rfl, rfl, h131, h132, h133, h134, h135, h136, h137, h138, h139, h172, h173, h142, h176, (v_5848421b37 i4_2 i4_4 h81 g111 h118 h144 h175), (v_60a9ec55dc i4_2 i4_4 h82 g111 h118 h145)⟩)
                · refine J_aload_n dX5_plain_145 rfl rfl ?_
                  refine Z_bipush (n := 9) dX5_plain_146 (by decide +kernel) ?_
                  refine Z_iconst (n := 0) dX5_plain_148 ?_
                  refine J_callV (st := []) dX5_plain_149 cv_X5_72 (d_emit 9 0 ln z124 z125 z126 z127 z128 fl z170 f171 v_00f9f00cc1 v_b17331891f h172 h173 h176 rfl rfl) rfl rfl rfl (Nat.le_of_ble_eq_true rfl) ⟨(Nat.le_of_ble_eq_true rfl), (Nat.le_of_ble_eq_true rfl)⟩ ⟨(Nat.le_of_ble_eq_true rfl), (Nat.le_of_ble_eq_true rfl)⟩ (fun r h9 hp => ?_)
                  obtain ⟨z178, f179, rfl, rfl, h180, h181, h182, h183, h184⟩ := hp
                  refine J_nf (nh2 := nh) (ck2 := 0) (sk2 := 0) (st2 := [.int (zI z170)]) rfl rfl rfl rfl ?_
                  refine J_app (L3 := [(54, .inr (5, [.ref 55, .int (zI ln), .int (zI z124), .int (zI z125), .int (zI z126), .int (zI z127), .int (zI z128), .int (zI fl), .ref 56, .int (zI z178)])), (56, .inl (0, 412, .inl (zA f179))), (54, .inr (5, [.ref 55, .int (zI ln), .int (zI z124), .int (zI z125), .int (zI z126), .int (zI z127), .int (zI z128), .int (zI fl), .ref 56, .int (zI z170)])), (56, .inl (0, 412, .inl (zA f171)))]) rfl ?_
                  refine J_mask (L2 := [(54, .inr (5, [.ref 55, .int (zI ln), .int (zI z124), .int (zI z125), .int (zI z126), .int (zI z127), .int (zI z128), .int (zI fl), .ref 56, .int (zI z178)])), (56, .inl (0, 412, .inl (zA f179)))]) (ks := [54, 56, 54, 56]) [true, true, false, false] rfl (by decide +kernel) rfl ?_
                  refine J_pop dX5_plain_152 rfl ?_
                  refine Z_iconst (n := 1) dX5_plain_153 ?_
                  exact J_iret dX5_plain_154 rfl (jbn v_316afd7d0b v_bbcfac9b7d) (Nat.le_of_ble_eq_true rfl) (Nat.le_of_ble_eq_true rfl) (Or.inl ⟨z124, z125, z126, z127, z128, z178, f179, rfl, rfl, h131, h132, h133, h134, h135, h136, h137, h138, h139, h180, h181, h142, h184, (v_1533bd4120 i4_2 i4_4 h81 g111 h118 h144 h175 h177 h183), (v_60a9ec55dc i4_2 i4_4 h82 g111 h118 h145)⟩)
              · refine J_nf (nh2 := nh) (ck2 := 0) (sk2 := 0) (st2 := [.int (zI 0)]) rfl rfl rfl rfl ?_
                refine J_app (L3 := [(54, .inr (5, [.ref 55, .int (zI ln), .int (zI z146), .int (zI z147), .int (zI z148), .int (zI z149), .int (zI z150), .int (zI z153), .ref 56, .int (zI z151)])), (56, .inl (0, 412, .inl (zA f152))), (54, .inr (5, [.ref 55, .int (zI ln), .int (zI z112), .int (zI z113), .int (zI z114), .int (zI z115), .int (zI z65), .int (zI fl), .ref 56, .int (zI z66)])), (56, .inl (0, 412, .inl (zA f67)))]) rfl ?_
                refine J_mask (L2 := [(54, .inr (5, [.ref 55, .int (zI ln), .int (zI z146), .int (zI z147), .int (zI z148), .int (zI z149), .int (zI z150), .int (zI z153), .ref 56, .int (zI z151)])), (56, .inl (0, 412, .inl (zA f152)))]) (ks := [54, 56, 54, 56]) [true, true, false, false] rfl (by decide +kernel) rfl ?_
                refine Z_if_ne (tgt := 134) dX5_plain_129 (by decide) v_b17331891f (fun h185 => absurd h185 (fun q => q v_2ca2bbca1f)) (fun h185 => ?_)
                refine Z_iconst (n := 0) dX5_plain_132 ?_
                exact J_iret dX5_plain_133 rfl (jbn v_939070ca3f v_316afd7d0b) (Nat.le_of_ble_eq_true rfl) (Nat.le_of_ble_eq_true rfl) (Or.inr ⟨z146, z147, z148, z149, z150, z151, f152, z153, rfl, rfl, h154, h155, h156, h157, h158, h159, h160, h161, h162, h163, h164, h165, h166, h167, h168⟩)
            · refine J_nf (nh2 := nh) (ck2 := 0) (sk2 := 0) (st2 := [.int (zI 0)]) rfl rfl rfl rfl ?_
              refine Z_if_eq (tgt := 83) dX5_plain_75 (by decide) v_b17331891f (fun h186 => ?_) (fun h186 => absurd h186 (fun q => q v_2ca2bbca1f))
              refine J_aload_n dX5_plain_83 rfl rfl ?_
              refine Z_bipush (n := 62) dX5_plain_84 (by decide +kernel) ?_
              refine J_callV (st := []) dX5_plain_86 cv_X5_50 (d_isSign 62 ln z61 z62 z63 z64 z65 fl z66 v_722c6b3941 v_3996c1d9a8 h68 h69 rfl) rfl rfl rfl (Nat.le_of_ble_eq_true rfl) ⟨(Nat.le_of_ble_eq_true rfl), (Nat.le_of_ble_eq_true rfl)⟩ ⟨(Nat.le_of_ble_eq_true rfl), (Nat.le_of_ble_eq_true rfl)⟩ (fun r h9 hp => ?_)
              rcases hp with ⟨rfl, rfl, h187⟩ | ⟨rfl, rfl, h188⟩
              · refine J_nf (nh2 := nh) (ck2 := 0) (sk2 := 0) (st2 := [.int (zI 1)]) rfl rfl rfl rfl ?_
                refine Z_if_eq (tgt := 97) dX5_plain_89 (by decide) v_4dcc24baa7 (fun h189 => absurd h189 v_3a47bfd896) (fun h189 => ?_)
                refine Z_bipush (n := 7) dX5_plain_92 (by decide +kernel) ?_
                refine J_goto (tgt := 99) dX5_plain_94 (by decide) ?_
                refine J_istore_n dX5_plain_99 rfl (Nat.le_of_ble_eq_true rfl) rfl ?_
                refine J_ls (ls2 := [some (.ref 54), some (.int (zI 1)), some (.int (zI dn_4)), some (.int (zI 7))]) rfl ?_
                refine J_iload_n dX5_plain_100 rfl rfl ?_
                refine Z_bipush (n := 8) dX5_plain_101 (by decide +kernel) ?_
                refine Z_icmp_ne (tgt := 120) dX5_plain_103 (by decide) v_c3fe1a091f v_665891e294 (fun h190 => ?_) (fun h190 => absurd h190 v_d62b89f05c)
                refine J_aload_n dX5_plain_120 rfl rfl ?_
                have g191 := TokL.lt h79 (v_3ec9e003c7 h187)
                refine J_callV (st := []) dX5_plain_121 cv_X5_43 (d_advance ln z61 z62 z63 z64 z65 fl z66 tp q0 q1 (v_d253cb2c59 h70 g191) h72 h73 h74 q15 rfl hk55) rfl rfl rfl (Nat.le_of_ble_eq_true rfl) ⟨(Nat.le_of_ble_eq_true rfl), (Nat.le_of_ble_eq_true rfl)⟩ ⟨(Nat.le_of_ble_eq_true rfl), (Nat.le_of_ble_eq_true rfl)⟩ (fun r h9 hp => ?_)
                obtain ⟨z192, z193, z194, z195, rfl, rfl, h196, h197, h198, h199, h200, h201, h202, h203⟩ := hp
                refine J_nf (nh2 := nh) (ck2 := 0) (sk2 := 0) (st2 := []) rfl rfl rfl rfl ?_
                refine J_app (L3 := [(54, .inr (5, [.ref 55, .int (zI ln), .int (zI z192), .int (zI z193), .int (zI z194), .int (zI z195), .int (zI z65), .int (zI fl), .ref 56, .int (zI z66)])), (54, .inr (5, [.ref 55, .int (zI ln), .int (zI z61), .int (zI z62), .int (zI z63), .int (zI z64), .int (zI z65), .int (zI fl), .ref 56, .int (zI z66)])), (56, .inl (0, 412, .inl (zA f67)))]) rfl ?_
                refine J_mask (L2 := [(54, .inr (5, [.ref 55, .int (zI ln), .int (zI z192), .int (zI z193), .int (zI z194), .int (zI z195), .int (zI z65), .int (zI fl), .ref 56, .int (zI z66)])), (56, .inl (0, 412, .inl (zA f67)))]) (ks := [54, 54, 56]) [true, false, true] rfl (by decide +kernel) rfl ?_
                refine J_aload_n dX5_plain_124 rfl rfl ?_
                refine J_iload_n dX5_plain_125 rfl rfl ?_
                refine J_callV (st := []) dX5_plain_126 cv_X5_63 (d_sum1 ln z192 z193 z194 z195 z65 fl z66 tp f67 q0 q1 h196 h197 (v_9b2e2070a2 h70 g191 h198) h199 h200 h201 h202 h75 h76 q11 h77 h78 h203 q15 h80 rfl hk55 rfl) rfl rfl rfl (Nat.le_of_ble_eq_true rfl) ⟨(Nat.le_of_ble_eq_true rfl), (Nat.le_of_ble_eq_true rfl)⟩ ⟨(Nat.le_of_ble_eq_true rfl), (Nat.le_of_ble_eq_true rfl)⟩ (fun r h9 hp => ?_)
                rcases hp with ⟨z204, z205, z206, z207, z208, z209, f210, rfl, rfl, h211, h212, h213, h214, h215, h216, h217, h218, h219, h220, h221, h222, h223, h224, h225⟩ | ⟨z226, z227, z228, z229, z230, z231, f232, z233, rfl, rfl, h234, h235, h236, h237, h238, h239, h240, h241, h242, h243, h244, h245, h246, h247, h248⟩
                · refine J_nf (nh2 := nh) (ck2 := 0) (sk2 := 0) (st2 := [.int (zI 1)]) rfl rfl rfl rfl ?_
                  refine J_app (L3 := [(54, .inr (5, [.ref 55, .int (zI ln), .int (zI z204), .int (zI z205), .int (zI z206), .int (zI z207), .int (zI z208), .int (zI fl), .ref 56, .int (zI z209)])), (56, .inl (0, 412, .inl (zA f210))), (54, .inr (5, [.ref 55, .int (zI ln), .int (zI z192), .int (zI z193), .int (zI z194), .int (zI z195), .int (zI z65), .int (zI fl), .ref 56, .int (zI z66)])), (56, .inl (0, 412, .inl (zA f67)))]) rfl ?_
                  refine J_mask (L2 := [(54, .inr (5, [.ref 55, .int (zI ln), .int (zI z204), .int (zI z205), .int (zI z206), .int (zI z207), .int (zI z208), .int (zI fl), .ref 56, .int (zI z209)])), (56, .inl (0, 412, .inl (zA f210)))]) (ks := [54, 56, 54, 56]) [true, true, false, false] rfl (by decide +kernel) rfl ?_
                  refine Z_if_ne (tgt := 134) dX5_plain_129 (by decide) v_4dcc24baa7 (fun h249 => ?_) (fun h249 => absurd h249 v_3a47bfd896)
                  refine J_aload_n dX5_plain_134 rfl rfl ?_
                  refine J_iload_n dX5_plain_135 rfl rfl ?_
                  refine Z_iconst (n := 0) dX5_plain_136 ?_
                  refine J_callV (st := []) dX5_plain_137 cv_X5_72 (d_emit 7 0 ln z204 z205 z206 z207 z208 fl z209 f210 v_c3fe1a091f v_b17331891f h220 h221 h223 rfl rfl) rfl rfl rfl (Nat.le_of_ble_eq_true rfl) ⟨(Nat.le_of_ble_eq_true rfl), (Nat.le_of_ble_eq_true rfl)⟩ ⟨(Nat.le_of_ble_eq_true rfl), (Nat.le_of_ble_eq_true rfl)⟩ (fun r h9 hp => ?_)
                  obtain ⟨z250, f251, rfl, rfl, h252, h253, h254, h255, h256⟩ := hp
                  refine J_nf (nh2 := nh) (ck2 := 0) (sk2 := 0) (st2 := [.int (zI z209)]) rfl rfl rfl rfl ?_
                  refine J_app (L3 := [(54, .inr (5, [.ref 55, .int (zI ln), .int (zI z204), .int (zI z205), .int (zI z206), .int (zI z207), .int (zI z208), .int (zI fl), .ref 56, .int (zI z250)])), (56, .inl (0, 412, .inl (zA f251))), (54, .inr (5, [.ref 55, .int (zI ln), .int (zI z204), .int (zI z205), .int (zI z206), .int (zI z207), .int (zI z208), .int (zI fl), .ref 56, .int (zI z209)])), (56, .inl (0, 412, .inl (zA f210)))]) rfl ?_
                  refine J_mask (L2 := [(54, .inr (5, [.ref 55, .int (zI ln), .int (zI z204), .int (zI z205), .int (zI z206), .int (zI z207), .int (zI z208), .int (zI fl), .ref 56, .int (zI z250)])), (56, .inl (0, 412, .inl (zA f251)))]) (ks := [54, 56, 54, 56]) [true, true, false, false] rfl (by decide +kernel) rfl ?_
                  refine J_pop dX5_plain_140 rfl ?_
                  refine J_iload_n dX5_plain_141 rfl rfl ?_
                  refine Z_if_eq (tgt := 153) dX5_plain_142 (by decide) (v_5f10a759cd i4_2 i4_3) (fun h257 => ?_) (fun h257 => ?_)
                  · refine Z_iconst (n := 1) dX5_plain_153 ?_
                    exact J_iret dX5_plain_154 rfl (jbn v_316afd7d0b v_bbcfac9b7d) (Nat.le_of_ble_eq_true rfl) (Nat.le_of_ble_eq_true rfl) (Or.inl ⟨z204, z205, z206, z207, z208, z250, f251, rfl, rfl, h211, h212, h213, h214, h215, h216, h217, h218, h219, h252, h253, h222, h256, (v_5848421b37 i4_2 i4_4 h81 g191 h198 h224 h255), (v_60a9ec55dc i4_2 i4_4 h82 g191 h198 h225)⟩)
                  · refine J_aload_n dX5_plain_145 rfl rfl ?_
                    refine Z_bipush (n := 9) dX5_plain_146 (by decide +kernel) ?_
                    refine Z_iconst (n := 0) dX5_plain_148 ?_
                    refine J_callV (st := []) dX5_plain_149 cv_X5_72 (d_emit 9 0 ln z204 z205 z206 z207 z208 fl z250 f251 v_00f9f00cc1 v_b17331891f h252 h253 h256 rfl rfl) rfl rfl rfl (Nat.le_of_ble_eq_true rfl) ⟨(Nat.le_of_ble_eq_true rfl), (Nat.le_of_ble_eq_true rfl)⟩ ⟨(Nat.le_of_ble_eq_true rfl), (Nat.le_of_ble_eq_true rfl)⟩ (fun r h9 hp => ?_)
                    obtain ⟨z258, f259, rfl, rfl, h260, h261, h262, h263, h264⟩ := hp
                    refine J_nf (nh2 := nh) (ck2 := 0) (sk2 := 0) (st2 := [.int (zI z250)]) rfl rfl rfl rfl ?_
                    refine J_app (L3 := [(54, .inr (5, [.ref 55, .int (zI ln), .int (zI z204), .int (zI z205), .int (zI z206), .int (zI z207), .int (zI z208), .int (zI fl), .ref 56, .int (zI z258)])), (56, .inl (0, 412, .inl (zA f259))), (54, .inr (5, [.ref 55, .int (zI ln), .int (zI z204), .int (zI z205), .int (zI z206), .int (zI z207), .int (zI z208), .int (zI fl), .ref 56, .int (zI z250)])), (56, .inl (0, 412, .inl (zA f251)))]) rfl ?_
                    refine J_mask (L2 := [(54, .inr (5, [.ref 55, .int (zI ln), .int (zI z204), .int (zI z205), .int (zI z206), .int (zI z207), .int (zI z208), .int (zI fl), .ref 56, .int (zI z258)])), (56, .inl (0, 412, .inl (zA f259)))]) (ks := [54, 56, 54, 56]) [true, true, false, false] rfl (by decide +kernel) rfl ?_
                    refine J_pop dX5_plain_152 rfl ?_
                    refine Z_iconst (n := 1) dX5_plain_153 ?_
                    exact J_iret dX5_plain_154 rfl (jbn v_316afd7d0b v_bbcfac9b7d) (Nat.le_of_ble_eq_true rfl) (Nat.le_of_ble_eq_true rfl) (Or.inl ⟨z204, z205, z206, z207, z208, z258, f259, rfl, rfl, h211, h212, h213, h214, h215, h216, h217, h218, h219, h260, h261, h222, h264, (v_1533bd4120 i4_2 i4_4 h81 g191 h198 h224 h255 h257 h263), (v_60a9ec55dc i4_2 i4_4 h82 g191 h198 h225)⟩)
                · refine J_nf (nh2 := nh) (ck2 := 0) (sk2 := 0) (st2 := [.int (zI 0)]) rfl rfl rfl rfl ?_
                  refine J_app (L3 := [(54, .inr (5, [.ref 55, .int (zI ln), .int (zI z226), .int (zI z227), .int (zI z228), .int (zI z229), .int (zI z230), .int (zI z233), .ref 56, .int (zI z231)])), (56, .inl (0, 412, .inl (zA f232))), (54, .inr (5, [.ref 55, .int (zI ln), .int (zI z192), .int (zI z193), .int (zI z194), .int (zI z195), .int (zI z65), .int (zI fl), .ref 56, .int (zI z66)])), (56, .inl (0, 412, .inl (zA f67)))]) rfl ?_
                  refine J_mask (L2 := [(54, .inr (5, [.ref 55, .int (zI ln), .int (zI z226), .int (zI z227), .int (zI z228), .int (zI z229), .int (zI z230), .int (zI z233), .ref 56, .int (zI z231)])), (56, .inl (0, 412, .inl (zA f232)))]) (ks := [54, 56, 54, 56]) [true, true, false, false] rfl (by decide +kernel) rfl ?_
                  refine Z_if_ne (tgt := 134) dX5_plain_129 (by decide) v_b17331891f (fun h265 => absurd h265 (fun q => q v_2ca2bbca1f)) (fun h265 => ?_)
                  refine Z_iconst (n := 0) dX5_plain_132 ?_
                  exact J_iret dX5_plain_133 rfl (jbn v_939070ca3f v_316afd7d0b) (Nat.le_of_ble_eq_true rfl) (Nat.le_of_ble_eq_true rfl) (Or.inr ⟨z226, z227, z228, z229, z230, z231, f232, z233, rfl, rfl, h234, h235, h236, h237, h238, h239, h240, h241, h242, h243, h244, h245, h246, h247, h248⟩)
              · refine J_nf (nh2 := nh) (ck2 := 0) (sk2 := 0) (st2 := [.int (zI 0)]) rfl rfl rfl rfl ?_
                refine Z_if_eq (tgt := 97) dX5_plain_89 (by decide) v_b17331891f (fun h266 => ?_) (fun h266 => absurd h266 (fun q => q v_2ca2bbca1f))
                refine Z_bipush (n := 8) dX5_plain_97 (by decide +kernel) ?_
                refine J_istore_n dX5_plain_99 rfl (Nat.le_of_ble_eq_true rfl) rfl ?_
                refine J_ls (ls2 := [some (.ref 54), some (.int (zI 1)), some (.int (zI dn_4)), some (.int (zI 8))]) rfl ?_
                refine J_iload_n dX5_plain_100 rfl rfl ?_
                refine Z_bipush (n := 8) dX5_plain_101 (by decide +kernel) ?_
                refine Z_icmp_ne (tgt := 120) dX5_plain_103 (by decide) v_665891e294 v_665891e294 (fun h267 => absurd h267 (fun q => q v_c1b8243509)) (fun h267 => ?_)
                refine J_aload_n dX5_plain_106 rfl rfl ?_
                refine Z_bipush (n := 61) dX5_plain_107 (by decide +kernel) ?_
                refine J_callV (st := []) dX5_plain_109 cv_X5_50 (d_isSign 61 ln z61 z62 z63 z64 z65 fl z66 v_b92a3c53b8 v_7b9730a51b h68 h69 rfl) rfl rfl rfl (Nat.le_of_ble_eq_true rfl) ⟨(Nat.le_of_ble_eq_true rfl), (Nat.le_of_ble_eq_true rfl)⟩ ⟨(Nat.le_of_ble_eq_true rfl), (Nat.le_of_ble_eq_true rfl)⟩ (fun r h9 hp => ?_)
                rcases hp with ⟨rfl, rfl, h268⟩ | ⟨rfl, rfl, h269⟩
                · refine J_nf (nh2 := nh) (ck2 := 0) (sk2 := 0) (st2 := [.int (zI 1)]) rfl rfl rfl rfl ?_
                  refine Z_if_ne (tgt := 120) dX5_plain_112 (by decide) v_4dcc24baa7 (fun h270 => ?_) (fun h270 => absurd h270 v_3a47bfd896)
                  refine J_aload_n dX5_plain_120 rfl rfl ?_
                  have g271 := TokL.lt h79 (v_23eeeea057 h268)
                  refine J_callV (st := []) dX5_plain_121 cv_X5_43 (d_advance ln z61 z62 z63 z64 z65 fl z66 tp q0 q1 (v_d253cb2c59 h70 g271) h72 h73 h74 q15 rfl hk55) rfl rfl rfl (Nat.le_of_ble_eq_true rfl) ⟨(Nat.le_of_ble_eq_true rfl), (Nat.le_of_ble_eq_true rfl)⟩ ⟨(Nat.le_of_ble_eq_true rfl), (Nat.le_of_ble_eq_true rfl)⟩ (fun r h9 hp => ?_)
                  obtain ⟨z272, z273, z274, z275, rfl, rfl, h276, h277, h278, h279, h280, h281, h282, h283⟩ := hp
                  refine J_nf (nh2 := nh) (ck2 := 0) (sk2 := 0) (st2 := []) rfl rfl rfl rfl ?_
                  refine J_app (L3 := [(54, .inr (5, [.ref 55, .int (zI ln), .int (zI z272), .int (zI z273), .int (zI z274), .int (zI z275), .int (zI z65), .int (zI fl), .ref 56, .int (zI z66)])), (54, .inr (5, [.ref 55, .int (zI ln), .int (zI z61), .int (zI z62), .int (zI z63), .int (zI z64), .int (zI z65), .int (zI fl), .ref 56, .int (zI z66)])), (56, .inl (0, 412, .inl (zA f67)))]) rfl ?_
                  refine J_mask (L2 := [(54, .inr (5, [.ref 55, .int (zI ln), .int (zI z272), .int (zI z273), .int (zI z274), .int (zI z275), .int (zI z65), .int (zI fl), .ref 56, .int (zI z66)])), (56, .inl (0, 412, .inl (zA f67)))]) (ks := [54, 54, 56]) [true, false, true] rfl (by decide +kernel) rfl ?_
                  refine J_aload_n dX5_plain_124 rfl rfl ?_
                  refine J_iload_n dX5_plain_125 rfl rfl ?_
                  refine J_callV (st := []) dX5_plain_126 cv_X5_63 (d_sum1 ln z272 z273 z274 z275 z65 fl z66 tp f67 q0 q1 h276 h277 (v_9b2e2070a2 h70 g271 h278) h279 h280 h281 h282 h75 h76 q11 h77 h78 h283 q15 h80 rfl hk55 rfl) rfl rfl rfl (Nat.le_of_ble_eq_true rfl) ⟨(Nat.le_of_ble_eq_true rfl), (Nat.le_of_ble_eq_true rfl)⟩ ⟨(Nat.le_of_ble_eq_true rfl), (Nat.le_of_ble_eq_true rfl)⟩ (fun r h9 hp => ?_)
                  rcases hp with ⟨z284, z285, z286, z287, z288, z289, f290, rfl, rfl, h291, h292, h293, h294, h295, h296, h297, h298, h299, h300, h301, h302, h303, h304, h305⟩ | ⟨z306, z307, z308, z309, z310, z311, f312, z313, rfl, rfl, h314, h315, h316, h317, h318, h319, h320, h321, h322, h323, h324, h325, h326, h327, h328⟩
                  · refine J_nf (nh2 := nh) (ck2 := 0) (sk2 := 0) (st2 := [.int (zI 1)]) rfl rfl rfl rfl ?_
                    refine J_app (L3 := [(54, .inr (5, [.ref 55, .int (zI ln), .int (zI z284), .int (zI z285), .int (zI z286), .int (zI z287), .int (zI z288), .int (zI fl), .ref 56, .int (zI z289)])), (56, .inl (0, 412, .inl (zA f290))), (54, .inr (5, [.ref 55, .int (zI ln), .int (zI z272), .int (zI z273), .int (zI z274), .int (zI z275), .int (zI z65), .int (zI fl), .ref 56, .int (zI z66)])), (56, .inl (0, 412, .inl (zA f67)))]) rfl ?_
                    refine J_mask (L2 := [(54, .inr (5, [.ref 55, .int (zI ln), .int (zI z284), .int (zI z285), .int (zI z286), .int (zI z287), .int (zI z288), .int (zI fl), .ref 56, .int (zI z289)])), (56, .inl (0, 412, .inl (zA f290)))]) (ks := [54, 56, 54, 56]) [true, true, false, false] rfl (by decide +kernel) rfl ?_
                    refine Z_if_ne (tgt := 134) dX5_plain_129 (by decide) v_4dcc24baa7 (fun h329 => ?_) (fun h329 => absurd h329 v_3a47bfd896)
                    refine J_aload_n dX5_plain_134 rfl rfl ?_
                    refine J_iload_n dX5_plain_135 rfl rfl ?_
                    refine Z_iconst (n := 0) dX5_plain_136 ?_
                    refine J_callV (st := []) dX5_plain_137 cv_X5_72 (d_emit 8 0 ln z284 z285 z286 z287 z288 fl z289 f290 v_665891e294 v_b17331891f h300 h301 h303 rfl rfl) rfl rfl rfl (Nat.le_of_ble_eq_true rfl) ⟨(Nat.le_of_ble_eq_true rfl), (Nat.le_of_ble_eq_true rfl)⟩ ⟨(Nat.le_of_ble_eq_true rfl), (Nat.le_of_ble_eq_true rfl)⟩ (fun r h9 hp => ?_)
                    obtain ⟨z330, f331, rfl, rfl, h332, h333, h334, h335, h336⟩ := hp
                    refine J_nf (nh2 := nh) (ck2 := 0) (sk2 := 0) (st2 := [.int (zI z289)]) rfl rfl rfl rfl ?_
                    refine J_app (L3 := [(54, .inr (5, [.ref 55, .int (zI ln), .int (zI z284), .int (zI z285), .int (zI z286), .int (zI z287), .int (zI z288), .int (zI fl), .ref 56, .int (zI z330)])), (56, .inl (0, 412, .inl (zA f331))), (54, .inr (5, [.ref 55, .int (zI ln), .int (zI z284), .int (zI z285), .int (zI z286), .int (zI z287), .int (zI z288), .int (zI fl), .ref 56, .int (zI z289)])), (56, .inl (0, 412, .inl (zA f290)))]) rfl ?_
                    refine J_mask (L2 := [(54, .inr (5, [.ref 55, .int (zI ln), .int (zI z284), .int (zI z285), .int (zI z286), .int (zI z287), .int (zI z288), .int (zI fl), .ref 56, .int (zI z330)])), (56, .inl (0, 412, .inl (zA f331)))]) (ks := [54, 56, 54, 56]) [true, true, false, false] rfl (by decide +kernel) rfl ?_
                    refine J_pop dX5_plain_140 rfl ?_
                    refine J_iload_n dX5_plain_141 rfl rfl ?_
                    refine Z_if_eq (tgt := 153) dX5_plain_142 (by decide) (v_5f10a759cd i4_2 i4_3) (fun h337 => ?_) (fun h337 => ?_)
                    · refine Z_iconst (n := 1) dX5_plain_153 ?_
                      exact J_iret dX5_plain_154 rfl (jbn v_316afd7d0b v_bbcfac9b7d) (Nat.le_of_ble_eq_true rfl) (Nat.le_of_ble_eq_true rfl) (Or.inl ⟨z284, z285, z286, z287, z288, z330, f331, rfl, rfl, h291, h292, h293, h294, h295, h296, h297, h298, h299, h332, h333, h302, h336, (v_5848421b37 i4_2 i4_4 h81 g271 h278 h304 h335), (v_60a9ec55dc i4_2 i4_4 h82 g271 h278 h305)⟩)
                    · refine J_aload_n dX5_plain_145 rfl rfl ?_
                      refine Z_bipush (n := 9) dX5_plain_146 (by decide +kernel) ?_
                      refine Z_iconst (n := 0) dX5_plain_148 ?_
                      refine J_callV (st := []) dX5_plain_149 cv_X5_72 (d_emit 9 0 ln z284 z285 z286 z287 z288 fl z330 f331 v_00f9f00cc1 v_b17331891f h332 h333 h336 rfl rfl) rfl rfl rfl (Nat.le_of_ble_eq_true rfl) ⟨(Nat.le_of_ble_eq_true rfl), (Nat.le_of_ble_eq_true rfl)⟩ ⟨(Nat.le_of_ble_eq_true rfl), (Nat.le_of_ble_eq_true rfl)⟩ (fun r h9 hp => ?_)
                      obtain ⟨z338, f339, rfl, rfl, h340, h341, h342, h343, h344⟩ := hp
                      refine J_nf (nh2 := nh) (ck2 := 0) (sk2 := 0) (st2 := [.int (zI z330)]) rfl rfl rfl rfl ?_
                      refine J_app (L3 := [(54, .inr (5, [.ref 55, .int (zI ln), .int (zI z284), .int (zI z285), .int (zI z286), .int (zI z287), .int (zI z288), .int (zI fl), .ref 56, .int (zI z338)])), (56, .inl (0, 412, .inl (zA f339))), (54, .inr (5, [.ref 55, .int (zI ln), .int (zI z284), .int (zI z285), .int (zI z286), .int (zI z287), .int (zI z288), .int (zI fl), .ref 56, .int (zI z330)])), (56, .inl (0, 412, .inl (zA f331)))]) rfl ?_
                      refine J_mask (L2 := [(54, .inr (5, [.ref 55, .int (zI ln), .int (zI z284), .int (zI z285), .int (zI z286), .int (zI z287), .int (zI z288), .int (zI fl), .ref 56, .int (zI z338)])), (56, .inl (0, 412, .inl (zA f339)))]) (ks := [54, 56, 54, 56]) [true, true, false, false] rfl (by decide +kernel) rfl ?_
                      refine J_pop dX5_plain_152 rfl ?_
                      refine Z_iconst (n := 1) dX5_plain_153 ?_
                      exact J_iret dX5_plain_154 rfl (jbn v_316afd7d0b v_bbcfac9b7d) (Nat.le_of_ble_eq_true rfl) (Nat.le_of_ble_eq_true rfl) (Or.inl ⟨z284, z285, z286, z287, z288, z338, f339, rfl, rfl, h291, h292, h293, h294, h295, h296, h297, h298, h299, h340, h341, h302, h344, (v_1533bd4120 i4_2 i4_4 h81 g271 h278 h304 h335 h337 h343), (v_60a9ec55dc i4_2 i4_4 h82 g271 h278 h305)⟩)
                  · refine J_nf (nh2 := nh) (ck2 := 0) (sk2 := 0) (st2 := [.int (zI 0)]) rfl rfl rfl rfl ?_
                    refine J_app (L3 := [(54, .inr (5, [.ref 55, .int (zI ln), .int (zI z306), .int (zI z307), .int (zI z308), .int (zI z309), .int (zI z310), .int (zI z313), .ref 56, .int (zI z311)])), (56, .inl (0, 412, .inl (zA f312))), (54, .inr (5, [.ref 55, .int (zI ln), .int (zI z272), .int (zI z273), .int (zI z274), .int (zI z275), .int (zI z65), .int (zI fl), .ref 56, .int (zI z66)])), (56, .inl (0, 412, .inl (zA f67)))]) rfl ?_
                    refine J_mask (L2 := [(54, .inr (5, [.ref 55, .int (zI ln), .int (zI z306), .int (zI z307), .int (zI z308), .int (zI z309), .int (zI z310), .int (zI z313), .ref 56, .int (zI z311)])), (56, .inl (0, 412, .inl (zA f312)))]) (ks := [54, 56, 54, 56]) [true, true, false, false] rfl (by decide +kernel) rfl ?_
                    refine Z_if_ne (tgt := 134) dX5_plain_129 (by decide) v_b17331891f (fun h345 => absurd h345 (fun q => q v_2ca2bbca1f)) (fun h345 => ?_)
                    refine Z_iconst (n := 0) dX5_plain_132 ?_
                    exact J_iret dX5_plain_133 rfl (jbn v_939070ca3f v_316afd7d0b) (Nat.le_of_ble_eq_true rfl) (Nat.le_of_ble_eq_true rfl) (Or.inr ⟨z306, z307, z308, z309, z310, z311, f312, z313, rfl, rfl, h314, h315, h316, h317, h318, h319, h320, h321, h322, h323, h324, h325, h326, h327, h328⟩)
                · refine J_nf (nh2 := nh) (ck2 := 0) (sk2 := 0) (st2 := [.int (zI 0)]) rfl rfl rfl rfl ?_
                  refine Z_if_ne (tgt := 120) dX5_plain_112 (by decide) v_b17331891f (fun h346 => absurd h346 (fun q => q v_2ca2bbca1f)) (fun h346 => ?_)
                  refine J_aload_n dX5_plain_115 rfl rfl ?_
                  refine J_callV (st := []) dX5_plain_116 cv_X5_54 (d_wrong ln z61 z62 z63 z64 z65 fl z66 h70 (v_1adcfdfee5 q1 h71 h72) rfl) rfl rfl rfl (Nat.le_of_ble_eq_true rfl) ⟨(Nat.le_of_ble_eq_true rfl), (Nat.le_of_ble_eq_true rfl)⟩ ⟨(Nat.le_of_ble_eq_true rfl), (Nat.le_of_ble_eq_true rfl)⟩ (fun r h9 hp => ?_)
                  obtain ⟨rfl, rfl⟩ := hp
                  refine J_nf (nh2 := nh) (ck2 := 0) (sk2 := 0) (st2 := [.int (zI 0)]) rfl rfl rfl rfl ?_
                  refine J_app (L3 := [(54, .inr (5, [.ref 55, .int (zI ln), .int (zI z61), .int (zI z62), .int (zI z63), .int (zI z64), .int (zI z65), .int (zI z62), .ref 56, .int (zI z66)])), (54, .inr (5, [.ref 55, .int (zI ln), .int (zI z61), .int (zI z62), .int (zI z63), .int (zI z64), .int (zI z65), .int (zI fl), .ref 56, .int (zI z66)])), (56, .inl (0, 412, .inl (zA f67)))]) rfl ?_
                  refine J_mask (L2 := [(54, .inr (5, [.ref 55, .int (zI ln), .int (zI z61), .int (zI z62), .int (zI z63), .int (zI z64), .int (zI z65), .int (zI z62), .ref 56, .int (zI z66)])), (56, .inl (0, 412, .inl (zA f67)))]) (ks := [54, 54, 56]) [true, false, true] rfl (by decide +kernel) rfl ?_
                  exact J_iret dX5_plain_119 rfl (jbn v_939070ca3f v_316afd7d0b) (Nat.le_of_ble_eq_true rfl) (Nat.le_of_ble_eq_true rfl) (Or.inr ⟨z61, z62, z63, z64, z65, z66, f67, z62, rfl, rfl, h68, h69, h70, h71, h72, h73, h74, h75, h76, h77, h78, h79, h80, h70, (v_1adcfdfee5 q1 h71 h72)⟩)
          · refine J_nf (nh2 := nh) (ck2 := 0) (sk2 := 0) (st2 := [.int (zI 0)]) rfl rfl rfl rfl ?_
            refine J_app (L3 := [(54, .inr (5, [.ref 55, .int (zI ln), .int (zI z83), .int (zI z84), .int (zI z85), .int (zI z86), .int (zI z87), .int (zI z90), .ref 56, .int (zI z88)])), (56, .inl (0, 412, .inl (zA f89))), (54, .inr (5, [.ref 55, .int (zI ln), .int (zI tx_4), .int (zI sx_4), .int (zI bx_4), .int (zI vx_4), .int (zI pa), .int (zI fl), .ref 56, .int (zI sz)]))]) rfl ?_
            refine J_mask (L2 := [(54, .inr (5, [.ref 55, .int (zI ln), .int (zI z83), .int (zI z84), .int (zI z85), .int (zI z86), .int (zI z87), .int (zI z90), .ref 56, .int (zI z88)])), (56, .inl (0, 412, .inl (zA f89)))]) (ks := [54, 56, 54]) [true, true, false] rfl (by decide +kernel) rfl ?_
            refine Z_if_ne (tgt := 69) dX5_plain_64 (by decide) v_b17331891f (fun h347 => absurd h347 (fun q => q v_2ca2bbca1f)) (fun h347 => ?_)
            refine Z_iconst (n := 0) dX5_plain_67 ?_
            exact J_iret dX5_plain_68 rfl (jbn v_939070ca3f v_316afd7d0b) (Nat.le_of_ble_eq_true rfl) (Nat.le_of_ble_eq_true rfl) (Or.inr ⟨z83, z84, z85, z86, z87, z88, f89, z90, rfl, rfl, h91, h92, h93, h94, h95, h96, h97, h98, h99, h100, h101, h102, h103, h104, h105⟩)
      · refine J_aload_n dX5_plain_11 rfl rfl ?_
        refine J_get (v := .int (zI tx_4)) dX5_plain_12 fl_X5_19 rfl rfl ?_
        refine Z_bipush (n := 6) dX5_plain_15 (by decide +kernel) ?_
        refine Z_icmp_ne (tgt := 40) dX5_plain_17 (by decide) (v_96bf6f782e i4_5 i4_6) v_8f5ecbc95e (fun h348 => ?_) (fun h348 => ?_)
        · refine J_aload_n dX5_plain_40 rfl rfl ?_
          refine Z_bipush (n := 40) dX5_plain_41 (by decide +kernel) ?_
          refine J_callV (st := []) dX5_plain_43 cv_X5_50 (d_isSign 40 ln tx_4 sx_4 bx_4 vx_4 pa fl sz v_3958fe4c87 v_fdd2493dbb i4_5 i4_6 rfl) rfl rfl rfl (Nat.le_of_ble_eq_true rfl) ⟨(Nat.le_of_ble_eq_true rfl), (Nat.le_of_ble_eq_true rfl)⟩ ⟨(Nat.le_of_ble_eq_true rfl), (Nat.le_of_ble_eq_true rfl)⟩ (fun r h9 hp => ?_)
          rcases hp with ⟨rfl, rfl, h349⟩ | ⟨rfl, rfl, h350⟩
          · refine J_nf (nh2 := nh) (ck2 := 0) (sk2 := 0) (st2 := [.int (zI 1)]) rfl rfl rfl rfl ?_
            refine Z_if_eq (tgt := 59) dX5_plain_46 (by decide) v_4dcc24baa7 (fun h351 => absurd h351 v_3a47bfd896) (fun h351 => ?_)
            refine J_aload_n dX5_plain_49 rfl rfl ?_
            refine J_iload_n dX5_plain_50 rfl rfl ?_
            refine J_callV (st := []) dX5_plain_51 cv_X5_86 (d_bracketedTest1 ln tx_4 sx_4 bx_4 vx_4 pa fl sz tp cd q0 q1 i4_5 i4_6 i4_7 i4_8 i4_9 i4_10 i4_11 q9 q10 q11 q12 q13 i4_12 q15 q16 rfl hk55 hk56) rfl rfl rfl (Nat.le_of_ble_eq_true rfl) ⟨(Nat.le_of_ble_eq_true rfl), (Nat.le_of_ble_eq_true rfl)⟩ ⟨(Nat.le_of_ble_eq_true rfl), (Nat.le_of_ble_eq_true rfl)⟩ (fun r h9 hp => ?_)
            rcases hp with ⟨z352, z353, z354, z355, z356, z357, f358, rfl, rfl, h359, h360, h361, h362, h363, h364, h365, h366, h367, h368, h369, h370, h371, h372, h373⟩ | ⟨z374, z375, z376, z377, z378, z379, f380, z381, rfl, rfl, h382, h383, h384, h385, h386, h387, h388, h389, h390, h391, h392, h393, h394, h395, h396⟩
            · refine J_nf (nh2 := nh) (ck2 := 0) (sk2 := 0) (st2 := [.int (zI 1)]) rfl rfl rfl rfl ?_
              refine J_app (L3 := [(54, .inr (5, [.ref 55, .int (zI ln), .int (zI z352), .int (zI z353), .int (zI z354), .int (zI z355), .int (zI z356), .int (zI fl), .ref 56, .int (zI z357)])), (56, .inl (0, 412, .inl (zA f358))), (54, .inr (5, [.ref 55, .int (zI ln), .int (zI tx_4), .int (zI sx_4), .int (zI bx_4), .int (zI vx_4), .int (zI pa), .int (zI fl), .ref 56, .int (zI sz)]))]) rfl ?_
              refine J_mask (L2 := [(54, .inr (5, [.ref 55, .int (zI ln), .int (zI z352), .int (zI z353), .int (zI z354), .int (zI z355), .int (zI z356), .int (zI fl), .ref 56, .int (zI z357)])), (56, .inl (0, 412, .inl (zA f358)))]) (ks := [54, 56, 54]) [true, true, false] rfl (by decide +kernel) rfl ?_
              refine Z_if_ne (tgt := 141) dX5_plain_54 (by decide) v_4dcc24baa7 (fun h397 => ?_) (fun h397 => absurd h397 v_3a47bfd896)
              refine J_iload_n dX5_plain_141 rfl rfl ?_
              refine Z_if_eq (tgt := 153) dX5_plain_142 (by decide) (v_5f10a759cd i4_2 i4_3) (fun h398 => ?_) (fun h398 => ?_)
              · refine Z_iconst (n := 1) dX5_plain_153 ?_
                exact J_iret dX5_plain_154 rfl (jbn v_316afd7d0b v_bbcfac9b7d) (Nat.le_of_ble_eq_true rfl) (Nat.le_of_ble_eq_true rfl) (Or.inl ⟨z352, z353, z354, z355, z356, z357, f358, rfl, rfl, h359, h360, h361, h362, h363, h364, h365, h366, h367, h368, h369, h370, h371, (v_f7907ed2b5 i4_2 i4_4 h372), (v_4790cfd5f0 i4_2 i4_4 h373)⟩)
              · refine J_aload_n dX5_plain_145 rfl rfl ?_
                refine Z_bipush (n := 9) dX5_plain_146 (by decide +kernel) ?_
                refine Z_iconst (n := 0) dX5_plain_148 ?_
                refine J_callV (st := []) dX5_plain_149 cv_X5_72 (d_emit 9 0 ln z352 z353 z354 z355 z356 fl z357 f358 v_00f9f00cc1 v_b17331891f h368 h369 h371 rfl rfl) rfl rfl rfl (Nat.le_of_ble_eq_true rfl) ⟨(Nat.le_of_ble_eq_true rfl), (Nat.le_of_ble_eq_true rfl)⟩ ⟨(Nat.le_of_ble_eq_true rfl), (Nat.le_of_ble_eq_true rfl)⟩ (fun r h9 hp => ?_)
                obtain ⟨z399, f400, rfl, rfl, h401, h402, h403, h404, h405⟩ := hp
                refine J_nf (nh2 := nh) (ck2 := 0) (sk2 := 0) (st2 := [.int (zI z357)]) rfl rfl rfl rfl ?_
                refine J_app (L3 := [(54, .inr (5, [.ref 55, .int (zI ln), .int (zI z352), .int (zI z353), .int (zI z354), .int (zI z355), .int (zI z356), .int (zI fl), .ref 56, .int (zI z399)])), (56, .inl (0, 412, .inl (zA f400))), (54, .inr (5, [.ref 55, .int (zI ln), .int (zI z352), .int (zI z353), .int (zI z354), .int (zI z355), .int (zI z356), .int (zI fl), .ref 56, .int (zI z357)])), (56, .inl (0, 412, .inl (zA f358)))]) rfl ?_
                refine J_mask (L2 := [(54, .inr (5, [.ref 55, .int (zI ln), .int (zI z352), .int (zI z353), .int (zI z354), .int (zI z355), .int (zI z356), .int (zI fl), .ref 56, .int (zI z399)])), (56, .inl (0, 412, .inl (zA f400)))]) (ks := [54, 56, 54, 56]) [true, true, false, false] rfl (by decide +kernel) rfl ?_
                refine J_pop dX5_plain_152 rfl ?_
                refine Z_iconst (n := 1) dX5_plain_153 ?_
                exact J_iret dX5_plain_154 rfl (jbn v_316afd7d0b v_bbcfac9b7d) (Nat.le_of_ble_eq_true rfl) (Nat.le_of_ble_eq_true rfl) (Or.inl ⟨z352, z353, z354, z355, z356, z399, f400, rfl, rfl, h359, h360, h361, h362, h363, h364, h365, h366, h367, h401, h402, h370, h405, (v_6cbc4edc5d i4_2 i4_4 h372 h398 h404), (v_4790cfd5f0 i4_2 i4_4 h373)⟩)
            · refine J_nf (nh2 := nh) (ck2 := 0) (sk2 := 0) (st2 := [.int (zI 0)]) rfl rfl rfl rfl ?_
              refine J_app (L3 := [(54, .inr (5, [.ref 55, .int (zI ln), .int (zI z374), .int (zI z375), .int (zI z376), .int (zI z377), .int (zI z378), .int (zI z381), .ref 56, .int (zI z379)])), (56, .inl (0, 412, .inl (zA f380))), (54, .inr (5, [.ref 55, .int (zI ln), .int (zI tx_4), .int (zI sx_4), .int (zI bx_4), .int (zI vx_4), .int (zI pa), .int (zI fl), .ref 56, .int (zI sz)]))]) rfl ?_
              refine J_mask (L2 := [(54, .inr (5, [.ref 55, .int (zI ln), .int (zI z374), .int (zI z375), .int (zI z376), .int (zI z377), .int (zI z378), .int (zI z381), .ref 56, .int (zI z379)])), (56, .inl (0, 412, .inl (zA f380)))]) (ks := [54, 56, 54]) [true, true, false] rfl (by decide +kernel) rfl ?_
              refine Z_if_ne (tgt := 141) dX5_plain_54 (by decide) v_b17331891f (fun h406 => absurd h406 (fun q => q v_2ca2bbca1f)) (fun h406 => ?_)
              refine Z_iconst (n := 0) dX5_plain_57 ?_
              exact J_iret dX5_plain_58 rfl (jbn v_939070ca3f v_316afd7d0b) (Nat.le_of_ble_eq_true rfl) (Nat.le_of_ble_eq_true rfl) (Or.inr ⟨z374, z375, z376, z377, z378, z379, f380, z381, rfl, rfl, h382, h383, h384, h385, h386, h387, h388, h389, h390, h391, h392, h393, h394, h395, h396⟩)
          · refine J_nf (nh2 := nh) (ck2 := 0) (sk2 := 0) (st2 := [.int (zI 0)]) rfl rfl rfl rfl ?_
            refine Z_if_eq (tgt := 59) dX5_plain_46 (by decide) v_b17331891f (fun h407 => ?_) (fun h407 => absurd h407 (fun q => q v_2ca2bbca1f))
            refine J_aload_n dX5_plain_59 rfl rfl ?_
            refine J_iload_n dX5_plain_60 rfl rfl ?_
            refine J_callV (st := []) dX5_plain_61 cv_X5_63 (d_sum1 ln tx_4 sx_4 bx_4 vx_4 pa fl sz tp cd q0 q1 i4_5 i4_6 i4_7 i4_8 i4_9 i4_10 i4_11 q9 q10 q11 q12 q13 i4_12 q15 q16 rfl hk55 hk56) rfl rfl rfl (Nat.le_of_ble_eq_true rfl) ⟨(Nat.le_of_ble_eq_true rfl), (Nat.le_of_ble_eq_true rfl)⟩ ⟨(Nat.le_of_ble_eq_true rfl), (Nat.le_of_ble_eq_true rfl)⟩ (fun r h9 hp => ?_)
            rcases hp with ⟨z408, z409, z410, z411, z412, z413, f414, rfl, rfl, h415, h416, h417, h418, h419, h420, h421, h422, h423, h424, h425, h426, h427, h428, h429⟩ | ⟨z430, z431, z432, z433, z434, z435, f436, z437, rfl, rfl, h438, h439, h440, h441, h442, h443, h444, h445, h446, h447, h448, h449, h450, h451, h452⟩
            · refine J_nf (nh2 := nh) (ck2 := 0) (sk2 := 0) (st2 := [.int (zI 1)]) rfl rfl rfl rfl ?_
              refine J_app (L3 := [(54, .inr (5, [.ref 55, .int (zI ln), .int (zI z408), .int (zI z409), .int (zI z410), .int (zI z411), .int (zI z412), .int (zI fl), .ref 56, .int (zI z413)])), (56, .inl (0, 412, .inl (zA f414))), (54, .inr (5, [.ref 55, .int (zI ln), .int (zI tx_4), .int (zI sx_4), .int (zI bx_4), .int (zI vx_4), .int (zI pa), .int (zI fl), .ref 56, .int (zI sz)]))]) rfl ?_
              refine J_mask (L2 := [(54, .inr (5, [.ref 55, .int (zI ln), .int (zI z408), .int (zI z409), .int (zI z410), .int (zI z411), .int (zI z412), .int (zI fl), .ref 56, .int (zI z413)])), (56, .inl (0, 412, .inl (zA f414)))]) (ks := [54, 56, 54]) [true, true, false] rfl (by decide +kernel) rfl ?_
              refine Z_if_ne (tgt := 69) dX5_plain_64 (by decide) v_4dcc24baa7 (fun h453 => ?_) (fun h453 => absurd h453 v_3a47bfd896)
              refine J_aload_n dX5_plain_69 rfl rfl ?_
              refine Z_bipush (n := 60) dX5_plain_70 (by decide +kernel) ?_
              refine J_callV (st := []) dX5_plain_72 cv_X5_50 (d_isSign 60 ln z408 z409 z410 z411 z412 fl z413 v_eb2f5e1e3a v_382af52349 h415 h416 rfl) rfl rfl rfl (Nat.le_of_ble_eq_true rfl) ⟨(Nat.le_of_ble_eq_true rfl), (Nat.le_of_ble_eq_true rfl)⟩ ⟨(Nat.le_of_ble_eq_true rfl), (Nat.le_of_ble_eq_true rfl)⟩ (fun r h9 hp => ?_)
              rcases hp with ⟨rfl, rfl, h454⟩ | ⟨rfl, rfl, h455⟩
              · refine J_nf (nh2 := nh) (ck2 := 0) (sk2 := 0) (st2 := [.int (zI 1)]) rfl rfl rfl rfl ?_
                refine Z_if_eq (tgt := 83) dX5_plain_75 (by decide) v_4dcc24baa7 (fun h456 => absurd h456 v_3a47bfd896) (fun h456 => ?_)
                refine Z_bipush (n := 6) dX5_plain_78 (by decide +kernel) ?_
                refine J_goto (tgt := 99) dX5_plain_80 (by decide) ?_
                refine J_istore_n dX5_plain_99 rfl (Nat.le_of_ble_eq_true rfl) rfl ?_
                refine J_ls (ls2 := [some (.ref 54), some (.int (zI 1)), some (.int (zI dn_4)), some (.int (zI 6))]) rfl ?_
                refine J_iload_n dX5_plain_100 rfl rfl ?_
                refine Z_bipush (n := 8) dX5_plain_101 (by decide +kernel) ?_
                refine Z_icmp_ne (tgt := 120) dX5_plain_103 (by decide) v_8f5ecbc95e v_665891e294 (fun h457 => ?_) (fun h457 => absurd h457 v_ada6685030)
                refine J_aload_n dX5_plain_120 rfl rfl ?_
                have g458 := TokL.lt h426 (v_f5333b39e4 h454)
                refine J_callV (st := []) dX5_plain_121 cv_X5_43 (d_advance ln z408 z409 z410 z411 z412 fl z413 tp q0 q1 (v_d253cb2c59 h417 g458) h419 h420 h421 q15 rfl hk55) rfl rfl rfl (Nat.le_of_ble_eq_true rfl) ⟨(Nat.le_of_ble_eq_true rfl), (Nat.le_of_ble_eq_true rfl)⟩ ⟨(Nat.le_of_ble_eq_true rfl), (Nat.le_of_ble_eq_true rfl)⟩ (fun r h9 hp => ?_)
                obtain ⟨z459, z460, z461, z462, rfl, rfl, h463, h464, h465, h466, h467, h468, h469, h470⟩ := hp
                refine J_nf (nh2 := nh) (ck2 := 0) (sk2 := 0) (st2 := []) rfl rfl rfl rfl ?_
                refine J_app (L3 := [(54, .inr (5, [.ref 55, .int (zI ln), .int (zI z459), .int (zI z460), .int (zI z461), .int (zI z462), .int (zI z412), .int (zI fl), .ref 56, .int (zI z413)])), (54, .inr (5, [.ref 55, .int (zI ln), .int (zI z408), .int (zI z409), .int (zI z410), .int (zI z411), .int (zI z412), .int (zI fl), .ref 56, .int (zI z413)])), (56, .inl (0, 412, .inl (zA f414)))]) rfl ?_
                refine J_mask (L2 := [(54, .inr (5, [.ref 55, .int (zI ln), .int (zI z459), .int (zI z460), .int (zI z461), .int (zI z462), .int (zI z412), .int (zI fl), .ref 56, .int (zI z413)])), (56, .inl (0, 412, .inl (zA f414)))]) (ks := [54, 54, 56]) [true, false, true] rfl (by decide +kernel) rfl ?_
                refine J_aload_n dX5_plain_124 rfl rfl ?_
                refine J_iload_n dX5_plain_125 rfl rfl ?_
                refine J_callV (st := []) dX5_plain_126 cv_X5_63 (d_sum1 ln z459 z460 z461 z462 z412 fl z413 tp f414 q0 q1 h463 h464 (v_9b2e2070a2 h417 g458 h465) h466 h467 h468 h469 h422 h423 q11 h424 h425 h470 q15 h427 rfl hk55 rfl) rfl rfl rfl (Nat.le_of_ble_eq_true rfl) ⟨(Nat.le_of_ble_eq_true rfl), (Nat.le_of_ble_eq_true rfl)⟩ ⟨(Nat.le_of_ble_eq_true rfl), (Nat.le_of_ble_eq_true rfl)⟩ (fun r h9 hp => ?_)
                rcases hp with ⟨z471, z472, z473, z474, z475, z476, f477, rfl, rfl, h478, h479, h480, h481, h482, h483, h484, h485, h486, h487, h488, h489, h490, h491, h492⟩ | ⟨z493, z494, z495, z496, z497, z498, f499, z500, rfl, rfl, h501, h502, h503, h504, h505, h506, h507, h508, h509, h510, h511, h512, h513, h514, h515⟩
                · refine J_nf (nh2 := nh) (ck2 := 0) (sk2 := 0) (st2 := [.int (zI 1)]) rfl rfl rfl rfl ?_
                  refine J_app (L3 := [(54, .inr (5, [.ref 55, .int (zI ln), .int (zI z471), .int (zI z472), .int (zI z473), .int (zI z474), .int (zI z475), .int (zI fl), .ref 56, .int (zI z476)])), (56, .inl (0, 412, .inl (zA f477))), (54, .inr (5, [.ref 55, .int (zI ln), .int (zI z459), .int (zI z460), .int (zI z461), .int (zI z462), .int (zI z412), .int (zI fl), .ref 56, .int (zI z413)])), (56, .inl (0, 412, .inl (zA f414)))]) rfl ?_
                  refine J_mask (L2 := [(54, .inr (5, [.ref 55, .int (zI ln), .int (zI z471), .int (zI z472), .int (zI z473), .int (zI z474), .int (zI z475), .int (zI fl), .ref 56, .int (zI z476)])), (56, .inl (0, 412, .inl (zA f477)))]) (ks := [54, 56, 54, 56]) [true, true, false, false] rfl (by decide +kernel) rfl ?_
                  refine Z_if_ne (tgt := 134) dX5_plain_129 (by decide) v_4dcc24baa7 (fun h516 => ?_) (fun h516 => absurd h516 v_3a47bfd896)
                  refine J_aload_n dX5_plain_134 rfl rfl ?_
                  refine J_iload_n dX5_plain_135 rfl rfl ?_
                  refine Z_iconst (n := 0) dX5_plain_136 ?_
                  refine J_callV (st := []) dX5_plain_137 cv_X5_72 (d_emit 6 0 ln z471 z472 z473 z474 z475 fl z476 f477 v_8f5ecbc95e v_b17331891f h487 h488 h490 rfl rfl) rfl rfl rfl (Nat.le_of_ble_eq_true rfl) ⟨(Nat.le_of_ble_eq_true rfl), (Nat.le_of_ble_eq_true rfl)⟩ ⟨(Nat.le_of_ble_eq_true rfl), (Nat.le_of_ble_eq_true rfl)⟩ (fun r h9 hp => ?_)
                  obtain ⟨z517, f518, rfl, rfl, h519, h520, h521, h522, h523⟩ := hp
                  refine J_nf (nh2 := nh) (ck2 := 0) (sk2 := 0) (st2 := [.int (zI z476)]) rfl rfl rfl rfl ?_
                  refine J_app (L3 := [(54, .inr (5, [.ref 55, .int (zI ln), .int (zI z471), .int (zI z472), .int (zI z473), .int (zI z474), .int (zI z475), .int (zI fl), .ref 56, .int (zI z517)])), (56, .inl (0, 412, .inl (zA f518))), (54, .inr (5, [.ref 55, .int (zI ln), .int (zI z471), .int (zI z472), .int (zI z473), .int (zI z474), .int (zI z475), .int (zI fl), .ref 56, .int (zI z476)])), (56, .inl (0, 412, .inl (zA f477)))]) rfl ?_
                  refine J_mask (L2 := [(54, .inr (5, [.ref 55, .int (zI ln), .int (zI z471), .int (zI z472), .int (zI z473), .int (zI z474), .int (zI z475), .int (zI fl), .ref 56, .int (zI z517)])), (56, .inl (0, 412, .inl (zA f518)))]) (ks := [54, 56, 54, 56]) [true, true, false, false] rfl (by decide +kernel) rfl ?_
                  refine J_pop dX5_plain_140 rfl ?_
                  refine J_iload_n dX5_plain_141 rfl rfl ?_
                  refine Z_if_eq (tgt := 153) dX5_plain_142 (by decide) (v_5f10a759cd i4_2 i4_3) (fun h524 => ?_) (fun h524 => ?_)
                  · refine Z_iconst (n := 1) dX5_plain_153 ?_
                    exact J_iret dX5_plain_154 rfl (jbn v_316afd7d0b v_bbcfac9b7d) (Nat.le_of_ble_eq_true rfl) (Nat.le_of_ble_eq_true rfl) (Or.inl ⟨z471, z472, z473, z474, z475, z517, f518, rfl, rfl, h478, h479, h480, h481, h482, h483, h484, h485, h486, h519, h520, h489, h523, (v_5848421b37 i4_2 i4_4 h428 g458 h465 h491 h522), (v_60a9ec55dc i4_2 i4_4 h429 g458 h465 h492)⟩)
                  · refine J_aload_n dX5_plain_145 rfl rfl ?_
                    refine Z_bipush (n := 9) dX5_plain_146 (by decide +kernel) ?_
                    refine Z_iconst (n := 0) dX5_plain_148 ?_
                    refine J_callV (st := []) dX5_plain_149 cv_X5_72 (d_emit 9 0 ln z471 z472 z473 z474 z475 fl z517 f518 v_00f9f00cc1 v_b17331891f h519 h520 h523 rfl rfl) rfl rfl rfl (Nat.le_of_ble_eq_true rfl) ⟨(Nat.le_of_ble_eq_true rfl), (Nat.le_of_ble_eq_true rfl)⟩ ⟨(Nat.le_of_ble_eq_true rfl), (Nat.le_of_ble_eq_true rfl)⟩ (fun r h9 hp => ?_)
                    obtain ⟨z525, f526, rfl, rfl, h527, h528, h529, h530, h531⟩ := hp
                    refine J_nf (nh2 := nh) (ck2 := 0) (sk2 := 0) (st2 := [.int (zI z517)]) rfl rfl rfl rfl ?_
                    refine J_app (L3 := [(54, .inr (5, [.ref 55, .int (zI ln), .int (zI z471), .int (zI z472), .int (zI z473), .int (zI z474), .int (zI z475), .int (zI fl), .ref 56, .int (zI z525)])), (56, .inl (0, 412, .inl (zA f526))), (54, .inr (5, [.ref 55, .int (zI ln), .int (zI z471), .int (zI z472), .int (zI z473), .int (zI z474), .int (zI z475), .int (zI fl), .ref 56, .int (zI z517)])), (56, .inl (0, 412, .inl (zA f518)))]) rfl ?_
                    refine J_mask (L2 := [(54, .inr (5, [.ref 55, .int (zI ln), .int (zI z471), .int (zI z472), .int (zI z473), .int (zI z474), .int (zI z475), .int (zI fl), .ref 56, .int (zI z525)])), (56, .inl (0, 412, .inl (zA f526)))]) (ks := [54, 56, 54, 56]) [true, true, false, false] rfl (by decide +kernel) rfl ?_
                    refine J_pop dX5_plain_152 rfl ?_
                    refine Z_iconst (n := 1) dX5_plain_153 ?_
                    exact J_iret dX5_plain_154 rfl (jbn v_316afd7d0b v_bbcfac9b7d) (Nat.le_of_ble_eq_true rfl) (Nat.le_of_ble_eq_true rfl) (Or.inl ⟨z471, z472, z473, z474, z475, z525, f526, rfl, rfl, h478, h479, h480, h481, h482, h483, h484, h485, h486, h527, h528, h489, h531, (v_1533bd4120 i4_2 i4_4 h428 g458 h465 h491 h522 h524 h530), (v_60a9ec55dc i4_2 i4_4 h429 g458 h465 h492)⟩)
                · refine J_nf (nh2 := nh) (ck2 := 0) (sk2 := 0) (st2 := [.int (zI 0)]) rfl rfl rfl rfl ?_
                  refine J_app (L3 := [(54, .inr (5, [.ref 55, .int (zI ln), .int (zI z493), .int (zI z494), .int (zI z495), .int (zI z496), .int (zI z497), .int (zI z500), .ref 56, .int (zI z498)])), (56, .inl (0, 412, .inl (zA f499))), (54, .inr (5, [.ref 55, .int (zI ln), .int (zI z459), .int (zI z460), .int (zI z461), .int (zI z462), .int (zI z412), .int (zI fl), .ref 56, .int (zI z413)])), (56, .inl (0, 412, .inl (zA f414)))]) rfl ?_
                  refine J_mask (L2 := [(54, .inr (5, [.ref 55, .int (zI ln), .int (zI z493), .int (zI z494), .int (zI z495), .int (zI z496), .int (zI z497), .int (zI z500), .ref 56, .int (zI z498)])), (56, .inl (0, 412, .inl (zA f499)))]) (ks := [54, 56, 54, 56]) [true, true, false, false] rfl (by decide +kernel) rfl ?_
                  refine Z_if_ne (tgt := 134) dX5_plain_129 (by decide) v_b17331891f (fun h532 => absurd h532 (fun q => q v_2ca2bbca1f)) (fun h532 => ?_)
                  refine Z_iconst (n := 0) dX5_plain_132 ?_
                  exact J_iret dX5_plain_133 rfl (jbn v_939070ca3f v_316afd7d0b) (Nat.le_of_ble_eq_true rfl) (Nat.le_of_ble_eq_true rfl) (Or.inr ⟨z493, z494, z495, z496, z497, z498, f499, z500, rfl, rfl, h501, h502, h503, h504, h505, h506, h507, h508, h509, h510, h511, h512, h513, h514, h515⟩)
              · refine J_nf (nh2 := nh) (ck2 := 0) (sk2 := 0) (st2 := [.int (zI 0)]) rfl rfl rfl rfl ?_
                refine Z_if_eq (tgt := 83) dX5_plain_75 (by decide) v_b17331891f (fun h533 => ?_) (fun h533 => absurd h533 (fun q => q v_2ca2bbca1f))
                refine J_aload_n dX5_plain_83 rfl rfl ?_
                refine Z_bipush (n := 62) dX5_plain_84 (by decide +kernel) ?_
                refine J_callV (st := []) dX5_plain_86 cv_X5_50 (d_isSign 62 ln z408 z409 z410 z411 z412 fl z413 v_722c6b3941 v_3996c1d9a8 h415 h416 rfl) rfl rfl rfl (Nat.le_of_ble_eq_true rfl) ⟨(Nat.le_of_ble_eq_true rfl), (Nat.le_of_ble_eq_true rfl)⟩ ⟨(Nat.le_of_ble_eq_true rfl), (Nat.le_of_ble_eq_true rfl)⟩ (fun r h9 hp => ?_)
                rcases hp with ⟨rfl, rfl, h534⟩ | ⟨rfl, rfl, h535⟩
                · refine J_nf (nh2 := nh) (ck2 := 0) (sk2 := 0) (st2 := [.int (zI 1)]) rfl rfl rfl rfl ?_
                  refine Z_if_eq (tgt := 97) dX5_plain_89 (by decide) v_4dcc24baa7 (fun h536 => absurd h536 v_3a47bfd896) (fun h536 => ?_)
                  refine Z_bipush (n := 7) dX5_plain_92 (by decide +kernel) ?_
                  refine J_goto (tgt := 99) dX5_plain_94 (by decide) ?_
                  refine J_istore_n dX5_plain_99 rfl (Nat.le_of_ble_eq_true rfl) rfl ?_
                  refine J_ls (ls2 := [some (.ref 54), some (.int (zI 1)), some (.int (zI dn_4)), some (.int (zI 7))]) rfl ?_
                  refine J_iload_n dX5_plain_100 rfl rfl ?_
                  refine Z_bipush (n := 8) dX5_plain_101 (by decide +kernel) ?_
                  refine Z_icmp_ne (tgt := 120) dX5_plain_103 (by decide) v_c3fe1a091f v_665891e294 (fun h537 => ?_) (fun h537 => absurd h537 v_d62b89f05c)
                  refine J_aload_n dX5_plain_120 rfl rfl ?_
                  have g538 := TokL.lt h426 (v_3ec9e003c7 h534)
                  refine J_callV (st := []) dX5_plain_121 cv_X5_43 (d_advance ln z408 z409 z410 z411 z412 fl z413 tp q0 q1 (v_d253cb2c59 h417 g538) h419 h420 h421 q15 rfl hk55) rfl rfl rfl (Nat.le_of_ble_eq_true rfl) ⟨(Nat.le_of_ble_eq_true rfl), (Nat.le_of_ble_eq_true rfl)⟩ ⟨(Nat.le_of_ble_eq_true rfl), (Nat.le_of_ble_eq_true rfl)⟩ (fun r h9 hp => ?_)
                  obtain ⟨z539, z540, z541, z542, rfl, rfl, h543, h544, h545, h546, h547, h548, h549, h550⟩ := hp
                  refine J_nf (nh2 := nh) (ck2 := 0) (sk2 := 0) (st2 := []) rfl rfl rfl rfl ?_
                  refine J_app (L3 := [(54, .inr (5, [.ref 55, .int (zI ln), .int (zI z539), .int (zI z540), .int (zI z541), .int (zI z542), .int (zI z412), .int (zI fl), .ref 56, .int (zI z413)])), (54, .inr (5, [.ref 55, .int (zI ln), .int (zI z408), .int (zI z409), .int (zI z410), .int (zI z411), .int (zI z412), .int (zI fl), .ref 56, .int (zI z413)])), (56, .inl (0, 412, .inl (zA f414)))]) rfl ?_
                  refine J_mask (L2 := [(54, .inr (5, [.ref 55, .int (zI ln), .int (zI z539), .int (zI z540), .int (zI z541), .int (zI z542), .int (zI z412), .int (zI fl), .ref 56, .int (zI z413)])), (56, .inl (0, 412, .inl (zA f414)))]) (ks := [54, 54, 56]) [true, false, true] rfl (by decide +kernel) rfl ?_
                  refine J_aload_n dX5_plain_124 rfl rfl ?_
                  refine J_iload_n dX5_plain_125 rfl rfl ?_
                  refine J_callV (st := []) dX5_plain_126 cv_X5_63 (d_sum1 ln z539 z540 z541 z542 z412 fl z413 tp f414 q0 q1 h543 h544 (v_9b2e2070a2 h417 g538 h545) h546 h547 h548 h549 h422 h423 q11 h424 h425 h550 q15 h427 rfl hk55 rfl) rfl rfl rfl (Nat.le_of_ble_eq_true rfl) ⟨(Nat.le_of_ble_eq_true rfl), (Nat.le_of_ble_eq_true rfl)⟩ ⟨(Nat.le_of_ble_eq_true rfl), (Nat.le_of_ble_eq_true rfl)⟩ (fun r h9 hp => ?_)
                  rcases hp with ⟨z551, z552, z553, z554, z555, z556, f557, rfl, rfl, h558, h559, h560, h561, h562, h563, h564, h565, h566, h567, h568, h569, h570, h571, h572⟩ | ⟨z573, z574, z575, z576, z577, z578, f579, z580, rfl, rfl, h581, h582, h583, h584, h585, h586, h587, h588, h589, h590, h591, h592, h593, h594, h595⟩
                  · refine J_nf (nh2 := nh) (ck2 := 0) (sk2 := 0) (st2 := [.int (zI 1)]) rfl rfl rfl rfl ?_
                    refine J_app (L3 := [(54, .inr (5, [.ref 55, .int (zI ln), .int (zI z551), .int (zI z552), .int (zI z553), .int (zI z554), .int (zI z555), .int (zI fl), .ref 56, .int (zI z556)])), (56, .inl (0, 412, .inl (zA f557))), (54, .inr (5, [.ref 55, .int (zI ln), .int (zI z539), .int (zI z540), .int (zI z541), .int (zI z542), .int (zI z412), .int (zI fl), .ref 56, .int (zI z413)])), (56, .inl (0, 412, .inl (zA f414)))]) rfl ?_
                    refine J_mask (L2 := [(54, .inr (5, [.ref 55, .int (zI ln), .int (zI z551), .int (zI z552), .int (zI z553), .int (zI z554), .int (zI z555), .int (zI fl), .ref 56, .int (zI z556)])), (56, .inl (0, 412, .inl (zA f557)))]) (ks := [54, 56, 54, 56]) [true, true, false, false] rfl (by decide +kernel) rfl ?_
                    refine Z_if_ne (tgt := 134) dX5_plain_129 (by decide) v_4dcc24baa7 (fun h596 => ?_) (fun h596 => absurd h596 v_3a47bfd896)
                    refine J_aload_n dX5_plain_134 rfl rfl ?_
                    refine J_iload_n dX5_plain_135 rfl rfl ?_
                    refine Z_iconst (n := 0) dX5_plain_136 ?_
                    refine J_callV (st := []) dX5_plain_137 cv_X5_72 (d_emit 7 0 ln z551 z552 z553 z554 z555 fl z556 f557 v_c3fe1a091f v_b17331891f h567 h568 h570 rfl rfl) rfl rfl rfl (Nat.le_of_ble_eq_true rfl) ⟨(Nat.le_of_ble_eq_true rfl), (Nat.le_of_ble_eq_true rfl)⟩ ⟨(Nat.le_of_ble_eq_true rfl), (Nat.le_of_ble_eq_true rfl)⟩ (fun r h9 hp => ?_)
                    obtain ⟨z597, f598, rfl, rfl, h599, h600, h601, h602, h603⟩ := hp
                    refine J_nf (nh2 := nh) (ck2 := 0) (sk2 := 0) (st2 := [.int (zI z556)]) rfl rfl rfl rfl ?_
                    refine J_app (L3 := [(54, .inr (5, [.ref 55, .int (zI ln), .int (zI z551), .int (zI z552), .int (zI z553), .int (zI z554), .int (zI z555), .int (zI fl), .ref 56, .int (zI z597)])), (56, .inl (0, 412, .inl (zA f598))), (54, .inr (5, [.ref 55, .int (zI ln), .int (zI z551), .int (zI z552), .int (zI z553), .int (zI z554), .int (zI z555), .int (zI fl), .ref 56, .int (zI z556)])), (56, .inl (0, 412, .inl (zA f557)))]) rfl ?_
                    refine J_mask (L2 := [(54, .inr (5, [.ref 55, .int (zI ln), .int (zI z551), .int (zI z552), .int (zI z553), .int (zI z554), .int (zI z555), .int (zI fl), .ref 56, .int (zI z597)])), (56, .inl (0, 412, .inl (zA f598)))]) (ks := [54, 56, 54, 56]) [true, true, false, false] rfl (by decide +kernel) rfl ?_
                    refine J_pop dX5_plain_140 rfl ?_
                    refine J_iload_n dX5_plain_141 rfl rfl ?_
                    refine Z_if_eq (tgt := 153) dX5_plain_142 (by decide) (v_5f10a759cd i4_2 i4_3) (fun h604 => ?_) (fun h604 => ?_)
                    · refine Z_iconst (n := 1) dX5_plain_153 ?_
                      exact J_iret dX5_plain_154 rfl (jbn v_316afd7d0b v_bbcfac9b7d) (Nat.le_of_ble_eq_true rfl) (Nat.le_of_ble_eq_true rfl) (Or.inl ⟨z551, z552, z553, z554, z555, z597, f598, rfl, rfl, h558, h559, h560, h561, h562, h563, h564, h565, h566, h599, h600, h569, h603, (v_5848421b37 i4_2 i4_4 h428 g538 h545 h571 h602), (v_60a9ec55dc i4_2 i4_4 h429 g538 h545 h572)⟩)
                    · refine J_aload_n dX5_plain_145 rfl rfl ?_
                      refine Z_bipush (n := 9) dX5_plain_146 (by decide +kernel) ?_
                      refine Z_iconst (n := 0) dX5_plain_148 ?_
                      refine J_callV (st := []) dX5_plain_149 cv_X5_72 (d_emit 9 0 ln z551 z552 z553 z554 z555 fl z597 f598 v_00f9f00cc1 v_b17331891f h599 h600 h603 rfl rfl) rfl rfl rfl (Nat.le_of_ble_eq_true rfl) ⟨(Nat.le_of_ble_eq_true rfl), (Nat.le_of_ble_eq_true rfl)⟩ ⟨(Nat.le_of_ble_eq_true rfl), (Nat.le_of_ble_eq_true rfl)⟩ (fun r h9 hp => ?_)
                      obtain ⟨z605, f606, rfl, rfl, h607, h608, h609, h610, h611⟩ := hp
                      refine J_nf (nh2 := nh) (ck2 := 0) (sk2 := 0) (st2 := [.int (zI z597)]) rfl rfl rfl rfl ?_
                      refine J_app (L3 := [(54, .inr (5, [.ref 55, .int (zI ln), .int (zI z551), .int (zI z552), .int (zI z553), .int (zI z554), .int (zI z555), .int (zI fl), .ref 56, .int (zI z605)])), (56, .inl (0, 412, .inl (zA f606))), (54, .inr (5, [.ref 55, .int (zI ln), .int (zI z551), .int (zI z552), .int (zI z553), .int (zI z554), .int (zI z555), .int (zI fl), .ref 56, .int (zI z597)])), (56, .inl (0, 412, .inl (zA f598)))]) rfl ?_
                      refine J_mask (L2 := [(54, .inr (5, [.ref 55, .int (zI ln), .int (zI z551), .int (zI z552), .int (zI z553), .int (zI z554), .int (zI z555), .int (zI fl), .ref 56, .int (zI z605)])), (56, .inl (0, 412, .inl (zA f606)))]) (ks := [54, 56, 54, 56]) [true, true, false, false] rfl (by decide +kernel) rfl ?_
                      refine J_pop dX5_plain_152 rfl ?_
                      refine Z_iconst (n := 1) dX5_plain_153 ?_
                      exact J_iret dX5_plain_154 rfl (jbn v_316afd7d0b v_bbcfac9b7d) (Nat.le_of_ble_eq_true rfl) (Nat.le_of_ble_eq_true rfl) (Or.inl ⟨z551, z552, z553, z554, z555, z605, f606, rfl, rfl, h558, h559, h560, h561, h562, h563, h564, h565, h566, h607, h608, h569, h611, (v_1533bd4120 i4_2 i4_4 h428 g538 h545 h571 h602 h604 h610), (v_60a9ec55dc i4_2 i4_4 h429 g538 h545 h572)⟩)
                  · refine J_nf (nh2 := nh) (ck2 := 0) (sk2 := 0) (st2 := [.int (zI 0)]) rfl rfl rfl rfl ?_
                    refine J_app (L3 := [(54, .inr (5, [.ref 55, .int (zI ln), .int (zI z573), .int (zI z574), .int (zI z575), .int (zI z576), .int (zI z577), .int (zI z580), .ref 56, .int (zI z578)])), (56, .inl (0, 412, .inl (zA f579))), (54, .inr (5, [.ref 55, .int (zI ln), .int (zI z539), .int (zI z540), .int (zI z541), .int (zI z542), .int (zI z412), .int (zI fl), .ref 56, .int (zI z413)])), (56, .inl (0, 412, .inl (zA f414)))]) rfl ?_
                    refine J_mask (L2 := [(54, .inr (5, [.ref 55, .int (zI ln), .int (zI z573), .int (zI z574), .int (zI z575), .int (zI z576), .int (zI z577), .int (zI z580), .ref 56, .int (zI z578)])), (56, .inl (0, 412, .inl (zA f579)))]) (ks := [54, 56, 54, 56]) [true, true, false, false] rfl (by decide +kernel) rfl ?_
                    refine Z_if_ne (tgt := 134) dX5_plain_129 (by decide) v_b17331891f (fun h612 => absurd h612 (fun q => q v_2ca2bbca1f)) (fun h612 => ?_)
                    refine Z_iconst (n := 0) dX5_plain_132 ?_
                    exact J_iret dX5_plain_133 rfl (jbn v_939070ca3f v_316afd7d0b) (Nat.le_of_ble_eq_true rfl) (Nat.le_of_ble_eq_true rfl) (Or.inr ⟨z573, z574, z575, z576, z577, z578, f579, z580, rfl, rfl, h581, h582, h583, h584, h585, h586, h587, h588, h589, h590, h591, h592, h593, h594, h595⟩)
                · refine J_nf (nh2 := nh) (ck2 := 0) (sk2 := 0) (st2 := [.int (zI 0)]) rfl rfl rfl rfl ?_
                  refine Z_if_eq (tgt := 97) dX5_plain_89 (by decide) v_b17331891f (fun h613 => ?_) (fun h613 => absurd h613 (fun q => q v_2ca2bbca1f))
                  refine Z_bipush (n := 8) dX5_plain_97 (by decide +kernel) ?_
                  refine J_istore_n dX5_plain_99 rfl (Nat.le_of_ble_eq_true rfl) rfl ?_
                  refine J_ls (ls2 := [some (.ref 54), some (.int (zI 1)), some (.int (zI dn_4)), some (.int (zI 8))]) rfl ?_
                  refine J_iload_n dX5_plain_100 rfl rfl ?_
                  refine Z_bipush (n := 8) dX5_plain_101 (by decide +kernel) ?_
                  refine Z_icmp_ne (tgt := 120) dX5_plain_103 (by decide) v_665891e294 v_665891e294 (fun h614 => absurd h614 (fun q => q v_c1b8243509)) (fun h614 => ?_)
                  refine J_aload_n dX5_plain_106 rfl rfl ?_
                  refine Z_bipush (n := 61) dX5_plain_107 (by decide +kernel) ?_
                  refine J_callV (st := []) dX5_plain_109 cv_X5_50 (d_isSign 61 ln z408 z409 z410 z411 z412 fl z413 v_b92a3c53b8 v_7b9730a51b h415 h416 rfl) rfl rfl rfl (Nat.le_of_ble_eq_true rfl) ⟨(Nat.le_of_ble_eq_true rfl), (Nat.le_of_ble_eq_true rfl)⟩ ⟨(Nat.le_of_ble_eq_true rfl), (Nat.le_of_ble_eq_true rfl)⟩ (fun r h9 hp => ?_)
                  rcases hp with ⟨rfl, rfl, h615⟩ | ⟨rfl, rfl, h616⟩
                  · refine J_nf (nh2 := nh) (ck2 := 0) (sk2 := 0) (st2 := [.int (zI 1)]) rfl rfl rfl rfl ?_
                    refine Z_if_ne (tgt := 120) dX5_plain_112 (by decide) v_4dcc24baa7 (fun h617 => ?_) (fun h617 => absurd h617 v_3a47bfd896)
                    refine J_aload_n dX5_plain_120 rfl rfl ?_
                    have g618 := TokL.lt h426 (v_23eeeea057 h615)
                    refine J_callV (st := []) dX5_plain_121 cv_X5_43 (d_advance ln z408 z409 z410 z411 z412 fl z413 tp q0 q1 (v_d253cb2c59 h417 g618) h419 h420 h421 q15 rfl hk55) rfl rfl rfl (Nat.le_of_ble_eq_true rfl) ⟨(Nat.le_of_ble_eq_true rfl), (Nat.le_of_ble_eq_true rfl)⟩ ⟨(Nat.le_of_ble_eq_true rfl), (Nat.le_of_ble_eq_true rfl)⟩ (fun r h9 hp => ?_)
                    obtain ⟨z619, z620, z621, z622, rfl, rfl, h623, h624, h625, h626, h627, h628, h629, h630⟩ := hp
                    refine J_nf (nh2 := nh) (ck2 := 0) (sk2 := 0) (st2 := []) rfl rfl rfl rfl ?_
                    refine J_app (L3 := [(54, .inr (5, [.ref 55, .int (zI ln), .int (zI z619), .int (zI z620), .int (zI z621), .int (zI z622), .int (zI z412), .int (zI fl), .ref 56, .int (zI z413)])), (54, .inr (5, [.ref 55, .int (zI ln), .int (zI z408), .int (zI z409), .int (zI z410), .int (zI z411), .int (zI z412), .int (zI fl), .ref 56, .int (zI z413)])), (56, .inl (0, 412, .inl (zA f414)))]) rfl ?_
                    refine J_mask (L2 := [(54, .inr (5, [.ref 55, .int (zI ln), .int (zI z619), .int (zI z620), .int (zI z621), .int (zI z622), .int (zI z412), .int (zI fl), .ref 56, .int (zI z413)])), (56, .inl (0, 412, .inl (zA f414)))]) (ks := [54, 54, 56]) [true, false, true] rfl (by decide +kernel) rfl ?_
                    refine J_aload_n dX5_plain_124 rfl rfl ?_
                    refine J_iload_n dX5_plain_125 rfl rfl ?_
                    refine J_callV (st := []) dX5_plain_126 cv_X5_63 (d_sum1 ln z619 z620 z621 z622 z412 fl z413 tp f414 q0 q1 h623 h624 (v_9b2e2070a2 h417 g618 h625) h626 h627 h628 h629 h422 h423 q11 h424 h425 h630 q15 h427 rfl hk55 rfl) rfl rfl rfl (Nat.le_of_ble_eq_true rfl) ⟨(Nat.le_of_ble_eq_true rfl), (Nat.le_of_ble_eq_true rfl)⟩ ⟨(Nat.le_of_ble_eq_true rfl), (Nat.le_of_ble_eq_true rfl)⟩ (fun r h9 hp => ?_)
                    rcases hp with ⟨z631, z632, z633, z634, z635, z636, f637, rfl, rfl, h638, h639, h640, h641, h642, h643, h644, h645, h646, h647, h648, h649, h650, h651, h652⟩ | ⟨z653, z654, z655, z656, z657, z658, f659, z660, rfl, rfl, h661, h662, h663, h664, h665, h666, h667, h668, h669, h670, h671, h672, h673, h674, h675⟩
                    · refine J_nf (nh2 := nh) (ck2 := 0) (sk2 := 0) (st2 := [.int (zI 1)]) rfl rfl rfl rfl ?_
                      refine J_app (L3 := [(54, .inr (5, [.ref 55, .int (zI ln), .int (zI z631), .int (zI z632), .int (zI z633), .int (zI z634), .int (zI z635), .int (zI fl), .ref 56, .int (zI z636)])), (56, .inl (0, 412, .inl (zA f637))), (54, .inr (5, [.ref 55, .int (zI ln), .int (zI z619), .int (zI z620), .int (zI z621), .int (zI z622), .int (zI z412), .int (zI fl), .ref 56, .int (zI z413)])), (56, .inl (0, 412, .inl (zA f414)))]) rfl ?_
                      refine J_mask (L2 := [(54, .inr (5, [.ref 55, .int (zI ln), .int (zI z631), .int (zI z632), .int (zI z633), .int (zI z634), .int (zI z635), .int (zI fl), .ref 56, .int (zI z636)])), (56, .inl (0, 412, .inl (zA f637)))]) (ks := [54, 56, 54, 56]) [true, true, false, false] rfl (by decide +kernel) rfl ?_
                      refine Z_if_ne (tgt := 134) dX5_plain_129 (by decide) v_4dcc24baa7 (fun h676 => ?_) (fun h676 => absurd h676 v_3a47bfd896)
                      refine J_aload_n dX5_plain_134 rfl rfl ?_
                      refine J_iload_n dX5_plain_135 rfl rfl ?_
                      refine Z_iconst (n := 0) dX5_plain_136 ?_
                      refine J_callV (st := []) dX5_plain_137 cv_X5_72 (d_emit 8 0 ln z631 z632 z633 z634 z635 fl z636 f637 v_665891e294 v_b17331891f h647 h648 h650 rfl rfl) rfl rfl rfl (Nat.le_of_ble_eq_true rfl) ⟨(Nat.le_of_ble_eq_true rfl), (Nat.le_of_ble_eq_true rfl)⟩ ⟨(Nat.le_of_ble_eq_true rfl), (Nat.le_of_ble_eq_true rfl)⟩ (fun r h9 hp => ?_)
                      obtain ⟨z677, f678, rfl, rfl, h679, h680, h681, h682, h683⟩ := hp
                      refine J_nf (nh2 := nh) (ck2 := 0) (sk2 := 0) (st2 := [.int (zI z636)]) rfl rfl rfl rfl ?_
                      refine J_app (L3 := [(54, .inr (5, [.ref 55, .int (zI ln), .int (zI z631), .int (zI z632), .int (zI z633), .int (zI z634), .int (zI z635), .int (zI fl), .ref 56, .int (zI z677)])), (56, .inl (0, 412, .inl (zA f678))), (54, .inr (5, [.ref 55, .int (zI ln), .int (zI z631), .int (zI z632), .int (zI z633), .int (zI z634), .int (zI z635), .int (zI fl), .ref 56, .int (zI z636)])), (56, .inl (0, 412, .inl (zA f637)))]) rfl ?_
                      refine J_mask (L2 := [(54, .inr (5, [.ref 55, .int (zI ln), .int (zI z631), .int (zI z632), .int (zI z633), .int (zI z634), .int (zI z635), .int (zI fl), .ref 56, .int (zI z677)])), (56, .inl (0, 412, .inl (zA f678)))]) (ks := [54, 56, 54, 56]) [true, true, false, false] rfl (by decide +kernel) rfl ?_
                      refine J_pop dX5_plain_140 rfl ?_
                      refine J_iload_n dX5_plain_141 rfl rfl ?_
                      refine Z_if_eq (tgt := 153) dX5_plain_142 (by decide) (v_5f10a759cd i4_2 i4_3) (fun h684 => ?_) (fun h684 => ?_)
                      · refine Z_iconst (n := 1) dX5_plain_153 ?_
                        exact J_iret dX5_plain_154 rfl (jbn v_316afd7d0b v_bbcfac9b7d) (Nat.le_of_ble_eq_true rfl) (Nat.le_of_ble_eq_true rfl) (Or.inl ⟨z631, z632, z633, z634, z635, z677, f678, rfl, rfl, h638, h639, h640, h641, h642, h643, h644, h645, h646, h679, h680, h649, h683, (v_5848421b37 i4_2 i4_4 h428 g618 h625 h651 h682), (v_60a9ec55dc i4_2 i4_4 h429 g618 h625 h652)⟩)
                      · refine J_aload_n dX5_plain_145 rfl rfl ?_
                        refine Z_bipush (n := 9) dX5_plain_146 (by decide +kernel) ?_
                        refine Z_iconst (n := 0) dX5_plain_148 ?_
                        refine J_callV (st := []) dX5_plain_149 cv_X5_72 (d_emit 9 0 ln z631 z632 z633 z634 z635 fl z677 f678 v_00f9f00cc1 v_b17331891f h679 h680 h683 rfl rfl) rfl rfl rfl (Nat.le_of_ble_eq_true rfl) ⟨(Nat.le_of_ble_eq_true rfl), (Nat.le_of_ble_eq_true rfl)⟩ ⟨(Nat.le_of_ble_eq_true rfl), (Nat.le_of_ble_eq_true rfl)⟩ (fun r h9 hp => ?_)
                        obtain ⟨z685, f686, rfl, rfl, h687, h688, h689, h690, h691⟩ := hp
                        refine J_nf (nh2 := nh) (ck2 := 0) (sk2 := 0) (st2 := [.int (zI z677)]) rfl rfl rfl rfl ?_
                        refine J_app (L3 := [(54, .inr (5, [.ref 55, .int (zI ln), .int (zI z631), .int (zI z632), .int (zI z633), .int (zI z634), .int (zI z635), .int (zI fl), .ref 56, .int (zI z685)])), (56, .inl (0, 412, .inl (zA f686))), (54, .inr (5, [.ref 55, .int (zI ln), .int (zI z631), .int (zI z632), .int (zI z633), .int (zI z634), .int (zI z635), .int (zI fl), .ref 56, .int (zI z677)])), (56, .inl (0, 412, .inl (zA f678)))]) rfl ?_
                        refine J_mask (L2 := [(54, .inr (5, [.ref 55, .int (zI ln), .int (zI z631), .int (zI z632), .int (zI z633), .int (zI z634), .int (zI z635), .int (zI fl), .ref 56, .int (zI z685)])), (56, .inl (0, 412, .inl (zA f686)))]) (ks := [54, 56, 54, 56]) [true, true, false, false] rfl (by decide +kernel) rfl ?_
                        refine J_pop dX5_plain_152 rfl ?_
                        refine Z_iconst (n := 1) dX5_plain_153 ?_
                        exact J_iret dX5_plain_154 rfl (jbn v_316afd7d0b v_bbcfac9b7d) (Nat.le_of_ble_eq_true rfl) (Nat.le_of_ble_eq_true rfl) (Or.inl ⟨z631, z632, z633, z634, z635, z685, f686, rfl, rfl, h638, h639, h640, h641, h642, h643, h644, h645, h646, h687, h688, h649, h691, (v_1533bd4120 i4_2 i4_4 h428 g618 h625 h651 h682 h684 h690), (v_60a9ec55dc i4_2 i4_4 h429 g618 h625 h652)⟩)
                    · refine J_nf (nh2 := nh) (ck2 := 0) (sk2 := 0) (st2 := [.int (zI 0)]) rfl rfl rfl rfl ?_
                      refine J_app (L3 := [(54, .inr (5, [.ref 55, .int (zI ln), .int (zI z653), .int (zI z654), .int (zI z655), .int (zI z656), .int (zI z657), .int (zI z660), .ref 56, .int (zI z658)])), (56, .inl (0, 412, .inl (zA f659))), (54, .inr (5, [.ref 55, .int (zI ln), .int (zI z619), .int (zI z620), .int (zI z621), .int (zI z622), .int (zI z412), .int (zI fl), .ref 56, .int (zI z413)])), (56, .inl (0, 412, .inl (zA f414)))]) rfl ?_
                      refine J_mask (L2 := [(54, .inr (5, [.ref 55, .int (zI ln), .int (zI z653), .int (zI z654), .int (zI z655), .int (zI z656), .int (zI z657), .int (zI z660), .ref 56, .int (zI z658)])), (56, .inl (0, 412, .inl (zA f659)))]) (ks := [54, 56, 54, 56]) [true, true, false, false] rfl (by decide +kernel) rfl ?_
                      refine Z_if_ne (tgt := 134) dX5_plain_129 (by decide) v_b17331891f (fun h692 => absurd h692 (fun q => q v_2ca2bbca1f)) (fun h692 => ?_)
                      refine Z_iconst (n := 0) dX5_plain_132 ?_
                      exact J_iret dX5_plain_133 rfl (jbn v_939070ca3f v_316afd7d0b) (Nat.le_of_ble_eq_true rfl) (Nat.le_of_ble_eq_true rfl) (Or.inr ⟨z653, z654, z655, z656, z657, z658, f659, z660, rfl, rfl, h661, h662, h663, h664, h665, h666, h667, h668, h669, h670, h671, h672, h673, h674, h675⟩)
                  · refine J_nf (nh2 := nh) (ck2 := 0) (sk2 := 0) (st2 := [.int (zI 0)]) rfl rfl rfl rfl ?_
                    refine Z_if_ne (tgt := 120) dX5_plain_112 (by decide) v_b17331891f (fun h693 => absurd h693 (fun q => q v_2ca2bbca1f)) (fun h693 => ?_)
                    refine J_aload_n dX5_plain_115 rfl rfl ?_
                    refine J_callV (st := []) dX5_plain_116 cv_X5_54 (d_wrong ln z408 z409 z410 z411 z412 fl z413 h417 (v_1adcfdfee5 q1 h418 h419) rfl) rfl rfl rfl (Nat.le_of_ble_eq_true rfl) ⟨(Nat.le_of_ble_eq_true rfl), (Nat.le_of_ble_eq_true rfl)⟩ ⟨(Nat.le_of_ble_eq_true rfl), (Nat.le_of_ble_eq_true rfl)⟩ (fun r h9 hp => ?_)
                    obtain ⟨rfl, rfl⟩ := hp
                    refine J_nf (nh2 := nh) (ck2 := 0) (sk2 := 0) (st2 := [.int (zI 0)]) rfl rfl rfl rfl ?_
                    refine J_app (L3 := [(54, .inr (5, [.ref 55, .int (zI ln), .int (zI z408), .int (zI z409), .int (zI z410), .int (zI z411), .int (zI z412), .int (zI z409), .ref 56, .int (zI z413)])), (54, .inr (5, [.ref 55, .int (zI ln), .int (zI z408), .int (zI z409), .int (zI z410), .int (zI z411), .int (zI z412), .int (zI fl), .ref 56, .int (zI z413)])), (56, .inl (0, 412, .inl (zA f414)))]) rfl ?_
                    refine J_mask (L2 := [(54, .inr (5, [.ref 55, .int (zI ln), .int (zI z408), .int (zI z409), .int (zI z410), .int (zI z411), .int (zI z412), .int (zI z409), .ref 56, .int (zI z413)])), (56, .inl (0, 412, .inl (zA f414)))]) (ks := [54, 54, 56]) [true, false, true] rfl (by decide +kernel) rfl ?_
                    exact J_iret dX5_plain_119 rfl (jbn v_939070ca3f v_316afd7d0b) (Nat.le_of_ble_eq_true rfl) (Nat.le_of_ble_eq_true rfl) (Or.inr ⟨z408, z409, z410, z411, z412, z413, f414, z409, rfl, rfl, h415, h416, h417, h418, h419, h420, h421, h422, h423, h424, h425, h426, h427, h417, (v_1adcfdfee5 q1 h418 h419)⟩)
            · refine J_nf (nh2 := nh) (ck2 := 0) (sk2 := 0) (st2 := [.int (zI 0)]) rfl rfl rfl rfl ?_
              refine J_app (L3 := [(54, .inr (5, [.ref 55, .int (zI ln), .int (zI z430), .int (zI z431), .int (zI z432), .int (zI z433), .int (zI z434), .int (zI z437), .ref 56, .int (zI z435)])), (56, .inl (0, 412, .inl (zA f436))), (54, .inr (5, [.ref 55, .int (zI ln), .int (zI tx_4), .int (zI sx_4), .int (zI bx_4), .int (zI vx_4), .int (zI pa), .int (zI fl), .ref 56, .int (zI sz)]))]) rfl ?_
              refine J_mask (L2 := [(54, .inr (5, [.ref 55, .int (zI ln), .int (zI z430), .int (zI z431), .int (zI z432), .int (zI z433), .int (zI z434), .int (zI z437), .ref 56, .int (zI z435)])), (56, .inl (0, 412, .inl (zA f436)))]) (ks := [54, 56, 54]) [true, true, false] rfl (by decide +kernel) rfl ?_
              refine Z_if_ne (tgt := 69) dX5_plain_64 (by decide) v_b17331891f (fun h694 => absurd h694 (fun q => q v_2ca2bbca1f)) (fun h694 => ?_)
              refine Z_iconst (n := 0) dX5_plain_67 ?_
              exact J_iret dX5_plain_68 rfl (jbn v_939070ca3f v_316afd7d0b) (Nat.le_of_ble_eq_true rfl) (Nat.le_of_ble_eq_true rfl) (Or.inr ⟨z430, z431, z432, z433, z434, z435, f436, z437, rfl, rfl, h438, h439, h440, h441, h442, h443, h444, h445, h446, h447, h448, h449, h450, h451, h452⟩)
        · refine J_iload_n dX5_plain_20 rfl rfl ?_
          refine Z_if_ne (tgt := 28) dX5_plain_21 (by decide) (v_5f10a759cd i4_2 i4_3) (fun h695 => ?_) (fun h695 => ?_)
          · refine Z_iconst (n := 0) dX5_plain_28 ?_
            refine J_istore_n dX5_plain_29 rfl (Nat.le_of_ble_eq_true rfl) rfl ?_
            refine J_ls (ls2 := [some (.ref 54), some (.int (zI 1)), some (.int (zI 0)), some (.int (zI i_4))]) rfl ?_
            refine J_aload_n dX5_plain_30 rfl rfl ?_
            have g696 := TokL.lt i4_12 (v_3a5b2158d2 h348)
            refine J_callV (st := []) dX5_plain_31 cv_X5_43 (d_advance ln tx_4 sx_4 bx_4 vx_4 pa fl sz tp q0 q1 (v_d253cb2c59 i4_7 g696) i4_9 i4_10 i4_11 q15 rfl hk55) rfl rfl rfl (Nat.le_of_ble_eq_true rfl) ⟨(Nat.le_of_ble_eq_true rfl), (Nat.le_of_ble_eq_true rfl)⟩ ⟨(Nat.le_of_ble_eq_true rfl), (Nat.le_of_ble_eq_true rfl)⟩ (fun r h9 hp => ?_)
            obtain ⟨z697, z698, z699, z700, rfl, rfl, h701, h702, h703, h704, h705, h706, h707, h708⟩ := hp
            refine J_nf (nh2 := nh) (ck2 := 0) (sk2 := 0) (st2 := []) rfl rfl rfl rfl ?_
            refine J_app (L3 := [(54, .inr (5, [.ref 55, .int (zI ln), .int (zI z697), .int (zI z698), .int (zI z699), .int (zI z700), .int (zI pa), .int (zI fl), .ref 56, .int (zI sz)])), (54, .inr (5, [.ref 55, .int (zI ln), .int (zI tx_4), .int (zI sx_4), .int (zI bx_4), .int (zI vx_4), .int (zI pa), .int (zI fl), .ref 56, .int (zI sz)]))]) rfl ?_
            refine J_mask (L2 := [(54, .inr (5, [.ref 55, .int (zI ln), .int (zI z697), .int (zI z698), .int (zI z699), .int (zI z700), .int (zI pa), .int (zI fl), .ref 56, .int (zI sz)]))]) (ks := [54, 54]) [true, false] rfl (by decide +kernel) rfl ?_
            refine Z_iinc (c := i_4 + 1) (ls2 := [some (.ref 54), some (.int (zI 1)), some (.int (zI 0)), some (.int (zI (i_4 + 1)))]) dX5_plain_34 rfl (Nat.le_of_ble_eq_true rfl) rfl rfl rfl ?_
            refine J_goto (tgt := 4) dX5_plain_37 (by decide) ?_
            exact ih4 0 (i_4 + 1) z697 z698 z699 z700 (v_da458fa48a i4_0) (v_6924477667 h1) v_939070ca3f v_316afd7d0b (v_17f5bda46b i4_2 i4_4 g696 h703) h701 h702 (v_9b2e2070a2 i4_7 g696 h703) h704 h705 h706 h707 h708 (meas_lt v_ceb2ed6d2b (v_44ddc35e90 h1) hm4)
          · refine Z_iconst (n := 1) dX5_plain_24 ?_
            refine J_goto (tgt := 29) dX5_plain_25 (by decide) ?_
            refine J_istore_n dX5_plain_29 rfl (Nat.le_of_ble_eq_true rfl) rfl ?_
            refine J_ls (ls2 := [some (.ref 54), some (.int (zI 1)), some (.int (zI 1)), some (.int (zI i_4))]) rfl ?_
            refine J_aload_n dX5_plain_30 rfl rfl ?_
            have g709 := TokL.lt i4_12 (v_3a5b2158d2 h348)
            refine J_callV (st := []) dX5_plain_31 cv_X5_43 (d_advance ln tx_4 sx_4 bx_4 vx_4 pa fl sz tp q0 q1 (v_d253cb2c59 i4_7 g709) i4_9 i4_10 i4_11 q15 rfl hk55) rfl rfl rfl (Nat.le_of_ble_eq_true rfl) ⟨(Nat.le_of_ble_eq_true rfl), (Nat.le_of_ble_eq_true rfl)⟩ ⟨(Nat.le_of_ble_eq_true rfl), (Nat.le_of_ble_eq_true rfl)⟩ (fun r h9 hp => ?_)
            obtain ⟨z710, z711, z712, z713, rfl, rfl, h714, h715, h716, h717, h718, h719, h720, h721⟩ := hp
            refine J_nf (nh2 := nh) (ck2 := 0) (sk2 := 0) (st2 := []) rfl rfl rfl rfl ?_
            refine J_app (L3 := [(54, .inr (5, [.ref 55, .int (zI ln), .int (zI z710), .int (zI z711), .int (zI z712), .int (zI z713), .int (zI pa), .int (zI fl), .ref 56, .int (zI sz)])), (54, .inr (5, [.ref 55, .int (zI ln), .int (zI tx_4), .int (zI sx_4), .int (zI bx_4), .int (zI vx_4), .int (zI pa), .int (zI fl), .ref 56, .int (zI sz)]))]) rfl ?_
            refine J_mask (L2 := [(54, .inr (5, [.ref 55, .int (zI ln), .int (zI z710), .int (zI z711), .int (zI z712), .int (zI z713), .int (zI pa), .int (zI fl), .ref 56, .int (zI sz)]))]) (ks := [54, 54]) [true, false] rfl (by decide +kernel) rfl ?_
            refine Z_iinc (c := i_4 + 1) (ls2 := [some (.ref 54), some (.int (zI 1)), some (.int (zI 1)), some (.int (zI (i_4 + 1)))]) dX5_plain_34 rfl (Nat.le_of_ble_eq_true rfl) rfl rfl rfl ?_
            refine J_goto (tgt := 4) dX5_plain_37 (by decide) ?_
            exact ih4 1 (i_4 + 1) z710 z711 z712 z713 (v_da458fa48a i4_0) (v_6924477667 h1) v_316afd7d0b v_bbcfac9b7d (v_9fcadba328 i4_2 i4_4 g709 h716) h714 h715 (v_9b2e2070a2 i4_7 g709 h716) h717 h718 h719 h720 h721 (meas_lt v_ceb2ed6d2b (v_44ddc35e90 h1) hm4)
  exact lp4 _ 0 0 tk st bh va v_939070ca3f v_5ab96f7b5e v_939070ca3f v_316afd7d0b v_2776526004 q2 q3 q4 q5 q6 q7 q8 q14 (Nat.lt_succ_self _)
set_option maxHeartbeats 4000000 in
set_option maxRecDepth 100000 in
theorem d_both1 {l : Launch} {G : jG} {nh : Nat} {fh : Nat → Option va_E} (ln : Int) (tk : Int) (st : Int) (bh : Int) (va : Int) (pa : Int) (fl : Int) (sz : Int) (tp : Int → Int) (cd : Int → Int) (q0 : 0 ≤ ln) (q1 : ln ≤ 400) (q2 : 0 ≤ tk) (q3 : tk ≤ 355) (q4 : 0 ≤ st) (q5 : st ≤ bh) (q6 : bh ≤ ln) (q7 : 0 ≤ va) (q8 : va ≤ 1001) (q9 : 0 ≤ pa) (q10 : pa ≤ 50) (q11 : zr fl) (q12 : 0 ≤ sz) (q13 : sz ≤ 412) (q14 : TokL tk st bh) (q15 : Rg tp 400 0 255) (q16 : Rg cd 412 (-2147483648) 2147483647) (hk54 : fh 54 = some (.inr (5, [.ref 55, .int (zI ln), .int (zI tk), .int (zI st), .int (zI bh), .int (zI va), .int (zI pa), .int (zI fl), .ref 56, .int (zI sz)]))) (hk55 : fh 55 = some (.inl (0, 400, .inl (zA tp)))) (hk56 : fh 56 = some (.inl (0, 412, .inl (zA cd)))) : JM l G yX5_both MX5_both { frames := 38, cells := 0, slots := 0, locals := 852 } [.ref 54, .int (zI 1)] (nh, fh) (fun rr h9 => (∃ tk2 : Int, ∃ st2 : Int, ∃ bh2 : Int, ∃ va2 : Int, ∃ pa2 : Int, ∃ sz2 : Int, ∃ cd2 : Int → Int, rr = some (.int (zI 1)) ∧ h9 = (nh, hc fh [(54, .inr (5, [.ref 55, .int (zI ln), .int (zI tk2), .int (zI st2), .int (zI bh2), .int (zI va2), .int (zI pa2), .int (zI fl), .ref 56, .int (zI sz2)])), (56, .inl (0, 412, .inl (zA cd2)))]) ∧ (0 ≤ tk2) ∧ (tk2 ≤ 355) ∧ (0 ≤ st2) ∧ (st2 ≤ bh2) ∧ (bh2 ≤ ln) ∧ (0 ≤ va2) ∧ (va2 ≤ 1001) ∧ (0 ≤ pa2) ∧ (pa2 ≤ 50) ∧ (0 ≤ sz2) ∧ (sz2 ≤ 412) ∧ (TokL tk2 st2 bh2) ∧ (Rg cd2 412 (-2147483648) 2147483647) ∧ (sz2 + st ≤ sz + st2) ∧ (st ≤ st2)) ∨ (∃ tk2 : Int, ∃ st2 : Int, ∃ bh2 : Int, ∃ va2 : Int, ∃ pa2 : Int, ∃ sz2 : Int, ∃ cd2 : Int → Int, ∃ fl2 : Int, rr = some (.int (zI 0)) ∧ h9 = (nh, hc fh [(54, .inr (5, [.ref 55, .int (zI ln), .int (zI tk2), .int (zI st2), .int (zI bh2), .int (zI va2), .int (zI pa2), .int (zI fl2), .ref 56, .int (zI sz2)])), (56, .inl (0, 412, .inl (zA cd2)))]) ∧ (0 ≤ tk2) ∧ (tk2 ≤ 355) ∧ (0 ≤ st2) ∧ (st2 ≤ bh2) ∧ (bh2 ≤ ln) ∧ (0 ≤ va2) ∧ (va2 ≤ 1001) ∧ (0 ≤ pa2) ∧ (pa2 ≤ 50) ∧ (0 ≤ sz2) ∧ (sz2 ≤ 412) ∧ (TokL tk2 st2 bh2) ∧ (Rg cd2 412 (-2147483648) 2147483647) ∧ (0 ≤ fl2) ∧ (fl2 ≤ 400))) := by
  refine JM.of (by decide) rfl (fun h => by cases h) (Nat.le_of_ble_eq_true rfl) ⟨2, rfl⟩ ?_
  refine J_hc0 (J_ls (ls2 := [some (.ref 54), some (.int (zI 1)), none, none]) rfl ?_)
  refine J_aload_n dX5_both_0 rfl rfl ?_
  refine J_iload_n dX5_both_1 rfl rfl ?_
  refine J_callV (st := []) dX5_both_2 cv_X5_83 (d_plain1 ln tk st bh va pa fl sz tp cd q0 q1 q2 q3 q4 q5 q6 q7 q8 q9 q10 q11 q12 q13 q14 q15 q16 hk54 hk55 hk56) hk54 rfl rfl (Nat.le_of_ble_eq_true rfl) ⟨(Nat.le_of_ble_eq_true rfl), (Nat.le_of_ble_eq_true rfl)⟩ ⟨(Nat.le_of_ble_eq_true rfl), (Nat.le_of_ble_eq_true rfl)⟩ (fun r h9 hp => ?_)
  rcases hp with ⟨z1, z2, z3, z4, z5, z6, f7, rfl, rfl, h8, h9, h10, h11, h12, h13, h14, h15, h16, h17, h18, h19, h20, h21, h22⟩ | ⟨z23, z24, z25, z26, z27, z28, f29, z30, rfl, rfl, h31, h32, h33, h34, h35, h36, h37, h38, h39, h40, h41, h42, h43, h44, h45⟩
  · refine J_nf (nh2 := nh) (ck2 := 0) (sk2 := 0) (st2 := [.int (zI 1)]) rfl rfl rfl rfl ?_
    refine J_app (L3 := [(54, .inr (5, [.ref 55, .int (zI ln), .int (zI z1), .int (zI z2), .int (zI z3), .int (zI z4), .int (zI z5), .int (zI fl), .ref 56, .int (zI z6)])), (56, .inl (0, 412, .inl (zA f7)))]) rfl ?_
    refine Z_if_ne (tgt := 10) dX5_both_5 (by decide) v_4dcc24baa7 (fun h46 => ?_) (fun h46 => absurd h46 v_3a47bfd896)
    refine Z_iconst (n := 0) dX5_both_10 ?_
    refine J_istore_n dX5_both_11 rfl (Nat.le_of_ble_eq_true rfl) rfl ?_
    refine J_ls (ls2 := [some (.ref 54), some (.int (zI 1)), some (.int (zI 0)), none]) rfl ?_
    have lp12 : ∀ (N12 : Nat) (i_12 : Int) (tx_12 : Int) (sx_12 : Int) (bx_12 : Int) (vx_12 : Int) (px_12 : Int) (zx_12 : Int) (cx_12 : Int → Int), (0 ≤ i_12) → (i_12 ≤ 400) → (zx_12 + st ≤ sz + sx_12) → (st ≤ sx_12) → (0 ≤ tx_12) → (tx_12 ≤ 355) → (0 ≤ sx_12) → (sx_12 ≤ bx_12) → (bx_12 ≤ ln) → (0 ≤ vx_12) → (vx_12 ≤ 1001) → (TokL tx_12 sx_12 bx_12) → (Rg cx_12 412 (-2147483648) 2147483647) → (0 ≤ zx_12) → (zx_12 ≤ 412) → (0 ≤ px_12) → (px_12 ≤ 50) → (400 - i_12).toNat < N12 → J l G MX5_both { frames := 38, cells := 0, slots := 0, locals := 852 } jE (jMQ G { frames := 38, cells := 0, slots := 0, locals := 852 } (fun rr h9 => (∃ tk2 : Int, ∃ st2 : Int, ∃ bh2 : Int, ∃ va2 : Int, ∃ pa2 : Int, ∃ sz2 : Int, ∃ cd2 : Int → Int, rr = some (.int (zI 1)) ∧ h9 = (nh, hc fh [(54, .inr (5, [.ref 55, .int (zI ln), .int (zI tk2), .int (zI st2), .int (zI bh2), .int (zI va2), .int (zI pa2), .int (zI fl), .ref 56, .int (zI sz2)])), (56, .inl (0, 412, .inl (zA cd2)))]) ∧ (0 ≤ tk2) ∧ (tk2 ≤ 355) ∧ (0 ≤ st2) ∧ (st2 ≤ bh2) ∧ (bh2 ≤ ln) ∧ (0 ≤ va2) ∧ (va2 ≤ 1001) ∧ (0 ≤ pa2) ∧ (pa2 ≤ 50) ∧ (0 ≤ sz2) ∧ (sz2 ≤ 412) ∧ (TokL tk2 st2 bh2) ∧ (Rg cd2 412 (-2147483648) 2147483647) ∧ (sz2 + st ≤ sz + st2) ∧ (st ≤ st2)) ∨ (∃ tk2 : Int, ∃ st2 : Int, ∃ bh2 : Int, ∃ va2 : Int, ∃ pa2 : Int, ∃ sz2 : Int, ∃ cd2 : Int → Int, ∃ fl2 : Int, rr = some (.int (zI 0)) ∧ h9 = (nh, hc fh [(54, .inr (5, [.ref 55, .int (zI ln), .int (zI tk2), .int (zI st2), .int (zI bh2), .int (zI va2), .int (zI pa2), .int (zI fl2), .ref 56, .int (zI sz2)])), (56, .inl (0, 412, .inl (zA cd2)))]) ∧ (0 ≤ tk2) ∧ (tk2 ≤ 355) ∧ (0 ≤ st2) ∧ (st2 ≤ bh2) ∧ (bh2 ≤ ln) ∧ (0 ≤ va2) ∧ (va2 ≤ 1001) ∧ (0 ≤ pa2) ∧ (pa2 ≤ 50) ∧ (0 ≤ sz2) ∧ (sz2 ≤ 412) ∧ (TokL tk2 st2 bh2) ∧ (Rg cd2 412 (-2147483648) 2147483647) ∧ (0 ≤ fl2) ∧ (fl2 ≤ 400)))) (nh, hc fh [(54, .inr (5, [.ref 55, .int (zI ln), .int (zI tx_12), .int (zI sx_12), .int (zI bx_12), .int (zI vx_12), .int (zI px_12), .int (zI fl), .ref 56, .int (zI zx_12)])), (56, .inl (0, 412, .inl (zA cx_12)))]) 0 0 12 [some (.ref 54), some (.int (zI 1)), some (.int (zI i_12)), none] [] := by
      intro N12
      induction N12 with
      | zero => intro i_12 tx_12 sx_12 bx_12 vx_12 px_12 zx_12 cx_12 i12_0 i12_1 i12_2 i12_3 i12_4 i12_5 i12_6 i12_7 i12_8 i12_9 i12_10 i12_11 i12_12 i12_13 i12_14 i12_15 i12_16 hm; exact absurd hm (Nat.not_lt_zero _)
      | succ N12 ih12 =>
        intro i_12 tx_12 sx_12 bx_12 vx_12 px_12 zx_12 cx_12 i12_0 i12_1 i12_2 i12_3 i12_4 i12_5 i12_6 i12_7 i12_8 i12_9 i12_10 i12_11 i12_12 i12_13 i12_14 i12_15 i12_16 hm12
        refine J_iload_n dX5_both_12 rfl rfl ?_
        refine Z_sipush (n := 400) dX5_both_13 (by decide +kernel) ?_
        refine Z_icmp_ge (tgt := 60) dX5_both_16 (by decide) (v_d7389cde0f i12_0 i12_1) v_d8dcd4dd52 (fun h47 => ?_) (fun h47 => ?_)
        · refine Z_iconst (n := 1) dX5_both_60 ?_
          exact J_iret dX5_both_61 rfl (jbn v_316afd7d0b v_bbcfac9b7d) (Nat.le_of_ble_eq_true rfl) (Nat.le_of_ble_eq_true rfl) (Or.inl ⟨tx_12, sx_12, bx_12, vx_12, px_12, zx_12, cx_12, rfl, rfl, i12_4, i12_5, i12_6, i12_7, i12_8, i12_9, i12_10, i12_15, i12_16, i12_13, i12_14, i12_11, i12_12, i12_2, i12_3⟩)
        · refine J_aload_n dX5_both_19 rfl rfl ?_
          refine J_get (v := .int (zI tx_12)) dX5_both_20 fl_X5_19 rfl rfl ?_
          refine Z_iconst (n := 5) dX5_both_23 ?_
          refine Z_icmp_ne (tgt := 60) dX5_both_24 (by decide) (v_96bf6f782e i12_4 i12_5) v_3961fe0d0d (fun h48 => ?_) (fun h48 => ?_)
          · refine Z_iconst (n := 1) dX5_both_60 ?_
            exact J_iret dX5_both_61 rfl (jbn v_316afd7d0b v_bbcfac9b7d) (Nat.le_of_ble_eq_true rfl) (Nat.le_of_ble_eq_true rfl) (Or.inl ⟨tx_12, sx_12, bx_12, vx_12, px_12, zx_12, cx_12, rfl, rfl, i12_4, i12_5, i12_6, i12_7, i12_8, i12_9, i12_10, i12_15, i12_16, i12_13, i12_14, i12_11, i12_12, i12_2, i12_3⟩)
          · refine J_aload_n dX5_both_27 rfl rfl ?_
            have g49 := TokL.lt i12_11 (v_9ad38f4709 h48)
            refine J_callV (st := []) dX5_both_28 cv_X5_43 (d_advance ln tx_12 sx_12 bx_12 vx_12 px_12 fl zx_12 tp q0 q1 (v_d253cb2c59 i12_6 g49) i12_8 i12_9 i12_10 q15 rfl hk55) rfl rfl rfl (Nat.le_of_ble_eq_true rfl) ⟨(Nat.le_of_ble_eq_true rfl), (Nat.le_of_ble_eq_true rfl)⟩ ⟨(Nat.le_of_ble_eq_true rfl), (Nat.le_of_ble_eq_true rfl)⟩ (fun r h9 hp => ?_)
            obtain ⟨z50, z51, z52, z53, rfl, rfl, h54, h55, h56, h57, h58, h59, h60, h61⟩ := hp
            refine J_nf (nh2 := nh) (ck2 := 0) (sk2 := 0) (st2 := []) rfl rfl rfl rfl ?_
            refine J_app (L3 := [(54, .inr (5, [.ref 55, .int (zI ln), .int (zI z50), .int (zI z51), .int (zI z52), .int (zI z53), .int (zI px_12), .int (zI fl), .ref 56, .int (zI zx_12)])), (54, .inr (5, [.ref 55, .int (zI ln), .int (zI tx_12), .int (zI sx_12), .int (zI bx_12), .int (zI vx_12), .int (zI px_12), .int (zI fl), .ref 56, .int (zI zx_12)])), (56, .inl (0, 412, .inl (zA cx_12)))]) rfl ?_
            refine J_mask (L2 := [(54, .inr (5, [.ref 55, .int (zI ln), .int (zI z50), .int (zI z51), .int (zI z52), .int (zI z53), .int (zI px_12), .int (zI fl), .ref 56, .int (zI zx_12)])), (56, .inl (0, 412, .inl (zA cx_12)))]) (ks := [54, 54, 56]) [true, false, true] rfl (by decide +kernel) rfl ?_
            refine J_aload_n dX5_both_31 rfl rfl ?_
            refine Z_bipush (n := 11) dX5_both_32 (by decide +kernel) ?_
            refine Z_iconst (n := 0) dX5_both_34 ?_
            refine J_callV (st := []) dX5_both_35 cv_X5_72 (d_emit 11 0 ln z50 z51 z52 z53 px_12 fl zx_12 cx_12 v_d58e110b81 v_b17331891f i12_13 i12_14 i12_12 rfl rfl) rfl rfl rfl (Nat.le_of_ble_eq_true rfl) ⟨(Nat.le_of_ble_eq_true rfl), (Nat.le_of_ble_eq_true rfl)⟩ ⟨(Nat.le_of_ble_eq_true rfl), (Nat.le_of_ble_eq_true rfl)⟩ (fun r h9 hp => ?_)
            obtain ⟨z62, f63, rfl, rfl, h64, h65, h66, h67, h68⟩ := hp
            refine J_nf (nh2 := nh) (ck2 := 0) (sk2 := 0) (st2 := [.int (zI zx_12)]) rfl rfl rfl rfl ?_
            refine J_app (L3 := [(54, .inr (5, [.ref 55, .int (zI ln), .int (zI z50), .int (zI z51), .int (zI z52), .int (zI z53), .int (zI px_12), .int (zI fl), .ref 56, .int (zI z62)])), (56, .inl (0, 412, .inl (zA f63))), (54, .inr (5, [.ref 55, .int (zI ln), .int (zI z50), .int (zI z51), .int (zI z52), .int (zI z53), .int (zI px_12), .int (zI fl), .ref 56, .int (zI zx_12)])), (56, .inl (0, 412, .inl (zA cx_12)))]) rfl ?_
            refine J_mask (L2 := [(54, .inr (5, [.ref 55, .int (zI ln), .int (zI z50), .int (zI z51), .int (zI z52), .int (zI z53), .int (zI px_12), .int (zI fl), .ref 56, .int (zI z62)])), (56, .inl (0, 412, .inl (zA f63)))]) (ks := [54, 56, 54, 56]) [true, true, false, false] rfl (by decide +kernel) rfl ?_
            refine J_istore_n dX5_both_38 rfl (Nat.le_of_ble_eq_true rfl) rfl ?_
            refine J_ls (ls2 := [some (.ref 54), some (.int (zI 1)), some (.int (zI i_12)), some (.int (zI zx_12))]) rfl ?_
            refine J_aload_n dX5_both_39 rfl rfl ?_
            refine J_iload_n dX5_both_40 rfl rfl ?_
            refine J_callV (st := []) dX5_both_41 cv_X5_83 (d_plain1 ln z50 z51 z52 z53 px_12 fl z62 tp f63 q0 q1 h54 h55 (v_9b2e2070a2 i12_6 g49 h56) h57 h58 h59 h60 i12_15 i12_16 q11 h64 h65 h61 q15 h68 rfl hk55 rfl) rfl rfl rfl (Nat.le_of_ble_eq_true rfl) ⟨(Nat.le_of_ble_eq_true rfl), (Nat.le_of_ble_eq_true rfl)⟩ ⟨(Nat.le_of_ble_eq_true rfl), (Nat.le_of_ble_eq_true rfl)⟩ (fun r h9 hp => ?_)
            rcases hp with ⟨z69, z70, z71, z72, z73, z74, f75, rfl, rfl, h76, h77, h78, h79, h80, h81, h82, h83, h84, h85, h86, h87, h88, h89, h90⟩ | ⟨z91, z92, z93, z94, z95, z96, f97, z98, rfl, rfl, h99, h100, h101, h102, h103, h104, h105, h106, h107, h108, h109, h110, h111, h112, h113⟩
            · refine J_nf (nh2 := nh) (ck2 := 0) (sk2 := 0) (st2 := [.int (zI 1)]) rfl rfl rfl rfl ?_
              refine J_app (L3 := [(54, .inr (5, [.ref 55, .int (zI ln), .int (zI z69), .int (zI z70), .int (zI z71), .int (zI z72), .int (zI z73), .int (zI fl), .ref 56, .int (zI z74)])), (56, .inl (0, 412, .inl (zA f75))), (54, .inr (5, [.ref 55, .int (zI ln), .int (zI z50), .int (zI z51), .int (zI z52), .int (zI z53), .int (zI px_12), .int (zI fl), .ref 56, .int (zI z62)])), (56, .inl (0, 412, .inl (zA f63)))]) rfl ?_
              refine J_mask (L2 := [(54, .inr (5, [.ref 55, .int (zI ln), .int (zI z69), .int (zI z70), .int (zI z71), .int (zI z72), .int (zI z73), .int (zI fl), .ref 56, .int (zI z74)])), (56, .inl (0, 412, .inl (zA f75)))]) (ks := [54, 56, 54, 56]) [true, true, false, false] rfl (by decide +kernel) rfl ?_
              refine Z_if_ne (tgt := 49) dX5_both_44 (by decide) v_4dcc24baa7 (fun h114 => ?_) (fun h114 => absurd h114 v_3a47bfd896)
              refine J_aload_n dX5_both_49 rfl rfl ?_
              refine J_iload_n dX5_both_50 rfl rfl ?_
              refine J_callV (st := []) dX5_both_51 cv_X5_79 (d_aim zx_12 ln z69 z70 z71 z72 z73 fl z74 f75 (v_9099852440 i12_13 i12_14) h85 h86 h88 rfl rfl) rfl rfl rfl (Nat.le_of_ble_eq_true rfl) ⟨(Nat.le_of_ble_eq_true rfl), (Nat.le_of_ble_eq_true rfl)⟩ ⟨(Nat.le_of_ble_eq_true rfl), (Nat.le_of_ble_eq_true rfl)⟩ (fun r h9 hp => ?_)
              obtain ⟨f115, rfl, rfl, h116⟩ := hp
              refine J_nf (nh2 := nh) (ck2 := 0) (sk2 := 0) (st2 := []) rfl rfl rfl rfl ?_
              refine J_app (L3 := [(56, .inl (0, 412, .inl (zA f115))), (54, .inr (5, [.ref 55, .int (zI ln), .int (zI z69), .int (zI z70), .int (zI z71), .int (zI z72), .int (zI z73), .int (zI fl), .ref 56, .int (zI z74)])), (56, .inl (0, 412, .inl (zA f75)))]) rfl ?_
              refine J_mask (L2 := [(56, .inl (0, 412, .inl (zA f115))), (54, .inr (5, [.ref 55, .int (zI ln), .int (zI z69), .int (zI z70), .int (zI z71), .int (zI z72), .int (zI z73), .int (zI fl), .ref 56, .int (zI z74)]))]) (ks := [56, 54, 56]) [true, true, false] rfl (by decide +kernel) rfl ?_
              refine Z_iinc (c := i_12 + 1) (ls2 := [some (.ref 54), some (.int (zI 1)), some (.int (zI (i_12 + 1))), some (.int (zI zx_12))]) dX5_both_54 rfl (Nat.le_of_ble_eq_true rfl) rfl rfl rfl ?_
              refine J_goto (tgt := 12) dX5_both_57 (by decide) ?_
              refine J_touch (k := 56) (e := .inl (0, 412, .inl (zA f115))) rfl ?_
              refine J_touch (k := 54) (e := .inr (5, [.ref 55, .int (zI ln), .int (zI z69), .int (zI z70), .int (zI z71), .int (zI z72), .int (zI z73), .int (zI fl), .ref 56, .int (zI z74)])) rfl ?_
              refine J_mask (L2 := [(54, .inr (5, [.ref 55, .int (zI ln), .int (zI z69), .int (zI z70), .int (zI z71), .int (zI z72), .int (zI z73), .int (zI fl), .ref 56, .int (zI z74)])), (56, .inl (0, 412, .inl (zA f115)))]) (ks := [54, 56, 56, 54]) [true, true, false, false] rfl (by decide +kernel) rfl ?_
              refine J_drop (ls2 := [some (.ref 54), some (.int (zI 1)), some (.int (zI (i_12 + 1))), none]) [true, true, true, false] rfl ?_
              exact ih12 (i_12 + 1) z69 z70 z71 z72 z73 z74 f115 (v_da458fa48a i12_0) (v_6924477667 h47) (v_f82b1dc229 i12_2 g49 h56 h67 h89) (v_269579bf42 i12_3 g49 h56 h90) h76 h77 h78 h79 h80 h81 h82 h87 h116 h85 h86 h83 h84 (meas_lt v_ceb2ed6d2b (v_44ddc35e90 h47) hm12)
            · refine J_nf (nh2 := nh) (ck2 := 0) (sk2 := 0) (st2 := [.int (zI 0)]) rfl rfl rfl rfl ?_
              refine J_app (L3 := [(54, .inr (5, [.ref 55, .int (zI ln), .int (zI z91), .int (zI z92), .int (zI z93), .int (zI z94), .int (zI z95), .int (zI z98), .ref 56, .int (zI z96)])), (56, .inl (0, 412, .inl (zA f97))), (54, .inr (5, [.ref 55, .int (zI ln), .int (zI z50), .int (zI z51), .int (zI z52), .int (zI z53), .int (zI px_12), .int (zI fl), .ref 56, .int (zI z62)])), (56, .inl (0, 412, .inl (zA f63)))]) rfl ?_
              refine J_mask (L2 := [(54, .inr (5, [.ref 55, .int (zI ln), .int (zI z91), .int (zI z92), .int (zI z93), .int (zI z94), .int (zI z95), .int (zI z98), .ref 56, .int (zI z96)])), (56, .inl (0, 412, .inl (zA f97)))]) (ks := [54, 56, 54, 56]) [true, true, false, false] rfl (by decide +kernel) rfl ?_
              refine Z_if_ne (tgt := 49) dX5_both_44 (by decide) v_b17331891f (fun h117 => absurd h117 (fun q => q v_2ca2bbca1f)) (fun h117 => ?_)
              refine Z_iconst (n := 0) dX5_both_47 ?_
              exact J_iret dX5_both_48 rfl (jbn v_939070ca3f v_316afd7d0b) (Nat.le_of_ble_eq_true rfl) (Nat.le_of_ble_eq_true rfl) (Or.inr ⟨z91, z92, z93, z94, z95, z96, f97, z98, rfl, rfl, h99, h100, h101, h102, h103, h104, h105, h106, h107, h108, h109, h110, h111, h112, h113⟩)
    exact lp12 _ 0 z1 z2 z3 z4 z5 z6 f7 v_939070ca3f v_5ab96f7b5e h21 h22 h8 h9 h10 h11 h12 h13 h14 h19 h20 h17 h18 h15 h16 (Nat.lt_succ_self _)
  · refine J_nf (nh2 := nh) (ck2 := 0) (sk2 := 0) (st2 := [.int (zI 0)]) rfl rfl rfl rfl ?_
    refine J_app (L3 := [(54, .inr (5, [.ref 55, .int (zI ln), .int (zI z23), .int (zI z24), .int (zI z25), .int (zI z26), .int (zI z27), .int (zI z30), .ref 56, .int (zI z28)])), (56, .inl (0, 412, .inl (zA f29)))]) rfl ?_
    refine Z_if_ne (tgt := 10) dX5_both_5 (by decide) v_b17331891f (fun h118 => absurd h118 (fun q => q v_2ca2bbca1f)) (fun h118 => ?_)
    refine Z_iconst (n := 0) dX5_both_8 ?_
    exact J_iret dX5_both_9 rfl (jbn v_939070ca3f v_316afd7d0b) (Nat.le_of_ble_eq_true rfl) (Nat.le_of_ble_eq_true rfl) (Or.inr ⟨z23, z24, z25, z26, z27, z28, f29, z30, rfl, rfl, h31, h32, h33, h34, h35, h36, h37, h38, h39, h40, h41, h42, h43, h44, h45⟩)
set_option maxHeartbeats 4000000 in
set_option maxRecDepth 100000 in
theorem d_test1 {l : Launch} {G : jG} {nh : Nat} {fh : Nat → Option va_E} (ln : Int) (tk : Int) (st : Int) (bh : Int) (va : Int) (pa : Int) (fl : Int) (sz : Int) (tp : Int → Int) (cd : Int → Int) (q0 : 0 ≤ ln) (q1 : ln ≤ 400) (q2 : 0 ≤ tk) (q3 : tk ≤ 355) (q4 : 0 ≤ st) (q5 : st ≤ bh) (q6 : bh ≤ ln) (q7 : 0 ≤ va) (q8 : va ≤ 1001) (q9 : 0 ≤ pa) (q10 : pa ≤ 50) (q11 : zr fl) (q12 : 0 ≤ sz) (q13 : sz ≤ 412) (q14 : TokL tk st bh) (q15 : Rg tp 400 0 255) (q16 : Rg cd 412 (-2147483648) 2147483647) (hk54 : fh 54 = some (.inr (5, [.ref 55, .int (zI ln), .int (zI tk), .int (zI st), .int (zI bh), .int (zI va), .int (zI pa), .int (zI fl), .ref 56, .int (zI sz)]))) (hk55 : fh 55 = some (.inl (0, 400, .inl (zA tp)))) (hk56 : fh 56 = some (.inl (0, 412, .inl (zA cd)))) : JM l G yX5_test MX5_test { frames := 39, cells := 0, slots := 0, locals := 875 } [.ref 54, .int (zI 1)] (nh, fh) (fun rr h9 => (∃ tk2 : Int, ∃ st2 : Int, ∃ bh2 : Int, ∃ va2 : Int, ∃ pa2 : Int, ∃ sz2 : Int, ∃ cd2 : Int → Int, rr = some (.int (zI 1)) ∧ h9 = (nh, hc fh [(54, .inr (5, [.ref 55, .int (zI ln), .int (zI tk2), .int (zI st2), .int (zI bh2), .int (zI va2), .int (zI pa2), .int (zI fl), .ref 56, .int (zI sz2)])), (56, .inl (0, 412, .inl (zA cd2)))]) ∧ (0 ≤ tk2) ∧ (tk2 ≤ 355) ∧ (0 ≤ st2) ∧ (st2 ≤ bh2) ∧ (bh2 ≤ ln) ∧ (0 ≤ va2) ∧ (va2 ≤ 1001) ∧ (0 ≤ pa2) ∧ (pa2 ≤ 50) ∧ (0 ≤ sz2) ∧ (sz2 ≤ 412) ∧ (TokL tk2 st2 bh2) ∧ (Rg cd2 412 (-2147483648) 2147483647) ∧ (sz2 + st ≤ sz + st2) ∧ (st ≤ st2)) ∨ (∃ tk2 : Int, ∃ st2 : Int, ∃ bh2 : Int, ∃ va2 : Int, ∃ pa2 : Int, ∃ sz2 : Int, ∃ cd2 : Int → Int, ∃ fl2 : Int, rr = some (.int (zI 0)) ∧ h9 = (nh, hc fh [(54, .inr (5, [.ref 55, .int (zI ln), .int (zI tk2), .int (zI st2), .int (zI bh2), .int (zI va2), .int (zI pa2), .int (zI fl2), .ref 56, .int (zI sz2)])), (56, .inl (0, 412, .inl (zA cd2)))]) ∧ (0 ≤ tk2) ∧ (tk2 ≤ 355) ∧ (0 ≤ st2) ∧ (st2 ≤ bh2) ∧ (bh2 ≤ ln) ∧ (0 ≤ va2) ∧ (va2 ≤ 1001) ∧ (0 ≤ pa2) ∧ (pa2 ≤ 50) ∧ (0 ≤ sz2) ∧ (sz2 ≤ 412) ∧ (TokL tk2 st2 bh2) ∧ (Rg cd2 412 (-2147483648) 2147483647) ∧ (0 ≤ fl2) ∧ (fl2 ≤ 400))) := by
  refine JM.of (by decide) rfl (fun h => by cases h) (Nat.le_of_ble_eq_true rfl) ⟨2, rfl⟩ ?_
  refine J_hc0 (J_ls (ls2 := [some (.ref 54), some (.int (zI 1)), none, none]) rfl ?_)
  refine J_aload_n dX5_test_0 rfl rfl ?_
  refine J_iload_n dX5_test_1 rfl rfl ?_
  refine J_callV (st := []) dX5_test_2 cv_X5_76 (d_both1 ln tk st bh va pa fl sz tp cd q0 q1 q2 q3 q4 q5 q6 q7 q8 q9 q10 q11 q12 q13 q14 q15 q16 hk54 hk55 hk56) hk54 rfl rfl (Nat.le_of_ble_eq_true rfl) ⟨(Nat.le_of_ble_eq_true rfl), (Nat.le_of_ble_eq_true rfl)⟩ ⟨(Nat.le_of_ble_eq_true rfl), (Nat.le_of_ble_eq_true rfl)⟩ (fun r h9 hp => ?_)
  rcases hp with ⟨z1, z2, z3, z4, z5, z6, f7, rfl, rfl, h8, h9, h10, h11, h12, h13, h14, h15, h16, h17, h18, h19, h20, h21, h22⟩ | ⟨z23, z24, z25, z26, z27, z28, f29, z30, rfl, rfl, h31, h32, h33, h34, h35, h36, h37, h38, h39, h40, h41, h42, h43, h44, h45⟩
  · refine J_nf (nh2 := nh) (ck2 := 0) (sk2 := 0) (st2 := [.int (zI 1)]) rfl rfl rfl rfl ?_
    refine J_app (L3 := [(54, .inr (5, [.ref 55, .int (zI ln), .int (zI z1), .int (zI z2), .int (zI z3), .int (zI z4), .int (zI z5), .int (zI fl), .ref 56, .int (zI z6)])), (56, .inl (0, 412, .inl (zA f7)))]) rfl ?_
    refine Z_if_ne (tgt := 10) dX5_test_5 (by decide) v_4dcc24baa7 (fun h46 => ?_) (fun h46 => absurd h46 v_3a47bfd896)
    refine Z_iconst (n := 0) dX5_test_10 ?_
    refine J_istore_n dX5_test_11 rfl (Nat.le_of_ble_eq_true rfl) rfl ?_
    refine J_ls (ls2 := [some (.ref 54), some (.int (zI 1)), some (.int (zI 0)), none]) rfl ?_
    have lp12 : ∀ (N12 : Nat) (i_12 : Int) (tx_12 : Int) (sx_12 : Int) (bx_12 : Int) (vx_12 : Int) (px_12 : Int) (zx_12 : Int) (cx_12 : Int → Int), (0 ≤ i_12) → (i_12 ≤ 400) → (zx_12 + st ≤ sz + sx_12) → (st ≤ sx_12) → (0 ≤ tx_12) → (tx_12 ≤ 355) → (0 ≤ sx_12) → (sx_12 ≤ bx_12) → (bx_12 ≤ ln) → (0 ≤ vx_12) → (vx_12 ≤ 1001) → (TokL tx_12 sx_12 bx_12) → (Rg cx_12 412 (-2147483648) 2147483647) → (0 ≤ zx_12) → (zx_12 ≤ 412) → (0 ≤ px_12) → (px_12 ≤ 50) → (400 - i_12).toNat < N12 → J l G MX5_test { frames := 39, cells := 0, slots := 0, locals := 875 } jE (jMQ G { frames := 39, cells := 0, slots := 0, locals := 875 } (fun rr h9 => (∃ tk2 : Int, ∃ st2 : Int, ∃ bh2 : Int, ∃ va2 : Int, ∃ pa2 : Int, ∃ sz2 : Int, ∃ cd2 : Int → Int, rr = some (.int (zI 1)) ∧ h9 = (nh, hc fh [(54, .inr (5, [.ref 55, .int (zI ln), .int (zI tk2), .int (zI st2), .int (zI bh2), .int (zI va2), .int (zI pa2), .int (zI fl), .ref 56, .int (zI sz2)])), (56, .inl (0, 412, .inl (zA cd2)))]) ∧ (0 ≤ tk2) ∧ (tk2 ≤ 355) ∧ (0 ≤ st2) ∧ (st2 ≤ bh2) ∧ (bh2 ≤ ln) ∧ (0 ≤ va2) ∧ (va2 ≤ 1001) ∧ (0 ≤ pa2) ∧ (pa2 ≤ 50) ∧ (0 ≤ sz2) ∧ (sz2 ≤ 412) ∧ (TokL tk2 st2 bh2) ∧ (Rg cd2 412 (-2147483648) 2147483647) ∧ (sz2 + st ≤ sz + st2) ∧ (st ≤ st2)) ∨ (∃ tk2 : Int, ∃ st2 : Int, ∃ bh2 : Int, ∃ va2 : Int, ∃ pa2 : Int, ∃ sz2 : Int, ∃ cd2 : Int → Int, ∃ fl2 : Int, rr = some (.int (zI 0)) ∧ h9 = (nh, hc fh [(54, .inr (5, [.ref 55, .int (zI ln), .int (zI tk2), .int (zI st2), .int (zI bh2), .int (zI va2), .int (zI pa2), .int (zI fl2), .ref 56, .int (zI sz2)])), (56, .inl (0, 412, .inl (zA cd2)))]) ∧ (0 ≤ tk2) ∧ (tk2 ≤ 355) ∧ (0 ≤ st2) ∧ (st2 ≤ bh2) ∧ (bh2 ≤ ln) ∧ (0 ≤ va2) ∧ (va2 ≤ 1001) ∧ (0 ≤ pa2) ∧ (pa2 ≤ 50) ∧ (0 ≤ sz2) ∧ (sz2 ≤ 412) ∧ (TokL tk2 st2 bh2) ∧ (Rg cd2 412 (-2147483648) 2147483647) ∧ (0 ≤ fl2) ∧ (fl2 ≤ 400)))) (nh, hc fh [(54, .inr (5, [.ref 55, .int (zI ln), .int (zI tx_12), .int (zI sx_12), .int (zI bx_12), .int (zI vx_12), .int (zI px_12), .int (zI fl), .ref 56, .int (zI zx_12)])), (56, .inl (0, 412, .inl (zA cx_12)))]) 0 0 12 [some (.ref 54), some (.int (zI 1)), some (.int (zI i_12)), none] [] := by
      intro N12
      induction N12 with
      | zero => intro i_12 tx_12 sx_12 bx_12 vx_12 px_12 zx_12 cx_12 i12_0 i12_1 i12_2 i12_3 i12_4 i12_5 i12_6 i12_7 i12_8 i12_9 i12_10 i12_11 i12_12 i12_13 i12_14 i12_15 i12_16 hm; exact absurd hm (Nat.not_lt_zero _)
      | succ N12 ih12 =>
        intro i_12 tx_12 sx_12 bx_12 vx_12 px_12 zx_12 cx_12 i12_0 i12_1 i12_2 i12_3 i12_4 i12_5 i12_6 i12_7 i12_8 i12_9 i12_10 i12_11 i12_12 i12_13 i12_14 i12_15 i12_16 hm12
        refine J_iload_n dX5_test_12 rfl rfl ?_
        refine Z_sipush (n := 400) dX5_test_13 (by decide +kernel) ?_
        refine Z_icmp_ge (tgt := 60) dX5_test_16 (by decide) (v_d7389cde0f i12_0 i12_1) v_d8dcd4dd52 (fun h47 => ?_) (fun h47 => ?_)
        · refine Z_iconst (n := 1) dX5_test_60 ?_
          exact J_iret dX5_test_61 rfl (jbn v_316afd7d0b v_bbcfac9b7d) (Nat.le_of_ble_eq_true rfl) (Nat.le_of_ble_eq_true rfl) (Or.inl ⟨tx_12, sx_12, bx_12, vx_12, px_12, zx_12, cx_12, rfl, rfl, i12_4, i12_5, i12_6, i12_7, i12_8, i12_9, i12_10, i12_15, i12_16, i12_13, i12_14, i12_11, i12_12, i12_2, i12_3⟩)
        · refine J_aload_n dX5_test_19 rfl rfl ?_
          refine J_get (v := .int (zI tx_12)) dX5_test_20 fl_X5_19 rfl rfl ?_
          refine Z_iconst (n := 4) dX5_test_23 ?_
          refine Z_icmp_ne (tgt := 60) dX5_test_24 (by decide) (v_96bf6f782e i12_4 i12_5) v_ffb526fa28 (fun h48 => ?_) (fun h48 => ?_)
          · refine Z_iconst (n := 1) dX5_test_60 ?_
            exact J_iret dX5_test_61 rfl (jbn v_316afd7d0b v_bbcfac9b7d) (Nat.le_of_ble_eq_true rfl) (Nat.le_of_ble_eq_true rfl) (Or.inl ⟨tx_12, sx_12, bx_12, vx_12, px_12, zx_12, cx_12, rfl, rfl, i12_4, i12_5, i12_6, i12_7, i12_8, i12_9, i12_10, i12_15, i12_16, i12_13, i12_14, i12_11, i12_12, i12_2, i12_3⟩)
          · refine J_aload_n dX5_test_27 rfl rfl ?_
            have g49 := TokL.lt i12_11 (v_5ca91df03c h48)
            refine J_callV (st := []) dX5_test_28 cv_X5_43 (d_advance ln tx_12 sx_12 bx_12 vx_12 px_12 fl zx_12 tp q0 q1 (v_d253cb2c59 i12_6 g49) i12_8 i12_9 i12_10 q15 rfl hk55) rfl rfl rfl (Nat.le_of_ble_eq_true rfl) ⟨(Nat.le_of_ble_eq_true rfl), (Nat.le_of_ble_eq_true rfl)⟩ ⟨(Nat.le_of_ble_eq_true rfl), (Nat.le_of_ble_eq_true rfl)⟩ (fun r h9 hp => ?_)
            obtain ⟨z50, z51, z52, z53, rfl, rfl, h54, h55, h56, h57, h58, h59, h60, h61⟩ := hp
            refine J_nf (nh2 := nh) (ck2 := 0) (sk2 := 0) (st2 := []) rfl rfl rfl rfl ?_
            refine J_app (L3 := [(54, .inr (5, [.ref 55, .int (zI ln), .int (zI z50), .int (zI z51), .int (zI z52), .int (zI z53), .int (zI px_12), .int (zI fl), .ref 56, .int (zI zx_12)])), (54, .inr (5, [.ref 55, .int (zI ln), .int (zI tx_12), .int (zI sx_12), .int (zI bx_12), .int (zI vx_12), .int (zI px_12), .int (zI fl), .ref 56, .int (zI zx_12)])), (56, .inl (0, 412, .inl (zA cx_12)))]) rfl ?_
            refine J_mask (L2 := [(54, .inr (5, [.ref 55, .int (zI ln), .int (zI z50), .int (zI z51), .int (zI z52), .int (zI z53), .int (zI px_12), .int (zI fl), .ref 56, .int (zI zx_12)])), (56, .inl (0, 412, .inl (zA cx_12)))]) (ks := [54, 54, 56]) [true, false, true] rfl (by decide +kernel) rfl ?_
            refine J_aload_n dX5_test_31 rfl rfl ?_
            refine Z_bipush (n := 10) dX5_test_32 (by decide +kernel) ?_
            refine Z_iconst (n := 0) dX5_test_34 ?_
            refine J_callV (st := []) dX5_test_35 cv_X5_72 (d_emit 10 0 ln z50 z51 z52 z53 px_12 fl zx_12 cx_12 v_2388fd5833 v_b17331891f i12_13 i12_14 i12_12 rfl rfl) rfl rfl rfl (Nat.le_of_ble_eq_true rfl) ⟨(Nat.le_of_ble_eq_true rfl), (Nat.le_of_ble_eq_true rfl)⟩ ⟨(Nat.le_of_ble_eq_true rfl), (Nat.le_of_ble_eq_true rfl)⟩ (fun r h9 hp => ?_)
            obtain ⟨z62, f63, rfl, rfl, h64, h65, h66, h67, h68⟩ := hp
            refine J_nf (nh2 := nh) (ck2 := 0) (sk2 := 0) (st2 := [.int (zI zx_12)]) rfl rfl rfl rfl ?_
            refine J_app (L3 := [(54, .inr (5, [.ref 55, .int (zI ln), .int (zI z50), .int (zI z51), .int (zI z52), .int (zI z53), .int (zI px_12), .int (zI fl), .ref 56, .int (zI z62)])), (56, .inl (0, 412, .inl (zA f63))), (54, .inr (5, [.ref 55, .int (zI ln), .int (zI z50), .int (zI z51), .int (zI z52), .int (zI z53), .int (zI px_12), .int (zI fl), .ref 56, .int (zI zx_12)])), (56, .inl (0, 412, .inl (zA cx_12)))]) rfl ?_
            refine J_mask (L2 := [(54, .inr (5, [.ref 55, .int (zI ln), .int (zI z50), .int (zI z51), .int (zI z52), .int (zI z53), .int (zI px_12), .int (zI fl), .ref 56, .int (zI z62)])), (56, .inl (0, 412, .inl (zA f63)))]) (ks := [54, 56, 54, 56]) [true, true, false, false] rfl (by decide +kernel) rfl ?_
            refine J_istore_n dX5_test_38 rfl (Nat.le_of_ble_eq_true rfl) rfl ?_
            refine J_ls (ls2 := [some (.ref 54), some (.int (zI 1)), some (.int (zI i_12)), some (.int (zI zx_12))]) rfl ?_
            refine J_aload_n dX5_test_39 rfl rfl ?_
            refine J_iload_n dX5_test_40 rfl rfl ?_
            refine J_callV (st := []) dX5_test_41 cv_X5_76 (d_both1 ln z50 z51 z52 z53 px_12 fl z62 tp f63 q0 q1 h54 h55 (v_9b2e2070a2 i12_6 g49 h56) h57 h58 h59 h60 i12_15 i12_16 q11 h64 h65 h61 q15 h68 rfl hk55 rfl) rfl rfl rfl (Nat.le_of_ble_eq_true rfl) ⟨(Nat.le_of_ble_eq_true rfl), (Nat.le_of_ble_eq_true rfl)⟩ ⟨(Nat.le_of_ble_eq_true rfl), (Nat.le_of_ble_eq_true rfl)⟩ (fun r h9 hp => ?_)
            rcases hp with ⟨z69, z70, z71, z72, z73, z74, f75, rfl, rfl, h76, h77, h78, h79, h80, h81, h82, h83, h84, h85, h86, h87, h88, h89, h90⟩ | ⟨z91, z92, z93, z94, z95, z96, f97, z98, rfl, rfl, h99, h100, h101, h102, h103, h104, h105, h106, h107, h108, h109, h110, h111, h112, h113⟩
            · refine J_nf (nh2 := nh) (ck2 := 0) (sk2 := 0) (st2 := [.int (zI 1)]) rfl rfl rfl rfl ?_
              refine J_app (L3 := [(54, .inr (5, [.ref 55, .int (zI ln), .int (zI z69), .int (zI z70), .int (zI z71), .int (zI z72), .int (zI z73), .int (zI fl), .ref 56, .int (zI z74)])), (56, .inl (0, 412, .inl (zA f75))), (54, .inr (5, [.ref 55, .int (zI ln), .int (zI z50), .int (zI z51), .int (zI z52), .int (zI z53), .int (zI px_12), .int (zI fl), .ref 56, .int (zI z62)])), (56, .inl (0, 412, .inl (zA f63)))]) rfl ?_
              refine J_mask (L2 := [(54, .inr (5, [.ref 55, .int (zI ln), .int (zI z69), .int (zI z70), .int (zI z71), .int (zI z72), .int (zI z73), .int (zI fl), .ref 56, .int (zI z74)])), (56, .inl (0, 412, .inl (zA f75)))]) (ks := [54, 56, 54, 56]) [true, true, false, false] rfl (by decide +kernel) rfl ?_
              refine Z_if_ne (tgt := 49) dX5_test_44 (by decide) v_4dcc24baa7 (fun h114 => ?_) (fun h114 => absurd h114 v_3a47bfd896)
              refine J_aload_n dX5_test_49 rfl rfl ?_
              refine J_iload_n dX5_test_50 rfl rfl ?_
              refine J_callV (st := []) dX5_test_51 cv_X5_79 (d_aim zx_12 ln z69 z70 z71 z72 z73 fl z74 f75 (v_9099852440 i12_13 i12_14) h85 h86 h88 rfl rfl) rfl rfl rfl (Nat.le_of_ble_eq_true rfl) ⟨(Nat.le_of_ble_eq_true rfl), (Nat.le_of_ble_eq_true rfl)⟩ ⟨(Nat.le_of_ble_eq_true rfl), (Nat.le_of_ble_eq_true rfl)⟩ (fun r h9 hp => ?_)
              obtain ⟨f115, rfl, rfl, h116⟩ := hp
              refine J_nf (nh2 := nh) (ck2 := 0) (sk2 := 0) (st2 := []) rfl rfl rfl rfl ?_
              refine J_app (L3 := [(56, .inl (0, 412, .inl (zA f115))), (54, .inr (5, [.ref 55, .int (zI ln), .int (zI z69), .int (zI z70), .int (zI z71), .int (zI z72), .int (zI z73), .int (zI fl), .ref 56, .int (zI z74)])), (56, .inl (0, 412, .inl (zA f75)))]) rfl ?_
              refine J_mask (L2 := [(56, .inl (0, 412, .inl (zA f115))), (54, .inr (5, [.ref 55, .int (zI ln), .int (zI z69), .int (zI z70), .int (zI z71), .int (zI z72), .int (zI z73), .int (zI fl), .ref 56, .int (zI z74)]))]) (ks := [56, 54, 56]) [true, true, false] rfl (by decide +kernel) rfl ?_
              refine Z_iinc (c := i_12 + 1) (ls2 := [some (.ref 54), some (.int (zI 1)), some (.int (zI (i_12 + 1))), some (.int (zI zx_12))]) dX5_test_54 rfl (Nat.le_of_ble_eq_true rfl) rfl rfl rfl ?_
              refine J_goto (tgt := 12) dX5_test_57 (by decide) ?_
              refine J_touch (k := 56) (e := .inl (0, 412, .inl (zA f115))) rfl ?_
              refine J_touch (k := 54) (e := .inr (5, [.ref 55, .int (zI ln), .int (zI z69), .int (zI z70), .int (zI z71), .int (zI z72), .int (zI z73), .int (zI fl), .ref 56, .int (zI z74)])) rfl ?_
              refine J_mask (L2 := [(54, .inr (5, [.ref 55, .int (zI ln), .int (zI z69), .int (zI z70), .int (zI z71), .int (zI z72), .int (zI z73), .int (zI fl), .ref 56, .int (zI z74)])), (56, .inl (0, 412, .inl (zA f115)))]) (ks := [54, 56, 56, 54]) [true, true, false, false] rfl (by decide +kernel) rfl ?_
              refine J_drop (ls2 := [some (.ref 54), some (.int (zI 1)), some (.int (zI (i_12 + 1))), none]) [true, true, true, false] rfl ?_
              exact ih12 (i_12 + 1) z69 z70 z71 z72 z73 z74 f115 (v_da458fa48a i12_0) (v_6924477667 h47) (v_f82b1dc229 i12_2 g49 h56 h67 h89) (v_269579bf42 i12_3 g49 h56 h90) h76 h77 h78 h79 h80 h81 h82 h87 h116 h85 h86 h83 h84 (meas_lt v_ceb2ed6d2b (v_44ddc35e90 h47) hm12)
            · refine J_nf (nh2 := nh) (ck2 := 0) (sk2 := 0) (st2 := [.int (zI 0)]) rfl rfl rfl rfl ?_
              refine J_app (L3 := [(54, .inr (5, [.ref 55, .int (zI ln), .int (zI z91), .int (zI z92), .int (zI z93), .int (zI z94), .int (zI z95), .int (zI z98), .ref 56, .int (zI z96)])), (56, .inl (0, 412, .inl (zA f97))), (54, .inr (5, [.ref 55, .int (zI ln), .int (zI z50), .int (zI z51), .int (zI z52), .int (zI z53), .int (zI px_12), .int (zI fl), .ref 56, .int (zI z62)])), (56, .inl (0, 412, .inl (zA f63)))]) rfl ?_
              refine J_mask (L2 := [(54, .inr (5, [.ref 55, .int (zI ln), .int (zI z91), .int (zI z92), .int (zI z93), .int (zI z94), .int (zI z95), .int (zI z98), .ref 56, .int (zI z96)])), (56, .inl (0, 412, .inl (zA f97)))]) (ks := [54, 56, 54, 56]) [true, true, false, false] rfl (by decide +kernel) rfl ?_
              refine Z_if_ne (tgt := 49) dX5_test_44 (by decide) v_b17331891f (fun h117 => absurd h117 (fun q => q v_2ca2bbca1f)) (fun h117 => ?_)
              refine Z_iconst (n := 0) dX5_test_47 ?_
              exact J_iret dX5_test_48 rfl (jbn v_939070ca3f v_316afd7d0b) (Nat.le_of_ble_eq_true rfl) (Nat.le_of_ble_eq_true rfl) (Or.inr ⟨z91, z92, z93, z94, z95, z96, f97, z98, rfl, rfl, h99, h100, h101, h102, h103, h104, h105, h106, h107, h108, h109, h110, h111, h112, h113⟩)
    exact lp12 _ 0 z1 z2 z3 z4 z5 z6 f7 v_939070ca3f v_5ab96f7b5e h21 h22 h8 h9 h10 h11 h12 h13 h14 h19 h20 h17 h18 h15 h16 (Nat.lt_succ_self _)
  · refine J_nf (nh2 := nh) (ck2 := 0) (sk2 := 0) (st2 := [.int (zI 0)]) rfl rfl rfl rfl ?_
    refine J_app (L3 := [(54, .inr (5, [.ref 55, .int (zI ln), .int (zI z23), .int (zI z24), .int (zI z25), .int (zI z26), .int (zI z27), .int (zI z30), .ref 56, .int (zI z28)])), (56, .inl (0, 412, .inl (zA f29)))]) rfl ?_
    refine Z_if_ne (tgt := 10) dX5_test_5 (by decide) v_b17331891f (fun h118 => absurd h118 (fun q => q v_2ca2bbca1f)) (fun h118 => ?_)
    refine Z_iconst (n := 0) dX5_test_8 ?_
    exact J_iret dX5_test_9 rfl (jbn v_939070ca3f v_316afd7d0b) (Nat.le_of_ble_eq_true rfl) (Nat.le_of_ble_eq_true rfl) (Or.inr ⟨z23, z24, z25, z26, z27, z28, f29, z30, rfl, rfl, h31, h32, h33, h34, h35, h36, h37, h38, h39, h40, h41, h42, h43, h44, h45⟩)
set_option maxHeartbeats 4000000 in
set_option maxRecDepth 100000 in
theorem d_bracketedSum0 {l : Launch} {G : jG} {nh : Nat} {fh : Nat → Option va_E} (ln : Int) (tk : Int) (st : Int) (bh : Int) (va : Int) (pa : Int) (fl : Int) (sz : Int) (tp : Int → Int) (cd : Int → Int) (q0 : 0 ≤ ln) (q1 : ln ≤ 400) (q2 : 0 ≤ tk) (q3 : tk ≤ 355) (q4 : 0 ≤ st) (q5 : st ≤ bh) (q6 : bh ≤ ln) (q7 : 0 ≤ va) (q8 : va ≤ 1001) (q9 : 0 ≤ pa) (q10 : pa ≤ 50) (q11 : zr fl) (q12 : 0 ≤ sz) (q13 : sz ≤ 412) (q14 : TokL tk st bh) (q15 : Rg tp 400 0 255) (q16 : Rg cd 412 (-2147483648) 2147483647) (hk54 : fh 54 = some (.inr (5, [.ref 55, .int (zI ln), .int (zI tk), .int (zI st), .int (zI bh), .int (zI va), .int (zI pa), .int (zI fl), .ref 56, .int (zI sz)]))) (hk55 : fh 55 = some (.inl (0, 400, .inl (zA tp)))) (hk56 : fh 56 = some (.inl (0, 412, .inl (zA cd)))) : JM l G yX5_bracketedSum MX5_bracketedSum { frames := 37, cells := 0, slots := 0, locals := 829 } [.ref 54, .int (zI 0)] (nh, fh) (fun rr h9 => (∃ tk2 : Int, ∃ st2 : Int, ∃ bh2 : Int, ∃ va2 : Int, ∃ pa2 : Int, ∃ sz2 : Int, ∃ cd2 : Int → Int, rr = some (.int (zI 1)) ∧ h9 = (nh, hc fh [(54, .inr (5, [.ref 55, .int (zI ln), .int (zI tk2), .int (zI st2), .int (zI bh2), .int (zI va2), .int (zI pa2), .int (zI fl), .ref 56, .int (zI sz2)])), (56, .inl (0, 412, .inl (zA cd2)))]) ∧ (0 ≤ tk2) ∧ (tk2 ≤ 355) ∧ (0 ≤ st2) ∧ (st2 ≤ bh2) ∧ (bh2 ≤ ln) ∧ (0 ≤ va2) ∧ (va2 ≤ 1001) ∧ (0 ≤ pa2) ∧ (pa2 ≤ 50) ∧ (0 ≤ sz2) ∧ (sz2 ≤ 412) ∧ (TokL tk2 st2 bh2) ∧ (Rg cd2 412 (-2147483648) 2147483647) ∧ (sz2 + st ≤ sz + st2) ∧ (st ≤ st2)) ∨ (∃ tk2 : Int, ∃ st2 : Int, ∃ bh2 : Int, ∃ va2 : Int, ∃ pa2 : Int, ∃ sz2 : Int, ∃ cd2 : Int → Int, ∃ fl2 : Int, rr = some (.int (zI 0)) ∧ h9 = (nh, hc fh [(54, .inr (5, [.ref 55, .int (zI ln), .int (zI tk2), .int (zI st2), .int (zI bh2), .int (zI va2), .int (zI pa2), .int (zI fl2), .ref 56, .int (zI sz2)])), (56, .inl (0, 412, .inl (zA cd2)))]) ∧ (0 ≤ tk2) ∧ (tk2 ≤ 355) ∧ (0 ≤ st2) ∧ (st2 ≤ bh2) ∧ (bh2 ≤ ln) ∧ (0 ≤ va2) ∧ (va2 ≤ 1001) ∧ (0 ≤ pa2) ∧ (pa2 ≤ 50) ∧ (0 ≤ sz2) ∧ (sz2 ≤ 412) ∧ (TokL tk2 st2 bh2) ∧ (Rg cd2 412 (-2147483648) 2147483647) ∧ (0 ≤ fl2) ∧ (fl2 ≤ 400))) := by
  refine JM.of (by decide) rfl (fun h => by cases h) (Nat.le_of_ble_eq_true rfl) ⟨0, rfl⟩ ?_
  refine J_hc0 (J_ls (ls2 := [some (.ref 54), some (.int (zI 0))]) rfl ?_)
  refine J_iload_n dX5_bracketedSum_0 rfl rfl ?_
  refine Z_bipush (n := 8) dX5_bracketedSum_1 (by decide +kernel) ?_
  refine Z_icmp_lt (tgt := 11) dX5_bracketedSum_3 (by decide) v_b17331891f v_665891e294 (fun h1 => ?_) (fun h1 => absurd h1 (fun q => q v_d437d0a088))
  refine J_aload_n dX5_bracketedSum_11 rfl rfl ?_
  refine J_callV (st := []) dX5_bracketedSum_12 cv_X5_43 (d_advance ln tk st bh va pa fl sz tp q0 q1 (v_21976c7318 q4 q5) q6 q7 q8 q15 hk54 hk55) hk54 rfl rfl (Nat.le_of_ble_eq_true rfl) ⟨(Nat.le_of_ble_eq_true rfl), (Nat.le_of_ble_eq_true rfl)⟩ ⟨(Nat.le_of_ble_eq_true rfl), (Nat.le_of_ble_eq_true rfl)⟩ (fun r h9 hp => ?_)
  obtain ⟨z2, z3, z4, z5, rfl, rfl, h6, h7, h8, h9, h10, h11, h12, h13⟩ := hp
  refine J_nf (nh2 := nh) (ck2 := 0) (sk2 := 0) (st2 := []) rfl rfl rfl rfl ?_
  refine J_app (L3 := [(54, .inr (5, [.ref 55, .int (zI ln), .int (zI z2), .int (zI z3), .int (zI z4), .int (zI z5), .int (zI pa), .int (zI fl), .ref 56, .int (zI sz)]))]) rfl ?_
  refine J_aload_n dX5_bracketedSum_15 rfl rfl ?_
  refine J_iload_n dX5_bracketedSum_16 rfl rfl ?_
  refine Z_iconst (n := 1) dX5_bracketedSum_17 ?_
  refine Z_iadd (c := 1) dX5_bracketedSum_18 v_a8511d4785 ?_
  refine J_callV (st := []) dX5_bracketedSum_19 cv_X5_63 (d_sum1 ln z2 z3 z4 z5 pa fl sz tp cd q0 q1 h6 h7 (v_7eaccd6eb1 q4 q5 h8) h9 h10 h11 h12 q9 q10 q11 q12 q13 h13 q15 q16 rfl hk55 hk56) rfl rfl rfl (Nat.le_of_ble_eq_true rfl) ⟨(Nat.le_of_ble_eq_true rfl), (Nat.le_of_ble_eq_true rfl)⟩ ⟨(Nat.le_of_ble_eq_true rfl), (Nat.le_of_ble_eq_true rfl)⟩ (fun r h9 hp => ?_)
  rcases hp with ⟨z14, z15, z16, z17, z18, z19, f20, rfl, rfl, h21, h22, h23, h24, h25, h26, h27, h28, h29, h30, h31, h32, h33, h34, h35⟩ | ⟨z36, z37, z38, z39, z40, z41, f42, z43, rfl, rfl, h44, h45, h46, h47, h48, h49, h50, h51, h52, h53, h54, h55, h56, h57, h58⟩
  · refine J_nf (nh2 := nh) (ck2 := 0) (sk2 := 0) (st2 := [.int (zI 1)]) rfl rfl rfl rfl ?_
    refine J_app (L3 := [(54, .inr (5, [.ref 55, .int (zI ln), .int (zI z14), .int (zI z15), .int (zI z16), .int (zI z17), .int (zI z18), .int (zI fl), .ref 56, .int (zI z19)])), (56, .inl (0, 412, .inl (zA f20))), (54, .inr (5, [.ref 55, .int (zI ln), .int (zI z2), .int (zI z3), .int (zI z4), .int (zI z5), .int (zI pa), .int (zI fl), .ref 56, .int (zI sz)]))]) rfl ?_
    refine J_mask (L2 := [(54, .inr (5, [.ref 55, .int (zI ln), .int (zI z14), .int (zI z15), .int (zI z16), .int (zI z17), .int (zI z18), .int (zI fl), .ref 56, .int (zI z19)])), (56, .inl (0, 412, .inl (zA f20)))]) (ks := [54, 56, 54]) [true, true, false] rfl (by decide +kernel) rfl ?_
    refine Z_if_ne (tgt := 27) dX5_bracketedSum_22 (by decide) v_4dcc24baa7 (fun h59 => ?_) (fun h59 => absurd h59 v_3a47bfd896)
    refine J_aload_n dX5_bracketedSum_27 rfl rfl ?_
    refine Z_bipush (n := 93) dX5_bracketedSum_28 (by decide +kernel) ?_
    refine J_callV (st := []) dX5_bracketedSum_30 cv_X5_50 (d_isSign 93 ln z14 z15 z16 z17 z18 fl z19 v_57eea63119 v_eeebb5ff41 h21 h22 rfl) rfl rfl rfl (Nat.le_of_ble_eq_true rfl) ⟨(Nat.le_of_ble_eq_true rfl), (Nat.le_of_ble_eq_true rfl)⟩ ⟨(Nat.le_of_ble_eq_true rfl), (Nat.le_of_ble_eq_true rfl)⟩ (fun r h9 hp => ?_)
    rcases hp with ⟨rfl, rfl, h60⟩ | ⟨rfl, rfl, h61⟩
    · refine J_nf (nh2 := nh) (ck2 := 0) (sk2 := 0) (st2 := [.int (zI 1)]) rfl rfl rfl rfl ?_
      refine Z_if_ne (tgt := 41) dX5_bracketedSum_33 (by decide) v_4dcc24baa7 (fun h62 => ?_) (fun h62 => absurd h62 v_3a47bfd896)
      refine J_aload_n dX5_bracketedSum_41 rfl rfl ?_
      have g63 := TokL.lt h32 (v_0603afac7b h60)
      refine J_callV (st := []) dX5_bracketedSum_42 cv_X5_43 (d_advance ln z14 z15 z16 z17 z18 fl z19 tp q0 q1 (v_d253cb2c59 h23 g63) h25 h26 h27 q15 rfl hk55) rfl rfl rfl (Nat.le_of_ble_eq_true rfl) ⟨(Nat.le_of_ble_eq_true rfl), (Nat.le_of_ble_eq_true rfl)⟩ ⟨(Nat.le_of_ble_eq_true rfl), (Nat.le_of_ble_eq_true rfl)⟩ (fun r h9 hp => ?_)
      obtain ⟨z64, z65, z66, z67, rfl, rfl, h68, h69, h70, h71, h72, h73, h74, h75⟩ := hp
      refine J_nf (nh2 := nh) (ck2 := 0) (sk2 := 0) (st2 := []) rfl rfl rfl rfl ?_
      refine J_app (L3 := [(54, .inr (5, [.ref 55, .int (zI ln), .int (zI z64), .int (zI z65), .int (zI z66), .int (zI z67), .int (zI z18), .int (zI fl), .ref 56, .int (zI z19)])), (54, .inr (5, [.ref 55, .int (zI ln), .int (zI z14), .int (zI z15), .int (zI z16), .int (zI z17), .int (zI z18), .int (zI fl), .ref 56, .int (zI z19)])), (56, .inl (0, 412, .inl (zA f20)))]) rfl ?_
      refine J_mask (L2 := [(54, .inr (5, [.ref 55, .int (zI ln), .int (zI z64), .int (zI z65), .int (zI z66), .int (zI z67), .int (zI z18), .int (zI fl), .ref 56, .int (zI z19)])), (56, .inl (0, 412, .inl (zA f20)))]) (ks := [54, 54, 56]) [true, false, true] rfl (by decide +kernel) rfl ?_
      refine Z_iconst (n := 1) dX5_bracketedSum_45 ?_
      exact J_iret dX5_bracketedSum_46 rfl (jbn v_316afd7d0b v_bbcfac9b7d) (Nat.le_of_ble_eq_true rfl) (Nat.le_of_ble_eq_true rfl) (Or.inl ⟨z64, z65, z66, z67, z18, z19, f20, rfl, rfl, h68, h69, (v_9b2e2070a2 h23 g63 h70), h71, h72, h73, h74, h28, h29, h30, h31, h75, h33, (v_a156850946 q5 h8 h34 g63 h70), (v_b3d66fcd45 q5 h8 h35 g63 h70)⟩)
    · refine J_nf (nh2 := nh) (ck2 := 0) (sk2 := 0) (st2 := [.int (zI 0)]) rfl rfl rfl rfl ?_
      refine Z_if_ne (tgt := 41) dX5_bracketedSum_33 (by decide) v_b17331891f (fun h76 => absurd h76 (fun q => q v_2ca2bbca1f)) (fun h76 => ?_)
      refine J_aload_n dX5_bracketedSum_36 rfl rfl ?_
      refine J_callV (st := []) dX5_bracketedSum_37 cv_X5_54 (d_wrong ln z14 z15 z16 z17 z18 fl z19 h23 (v_1adcfdfee5 q1 h24 h25) rfl) rfl rfl rfl (Nat.le_of_ble_eq_true rfl) ⟨(Nat.le_of_ble_eq_true rfl), (Nat.le_of_ble_eq_true rfl)⟩ ⟨(Nat.le_of_ble_eq_true rfl), (Nat.le_of_ble_eq_true rfl)⟩ (fun r h9 hp => ?_)
      obtain ⟨rfl, rfl⟩ := hp
      refine J_nf (nh2 := nh) (ck2 := 0) (sk2 := 0) (st2 := [.int (zI 0)]) rfl rfl rfl rfl ?_
      refine J_app (L3 := [(54, .inr (5, [.ref 55, .int (zI ln), .int (zI z14), .int (zI z15), .int (zI z16), .int (zI z17), .int (zI z18), .int (zI z15), .ref 56, .int (zI z19)])), (54, .inr (5, [.ref 55, .int (zI ln), .int (zI z14), .int (zI z15), .int (zI z16), .int (zI z17), .int (zI z18), .int (zI fl), .ref 56, .int (zI z19)])), (56, .inl (0, 412, .inl (zA f20)))]) rfl ?_
      refine J_mask (L2 := [(54, .inr (5, [.ref 55, .int (zI ln), .int (zI z14), .int (zI z15), .int (zI z16), .int (zI z17), .int (zI z18), .int (zI z15), .ref 56, .int (zI z19)])), (56, .inl (0, 412, .inl (zA f20)))]) (ks := [54, 54, 56]) [true, false, true] rfl (by decide +kernel) rfl ?_
      exact J_iret dX5_bracketedSum_40 rfl (jbn v_939070ca3f v_316afd7d0b) (Nat.le_of_ble_eq_true rfl) (Nat.le_of_ble_eq_true rfl) (Or.inr ⟨z14, z15, z16, z17, z18, z19, f20, z15, rfl, rfl, h21, h22, h23, h24, h25, h26, h27, h28, h29, h30, h31, h32, h33, h23, (v_1adcfdfee5 q1 h24 h25)⟩)
  · refine J_nf (nh2 := nh) (ck2 := 0) (sk2 := 0) (st2 := [.int (zI 0)]) rfl rfl rfl rfl ?_
    refine J_app (L3 := [(54, .inr (5, [.ref 55, .int (zI ln), .int (zI z36), .int (zI z37), .int (zI z38), .int (zI z39), .int (zI z40), .int (zI z43), .ref 56, .int (zI z41)])), (56, .inl (0, 412, .inl (zA f42))), (54, .inr (5, [.ref 55, .int (zI ln), .int (zI z2), .int (zI z3), .int (zI z4), .int (zI z5), .int (zI pa), .int (zI fl), .ref 56, .int (zI sz)]))]) rfl ?_
    refine J_mask (L2 := [(54, .inr (5, [.ref 55, .int (zI ln), .int (zI z36), .int (zI z37), .int (zI z38), .int (zI z39), .int (zI z40), .int (zI z43), .ref 56, .int (zI z41)])), (56, .inl (0, 412, .inl (zA f42)))]) (ks := [54, 56, 54]) [true, true, false] rfl (by decide +kernel) rfl ?_
    refine Z_if_ne (tgt := 27) dX5_bracketedSum_22 (by decide) v_b17331891f (fun h77 => absurd h77 (fun q => q v_2ca2bbca1f)) (fun h77 => ?_)
    refine Z_iconst (n := 0) dX5_bracketedSum_25 ?_
    exact J_iret dX5_bracketedSum_26 rfl (jbn v_939070ca3f v_316afd7d0b) (Nat.le_of_ble_eq_true rfl) (Nat.le_of_ble_eq_true rfl) (Or.inr ⟨z36, z37, z38, z39, z40, z41, f42, z43, rfl, rfl, h44, h45, h46, h47, h48, h49, h50, h51, h52, h53, h54, h55, h56, h57, h58⟩)
set_option maxHeartbeats 4000000 in
set_option maxRecDepth 100000 in
theorem d_part0 {l : Launch} {G : jG} {nh : Nat} {fh : Nat → Option va_E} (ln : Int) (tk : Int) (st : Int) (bh : Int) (va : Int) (pa : Int) (fl : Int) (sz : Int) (tp : Int → Int) (cd : Int → Int) (q0 : 0 ≤ ln) (q1 : ln ≤ 400) (q2 : 0 ≤ tk) (q3 : tk ≤ 355) (q4 : 0 ≤ st) (q5 : st ≤ bh) (q6 : bh ≤ ln) (q7 : 0 ≤ va) (q8 : va ≤ 1001) (q9 : 0 ≤ pa) (q10 : pa ≤ 50) (q11 : zr fl) (q12 : 0 ≤ sz) (q13 : sz ≤ 412) (q14 : TokL tk st bh) (q15 : Rg tp 400 0 255) (q16 : Rg cd 412 (-2147483648) 2147483647) (hk54 : fh 54 = some (.inr (5, [.ref 55, .int (zI ln), .int (zI tk), .int (zI st), .int (zI bh), .int (zI va), .int (zI pa), .int (zI fl), .ref 56, .int (zI sz)]))) (hk55 : fh 55 = some (.inl (0, 400, .inl (zA tp)))) (hk56 : fh 56 = some (.inl (0, 412, .inl (zA cd)))) : JM l G yX5_part MX5_part { frames := 38, cells := 0, slots := 0, locals := 850 } [.ref 54, .int (zI 0)] (nh, fh) (fun rr h9 => (∃ tk2 : Int, ∃ st2 : Int, ∃ bh2 : Int, ∃ va2 : Int, ∃ pa2 : Int, ∃ sz2 : Int, ∃ cd2 : Int → Int, rr = some (.int (zI 1)) ∧ h9 = (nh, hc fh [(54, .inr (5, [.ref 55, .int (zI ln), .int (zI tk2), .int (zI st2), .int (zI bh2), .int (zI va2), .int (zI pa2), .int (zI fl), .ref 56, .int (zI sz2)])), (56, .inl (0, 412, .inl (zA cd2)))]) ∧ (0 ≤ tk2) ∧ (tk2 ≤ 355) ∧ (0 ≤ st2) ∧ (st2 ≤ bh2) ∧ (bh2 ≤ ln) ∧ (0 ≤ va2) ∧ (va2 ≤ 1001) ∧ (0 ≤ pa2) ∧ (pa2 ≤ 50) ∧ (0 ≤ sz2) ∧ (sz2 ≤ 412) ∧ (TokL tk2 st2 bh2) ∧ (Rg cd2 412 (-2147483648) 2147483647) ∧ (sz2 + st ≤ sz + st2) ∧ (st ≤ st2)) ∨ (∃ tk2 : Int, ∃ st2 : Int, ∃ bh2 : Int, ∃ va2 : Int, ∃ pa2 : Int, ∃ sz2 : Int, ∃ cd2 : Int → Int, ∃ fl2 : Int, rr = some (.int (zI 0)) ∧ h9 = (nh, hc fh [(54, .inr (5, [.ref 55, .int (zI ln), .int (zI tk2), .int (zI st2), .int (zI bh2), .int (zI va2), .int (zI pa2), .int (zI fl2), .ref 56, .int (zI sz2)])), (56, .inl (0, 412, .inl (zA cd2)))]) ∧ (0 ≤ tk2) ∧ (tk2 ≤ 355) ∧ (0 ≤ st2) ∧ (st2 ≤ bh2) ∧ (bh2 ≤ ln) ∧ (0 ≤ va2) ∧ (va2 ≤ 1001) ∧ (0 ≤ pa2) ∧ (pa2 ≤ 50) ∧ (0 ≤ sz2) ∧ (sz2 ≤ 412) ∧ (TokL tk2 st2 bh2) ∧ (Rg cd2 412 (-2147483648) 2147483647) ∧ (0 ≤ fl2) ∧ (fl2 ≤ 400))) := by
  refine JM.of (by decide) rfl (fun h => by cases h) (Nat.le_of_ble_eq_true rfl) ⟨2, rfl⟩ ?_
  refine J_hc0 (J_ls (ls2 := [some (.ref 54), some (.int (zI 0)), none, none]) rfl ?_)
  refine J_aload_n dX5_part_0 rfl rfl ?_
  refine Z_bipush (n := 91) dX5_part_1 (by decide +kernel) ?_
  refine J_callV (st := []) dX5_part_3 cv_X5_50 (d_isSign 91 ln tk st bh va pa fl sz v_df2cb83190 v_d563f19a9d q2 q3 hk54) hk54 rfl rfl (Nat.le_of_ble_eq_true rfl) ⟨(Nat.le_of_ble_eq_true rfl), (Nat.le_of_ble_eq_true rfl)⟩ ⟨(Nat.le_of_ble_eq_true rfl), (Nat.le_of_ble_eq_true rfl)⟩ (fun r h9 hp => ?_)
  rcases hp with ⟨rfl, rfl, h1⟩ | ⟨rfl, rfl, h2⟩
  · refine J_nf (nh2 := nh) (ck2 := 0) (sk2 := 0) (st2 := [.int (zI 1)]) rfl rfl rfl rfl ?_
    refine Z_if_eq (tgt := 15) dX5_part_6 (by decide) v_4dcc24baa7 (fun h3 => absurd h3 v_3a47bfd896) (fun h3 => ?_)
    refine J_aload_n dX5_part_9 rfl rfl ?_
    refine J_iload_n dX5_part_10 rfl rfl ?_
    refine J_callV (st := []) dX5_part_11 cv_X5_95 (d_bracketedSum0 ln tk st bh va pa fl sz tp cd q0 q1 q2 q3 q4 q5 q6 q7 q8 q9 q10 q11 q12 q13 q14 q15 q16 hk54 hk55 hk56) hk54 rfl rfl (Nat.le_of_ble_eq_true rfl) ⟨(Nat.le_of_ble_eq_true rfl), (Nat.le_of_ble_eq_true rfl)⟩ ⟨(Nat.le_of_ble_eq_true rfl), (Nat.le_of_ble_eq_true rfl)⟩ (fun r h9 hp => ?_)
    rcases hp with ⟨z4, z5, z6, z7, z8, z9, f10, rfl, rfl, h11, h12, h13, h14, h15, h16, h17, h18, h19, h20, h21, h22, h23, h24, h25⟩ | ⟨z26, z27, z28, z29, z30, z31, f32, z33, rfl, rfl, h34, h35, h36, h37, h38, h39, h40, h41, h42, h43, h44, h45, h46, h47, h48⟩
    · refine J_nf (nh2 := nh) (ck2 := 0) (sk2 := 0) (st2 := [.int (zI 1)]) rfl rfl rfl rfl ?_
      refine J_app (L3 := [(54, .inr (5, [.ref 55, .int (zI ln), .int (zI z4), .int (zI z5), .int (zI z6), .int (zI z7), .int (zI z8), .int (zI fl), .ref 56, .int (zI z9)])), (56, .inl (0, 412, .inl (zA f10)))]) rfl ?_
      exact J_iret dX5_part_14 rfl (jbn v_316afd7d0b v_bbcfac9b7d) (Nat.le_of_ble_eq_true rfl) (Nat.le_of_ble_eq_true rfl) (Or.inl ⟨z4, z5, z6, z7, z8, z9, f10, rfl, rfl, h11, h12, h13, h14, h15, h16, h17, h18, h19, h20, h21, h22, h23, h24, h25⟩)
    · refine J_nf (nh2 := nh) (ck2 := 0) (sk2 := 0) (st2 := [.int (zI 0)]) rfl rfl rfl rfl ?_
      refine J_app (L3 := [(54, .inr (5, [.ref 55, .int (zI ln), .int (zI z26), .int (zI z27), .int (zI z28), .int (zI z29), .int (zI z30), .int (zI z33), .ref 56, .int (zI z31)])), (56, .inl (0, 412, .inl (zA f32)))]) rfl ?_
      exact J_iret dX5_part_14 rfl (jbn v_939070ca3f v_316afd7d0b) (Nat.le_of_ble_eq_true rfl) (Nat.le_of_ble_eq_true rfl) (Or.inr ⟨z26, z27, z28, z29, z30, z31, f32, z33, rfl, rfl, h34, h35, h36, h37, h38, h39, h40, h41, h42, h43, h44, h45, h46, h47, h48⟩)
  · refine J_nf (nh2 := nh) (ck2 := 0) (sk2 := 0) (st2 := [.int (zI 0)]) rfl rfl rfl rfl ?_
    refine Z_if_eq (tgt := 15) dX5_part_6 (by decide) v_b17331891f (fun h49 => ?_) (fun h49 => absurd h49 (fun q => q v_2ca2bbca1f))
    refine J_aload_n dX5_part_15 rfl rfl ?_
    refine J_get (v := .int (zI tk)) dX5_part_16 fl_X5_19 hk54 rfl ?_
    refine Z_bipush (n := 16) dX5_part_19 (by decide +kernel) ?_
    refine Z_icmp_ne (tgt := 38) dX5_part_21 (by decide) (v_96bf6f782e q2 q3) v_1b6115d470 (fun h50 => ?_) (fun h50 => ?_)
    · refine Z_iconst (n := 0) dX5_part_38 ?_
      refine J_istore_n dX5_part_39 rfl (Nat.le_of_ble_eq_true rfl) rfl ?_
      refine J_ls (ls2 := [some (.ref 54), some (.int (zI 0)), some (.int (zI 0)), none]) rfl ?_
      refine J_aload_n dX5_part_40 rfl rfl ?_
      refine J_get (v := .int (zI tk)) dX5_part_41 fl_X5_19 hk54 rfl ?_
      refine Z_bipush (n := 7) dX5_part_44 (by decide +kernel) ?_
      refine Z_icmp_lt (tgt := 62) dX5_part_46 (by decide) (v_96bf6f782e q2 q3) v_c3fe1a091f (fun h51 => ?_) (fun h51 => ?_)
      · refine Z_iconst (n := 0) dX5_part_62 ?_
        refine J_istore_n dX5_part_63 rfl (Nat.le_of_ble_eq_true rfl) rfl ?_
        refine J_ls (ls2 := [some (.ref 54), some (.int (zI 0)), some (.int (zI 0)), some (.int (zI 0))]) rfl ?_
        refine J_iload_n dX5_part_64 rfl rfl ?_
        refine Z_if_ne (tgt := 72) dX5_part_65 (by decide) v_b17331891f (fun h52 => absurd h52 (fun q => q v_2ca2bbca1f)) (fun h52 => ?_)
        refine J_iload_n dX5_part_68 rfl rfl ?_
        refine Z_if_eq (tgt := 81) dX5_part_69 (by decide) v_b17331891f (fun h53 => ?_) (fun h53 => absurd h53 (fun q => q v_2ca2bbca1f))
        refine J_aload_n dX5_part_81 rfl rfl ?_
        refine J_callV (st := []) dX5_part_82 cv_X5_54 (d_wrong ln tk st bh va pa fl sz q4 (v_1adcfdfee5 q1 q5 q6) hk54) hk54 rfl rfl (Nat.le_of_ble_eq_true rfl) ⟨(Nat.le_of_ble_eq_true rfl), (Nat.le_of_ble_eq_true rfl)⟩ ⟨(Nat.le_of_ble_eq_true rfl), (Nat.le_of_ble_eq_true rfl)⟩ (fun r h9 hp => ?_)
        obtain ⟨rfl, rfl⟩ := hp
        refine J_nf (nh2 := nh) (ck2 := 0) (sk2 := 0) (st2 := [.int (zI 0)]) rfl rfl rfl rfl ?_
        refine J_app (L3 := [(54, .inr (5, [.ref 55, .int (zI ln), .int (zI tk), .int (zI st), .int (zI bh), .int (zI va), .int (zI pa), .int (zI st), .ref 56, .int (zI sz)]))]) rfl ?_
        refine J_touch (k := 56) (e := .inl (0, 412, .inl (zA cd))) hk56 ?_
        refine J_touch (k := 54) (e := .inr (5, [.ref 55, .int (zI ln), .int (zI tk), .int (zI st), .int (zI bh), .int (zI va), .int (zI pa), .int (zI st), .ref 56, .int (zI sz)])) rfl ?_
        refine J_mask (L2 := [(54, .inr (5, [.ref 55, .int (zI ln), .int (zI tk), .int (zI st), .int (zI bh), .int (zI va), .int (zI pa), .int (zI st), .ref 56, .int (zI sz)])), (56, .inl (0, 412, .inl (zA cd)))]) (ks := [54, 56, 54]) [true, true, false] rfl (by decide +kernel) rfl ?_
        exact J_iret dX5_part_85 rfl (jbn v_939070ca3f v_316afd7d0b) (Nat.le_of_ble_eq_true rfl) (Nat.le_of_ble_eq_true rfl) (Or.inr ⟨tk, st, bh, va, pa, sz, cd, st, rfl, rfl, q2, q3, q4, q5, q6, q7, q8, q9, q10, q12, q13, q14, q16, q4, (v_1adcfdfee5 q1 q5 q6)⟩)
      · refine J_aload_n dX5_part_49 rfl rfl ?_
        refine J_get (v := .int (zI tk)) dX5_part_50 fl_X5_19 hk54 rfl ?_
        refine Z_bipush (n := 14) dX5_part_53 (by decide +kernel) ?_
        refine Z_icmp_gt (tgt := 62) dX5_part_55 (by decide) (v_e33259c014 q3 h51) v_2a4719925a (fun h54 => ?_) (fun h54 => ?_)
        · refine Z_iconst (n := 0) dX5_part_62 ?_
          refine J_istore_n dX5_part_63 rfl (Nat.le_of_ble_eq_true rfl) rfl ?_
          refine J_ls (ls2 := [some (.ref 54), some (.int (zI 0)), some (.int (zI 0)), some (.int (zI 0))]) rfl ?_
          refine J_iload_n dX5_part_64 rfl rfl ?_
          refine Z_if_ne (tgt := 72) dX5_part_65 (by decide) v_b17331891f (fun h55 => absurd h55 (fun q => q v_2ca2bbca1f)) (fun h55 => ?_)
          refine J_iload_n dX5_part_68 rfl rfl ?_
          refine Z_if_eq (tgt := 81) dX5_part_69 (by decide) v_b17331891f (fun h56 => ?_) (fun h56 => absurd h56 (fun q => q v_2ca2bbca1f))
          refine J_aload_n dX5_part_81 rfl rfl ?_
          refine J_callV (st := []) dX5_part_82 cv_X5_54 (d_wrong ln tk st bh va pa fl sz q4 (v_1adcfdfee5 q1 q5 q6) hk54) hk54 rfl rfl (Nat.le_of_ble_eq_true rfl) ⟨(Nat.le_of_ble_eq_true rfl), (Nat.le_of_ble_eq_true rfl)⟩ ⟨(Nat.le_of_ble_eq_true rfl), (Nat.le_of_ble_eq_true rfl)⟩ (fun r h9 hp => ?_)
          obtain ⟨rfl, rfl⟩ := hp
          refine J_nf (nh2 := nh) (ck2 := 0) (sk2 := 0) (st2 := [.int (zI 0)]) rfl rfl rfl rfl ?_
          refine J_app (L3 := [(54, .inr (5, [.ref 55, .int (zI ln), .int (zI tk), .int (zI st), .int (zI bh), .int (zI va), .int (zI pa), .int (zI st), .ref 56, .int (zI sz)]))]) rfl ?_
          refine J_touch (k := 56) (e := .inl (0, 412, .inl (zA cd))) hk56 ?_
          refine J_touch (k := 54) (e := .inr (5, [.ref 55, .int (zI ln), .int (zI tk), .int (zI st), .int (zI bh), .int (zI va), .int (zI pa), .int (zI st), .ref 56, .int (zI sz)])) rfl ?_
          refine J_mask (L2 := [(54, .inr (5, [.ref 55, .int (zI ln), .int (zI tk), .int (zI st), .int (zI bh), .int (zI va), .int (zI pa), .int (zI st), .ref 56, .int (zI sz)])), (56, .inl (0, 412, .inl (zA cd)))]) (ks := [54, 56, 54]) [true, true, false] rfl (by decide +kernel) rfl ?_
          exact J_iret dX5_part_85 rfl (jbn v_939070ca3f v_316afd7d0b) (Nat.le_of_ble_eq_true rfl) (Nat.le_of_ble_eq_true rfl) (Or.inr ⟨tk, st, bh, va, pa, sz, cd, st, rfl, rfl, q2, q3, q4, q5, q6, q7, q8, q9, q10, q12, q13, q14, q16, q4, (v_1adcfdfee5 q1 q5 q6)⟩)
        · refine Z_iconst (n := 1) dX5_part_58 ?_
          refine J_goto (tgt := 63) dX5_part_59 (by decide) ?_
          refine J_istore_n dX5_part_63 rfl (Nat.le_of_ble_eq_true rfl) rfl ?_
          refine J_ls (ls2 := [some (.ref 54), some (.int (zI 0)), some (.int (zI 0)), some (.int (zI 1))]) rfl ?_
          refine J_iload_n dX5_part_64 rfl rfl ?_
          refine Z_if_ne (tgt := 72) dX5_part_65 (by decide) v_b17331891f (fun h57 => absurd h57 (fun q => q v_2ca2bbca1f)) (fun h57 => ?_)
          refine J_iload_n dX5_part_68 rfl rfl ?_
          refine Z_if_eq (tgt := 81) dX5_part_69 (by decide) v_4dcc24baa7 (fun h58 => absurd h58 v_3a47bfd896) (fun h58 => ?_)
          refine J_aload_n dX5_part_72 rfl rfl ?_
          refine J_get (v := .int (zI pa)) dX5_part_73 fl_X5_31 hk54 rfl ?_
          refine Z_bipush (n := 50) dX5_part_76 (by decide +kernel) ?_
          refine Z_icmp_lt (tgt := 86) dX5_part_78 (by decide) (v_196348439e q9 q10) v_e1e0ea2c24 (fun h59 => ?_) (fun h59 => ?_)
          · refine J_aload_n dX5_part_86 rfl rfl ?_
            refine J_dup dX5_part_87 rfl ?_
            refine J_get (v := .int (zI pa)) dX5_part_88 fl_X5_31 hk54 rfl ?_
            refine Z_iconst (n := 1) dX5_part_91 ?_
            refine Z_iadd (c := pa + 1) dX5_part_92 rfl ?_
            refine K_put (fs2 := [.ref 55, .int (zI ln), .int (zI tk), .int (zI st), .int (zI bh), .int (zI va), .int (zI (pa + 1)), .int (zI fl), .ref 56, .int (zI sz)]) dX5_part_93 fw_X5_31 hk54 (Nat.le_of_ble_eq_true rfl) (fun _ => ⟨rfl, rfl⟩) rfl ?_
            refine J_iload_n dX5_part_96 rfl rfl ?_
            refine Z_if_eq (tgt := 113) dX5_part_97 (by decide) v_b17331891f (fun h60 => ?_) (fun h60 => absurd h60 (fun q => q v_2ca2bbca1f))
            refine J_aload_n dX5_part_113 rfl rfl ?_
            refine Z_iconst (n := 1) dX5_part_114 ?_
            refine J_aload_n dX5_part_115 rfl rfl ?_
            refine J_get (v := .int (zI tk)) dX5_part_116 fl_X5_19 rfl rfl ?_
            refine Z_bipush (n := 7) dX5_part_119 (by decide +kernel) ?_
            refine Z_isub (c := tk - 7) dX5_part_121 rfl ?_
            refine J_callV (st := []) dX5_part_122 cv_X5_72 (d_emit 1 (tk - 7) ln tk st bh va (pa + 1) fl sz cd v_4dcc24baa7 (v_2b807321aa h51 h54) q12 q13 q16 rfl hk56) rfl rfl rfl (Nat.le_of_ble_eq_true rfl) ⟨(Nat.le_of_ble_eq_true rfl), (Nat.le_of_ble_eq_true rfl)⟩ ⟨(Nat.le_of_ble_eq_true rfl), (Nat.le_of_ble_eq_true rfl)⟩ (fun r h9 hp => ?_)
            obtain ⟨z61, f62, rfl, rfl, h63, h64, h65, h66, h67⟩ := hp
            refine J_nf (nh2 := nh) (ck2 := 0) (sk2 := 0) (st2 := [.int (zI sz)]) rfl rfl rfl rfl ?_
            refine J_app (L3 := [(54, .inr (5, [.ref 55, .int (zI ln), .int (zI tk), .int (zI st), .int (zI bh), .int (zI va), .int (zI (pa + 1)), .int (zI fl), .ref 56, .int (zI z61)])), (56, .inl (0, 412, .inl (zA f62))), (54, .inr (5, [.ref 55, .int (zI ln), .int (zI tk), .int (zI st), .int (zI bh), .int (zI va), .int (zI (pa + 1)), .int (zI fl), .ref 56, .int (zI sz)]))]) rfl ?_
            refine J_mask (L2 := [(54, .inr (5, [.ref 55, .int (zI ln), .int (zI tk), .int (zI st), .int (zI bh), .int (zI va), .int (zI (pa + 1)), .int (zI fl), .ref 56, .int (zI z61)])), (56, .inl (0, 412, .inl (zA f62)))]) (ks := [54, 56, 54]) [true, true, false] rfl (by decide +kernel) rfl ?_
            refine J_pop dX5_part_125 rfl ?_
            refine J_aload_n dX5_part_126 rfl rfl ?_
            have g68 := TokL.lt q14 (v_b0bfd58e62 h54)
            refine J_callV (st := []) dX5_part_127 cv_X5_43 (d_advance ln tk st bh va (pa + 1) fl z61 tp q0 q1 (v_d253cb2c59 q4 g68) q6 q7 q8 q15 rfl hk55) rfl rfl rfl (Nat.le_of_ble_eq_true rfl) ⟨(Nat.le_of_ble_eq_true rfl), (Nat.le_of_ble_eq_true rfl)⟩ ⟨(Nat.le_of_ble_eq_true rfl), (Nat.le_of_ble_eq_true rfl)⟩ (fun r h9 hp => ?_)
            obtain ⟨z69, z70, z71, z72, rfl, rfl, h73, h74, h75, h76, h77, h78, h79, h80⟩ := hp
            refine J_nf (nh2 := nh) (ck2 := 0) (sk2 := 0) (st2 := []) rfl rfl rfl rfl ?_
            refine J_app (L3 := [(54, .inr (5, [.ref 55, .int (zI ln), .int (zI z69), .int (zI z70), .int (zI z71), .int (zI z72), .int (zI (pa + 1)), .int (zI fl), .ref 56, .int (zI z61)])), (54, .inr (5, [.ref 55, .int (zI ln), .int (zI tk), .int (zI st), .int (zI bh), .int (zI va), .int (zI (pa + 1)), .int (zI fl), .ref 56, .int (zI z61)])), (56, .inl (0, 412, .inl (zA f62)))]) rfl ?_
            refine J_mask (L2 := [(54, .inr (5, [.ref 55, .int (zI ln), .int (zI z69), .int (zI z70), .int (zI z71), .int (zI z72), .int (zI (pa + 1)), .int (zI fl), .ref 56, .int (zI z61)])), (56, .inl (0, 412, .inl (zA f62)))]) (ks := [54, 54, 56]) [true, false, true] rfl (by decide +kernel) rfl ?_
            refine Z_iconst (n := 1) dX5_part_130 ?_
            exact J_iret dX5_part_131 rfl (jbn v_316afd7d0b v_bbcfac9b7d) (Nat.le_of_ble_eq_true rfl) (Nat.le_of_ble_eq_true rfl) (Or.inl ⟨z69, z70, z71, z72, (pa + 1), z61, f62, rfl, rfl, h73, h74, (v_9b2e2070a2 q4 g68 h75), h76, h77, h78, h79, (v_da458fa48a q9), (v_dc0d6dc503 h59), h63, h64, h80, h67, (v_37ad0bc16a h66 g68 h75), (v_016485883e g68 h75)⟩)
          · refine J_aload_n dX5_part_81 rfl rfl ?_
            refine J_callV (st := []) dX5_part_82 cv_X5_54 (d_wrong ln tk st bh va pa fl sz q4 (v_1adcfdfee5 q1 q5 q6) hk54) hk54 rfl rfl (Nat.le_of_ble_eq_true rfl) ⟨(Nat.le_of_ble_eq_true rfl), (Nat.le_of_ble_eq_true rfl)⟩ ⟨(Nat.le_of_ble_eq_true rfl), (Nat.le_of_ble_eq_true rfl)⟩ (fun r h9 hp => ?_)
            obtain ⟨rfl, rfl⟩ := hp
            refine J_nf (nh2 := nh) (ck2 := 0) (sk2 := 0) (st2 := [.int (zI 0)]) rfl rfl rfl rfl ?_
            refine J_app (L3 := [(54, .inr (5, [.ref 55, .int (zI ln), .int (zI tk), .int (zI st), .int (zI bh), .int (zI va), .int (zI pa), .int (zI st), .ref 56, .int (zI sz)]))]) rfl ?_
            refine J_touch (k := 56) (e := .inl (0, 412, .inl (zA cd))) hk56 ?_
            refine J_touch (k := 54) (e := .inr (5, [.ref 55, .int (zI ln), .int (zI tk), .int (zI st), .int (zI bh), .int (zI va), .int (zI pa), .int (zI st), .ref 56, .int (zI sz)])) rfl ?_
            refine J_mask (L2 := [(54, .inr (5, [.ref 55, .int (zI ln), .int (zI tk), .int (zI st), .int (zI bh), .int (zI va), .int (zI pa), .int (zI st), .ref 56, .int (zI sz)])), (56, .inl (0, 412, .inl (zA cd)))]) (ks := [54, 56, 54]) [true, true, false] rfl (by decide +kernel) rfl ?_
            exact J_iret dX5_part_85 rfl (jbn v_939070ca3f v_316afd7d0b) (Nat.le_of_ble_eq_true rfl) (Nat.le_of_ble_eq_true rfl) (Or.inr ⟨tk, st, bh, va, pa, sz, cd, st, rfl, rfl, q2, q3, q4, q5, q6, q7, q8, q9, q10, q12, q13, q14, q16, q4, (v_1adcfdfee5 q1 q5 q6)⟩)
    · refine J_aload_n dX5_part_24 rfl rfl ?_
      refine J_get (v := .int (zI va)) dX5_part_25 fl_X5_28 hk54 rfl ?_
      refine Z_sipush (n := 1000) dX5_part_28 (by decide +kernel) ?_
      refine Z_icmp_gt (tgt := 38) dX5_part_31 (by decide) (v_c986789e97 q7 q8) v_822edaa202 (fun h81 => ?_) (fun h81 => ?_)
      · refine Z_iconst (n := 0) dX5_part_38 ?_
        refine J_istore_n dX5_part_39 rfl (Nat.le_of_ble_eq_true rfl) rfl ?_
        refine J_ls (ls2 := [some (.ref 54), some (.int (zI 0)), some (.int (zI 0)), none]) rfl ?_
        refine J_aload_n dX5_part_40 rfl rfl ?_
        refine J_get (v := .int (zI tk)) dX5_part_41 fl_X5_19 hk54 rfl ?_
        refine Z_bipush (n := 7) dX5_part_44 (by decide +kernel) ?_
        refine Z_icmp_lt (tgt := 62) dX5_part_46 (by decide) (v_87f911991b h50) v_c3fe1a091f (fun h82 => absurd h82 (v_a610ec54f4 h50)) (fun h82 => ?_)
        refine J_aload_n dX5_part_49 rfl rfl ?_
        refine J_get (v := .int (zI tk)) dX5_part_50 fl_X5_19 hk54 rfl ?_
        refine Z_bipush (n := 14) dX5_part_53 (by decide +kernel) ?_
        refine Z_icmp_gt (tgt := 62) dX5_part_55 (by decide) (v_87f911991b h50) v_2a4719925a (fun h83 => ?_) (fun h83 => absurd h83 (fun q => q (v_8a408c96ed h50)))
        refine Z_iconst (n := 0) dX5_part_62 ?_
        refine J_istore_n dX5_part_63 rfl (Nat.le_of_ble_eq_true rfl) rfl ?_
        refine J_ls (ls2 := [some (.ref 54), some (.int (zI 0)), some (.int (zI 0)), some (.int (zI 0))]) rfl ?_
        refine J_iload_n dX5_part_64 rfl rfl ?_
        refine Z_if_ne (tgt := 72) dX5_part_65 (by decide) v_b17331891f (fun h84 => absurd h84 (fun q => q v_2ca2bbca1f)) (fun h84 => ?_)
        refine J_iload_n dX5_part_68 rfl rfl ?_
        refine Z_if_eq (tgt := 81) dX5_part_69 (by decide) v_b17331891f (fun h85 => ?_) (fun h85 => absurd h85 (fun q => q v_2ca2bbca1f))
        refine J_aload_n dX5_part_81 rfl rfl ?_
        refine J_callV (st := []) dX5_part_82 cv_X5_54 (d_wrong ln tk st bh va pa fl sz q4 (v_1adcfdfee5 q1 q5 q6) hk54) hk54 rfl rfl (Nat.le_of_ble_eq_true rfl) ⟨(Nat.le_of_ble_eq_true rfl), (Nat.le_of_ble_eq_true rfl)⟩ ⟨(Nat.le_of_ble_eq_true rfl), (Nat.le_of_ble_eq_true rfl)⟩ (fun r h9 hp => ?_)
        obtain ⟨rfl, rfl⟩ := hp
        refine J_nf (nh2 := nh) (ck2 := 0) (sk2 := 0) (st2 := [.int (zI 0)]) rfl rfl rfl rfl ?_
        refine J_app (L3 := [(54, .inr (5, [.ref 55, .int (zI ln), .int (zI tk), .int (zI st), .int (zI bh), .int (zI va), .int (zI pa), .int (zI st), .ref 56, .int (zI sz)]))]) rfl ?_
        refine J_touch (k := 56) (e := .inl (0, 412, .inl (zA cd))) hk56 ?_
        refine J_touch (k := 54) (e := .inr (5, [.ref 55, .int (zI ln), .int (zI tk), .int (zI st), .int (zI bh), .int (zI va), .int (zI pa), .int (zI st), .ref 56, .int (zI sz)])) rfl ?_
        refine J_mask (L2 := [(54, .inr (5, [.ref 55, .int (zI ln), .int (zI tk), .int (zI st), .int (zI bh), .int (zI va), .int (zI pa), .int (zI st), .ref 56, .int (zI sz)])), (56, .inl (0, 412, .inl (zA cd)))]) (ks := [54, 56, 54]) [true, true, false] rfl (by decide +kernel) rfl ?_
        exact J_iret dX5_part_85 rfl (jbn v_939070ca3f v_316afd7d0b) (Nat.le_of_ble_eq_true rfl) (Nat.le_of_ble_eq_true rfl) (Or.inr ⟨tk, st, bh, va, pa, sz, cd, st, rfl, rfl, q2, q3, q4, q5, q6, q7, q8, q9, q10, q12, q13, q14, q16, q4, (v_1adcfdfee5 q1 q5 q6)⟩)
      · refine Z_iconst (n := 1) dX5_part_34 ?_
        refine J_goto (tgt := 39) dX5_part_35 (by decide) ?_
        refine J_istore_n dX5_part_39 rfl (Nat.le_of_ble_eq_true rfl) rfl ?_
        refine J_ls (ls2 := [some (.ref 54), some (.int (zI 0)), some (.int (zI 1)), none]) rfl ?_
        refine J_aload_n dX5_part_40 rfl rfl ?_
        refine J_get (v := .int (zI tk)) dX5_part_41 fl_X5_19 hk54 rfl ?_
        refine Z_bipush (n := 7) dX5_part_44 (by decide +kernel) ?_
        refine Z_icmp_lt (tgt := 62) dX5_part_46 (by decide) (v_87f911991b h50) v_c3fe1a091f (fun h86 => absurd h86 (v_a610ec54f4 h50)) (fun h86 => ?_)
        refine J_aload_n dX5_part_49 rfl rfl ?_
        refine J_get (v := .int (zI tk)) dX5_part_50 fl_X5_19 hk54 rfl ?_
        refine Z_bipush (n := 14) dX5_part_53 (by decide +kernel) ?_
        refine Z_icmp_gt (tgt := 62) dX5_part_55 (by decide) (v_87f911991b h50) v_2a4719925a (fun h87 => ?_) (fun h87 => absurd h87 (fun q => q (v_8a408c96ed h50)))
        refine Z_iconst (n := 0) dX5_part_62 ?_
        refine J_istore_n dX5_part_63 rfl (Nat.le_of_ble_eq_true rfl) rfl ?_
        refine J_ls (ls2 := [some (.ref 54), some (.int (zI 0)), some (.int (zI 1)), some (.int (zI 0))]) rfl ?_
        refine J_iload_n dX5_part_64 rfl rfl ?_
        refine Z_if_ne (tgt := 72) dX5_part_65 (by decide) v_4dcc24baa7 (fun h88 => ?_) (fun h88 => absurd h88 v_3a47bfd896)
        refine J_aload_n dX5_part_72 rfl rfl ?_
        refine J_get (v := .int (zI pa)) dX5_part_73 fl_X5_31 hk54 rfl ?_
        refine Z_bipush (n := 50) dX5_part_76 (by decide +kernel) ?_
        refine Z_icmp_lt (tgt := 86) dX5_part_78 (by decide) (v_196348439e q9 q10) v_e1e0ea2c24 (fun h89 => ?_) (fun h89 => ?_)
        · refine J_aload_n dX5_part_86 rfl rfl ?_
          refine J_dup dX5_part_87 rfl ?_
          refine J_get (v := .int (zI pa)) dX5_part_88 fl_X5_31 hk54 rfl ?_
          refine Z_iconst (n := 1) dX5_part_91 ?_
          refine Z_iadd (c := pa + 1) dX5_part_92 rfl ?_
          refine K_put (fs2 := [.ref 55, .int (zI ln), .int (zI tk), .int (zI st), .int (zI bh), .int (zI va), .int (zI (pa + 1)), .int (zI fl), .ref 56, .int (zI sz)]) dX5_part_93 fw_X5_31 hk54 (Nat.le_of_ble_eq_true rfl) (fun _ => ⟨rfl, rfl⟩) rfl ?_
          refine J_iload_n dX5_part_96 rfl rfl ?_
          refine Z_if_eq (tgt := 113) dX5_part_97 (by decide) v_4dcc24baa7 (fun h90 => absurd h90 v_3a47bfd896) (fun h90 => ?_)
          refine J_aload_n dX5_part_100 rfl rfl ?_
          refine Z_iconst (n := 0) dX5_part_101 ?_
          refine J_aload_n dX5_part_102 rfl rfl ?_
          refine J_get (v := .int (zI va)) dX5_part_103 fl_X5_28 rfl rfl ?_
          refine J_callV (st := []) dX5_part_106 cv_X5_72 (d_emit 0 va ln tk st bh va (pa + 1) fl sz cd v_b17331891f (v_3f1e82a223 q7 h81) q12 q13 q16 rfl hk56) rfl rfl rfl (Nat.le_of_ble_eq_true rfl) ⟨(Nat.le_of_ble_eq_true rfl), (Nat.le_of_ble_eq_true rfl)⟩ ⟨(Nat.le_of_ble_eq_true rfl), (Nat.le_of_ble_eq_true rfl)⟩ (fun r h9 hp => ?_)
          obtain ⟨z91, f92, rfl, rfl, h93, h94, h95, h96, h97⟩ := hp
          refine J_nf (nh2 := nh) (ck2 := 0) (sk2 := 0) (st2 := [.int (zI sz)]) rfl rfl rfl rfl ?_
          refine J_app (L3 := [(54, .inr (5, [.ref 55, .int (zI ln), .int (zI tk), .int (zI st), .int (zI bh), .int (zI va), .int (zI (pa + 1)), .int (zI fl), .ref 56, .int (zI z91)])), (56, .inl (0, 412, .inl (zA f92))), (54, .inr (5, [.ref 55, .int (zI ln), .int (zI tk), .int (zI st), .int (zI bh), .int (zI va), .int (zI (pa + 1)), .int (zI fl), .ref 56, .int (zI sz)]))]) rfl ?_
          refine J_mask (L2 := [(54, .inr (5, [.ref 55, .int (zI ln), .int (zI tk), .int (zI st), .int (zI bh), .int (zI va), .int (zI (pa + 1)), .int (zI fl), .ref 56, .int (zI z91)])), (56, .inl (0, 412, .inl (zA f92)))]) (ks := [54, 56, 54]) [true, true, false] rfl (by decide +kernel) rfl ?_
          refine J_pop dX5_part_109 rfl ?_
          refine J_goto (tgt := 126) dX5_part_110 (by decide) ?_
          refine J_aload_n dX5_part_126 rfl rfl ?_
          have g98 := TokL.lt q14 (v_842fc1ac99 h50)
          refine J_callV (st := []) dX5_part_127 cv_X5_43 (d_advance ln tk st bh va (pa + 1) fl z91 tp q0 q1 (v_d253cb2c59 q4 g98) q6 q7 q8 q15 rfl hk55) rfl rfl rfl (Nat.le_of_ble_eq_true rfl) ⟨(Nat.le_of_ble_eq_true rfl), (Nat.le_of_ble_eq_true rfl)⟩ ⟨(Nat.le_of_ble_eq_true rfl), (Nat.le_of_ble_eq_true rfl)⟩ (fun r h9 hp => ?_)
          obtain ⟨z99, z100, z101, z102, rfl, rfl, h103, h104, h105, h106, h107, h108, h109, h110⟩ := hp
          refine J_nf (nh2 := nh) (ck2 := 0) (sk2 := 0) (st2 := []) rfl rfl rfl rfl ?_
          refine J_app (L3 := [(54, .inr (5, [.ref 55, .int (zI ln), .int (zI z99), .int (zI z100), .int (zI z101), .int (zI z102), .int (zI (pa + 1)), .int (zI fl), .ref 56, .int (zI z91)])), (54, .inr (5, [.ref 55, .int (zI ln), .int (zI tk), .int (zI st), .int (zI bh), .int (zI va), .int (zI (pa + 1)), .int (zI fl), .ref 56, .int (zI z91)])), (56, .inl (0, 412, .inl (zA f92)))]) rfl ?_
          refine J_mask (L2 := [(54, .inr (5, [.ref 55, .int (zI ln), .int (zI z99), .int (zI z100), .int (zI z101), .int (zI z102), .int (zI (pa + 1)), .int (zI fl), .ref 56, .int (zI z91)])), (56, .inl (0, 412, .inl (zA f92)))]) (ks := [54, 54, 56]) [true, false, true] rfl (by decide +kernel) rfl ?_
          refine Z_iconst (n := 1) dX5_part_130 ?_
          exact J_iret dX5_part_131 rfl (jbn v_316afd7d0b v_bbcfac9b7d) (Nat.le_of_ble_eq_true rfl) (Nat.le_of_ble_eq_true rfl) (Or.inl ⟨z99, z100, z101, z102, (pa + 1), z91, f92, rfl, rfl, h103, h104, (v_9b2e2070a2 q4 g98 h105), h106, h107, h108, h109, (v_da458fa48a q9), (v_dc0d6dc503 h89), h93, h94, h110, h97, (v_37ad0bc16a h96 g98 h105), (v_016485883e g98 h105)⟩)
        · refine J_aload_n dX5_part_81 rfl rfl ?_
          refine J_callV (st := []) dX5_part_82 cv_X5_54 (d_wrong ln tk st bh va pa fl sz q4 (v_1adcfdfee5 q1 q5 q6) hk54) hk54 rfl rfl (Nat.le_of_ble_eq_true rfl) ⟨(Nat.le_of_ble_eq_true rfl), (Nat.le_of_ble_eq_true rfl)⟩ ⟨(Nat.le_of_ble_eq_true rfl), (Nat.le_of_ble_eq_true rfl)⟩ (fun r h9 hp => ?_)
          obtain ⟨rfl, rfl⟩ := hp
          refine J_nf (nh2 := nh) (ck2 := 0) (sk2 := 0) (st2 := [.int (zI 0)]) rfl rfl rfl rfl ?_
          refine J_app (L3 := [(54, .inr (5, [.ref 55, .int (zI ln), .int (zI tk), .int (zI st), .int (zI bh), .int (zI va), .int (zI pa), .int (zI st), .ref 56, .int (zI sz)]))]) rfl ?_
          refine J_touch (k := 56) (e := .inl (0, 412, .inl (zA cd))) hk56 ?_
          refine J_touch (k := 54) (e := .inr (5, [.ref 55, .int (zI ln), .int (zI tk), .int (zI st), .int (zI bh), .int (zI va), .int (zI pa), .int (zI st), .ref 56, .int (zI sz)])) rfl ?_
          refine J_mask (L2 := [(54, .inr (5, [.ref 55, .int (zI ln), .int (zI tk), .int (zI st), .int (zI bh), .int (zI va), .int (zI pa), .int (zI st), .ref 56, .int (zI sz)])), (56, .inl (0, 412, .inl (zA cd)))]) (ks := [54, 56, 54]) [true, true, false] rfl (by decide +kernel) rfl ?_
          exact J_iret dX5_part_85 rfl (jbn v_939070ca3f v_316afd7d0b) (Nat.le_of_ble_eq_true rfl) (Nat.le_of_ble_eq_true rfl) (Or.inr ⟨tk, st, bh, va, pa, sz, cd, st, rfl, rfl, q2, q3, q4, q5, q6, q7, q8, q9, q10, q12, q13, q14, q16, q4, (v_1adcfdfee5 q1 q5 q6)⟩)
set_option maxHeartbeats 4000000 in
set_option maxRecDepth 100000 in
theorem d_term0 {l : Launch} {G : jG} {nh : Nat} {fh : Nat → Option va_E} (ln : Int) (tk : Int) (st : Int) (bh : Int) (va : Int) (pa : Int) (fl : Int) (sz : Int) (tp : Int → Int) (cd : Int → Int) (q0 : 0 ≤ ln) (q1 : ln ≤ 400) (q2 : 0 ≤ tk) (q3 : tk ≤ 355) (q4 : 0 ≤ st) (q5 : st ≤ bh) (q6 : bh ≤ ln) (q7 : 0 ≤ va) (q8 : va ≤ 1001) (q9 : 0 ≤ pa) (q10 : pa ≤ 50) (q11 : zr fl) (q12 : 0 ≤ sz) (q13 : sz ≤ 412) (q14 : TokL tk st bh) (q15 : Rg tp 400 0 255) (q16 : Rg cd 412 (-2147483648) 2147483647) (hk54 : fh 54 = some (.inr (5, [.ref 55, .int (zI ln), .int (zI tk), .int (zI st), .int (zI bh), .int (zI va), .int (zI pa), .int (zI fl), .ref 56, .int (zI sz)]))) (hk55 : fh 55 = some (.inl (0, 400, .inl (zA tp)))) (hk56 : fh 56 = some (.inl (0, 412, .inl (zA cd)))) : JM l G yX5_term MX5_term { frames := 39, cells := 0, slots := 0, locals := 873 } [.ref 54, .int (zI 0)] (nh, fh) (fun rr h9 => (∃ tk2 : Int, ∃ st2 : Int, ∃ bh2 : Int, ∃ va2 : Int, ∃ pa2 : Int, ∃ sz2 : Int, ∃ cd2 : Int → Int, rr = some (.int (zI 1)) ∧ h9 = (nh, hc fh [(54, .inr (5, [.ref 55, .int (zI ln), .int (zI tk2), .int (zI st2), .int (zI bh2), .int (zI va2), .int (zI pa2), .int (zI fl), .ref 56, .int (zI sz2)])), (56, .inl (0, 412, .inl (zA cd2)))]) ∧ (0 ≤ tk2) ∧ (tk2 ≤ 355) ∧ (0 ≤ st2) ∧ (st2 ≤ bh2) ∧ (bh2 ≤ ln) ∧ (0 ≤ va2) ∧ (va2 ≤ 1001) ∧ (0 ≤ pa2) ∧ (pa2 ≤ 50) ∧ (0 ≤ sz2) ∧ (sz2 ≤ 412) ∧ (TokL tk2 st2 bh2) ∧ (Rg cd2 412 (-2147483648) 2147483647) ∧ (sz2 + st ≤ sz + st2) ∧ (st ≤ st2)) ∨ (∃ tk2 : Int, ∃ st2 : Int, ∃ bh2 : Int, ∃ va2 : Int, ∃ pa2 : Int, ∃ sz2 : Int, ∃ cd2 : Int → Int, ∃ fl2 : Int, rr = some (.int (zI 0)) ∧ h9 = (nh, hc fh [(54, .inr (5, [.ref 55, .int (zI ln), .int (zI tk2), .int (zI st2), .int (zI bh2), .int (zI va2), .int (zI pa2), .int (zI fl2), .ref 56, .int (zI sz2)])), (56, .inl (0, 412, .inl (zA cd2)))]) ∧ (0 ≤ tk2) ∧ (tk2 ≤ 355) ∧ (0 ≤ st2) ∧ (st2 ≤ bh2) ∧ (bh2 ≤ ln) ∧ (0 ≤ va2) ∧ (va2 ≤ 1001) ∧ (0 ≤ pa2) ∧ (pa2 ≤ 50) ∧ (0 ≤ sz2) ∧ (sz2 ≤ 412) ∧ (TokL tk2 st2 bh2) ∧ (Rg cd2 412 (-2147483648) 2147483647) ∧ (0 ≤ fl2) ∧ (fl2 ≤ 400))) := by
  refine JM.of (by decide) rfl (fun h => by cases h) (Nat.le_of_ble_eq_true rfl) ⟨2, rfl⟩ ?_
  refine J_hc0 (J_ls (ls2 := [some (.ref 54), some (.int (zI 0)), none, none]) rfl ?_)
  refine J_aload_n dX5_term_0 rfl rfl ?_
  refine J_iload_n dX5_term_1 rfl rfl ?_
  refine J_callV (st := []) dX5_term_2 cv_X5_92 (d_part0 ln tk st bh va pa fl sz tp cd q0 q1 q2 q3 q4 q5 q6 q7 q8 q9 q10 q11 q12 q13 q14 q15 q16 hk54 hk55 hk56) hk54 rfl rfl (Nat.le_of_ble_eq_true rfl) ⟨(Nat.le_of_ble_eq_true rfl), (Nat.le_of_ble_eq_true rfl)⟩ ⟨(Nat.le_of_ble_eq_true rfl), (Nat.le_of_ble_eq_true rfl)⟩ (fun r h9 hp => ?_)
  rcases hp with ⟨z1, z2, z3, z4, z5, z6, f7, rfl, rfl, h8, h9, h10, h11, h12, h13, h14, h15, h16, h17, h18, h19, h20, h21, h22⟩ | ⟨z23, z24, z25, z26, z27, z28, f29, z30, rfl, rfl, h31, h32, h33, h34, h35, h36, h37, h38, h39, h40, h41, h42, h43, h44, h45⟩
  · refine J_nf (nh2 := nh) (ck2 := 0) (sk2 := 0) (st2 := [.int (zI 1)]) rfl rfl rfl rfl ?_
    refine J_app (L3 := [(54, .inr (5, [.ref 55, .int (zI ln), .int (zI z1), .int (zI z2), .int (zI z3), .int (zI z4), .int (zI z5), .int (zI fl), .ref 56, .int (zI z6)])), (56, .inl (0, 412, .inl (zA f7)))]) rfl ?_
    refine Z_if_ne (tgt := 10) dX5_term_5 (by decide) v_4dcc24baa7 (fun h46 => ?_) (fun h46 => absurd h46 v_3a47bfd896)
    refine Z_iconst (n := 0) dX5_term_10 ?_
    refine J_istore_n dX5_term_11 rfl (Nat.le_of_ble_eq_true rfl) rfl ?_
    refine J_ls (ls2 := [some (.ref 54), some (.int (zI 0)), some (.int (zI 0)), none]) rfl ?_
    have lp12 : ∀ (N12 : Nat) (i_12 : Int) (tx_12 : Int) (sx_12 : Int) (bx_12 : Int) (vx_12 : Int) (px_12 : Int) (zx_12 : Int) (cx_12 : Int → Int), (0 ≤ i_12) → (i_12 ≤ 400) → (zx_12 + st ≤ sz + sx_12) → (st ≤ sx_12) → (0 ≤ tx_12) → (tx_12 ≤ 355) → (0 ≤ sx_12) → (sx_12 ≤ bx_12) → (bx_12 ≤ ln) → (0 ≤ vx_12) → (vx_12 ≤ 1001) → (TokL tx_12 sx_12 bx_12) → (Rg cx_12 412 (-2147483648) 2147483647) → (0 ≤ zx_12) → (zx_12 ≤ 412) → (0 ≤ px_12) → (px_12 ≤ 50) → (400 - i_12).toNat < N12 → J l G MX5_term { frames := 39, cells := 0, slots := 0, locals := 873 } jE (jMQ G { frames := 39, cells := 0, slots := 0, locals := 873 } (fun rr h9 => (∃ tk2 : Int, ∃ st2 : Int, ∃ bh2 : Int, ∃ va2 : Int, ∃ pa2 : Int, ∃ sz2 : Int, ∃ cd2 : Int → Int, rr = some (.int (zI 1)) ∧ h9 = (nh, hc fh [(54, .inr (5, [.ref 55, .int (zI ln), .int (zI tk2), .int (zI st2), .int (zI bh2), .int (zI va2), .int (zI pa2), .int (zI fl), .ref 56, .int (zI sz2)])), (56, .inl (0, 412, .inl (zA cd2)))]) ∧ (0 ≤ tk2) ∧ (tk2 ≤ 355) ∧ (0 ≤ st2) ∧ (st2 ≤ bh2) ∧ (bh2 ≤ ln) ∧ (0 ≤ va2) ∧ (va2 ≤ 1001) ∧ (0 ≤ pa2) ∧ (pa2 ≤ 50) ∧ (0 ≤ sz2) ∧ (sz2 ≤ 412) ∧ (TokL tk2 st2 bh2) ∧ (Rg cd2 412 (-2147483648) 2147483647) ∧ (sz2 + st ≤ sz + st2) ∧ (st ≤ st2)) ∨ (∃ tk2 : Int, ∃ st2 : Int, ∃ bh2 : Int, ∃ va2 : Int, ∃ pa2 : Int, ∃ sz2 : Int, ∃ cd2 : Int → Int, ∃ fl2 : Int, rr = some (.int (zI 0)) ∧ h9 = (nh, hc fh [(54, .inr (5, [.ref 55, .int (zI ln), .int (zI tk2), .int (zI st2), .int (zI bh2), .int (zI va2), .int (zI pa2), .int (zI fl2), .ref 56, .int (zI sz2)])), (56, .inl (0, 412, .inl (zA cd2)))]) ∧ (0 ≤ tk2) ∧ (tk2 ≤ 355) ∧ (0 ≤ st2) ∧ (st2 ≤ bh2) ∧ (bh2 ≤ ln) ∧ (0 ≤ va2) ∧ (va2 ≤ 1001) ∧ (0 ≤ pa2) ∧ (pa2 ≤ 50) ∧ (0 ≤ sz2) ∧ (sz2 ≤ 412) ∧ (TokL tk2 st2 bh2) ∧ (Rg cd2 412 (-2147483648) 2147483647) ∧ (0 ≤ fl2) ∧ (fl2 ≤ 400)))) (nh, hc fh [(54, .inr (5, [.ref 55, .int (zI ln), .int (zI tx_12), .int (zI sx_12), .int (zI bx_12), .int (zI vx_12), .int (zI px_12), .int (zI fl), .ref 56, .int (zI zx_12)])), (56, .inl (0, 412, .inl (zA cx_12)))]) 0 0 12 [some (.ref 54), some (.int (zI 0)), some (.int (zI i_12)), none] [] := by
      intro N12
      induction N12 with
      | zero => intro i_12 tx_12 sx_12 bx_12 vx_12 px_12 zx_12 cx_12 i12_0 i12_1 i12_2 i12_3 i12_4 i12_5 i12_6 i12_7 i12_8 i12_9 i12_10 i12_11 i12_12 i12_13 i12_14 i12_15 i12_16 hm; exact absurd hm (Nat.not_lt_zero _)
      | succ N12 ih12 =>
        intro i_12 tx_12 sx_12 bx_12 vx_12 px_12 zx_12 cx_12 i12_0 i12_1 i12_2 i12_3 i12_4 i12_5 i12_6 i12_7 i12_8 i12_9 i12_10 i12_11 i12_12 i12_13 i12_14 i12_15 i12_16 hm12
        refine J_iload_n dX5_term_12 rfl rfl ?_
        refine Z_sipush (n := 400) dX5_term_13 (by decide +kernel) ?_
        refine Z_icmp_ge (tgt := 79) dX5_term_16 (by decide) (v_d7389cde0f i12_0 i12_1) v_d8dcd4dd52 (fun h47 => ?_) (fun h47 => ?_)
        · refine Z_iconst (n := 1) dX5_term_79 ?_
          exact J_iret dX5_term_80 rfl (jbn v_316afd7d0b v_bbcfac9b7d) (Nat.le_of_ble_eq_true rfl) (Nat.le_of_ble_eq_true rfl) (Or.inl ⟨tx_12, sx_12, bx_12, vx_12, px_12, zx_12, cx_12, rfl, rfl, i12_4, i12_5, i12_6, i12_7, i12_8, i12_9, i12_10, i12_15, i12_16, i12_13, i12_14, i12_11, i12_12, i12_2, i12_3⟩)
        · refine J_aload_n dX5_term_19 rfl rfl ?_
          refine Z_bipush (n := 42) dX5_term_20 (by decide +kernel) ?_
          refine J_callV (st := []) dX5_term_22 cv_X5_50 (d_isSign 42 ln tx_12 sx_12 bx_12 vx_12 px_12 fl zx_12 v_19b0ad2cd1 v_1f79c0c2c4 i12_4 i12_5 rfl) rfl rfl rfl (Nat.le_of_ble_eq_true rfl) ⟨(Nat.le_of_ble_eq_true rfl), (Nat.le_of_ble_eq_true rfl)⟩ ⟨(Nat.le_of_ble_eq_true rfl), (Nat.le_of_ble_eq_true rfl)⟩ (fun r h9 hp => ?_)
          rcases hp with ⟨rfl, rfl, h48⟩ | ⟨rfl, rfl, h49⟩
          · refine J_nf (nh2 := nh) (ck2 := 0) (sk2 := 0) (st2 := [.int (zI 1)]) rfl rfl rfl rfl ?_
            refine Z_if_ne (tgt := 37) dX5_term_25 (by decide) v_4dcc24baa7 (fun h50 => ?_) (fun h50 => absurd h50 v_3a47bfd896)
            refine J_aload_n dX5_term_37 rfl rfl ?_
            refine Z_bipush (n := 42) dX5_term_38 (by decide +kernel) ?_
            refine J_callV (st := []) dX5_term_40 cv_X5_50 (d_isSign 42 ln tx_12 sx_12 bx_12 vx_12 px_12 fl zx_12 v_19b0ad2cd1 v_1f79c0c2c4 i12_4 i12_5 rfl) rfl rfl rfl (Nat.le_of_ble_eq_true rfl) ⟨(Nat.le_of_ble_eq_true rfl), (Nat.le_of_ble_eq_true rfl)⟩ ⟨(Nat.le_of_ble_eq_true rfl), (Nat.le_of_ble_eq_true rfl)⟩ (fun r h9 hp => ?_)
            rcases hp with ⟨rfl, rfl, h51⟩ | ⟨rfl, rfl, h52⟩
            · refine J_nf (nh2 := nh) (ck2 := 0) (sk2 := 0) (st2 := [.int (zI 1)]) rfl rfl rfl rfl ?_
              refine Z_if_eq (tgt := 50) dX5_term_43 (by decide) v_4dcc24baa7 (fun h53 => absurd h53 v_3a47bfd896) (fun h53 => ?_)
              refine Z_iconst (n := 4) dX5_term_46 ?_
              refine J_goto (tgt := 51) dX5_term_47 (by decide) ?_
              refine J_istore_n dX5_term_51 rfl (Nat.le_of_ble_eq_true rfl) rfl ?_
              refine J_ls (ls2 := [some (.ref 54), some (.int (zI 0)), some (.int (zI i_12)), some (.int (zI 4))]) rfl ?_
              refine J_aload_n dX5_term_52 rfl rfl ?_
              have g54 := TokL.lt i12_11 (v_4a9f236eb2 h48)
              refine J_callV (st := []) dX5_term_53 cv_X5_43 (d_advance ln tx_12 sx_12 bx_12 vx_12 px_12 fl zx_12 tp q0 q1 (v_d253cb2c59 i12_6 g54) i12_8 i12_9 i12_10 q15 rfl hk55) rfl rfl rfl (Nat.le_of_ble_eq_true rfl) ⟨(Nat.le_of_ble_eq_true rfl), (Nat.le_of_ble_eq_true rfl)⟩ ⟨(Nat.le_of_ble_eq_true rfl), (Nat.le_of_ble_eq_true rfl)⟩ (fun r h9 hp => ?_)
              obtain ⟨z55, z56, z57, z58, rfl, rfl, h59, h60, h61, h62, h63, h64, h65, h66⟩ := hp
              refine J_nf (nh2 := nh) (ck2 := 0) (sk2 := 0) (st2 := []) rfl rfl rfl rfl ?_
              refine J_app (L3 := [(54, .inr (5, [.ref 55, .int (zI ln), .int (zI z55), .int (zI z56), .int (zI z57), .int (zI z58), .int (zI px_12), .int (zI fl), .ref 56, .int (zI zx_12)])), (54, .inr (5, [.ref 55, .int (zI ln), .int (zI tx_12), .int (zI sx_12), .int (zI bx_12), .int (zI vx_12), .int (zI px_12), .int (zI fl), .ref 56, .int (zI zx_12)])), (56, .inl (0, 412, .inl (zA cx_12)))]) rfl ?_
              refine J_mask (L2 := [(54, .inr (5, [.ref 55, .int (zI ln), .int (zI z55), .int (zI z56), .int (zI z57), .int (zI z58), .int (zI px_12), .int (zI fl), .ref 56, .int (zI zx_12)])), (56, .inl (0, 412, .inl (zA cx_12)))]) (ks := [54, 54, 56]) [true, false, true] rfl (by decide +kernel) rfl ?_
              refine J_aload_n dX5_term_56 rfl rfl ?_
              refine J_iload_n dX5_term_57 rfl rfl ?_
              refine J_callV (st := []) dX5_term_58 cv_X5_92 (d_part0 ln z55 z56 z57 z58 px_12 fl zx_12 tp cx_12 q0 q1 h59 h60 (v_9b2e2070a2 i12_6 g54 h61) h62 h63 h64 h65 i12_15 i12_16 q11 i12_13 i12_14 h66 q15 i12_12 rfl hk55 rfl) rfl rfl rfl (Nat.le_of_ble_eq_true rfl) ⟨(Nat.le_of_ble_eq_true rfl), (Nat.le_of_ble_eq_true rfl)⟩ ⟨(Nat.le_of_ble_eq_true rfl), (Nat.le_of_ble_eq_true rfl)⟩ (fun r h9 hp => ?_)
              rcases hp with ⟨z67, z68, z69, z70, z71, z72, f73, rfl, rfl, h74, h75, h76, h77, h78, h79, h80, h81, h82, h83, h84, h85, h86, h87, h88⟩ | ⟨z89, z90, z91, z92, z93, z94, f95, z96, rfl, rfl, h97, h98, h99, h100, h101, h102, h103, h104, h105, h106, h107, h108, h109, h110, h111⟩
              · refine J_nf (nh2 := nh) (ck2 := 0) (sk2 := 0) (st2 := [.int (zI 1)]) rfl rfl rfl rfl ?_
                refine J_app (L3 := [(54, .inr (5, [.ref 55, .int (zI ln), .int (zI z67), .int (zI z68), .int (zI z69), .int (zI z70), .int (zI z71), .int (zI fl), .ref 56, .int (zI z72)])), (56, .inl (0, 412, .inl (zA f73))), (54, .inr (5, [.ref 55, .int (zI ln), .int (zI z55), .int (zI z56), .int (zI z57), .int (zI z58), .int (zI px_12), .int (zI fl), .ref 56, .int (zI zx_12)])), (56, .inl (0, 412, .inl (zA cx_12)))]) rfl ?_
                refine J_mask (L2 := [(54, .inr (5, [.ref 55, .int (zI ln), .int (zI z67), .int (zI z68), .int (zI z69), .int (zI z70), .int (zI z71), .int (zI fl), .ref 56, .int (zI z72)])), (56, .inl (0, 412, .inl (zA f73)))]) (ks := [54, 56, 54, 56]) [true, true, false, false] rfl (by decide +kernel) rfl ?_
                refine Z_if_ne (tgt := 66) dX5_term_61 (by decide) v_4dcc24baa7 (fun h112 => ?_) (fun h112 => absurd h112 v_3a47bfd896)
                refine J_aload_n dX5_term_66 rfl rfl ?_
                refine J_iload_n dX5_term_67 rfl rfl ?_
                refine Z_iconst (n := 0) dX5_term_68 ?_
                refine J_callV (st := []) dX5_term_69 cv_X5_72 (d_emit 4 0 ln z67 z68 z69 z70 z71 fl z72 f73 v_ffb526fa28 v_b17331891f h83 h84 h86 rfl rfl) rfl rfl rfl (Nat.le_of_ble_eq_true rfl) ⟨(Nat.le_of_ble_eq_true rfl), (Nat.le_of_ble_eq_true rfl)⟩ ⟨(Nat.le_of_ble_eq_true rfl), (Nat.le_of_ble_eq_true rfl)⟩ (fun r h9 hp => ?_)
                obtain ⟨z113, f114, rfl, rfl, h115, h116, h117, h118, h119⟩ := hp
                refine J_nf (nh2 := nh) (ck2 := 0) (sk2 := 0) (st2 := [.int (zI z72)]) rfl rfl rfl rfl ?_
                refine J_app (L3 := [(54, .inr (5, [.ref 55, .int (zI ln), .int (zI z67), .int (zI z68), .int (zI z69), .int (zI z70), .int (zI z71), .int (zI fl), .ref 56, .int (zI z113)])), (56, .inl (0, 412, .inl (zA f114))), (54, .inr (5, [.ref 55, .int (zI ln), .int (zI z67), .int (zI z68), .int (zI z69), .int (zI z70), .int (zI z71), .int (zI fl), .ref 56, .int (zI z72)])), (56, .inl (0, 412, .inl (zA f73)))]) rfl ?_
                refine J_mask (L2 := [(54, .inr (5, [.ref 55, .int (zI ln), .int (zI z67), .int (zI z68), .int (zI z69), .int (zI z70), .int (zI z71), .int (zI fl), .ref 56, .int (zI z113)])), (56, .inl (0, 412, .inl (zA f114)))]) (ks := [54, 56, 54, 56]) [true, true, false, false] rfl (by decide +kernel) rfl ?_
                refine J_pop dX5_term_72 rfl ?_
                refine Z_iinc (c := i_12 + 1) (ls2 := [some (.ref 54), some (.int (zI 0)), some (.int (zI (i_12 + 1))), some (.int (zI 4))]) dX5_term_73 rfl (Nat.le_of_ble_eq_true rfl) rfl rfl rfl ?_
                refine J_goto (tgt := 12) dX5_term_76 (by decide) ?_
                refine J_drop (ls2 := [some (.ref 54), some (.int (zI 0)), some (.int (zI (i_12 + 1))), none]) [true, true, true, false] rfl ?_
                exact ih12 (i_12 + 1) z67 z68 z69 z70 z71 z113 f114 (v_da458fa48a i12_0) (v_6924477667 h47) (v_5af1455273 i12_2 g54 h61 h87 h118) (v_269579bf42 i12_3 g54 h61 h88) h74 h75 h76 h77 h78 h79 h80 h85 h119 h115 h116 h81 h82 (meas_lt v_ceb2ed6d2b (v_44ddc35e90 h47) hm12)
              · refine J_nf (nh2 := nh) (ck2 := 0) (sk2 := 0) (st2 := [.int (zI 0)]) rfl rfl rfl rfl ?_
                refine J_app (L3 := [(54, .inr (5, [.ref 55, .int (zI ln), .int (zI z89), .int (zI z90), .int (zI z91), .int (zI z92), .int (zI z93), .int (zI z96), .ref 56, .int (zI z94)])), (56, .inl (0, 412, .inl (zA f95))), (54, .inr (5, [.ref 55, .int (zI ln), .int (zI z55), .int (zI z56), .int (zI z57), .int (zI z58), .int (zI px_12), .int (zI fl), .ref 56, .int (zI zx_12)])), (56, .inl (0, 412, .inl (zA cx_12)))]) rfl ?_
                refine J_mask (L2 := [(54, .inr (5, [.ref 55, .int (zI ln), .int (zI z89), .int (zI z90), .int (zI z91), .int (zI z92), .int (zI z93), .int (zI z96), .ref 56, .int (zI z94)])), (56, .inl (0, 412, .inl (zA f95)))]) (ks := [54, 56, 54, 56]) [true, true, false, false] rfl (by decide +kernel) rfl ?_
                refine Z_if_ne (tgt := 66) dX5_term_61 (by decide) v_b17331891f (fun h120 => absurd h120 (fun q => q v_2ca2bbca1f)) (fun h120 => ?_)
                refine Z_iconst (n := 0) dX5_term_64 ?_
                exact J_iret dX5_term_65 rfl (jbn v_939070ca3f v_316afd7d0b) (Nat.le_of_ble_eq_true rfl) (Nat.le_of_ble_eq_true rfl) (Or.inr ⟨z89, z90, z91, z92, z93, z94, f95, z96, rfl, rfl, h97, h98, h99, h100, h101, h102, h103, h104, h105, h106, h107, h108, h109, h110, h111⟩)
            · exact False.elim (v_dc1247e06b h48 h52)
          · refine J_nf (nh2 := nh) (ck2 := 0) (sk2 := 0) (st2 := [.int (zI 0)]) rfl rfl rfl rfl ?_
            refine Z_if_ne (tgt := 37) dX5_term_25 (by decide) v_b17331891f (fun h121 => absurd h121 (fun q => q v_2ca2bbca1f)) (fun h121 => ?_)
            refine J_aload_n dX5_term_28 rfl rfl ?_
            refine Z_bipush (n := 47) dX5_term_29 (by decide +kernel) ?_
            refine J_callV (st := []) dX5_term_31 cv_X5_50 (d_isSign 47 ln tx_12 sx_12 bx_12 vx_12 px_12 fl zx_12 v_a2835897db v_8710bb8462 i12_4 i12_5 rfl) rfl rfl rfl (Nat.le_of_ble_eq_true rfl) ⟨(Nat.le_of_ble_eq_true rfl), (Nat.le_of_ble_eq_true rfl)⟩ ⟨(Nat.le_of_ble_eq_true rfl), (Nat.le_of_ble_eq_true rfl)⟩ (fun r h9 hp => ?_)
            rcases hp with ⟨rfl, rfl, h122⟩ | ⟨rfl, rfl, h123⟩
            · refine J_nf (nh2 := nh) (ck2 := 0) (sk2 := 0) (st2 := [.int (zI 1)]) rfl rfl rfl rfl ?_
              refine Z_if_eq (tgt := 79) dX5_term_34 (by decide) v_4dcc24baa7 (fun h124 => absurd h124 v_3a47bfd896) (fun h124 => ?_)
              refine J_aload_n dX5_term_37 rfl rfl ?_
              refine Z_bipush (n := 42) dX5_term_38 (by decide +kernel) ?_
              refine J_callV (st := []) dX5_term_40 cv_X5_50 (d_isSign 42 ln tx_12 sx_12 bx_12 vx_12 px_12 fl zx_12 v_19b0ad2cd1 v_1f79c0c2c4 i12_4 i12_5 rfl) rfl rfl rfl (Nat.le_of_ble_eq_true rfl) ⟨(Nat.le_of_ble_eq_true rfl), (Nat.le_of_ble_eq_true rfl)⟩ ⟨(Nat.le_of_ble_eq_true rfl), (Nat.le_of_ble_eq_true rfl)⟩ (fun r h9 hp => ?_)
              rcases hp with ⟨rfl, rfl, h125⟩ | ⟨rfl, rfl, h126⟩
              · exact False.elim (v_4c7f0d169f h122 h125)
              · refine J_nf (nh2 := nh) (ck2 := 0) (sk2 := 0) (st2 := [.int (zI 0)]) rfl rfl rfl rfl ?_
                refine Z_if_eq (tgt := 50) dX5_term_43 (by decide) v_b17331891f (fun h127 => ?_) (fun h127 => absurd h127 (fun q => q v_2ca2bbca1f))
                refine Z_iconst (n := 5) dX5_term_50 ?_
                refine J_istore_n dX5_term_51 rfl (Nat.le_of_ble_eq_true rfl) rfl ?_
                refine J_ls (ls2 := [some (.ref 54), some (.int (zI 0)), some (.int (zI i_12)), some (.int (zI 5))]) rfl ?_
                refine J_aload_n dX5_term_52 rfl rfl ?_
                have g128 := TokL.lt i12_11 (v_6abada17c7 h122)
                refine J_callV (st := []) dX5_term_53 cv_X5_43 (d_advance ln tx_12 sx_12 bx_12 vx_12 px_12 fl zx_12 tp q0 q1 (v_d253cb2c59 i12_6 g128) i12_8 i12_9 i12_10 q15 rfl hk55) rfl rfl rfl (Nat.le_of_ble_eq_true rfl) ⟨(Nat.le_of_ble_eq_true rfl), (Nat.le_of_ble_eq_true rfl)⟩ ⟨(Nat.le_of_ble_eq_true rfl), (Nat.le_of_ble_eq_true rfl)⟩ (fun r h9 hp => ?_)
                obtain ⟨z129, z130, z131, z132, rfl, rfl, h133, h134, h135, h136, h137, h138, h139, h140⟩ := hp
                refine J_nf (nh2 := nh) (ck2 := 0) (sk2 := 0) (st2 := []) rfl rfl rfl rfl ?_
                refine J_app (L3 := [(54, .inr (5, [.ref 55, .int (zI ln), .int (zI z129), .int (zI z130), .int (zI z131), .int (zI z132), .int (zI px_12), .int (zI fl), .ref 56, .int (zI zx_12)])), (54, .inr (5, [.ref 55, .int (zI ln), .int (zI tx_12), .int (zI sx_12), .int (zI bx_12), .int (zI vx_12), .int (zI px_12), .int (zI fl), .ref 56, .int (zI zx_12)])), (56, .inl (0, 412, .inl (zA cx_12)))]) rfl ?_
                refine J_mask (L2 := [(54, .inr (5, [.ref 55, .int (zI ln), .int (zI z129), .int (zI z130), .int (zI z131), .int (zI z132), .int (zI px_12), .int (zI fl), .ref 56, .int (zI zx_12)])), (56, .inl (0, 412, .inl (zA cx_12)))]) (ks := [54, 54, 56]) [true, false, true] rfl (by decide +kernel) rfl ?_
                refine J_aload_n dX5_term_56 rfl rfl ?_
                refine J_iload_n dX5_term_57 rfl rfl ?_
                refine J_callV (st := []) dX5_term_58 cv_X5_92 (d_part0 ln z129 z130 z131 z132 px_12 fl zx_12 tp cx_12 q0 q1 h133 h134 (v_9b2e2070a2 i12_6 g128 h135) h136 h137 h138 h139 i12_15 i12_16 q11 i12_13 i12_14 h140 q15 i12_12 rfl hk55 rfl) rfl rfl rfl (Nat.le_of_ble_eq_true rfl) ⟨(Nat.le_of_ble_eq_true rfl), (Nat.le_of_ble_eq_true rfl)⟩ ⟨(Nat.le_of_ble_eq_true rfl), (Nat.le_of_ble_eq_true rfl)⟩ (fun r h9 hp => ?_)
                rcases hp with ⟨z141, z142, z143, z144, z145, z146, f147, rfl, rfl, h148, h149, h150, h151, h152, h153, h154, h155, h156, h157, h158, h159, h160, h161, h162⟩ | ⟨z163, z164, z165, z166, z167, z168, f169, z170, rfl, rfl, h171, h172, h173, h174, h175, h176, h177, h178, h179, h180, h181, h182, h183, h184, h185⟩
                · refine J_nf (nh2 := nh) (ck2 := 0) (sk2 := 0) (st2 := [.int (zI 1)]) rfl rfl rfl rfl ?_
                  refine J_app (L3 := [(54, .inr (5, [.ref 55, .int (zI ln), .int (zI z141), .int (zI z142), .int (zI z143), .int (zI z144), .int (zI z145), .int (zI fl), .ref 56, .int (zI z146)])), (56, .inl (0, 412, .inl (zA f147))), (54, .inr (5, [.ref 55, .int (zI ln), .int (zI z129), .int (zI z130), .int (zI z131), .int (zI z132), .int (zI px_12), .int (zI fl), .ref 56, .int (zI zx_12)])), (56, .inl (0, 412, .inl (zA cx_12)))]) rfl ?_
                  refine J_mask (L2 := [(54, .inr (5, [.ref 55, .int (zI ln), .int (zI z141), .int (zI z142), .int (zI z143), .int (zI z144), .int (zI z145), .int (zI fl), .ref 56, .int (zI z146)])), (56, .inl (0, 412, .inl (zA f147)))]) (ks := [54, 56, 54, 56]) [true, true, false, false] rfl (by decide +kernel) rfl ?_
                  refine Z_if_ne (tgt := 66) dX5_term_61 (by decide) v_4dcc24baa7 (fun h186 => ?_) (fun h186 => absurd h186 v_3a47bfd896)
                  refine J_aload_n dX5_term_66 rfl rfl ?_
                  refine J_iload_n dX5_term_67 rfl rfl ?_
                  refine Z_iconst (n := 0) dX5_term_68 ?_
                  refine J_callV (st := []) dX5_term_69 cv_X5_72 (d_emit 5 0 ln z141 z142 z143 z144 z145 fl z146 f147 v_3961fe0d0d v_b17331891f h157 h158 h160 rfl rfl) rfl rfl rfl (Nat.le_of_ble_eq_true rfl) ⟨(Nat.le_of_ble_eq_true rfl), (Nat.le_of_ble_eq_true rfl)⟩ ⟨(Nat.le_of_ble_eq_true rfl), (Nat.le_of_ble_eq_true rfl)⟩ (fun r h9 hp => ?_)
                  obtain ⟨z187, f188, rfl, rfl, h189, h190, h191, h192, h193⟩ := hp
                  refine J_nf (nh2 := nh) (ck2 := 0) (sk2 := 0) (st2 := [.int (zI z146)]) rfl rfl rfl rfl ?_
                  refine J_app (L3 := [(54, .inr (5, [.ref 55, .int (zI ln), .int (zI z141), .int (zI z142), .int (zI z143), .int (zI z144), .int (zI z145), .int (zI fl), .ref 56, .int (zI z187)])), (56, .inl (0, 412, .inl (zA f188))), (54, .inr (5, [.ref 55, .int (zI ln), .int (zI z141), .int (zI z142), .int (zI z143), .int (zI z144), .int (zI z145), .int (zI fl), .ref 56, .int (zI z146)])), (56, .inl (0, 412, .inl (zA f147)))]) rfl ?_
                  refine J_mask (L2 := [(54, .inr (5, [.ref 55, .int (zI ln), .int (zI z141), .int (zI z142), .int (zI z143), .int (zI z144), .int (zI z145), .int (zI fl), .ref 56, .int (zI z187)])), (56, .inl (0, 412, .inl (zA f188)))]) (ks := [54, 56, 54, 56]) [true, true, false, false] rfl (by decide +kernel) rfl ?_
                  refine J_pop dX5_term_72 rfl ?_
                  refine Z_iinc (c := i_12 + 1) (ls2 := [some (.ref 54), some (.int (zI 0)), some (.int (zI (i_12 + 1))), some (.int (zI 5))]) dX5_term_73 rfl (Nat.le_of_ble_eq_true rfl) rfl rfl rfl ?_
                  refine J_goto (tgt := 12) dX5_term_76 (by decide) ?_
                  refine J_drop (ls2 := [some (.ref 54), some (.int (zI 0)), some (.int (zI (i_12 + 1))), none]) [true, true, true, false] rfl ?_
                  exact ih12 (i_12 + 1) z141 z142 z143 z144 z145 z187 f188 (v_da458fa48a i12_0) (v_6924477667 h47) (v_5af1455273 i12_2 g128 h135 h161 h192) (v_269579bf42 i12_3 g128 h135 h162) h148 h149 h150 h151 h152 h153 h154 h159 h193 h189 h190 h155 h156 (meas_lt v_ceb2ed6d2b (v_44ddc35e90 h47) hm12)
                · refine J_nf (nh2 := nh) (ck2 := 0) (sk2 := 0) (st2 := [.int (zI 0)]) rfl rfl rfl rfl ?_
                  refine J_app (L3 := [(54, .inr (5, [.ref 55, .int (zI ln), .int (zI z163), .int (zI z164), .int (zI z165), .int (zI z166), .int (zI z167), .int (zI z170), .ref 56, .int (zI z168)])), (56, .inl (0, 412, .inl (zA f169))), (54, .inr (5, [.ref 55, .int (zI ln), .int (zI z129), .int (zI z130), .int (zI z131), .int (zI z132), .int (zI px_12), .int (zI fl), .ref 56, .int (zI zx_12)])), (56, .inl (0, 412, .inl (zA cx_12)))]) rfl ?_
                  refine J_mask (L2 := [(54, .inr (5, [.ref 55, .int (zI ln), .int (zI z163), .int (zI z164), .int (zI z165), .int (zI z166), .int (zI z167), .int (zI z170), .ref 56, .int (zI z168)])), (56, .inl (0, 412, .inl (zA f169)))]) (ks := [54, 56, 54, 56]) [true, true, false, false] rfl (by decide +kernel) rfl ?_
                  refine Z_if_ne (tgt := 66) dX5_term_61 (by decide) v_b17331891f (fun h194 => absurd h194 (fun q => q v_2ca2bbca1f)) (fun h194 => ?_)
                  refine Z_iconst (n := 0) dX5_term_64 ?_
                  exact J_iret dX5_term_65 rfl (jbn v_939070ca3f v_316afd7d0b) (Nat.le_of_ble_eq_true rfl) (Nat.le_of_ble_eq_true rfl) (Or.inr ⟨z163, z164, z165, z166, z167, z168, f169, z170, rfl, rfl, h171, h172, h173, h174, h175, h176, h177, h178, h179, h180, h181, h182, h183, h184, h185⟩)
            · refine J_nf (nh2 := nh) (ck2 := 0) (sk2 := 0) (st2 := [.int (zI 0)]) rfl rfl rfl rfl ?_
              refine Z_if_eq (tgt := 79) dX5_term_34 (by decide) v_b17331891f (fun h195 => ?_) (fun h195 => absurd h195 (fun q => q v_2ca2bbca1f))
              refine Z_iconst (n := 1) dX5_term_79 ?_
              exact J_iret dX5_term_80 rfl (jbn v_316afd7d0b v_bbcfac9b7d) (Nat.le_of_ble_eq_true rfl) (Nat.le_of_ble_eq_true rfl) (Or.inl ⟨tx_12, sx_12, bx_12, vx_12, px_12, zx_12, cx_12, rfl, rfl, i12_4, i12_5, i12_6, i12_7, i12_8, i12_9, i12_10, i12_15, i12_16, i12_13, i12_14, i12_11, i12_12, i12_2, i12_3⟩)
    exact lp12 _ 0 z1 z2 z3 z4 z5 z6 f7 v_939070ca3f v_5ab96f7b5e h21 h22 h8 h9 h10 h11 h12 h13 h14 h19 h20 h17 h18 h15 h16 (Nat.lt_succ_self _)
  · refine J_nf (nh2 := nh) (ck2 := 0) (sk2 := 0) (st2 := [.int (zI 0)]) rfl rfl rfl rfl ?_
    refine J_app (L3 := [(54, .inr (5, [.ref 55, .int (zI ln), .int (zI z23), .int (zI z24), .int (zI z25), .int (zI z26), .int (zI z27), .int (zI z30), .ref 56, .int (zI z28)])), (56, .inl (0, 412, .inl (zA f29)))]) rfl ?_
    refine Z_if_ne (tgt := 10) dX5_term_5 (by decide) v_b17331891f (fun h196 => absurd h196 (fun q => q v_2ca2bbca1f)) (fun h196 => ?_)
    refine Z_iconst (n := 0) dX5_term_8 ?_
    exact J_iret dX5_term_9 rfl (jbn v_939070ca3f v_316afd7d0b) (Nat.le_of_ble_eq_true rfl) (Nat.le_of_ble_eq_true rfl) (Or.inr ⟨z23, z24, z25, z26, z27, z28, f29, z30, rfl, rfl, h31, h32, h33, h34, h35, h36, h37, h38, h39, h40, h41, h42, h43, h44, h45⟩)
set_option maxHeartbeats 4000000 in
set_option maxRecDepth 100000 in
theorem d_sum0 {l : Launch} {G : jG} {nh : Nat} {fh : Nat → Option va_E} (ln : Int) (tk : Int) (st : Int) (bh : Int) (va : Int) (pa : Int) (fl : Int) (sz : Int) (tp : Int → Int) (cd : Int → Int) (q0 : 0 ≤ ln) (q1 : ln ≤ 400) (q2 : 0 ≤ tk) (q3 : tk ≤ 355) (q4 : 0 ≤ st) (q5 : st ≤ bh) (q6 : bh ≤ ln) (q7 : 0 ≤ va) (q8 : va ≤ 1001) (q9 : 0 ≤ pa) (q10 : pa ≤ 50) (q11 : zr fl) (q12 : 0 ≤ sz) (q13 : sz ≤ 412) (q14 : TokL tk st bh) (q15 : Rg tp 400 0 255) (q16 : Rg cd 412 (-2147483648) 2147483647) (hk54 : fh 54 = some (.inr (5, [.ref 55, .int (zI ln), .int (zI tk), .int (zI st), .int (zI bh), .int (zI va), .int (zI pa), .int (zI fl), .ref 56, .int (zI sz)]))) (hk55 : fh 55 = some (.inl (0, 400, .inl (zA tp)))) (hk56 : fh 56 = some (.inl (0, 412, .inl (zA cd)))) : JM l G yX5_sum MX5_sum { frames := 40, cells := 0, slots := 0, locals := 896 } [.ref 54, .int (zI 0)] (nh, fh) (fun rr h9 => (∃ tk2 : Int, ∃ st2 : Int, ∃ bh2 : Int, ∃ va2 : Int, ∃ pa2 : Int, ∃ sz2 : Int, ∃ cd2 : Int → Int, rr = some (.int (zI 1)) ∧ h9 = (nh, hc fh [(54, .inr (5, [.ref 55, .int (zI ln), .int (zI tk2), .int (zI st2), .int (zI bh2), .int (zI va2), .int (zI pa2), .int (zI fl), .ref 56, .int (zI sz2)])), (56, .inl (0, 412, .inl (zA cd2)))]) ∧ (0 ≤ tk2) ∧ (tk2 ≤ 355) ∧ (0 ≤ st2) ∧ (st2 ≤ bh2) ∧ (bh2 ≤ ln) ∧ (0 ≤ va2) ∧ (va2 ≤ 1001) ∧ (0 ≤ pa2) ∧ (pa2 ≤ 50) ∧ (0 ≤ sz2) ∧ (sz2 ≤ 412) ∧ (TokL tk2 st2 bh2) ∧ (Rg cd2 412 (-2147483648) 2147483647) ∧ (sz2 + st ≤ sz + st2) ∧ (st ≤ st2)) ∨ (∃ tk2 : Int, ∃ st2 : Int, ∃ bh2 : Int, ∃ va2 : Int, ∃ pa2 : Int, ∃ sz2 : Int, ∃ cd2 : Int → Int, ∃ fl2 : Int, rr = some (.int (zI 0)) ∧ h9 = (nh, hc fh [(54, .inr (5, [.ref 55, .int (zI ln), .int (zI tk2), .int (zI st2), .int (zI bh2), .int (zI va2), .int (zI pa2), .int (zI fl2), .ref 56, .int (zI sz2)])), (56, .inl (0, 412, .inl (zA cd2)))]) ∧ (0 ≤ tk2) ∧ (tk2 ≤ 355) ∧ (0 ≤ st2) ∧ (st2 ≤ bh2) ∧ (bh2 ≤ ln) ∧ (0 ≤ va2) ∧ (va2 ≤ 1001) ∧ (0 ≤ pa2) ∧ (pa2 ≤ 50) ∧ (0 ≤ sz2) ∧ (sz2 ≤ 412) ∧ (TokL tk2 st2 bh2) ∧ (Rg cd2 412 (-2147483648) 2147483647) ∧ (0 ≤ fl2) ∧ (fl2 ≤ 400))) := by
  refine JM.of (by decide) rfl (fun h => by cases h) (Nat.le_of_ble_eq_true rfl) ⟨2, rfl⟩ ?_
  refine J_hc0 (J_ls (ls2 := [some (.ref 54), some (.int (zI 0)), none, none]) rfl ?_)
  refine J_aload_n dX5_sum_0 rfl rfl ?_
  refine J_iload_n dX5_sum_1 rfl rfl ?_
  refine J_callV (st := []) dX5_sum_2 cv_X5_89 (d_term0 ln tk st bh va pa fl sz tp cd q0 q1 q2 q3 q4 q5 q6 q7 q8 q9 q10 q11 q12 q13 q14 q15 q16 hk54 hk55 hk56) hk54 rfl rfl (Nat.le_of_ble_eq_true rfl) ⟨(Nat.le_of_ble_eq_true rfl), (Nat.le_of_ble_eq_true rfl)⟩ ⟨(Nat.le_of_ble_eq_true rfl), (Nat.le_of_ble_eq_true rfl)⟩ (fun r h9 hp => ?_)
  rcases hp with ⟨z1, z2, z3, z4, z5, z6, f7, rfl, rfl, h8, h9, h10, h11, h12, h13, h14, h15, h16, h17, h18, h19, h20, h21, h22⟩ | ⟨z23, z24, z25, z26, z27, z28, f29, z30, rfl, rfl, h31, h32, h33, h34, h35, h36, h37, h38, h39, h40, h41, h42, h43, h44, h45⟩
  · refine J_nf (nh2 := nh) (ck2 := 0) (sk2 := 0) (st2 := [.int (zI 1)]) rfl rfl rfl rfl ?_
    refine J_app (L3 := [(54, .inr (5, [.ref 55, .int (zI ln), .int (zI z1), .int (zI z2), .int (zI z3), .int (zI z4), .int (zI z5), .int (zI fl), .ref 56, .int (zI z6)])), (56, .inl (0, 412, .inl (zA f7)))]) rfl ?_
    refine Z_if_ne (tgt := 10) dX5_sum_5 (by decide) v_4dcc24baa7 (fun h46 => ?_) (fun h46 => absurd h46 v_3a47bfd896)
    refine Z_iconst (n := 0) dX5_sum_10 ?_
    refine J_istore_n dX5_sum_11 rfl (Nat.le_of_ble_eq_true rfl) rfl ?_
    refine J_ls (ls2 := [some (.ref 54), some (.int (zI 0)), some (.int (zI 0)), none]) rfl ?_
    have lp12 : ∀ (N12 : Nat) (i_12 : Int) (tx_12 : Int) (sx_12 : Int) (bx_12 : Int) (vx_12 : Int) (px_12 : Int) (zx_12 : Int) (cx_12 : Int → Int), (0 ≤ i_12) → (i_12 ≤ 400) → (zx_12 + st ≤ sz + sx_12) → (st ≤ sx_12) → (0 ≤ tx_12) → (tx_12 ≤ 355) → (0 ≤ sx_12) → (sx_12 ≤ bx_12) → (bx_12 ≤ ln) → (0 ≤ vx_12) → (vx_12 ≤ 1001) → (TokL tx_12 sx_12 bx_12) → (Rg cx_12 412 (-2147483648) 2147483647) → (0 ≤ zx_12) → (zx_12 ≤ 412) → (0 ≤ px_12) → (px_12 ≤ 50) → (400 - i_12).toNat < N12 → J l G MX5_sum { frames := 40, cells := 0, slots := 0, locals := 896 } jE (jMQ G { frames := 40, cells := 0, slots := 0, locals := 896 } (fun rr h9 => (∃ tk2 : Int, ∃ st2 : Int, ∃ bh2 : Int, ∃ va2 : Int, ∃ pa2 : Int, ∃ sz2 : Int, ∃ cd2 : Int → Int, rr = some (.int (zI 1)) ∧ h9 = (nh, hc fh [(54, .inr (5, [.ref 55, .int (zI ln), .int (zI tk2), .int (zI st2), .int (zI bh2), .int (zI va2), .int (zI pa2), .int (zI fl), .ref 56, .int (zI sz2)])), (56, .inl (0, 412, .inl (zA cd2)))]) ∧ (0 ≤ tk2) ∧ (tk2 ≤ 355) ∧ (0 ≤ st2) ∧ (st2 ≤ bh2) ∧ (bh2 ≤ ln) ∧ (0 ≤ va2) ∧ (va2 ≤ 1001) ∧ (0 ≤ pa2) ∧ (pa2 ≤ 50) ∧ (0 ≤ sz2) ∧ (sz2 ≤ 412) ∧ (TokL tk2 st2 bh2) ∧ (Rg cd2 412 (-2147483648) 2147483647) ∧ (sz2 + st ≤ sz + st2) ∧ (st ≤ st2)) ∨ (∃ tk2 : Int, ∃ st2 : Int, ∃ bh2 : Int, ∃ va2 : Int, ∃ pa2 : Int, ∃ sz2 : Int, ∃ cd2 : Int → Int, ∃ fl2 : Int, rr = some (.int (zI 0)) ∧ h9 = (nh, hc fh [(54, .inr (5, [.ref 55, .int (zI ln), .int (zI tk2), .int (zI st2), .int (zI bh2), .int (zI va2), .int (zI pa2), .int (zI fl2), .ref 56, .int (zI sz2)])), (56, .inl (0, 412, .inl (zA cd2)))]) ∧ (0 ≤ tk2) ∧ (tk2 ≤ 355) ∧ (0 ≤ st2) ∧ (st2 ≤ bh2) ∧ (bh2 ≤ ln) ∧ (0 ≤ va2) ∧ (va2 ≤ 1001) ∧ (0 ≤ pa2) ∧ (pa2 ≤ 50) ∧ (0 ≤ sz2) ∧ (sz2 ≤ 412) ∧ (TokL tk2 st2 bh2) ∧ (Rg cd2 412 (-2147483648) 2147483647) ∧ (0 ≤ fl2) ∧ (fl2 ≤ 400)))) (nh, hc fh [(54, .inr (5, [.ref 55, .int (zI ln), .int (zI tx_12), .int (zI sx_12), .int (zI bx_12), .int (zI vx_12), .int (zI px_12), .int (zI fl), .ref 56, .int (zI zx_12)])), (56, .inl (0, 412, .inl (zA cx_12)))]) 0 0 12 [some (.ref 54), some (.int (zI 0)), some (.int (zI i_12)), none] [] := by
      intro N12
      induction N12 with
      | zero => intro i_12 tx_12 sx_12 bx_12 vx_12 px_12 zx_12 cx_12 i12_0 i12_1 i12_2 i12_3 i12_4 i12_5 i12_6 i12_7 i12_8 i12_9 i12_10 i12_11 i12_12 i12_13 i12_14 i12_15 i12_16 hm; exact absurd hm (Nat.not_lt_zero _)
      | succ N12 ih12 =>
        intro i_12 tx_12 sx_12 bx_12 vx_12 px_12 zx_12 cx_12 i12_0 i12_1 i12_2 i12_3 i12_4 i12_5 i12_6 i12_7 i12_8 i12_9 i12_10 i12_11 i12_12 i12_13 i12_14 i12_15 i12_16 hm12
        refine J_iload_n dX5_sum_12 rfl rfl ?_
        refine Z_sipush (n := 400) dX5_sum_13 (by decide +kernel) ?_
        refine Z_icmp_ge (tgt := 79) dX5_sum_16 (by decide) (v_d7389cde0f i12_0 i12_1) v_d8dcd4dd52 (fun h47 => ?_) (fun h47 => ?_)
        · refine Z_iconst (n := 1) dX5_sum_79 ?_
          exact J_iret dX5_sum_80 rfl (jbn v_316afd7d0b v_bbcfac9b7d) (Nat.le_of_ble_eq_true rfl) (Nat.le_of_ble_eq_true rfl) (Or.inl ⟨tx_12, sx_12, bx_12, vx_12, px_12, zx_12, cx_12, rfl, rfl, i12_4, i12_5, i12_6, i12_7, i12_8, i12_9, i12_10, i12_15, i12_16, i12_13, i12_14, i12_11, i12_12, i12_2, i12_3⟩)
        · refine J_aload_n dX5_sum_19 rfl rfl ?_
          refine Z_bipush (n := 43) dX5_sum_20 (by decide +kernel) ?_
          refine J_callV (st := []) dX5_sum_22 cv_X5_50 (d_isSign 43 ln tx_12 sx_12 bx_12 vx_12 px_12 fl zx_12 v_8b70ad274a v_ff10987188 i12_4 i12_5 rfl) rfl rfl rfl (Nat.le_of_ble_eq_true rfl) ⟨(Nat.le_of_ble_eq_true rfl), (Nat.le_of_ble_eq_true rfl)⟩ ⟨(Nat.le_of_ble_eq_true rfl), (Nat.le_of_ble_eq_true rfl)⟩ (fun r h9 hp => ?_)
          rcases hp with ⟨rfl, rfl, h48⟩ | ⟨rfl, rfl, h49⟩
          · refine J_nf (nh2 := nh) (ck2 := 0) (sk2 := 0) (st2 := [.int (zI 1)]) rfl rfl rfl rfl ?_
            refine Z_if_ne (tgt := 37) dX5_sum_25 (by decide) v_4dcc24baa7 (fun h50 => ?_) (fun h50 => absurd h50 v_3a47bfd896)
            refine J_aload_n dX5_sum_37 rfl rfl ?_
            refine Z_bipush (n := 43) dX5_sum_38 (by decide +kernel) ?_
            refine J_callV (st := []) dX5_sum_40 cv_X5_50 (d_isSign 43 ln tx_12 sx_12 bx_12 vx_12 px_12 fl zx_12 v_8b70ad274a v_ff10987188 i12_4 i12_5 rfl) rfl rfl rfl (Nat.le_of_ble_eq_true rfl) ⟨(Nat.le_of_ble_eq_true rfl), (Nat.le_of_ble_eq_true rfl)⟩ ⟨(Nat.le_of_ble_eq_true rfl), (Nat.le_of_ble_eq_true rfl)⟩ (fun r h9 hp => ?_)
            rcases hp with ⟨rfl, rfl, h51⟩ | ⟨rfl, rfl, h52⟩
            · refine J_nf (nh2 := nh) (ck2 := 0) (sk2 := 0) (st2 := [.int (zI 1)]) rfl rfl rfl rfl ?_
              refine Z_if_eq (tgt := 50) dX5_sum_43 (by decide) v_4dcc24baa7 (fun h53 => absurd h53 v_3a47bfd896) (fun h53 => ?_)
              refine Z_iconst (n := 2) dX5_sum_46 ?_
              refine J_goto (tgt := 51) dX5_sum_47 (by decide) ?_
              refine J_istore_n dX5_sum_51 rfl (Nat.le_of_ble_eq_true rfl) rfl ?_
              refine J_ls (ls2 := [some (.ref 54), some (.int (zI 0)), some (.int (zI i_12)), some (.int (zI 2))]) rfl ?_
              refine J_aload_n dX5_sum_52 rfl rfl ?_
              have g54 := TokL.lt i12_11 (v_7a588369ee h48)
              refine J_callV (st := []) dX5_sum_53 cv_X5_43 (d_advance ln tx_12 sx_12 bx_12 vx_12 px_12 fl zx_12 tp q0 q1 (v_d253cb2c59 i12_6 g54) i12_8 i12_9 i12_10 q15 rfl hk55) rfl rfl rfl (Nat.le_of_ble_eq_true rfl) ⟨(Nat.le_of_ble_eq_true rfl), (Nat.le_of_ble_eq_true rfl)⟩ ⟨(Nat.le_of_ble_eq_true rfl), (Nat.le_of_ble_eq_true rfl)⟩ (fun r h9 hp => ?_)
              obtain ⟨z55, z56, z57, z58, rfl, rfl, h59, h60, h61, h62, h63, h64, h65, h66⟩ := hp
              refine J_nf (nh2 := nh) (ck2 := 0) (sk2 := 0) (st2 := []) rfl rfl rfl rfl ?_
              refine J_app (L3 := [(54, .inr (5, [.ref 55, .int (zI ln), .int (zI z55), .int (zI z56), .int (zI z57), .int (zI z58), .int (zI px_12), .int (zI fl), .ref 56, .int (zI zx_12)])), (54, .inr (5, [.ref 55, .int (zI ln), .int (zI tx_12), .int (zI sx_12), .int (zI bx_12), .int (zI vx_12), .int (zI px_12), .int (zI fl), .ref 56, .int (zI zx_12)])), (56, .inl (0, 412, .inl (zA cx_12)))]) rfl ?_
              refine J_mask (L2 := [(54, .inr (5, [.ref 55, .int (zI ln), .int (zI z55), .int (zI z56), .int (zI z57), .int (zI z58), .int (zI px_12), .int (zI fl), .ref 56, .int (zI zx_12)])), (56, .inl (0, 412, .inl (zA cx_12)))]) (ks := [54, 54, 56]) [true, false, true] rfl (by decide +kernel) rfl ?_
              refine J_aload_n dX5_sum_56 rfl rfl ?_
              refine J_iload_n dX5_sum_57 rfl rfl ?_
              refine J_callV (st := []) dX5_sum_58 cv_X5_89 (d_term0 ln z55 z56 z57 z58 px_12 fl zx_12 tp cx_12 q0 q1 h59 h60 (v_9b2e2070a2 i12_6 g54 h61) h62 h63 h64 h65 i12_15 i12_16 q11 i12_13 i12_14 h66 q15 i12_12 rfl hk55 rfl) rfl rfl rfl (Nat.le_of_ble_eq_true rfl) ⟨(Nat.le_of_ble_eq_true rfl), (Nat.le_of_ble_eq_true rfl)⟩ ⟨(Nat.le_of_ble_eq_true rfl), (Nat.le_of_ble_eq_true rfl)⟩ (fun r h9 hp => ?_)
              rcases hp with ⟨z67, z68, z69, z70, z71, z72, f73, rfl, rfl, h74, h75, h76, h77, h78, h79, h80, h81, h82, h83, h84, h85, h86, h87, h88⟩ | ⟨z89, z90, z91, z92, z93, z94, f95, z96, rfl, rfl, h97, h98, h99, h100, h101, h102, h103, h104, h105, h106, h107, h108, h109, h110, h111⟩
              · refine J_nf (nh2 := nh) (ck2 := 0) (sk2 := 0) (st2 := [.int (zI 1)]) rfl rfl rfl rfl ?_
                refine J_app (L3 := [(54, .inr (5, [.ref 55, .int (zI ln), .int (zI z67), .int (zI z68), .int (zI z69), .int (zI z70), .int (zI z71), .int (zI fl), .ref 56, .int (zI z72)])), (56, .inl (0, 412, .inl (zA f73))), (54, .inr (5, [.ref 55, .int (zI ln), .int (zI z55), .int (zI z56), .int (zI z57), .int (zI z58), .int (zI px_12), .int (zI fl), .ref 56, .int (zI zx_12)])), (56, .inl (0, 412, .inl (zA cx_12)))]) rfl ?_
                refine J_mask (L2 := [(54, .inr (5, [.ref 55, .int (zI ln), .int (zI z67), .int (zI z68), .int (zI z69), .int (zI z70), .int (zI z71), .int (zI fl), .ref 56, .int (zI z72)])), (56, .inl (0, 412, .inl (zA f73)))]) (ks := [54, 56, 54, 56]) [true, true, false, false] rfl (by decide +kernel) rfl ?_
                refine Z_if_ne (tgt := 66) dX5_sum_61 (by decide) v_4dcc24baa7 (fun h112 => ?_) (fun h112 => absurd h112 v_3a47bfd896)
                refine J_aload_n dX5_sum_66 rfl rfl ?_
                refine J_iload_n dX5_sum_67 rfl rfl ?_
                refine Z_iconst (n := 0) dX5_sum_68 ?_
                refine J_callV (st := []) dX5_sum_69 cv_X5_72 (d_emit 2 0 ln z67 z68 z69 z70 z71 fl z72 f73 v_9ea63c5f56 v_b17331891f h83 h84 h86 rfl rfl) rfl rfl rfl (Nat.le_of_ble_eq_true rfl) ⟨(Nat.le_of_ble_eq_true rfl), (Nat.le_of_ble_eq_true rfl)⟩ ⟨(Nat.le_of_ble_eq_true rfl), (Nat.le_of_ble_eq_true rfl)⟩ (fun r h9 hp => ?_)
                obtain ⟨z113, f114, rfl, rfl, h115, h116, h117, h118, h119⟩ := hp
                refine J_nf (nh2 := nh) (ck2 := 0) (sk2 := 0) (st2 := [.int (zI z72)]) rfl rfl rfl rfl ?_
                refine J_app (L3 := [(54, .inr (5, [.ref 55, .int (zI ln), .int (zI z67), .int (zI z68), .int (zI z69), .int (zI z70), .int (zI z71), .int (zI fl), .ref 56, .int (zI z113)])), (56, .inl (0, 412, .inl (zA f114))), (54, .inr (5, [.ref 55, .int (zI ln), .int (zI z67), .int (zI z68), .int (zI z69), .int (zI z70), .int (zI z71), .int (zI fl), .ref 56, .int (zI z72)])), (56, .inl (0, 412, .inl (zA f73)))]) rfl ?_
                refine J_mask (L2 := [(54, .inr (5, [.ref 55, .int (zI ln), .int (zI z67), .int (zI z68), .int (zI z69), .int (zI z70), .int (zI z71), .int (zI fl), .ref 56, .int (zI z113)])), (56, .inl (0, 412, .inl (zA f114)))]) (ks := [54, 56, 54, 56]) [true, true, false, false] rfl (by decide +kernel) rfl ?_
                refine J_pop dX5_sum_72 rfl ?_
                refine Z_iinc (c := i_12 + 1) (ls2 := [some (.ref 54), some (.int (zI 0)), some (.int (zI (i_12 + 1))), some (.int (zI 2))]) dX5_sum_73 rfl (Nat.le_of_ble_eq_true rfl) rfl rfl rfl ?_
                refine J_goto (tgt := 12) dX5_sum_76 (by decide) ?_
                refine J_drop (ls2 := [some (.ref 54), some (.int (zI 0)), some (.int (zI (i_12 + 1))), none]) [true, true, true, false] rfl ?_
                exact ih12 (i_12 + 1) z67 z68 z69 z70 z71 z113 f114 (v_da458fa48a i12_0) (v_6924477667 h47) (v_5af1455273 i12_2 g54 h61 h87 h118) (v_269579bf42 i12_3 g54 h61 h88) h74 h75 h76 h77 h78 h79 h80 h85 h119 h115 h116 h81 h82 (meas_lt v_ceb2ed6d2b (v_44ddc35e90 h47) hm12)
              · refine J_nf (nh2 := nh) (ck2 := 0) (sk2 := 0) (st2 := [.int (zI 0)]) rfl rfl rfl rfl ?_
                refine J_app (L3 := [(54, .inr (5, [.ref 55, .int (zI ln), .int (zI z89), .int (zI z90), .int (zI z91), .int (zI z92), .int (zI z93), .int (zI z96), .ref 56, .int (zI z94)])), (56, .inl (0, 412, .inl (zA f95))), (54, .inr (5, [.ref 55, .int (zI ln), .int (zI z55), .int (zI z56), .int (zI z57), .int (zI z58), .int (zI px_12), .int (zI fl), .ref 56, .int (zI zx_12)])), (56, .inl (0, 412, .inl (zA cx_12)))]) rfl ?_
                refine J_mask (L2 := [(54, .inr (5, [.ref 55, .int (zI ln), .int (zI z89), .int (zI z90), .int (zI z91), .int (zI z92), .int (zI z93), .int (zI z96), .ref 56, .int (zI z94)])), (56, .inl (0, 412, .inl (zA f95)))]) (ks := [54, 56, 54, 56]) [true, true, false, false] rfl (by decide +kernel) rfl ?_
                refine Z_if_ne (tgt := 66) dX5_sum_61 (by decide) v_b17331891f (fun h120 => absurd h120 (fun q => q v_2ca2bbca1f)) (fun h120 => ?_)
                refine Z_iconst (n := 0) dX5_sum_64 ?_
                exact J_iret dX5_sum_65 rfl (jbn v_939070ca3f v_316afd7d0b) (Nat.le_of_ble_eq_true rfl) (Nat.le_of_ble_eq_true rfl) (Or.inr ⟨z89, z90, z91, z92, z93, z94, f95, z96, rfl, rfl, h97, h98, h99, h100, h101, h102, h103, h104, h105, h106, h107, h108, h109, h110, h111⟩)
            · exact False.elim (v_a48d9a0d20 h48 h52)
          · refine J_nf (nh2 := nh) (ck2 := 0) (sk2 := 0) (st2 := [.int (zI 0)]) rfl rfl rfl rfl ?_
            refine Z_if_ne (tgt := 37) dX5_sum_25 (by decide) v_b17331891f (fun h121 => absurd h121 (fun q => q v_2ca2bbca1f)) (fun h121 => ?_)
            refine J_aload_n dX5_sum_28 rfl rfl ?_
            refine Z_bipush (n := 45) dX5_sum_29 (by decide +kernel) ?_
            refine J_callV (st := []) dX5_sum_31 cv_X5_50 (d_isSign 45 ln tx_12 sx_12 bx_12 vx_12 px_12 fl zx_12 v_8bc5410605 v_46bbb1acae i12_4 i12_5 rfl) rfl rfl rfl (Nat.le_of_ble_eq_true rfl) ⟨(Nat.le_of_ble_eq_true rfl), (Nat.le_of_ble_eq_true rfl)⟩ ⟨(Nat.le_of_ble_eq_true rfl), (Nat.le_of_ble_eq_true rfl)⟩ (fun r h9 hp => ?_)
            rcases hp with ⟨rfl, rfl, h122⟩ | ⟨rfl, rfl, h123⟩
            · refine J_nf (nh2 := nh) (ck2 := 0) (sk2 := 0) (st2 := [.int (zI 1)]) rfl rfl rfl rfl ?_
              refine Z_if_eq (tgt := 79) dX5_sum_34 (by decide) v_4dcc24baa7 (fun h124 => absurd h124 v_3a47bfd896) (fun h124 => ?_)
              refine J_aload_n dX5_sum_37 rfl rfl ?_
              refine Z_bipush (n := 43) dX5_sum_38 (by decide +kernel) ?_
              refine J_callV (st := []) dX5_sum_40 cv_X5_50 (d_isSign 43 ln tx_12 sx_12 bx_12 vx_12 px_12 fl zx_12 v_8b70ad274a v_ff10987188 i12_4 i12_5 rfl) rfl rfl rfl (Nat.le_of_ble_eq_true rfl) ⟨(Nat.le_of_ble_eq_true rfl), (Nat.le_of_ble_eq_true rfl)⟩ ⟨(Nat.le_of_ble_eq_true rfl), (Nat.le_of_ble_eq_true rfl)⟩ (fun r h9 hp => ?_)
              rcases hp with ⟨rfl, rfl, h125⟩ | ⟨rfl, rfl, h126⟩
              · exact False.elim (v_1d6e974349 h122 h125)
              · refine J_nf (nh2 := nh) (ck2 := 0) (sk2 := 0) (st2 := [.int (zI 0)]) rfl rfl rfl rfl ?_
                refine Z_if_eq (tgt := 50) dX5_sum_43 (by decide) v_b17331891f (fun h127 => ?_) (fun h127 => absurd h127 (fun q => q v_2ca2bbca1f))
                refine Z_iconst (n := 3) dX5_sum_50 ?_
                refine J_istore_n dX5_sum_51 rfl (Nat.le_of_ble_eq_true rfl) rfl ?_
                refine J_ls (ls2 := [some (.ref 54), some (.int (zI 0)), some (.int (zI i_12)), some (.int (zI 3))]) rfl ?_
                refine J_aload_n dX5_sum_52 rfl rfl ?_
                have g128 := TokL.lt i12_11 (v_1c70dbbeab h122)
                refine J_callV (st := []) dX5_sum_53 cv_X5_43 (d_advance ln tx_12 sx_12 bx_12 vx_12 px_12 fl zx_12 tp q0 q1 (v_d253cb2c59 i12_6 g128) i12_8 i12_9 i12_10 q15 rfl hk55) rfl rfl rfl (Nat.le_of_ble_eq_true rfl) ⟨(Nat.le_of_ble_eq_true rfl), (Nat.le_of_ble_eq_true rfl)⟩ ⟨(Nat.le_of_ble_eq_true rfl), (Nat.le_of_ble_eq_true rfl)⟩ (fun r h9 hp => ?_)
                obtain ⟨z129, z130, z131, z132, rfl, rfl, h133, h134, h135, h136, h137, h138, h139, h140⟩ := hp
                refine J_nf (nh2 := nh) (ck2 := 0) (sk2 := 0) (st2 := []) rfl rfl rfl rfl ?_
                refine J_app (L3 := [(54, .inr (5, [.ref 55, .int (zI ln), .int (zI z129), .int (zI z130), .int (zI z131), .int (zI z132), .int (zI px_12), .int (zI fl), .ref 56, .int (zI zx_12)])), (54, .inr (5, [.ref 55, .int (zI ln), .int (zI tx_12), .int (zI sx_12), .int (zI bx_12), .int (zI vx_12), .int (zI px_12), .int (zI fl), .ref 56, .int (zI zx_12)])), (56, .inl (0, 412, .inl (zA cx_12)))]) rfl ?_
                refine J_mask (L2 := [(54, .inr (5, [.ref 55, .int (zI ln), .int (zI z129), .int (zI z130), .int (zI z131), .int (zI z132), .int (zI px_12), .int (zI fl), .ref 56, .int (zI zx_12)])), (56, .inl (0, 412, .inl (zA cx_12)))]) (ks := [54, 54, 56]) [true, false, true] rfl (by decide +kernel) rfl ?_
                refine J_aload_n dX5_sum_56 rfl rfl ?_
                refine J_iload_n dX5_sum_57 rfl rfl ?_
                refine J_callV (st := []) dX5_sum_58 cv_X5_89 (d_term0 ln z129 z130 z131 z132 px_12 fl zx_12 tp cx_12 q0 q1 h133 h134 (v_9b2e2070a2 i12_6 g128 h135) h136 h137 h138 h139 i12_15 i12_16 q11 i12_13 i12_14 h140 q15 i12_12 rfl hk55 rfl) rfl rfl rfl (Nat.le_of_ble_eq_true rfl) ⟨(Nat.le_of_ble_eq_true rfl), (Nat.le_of_ble_eq_true rfl)⟩ ⟨(Nat.le_of_ble_eq_true rfl), (Nat.le_of_ble_eq_true rfl)⟩ (fun r h9 hp => ?_)
                rcases hp with ⟨z141, z142, z143, z144, z145, z146, f147, rfl, rfl, h148, h149, h150, h151, h152, h153, h154, h155, h156, h157, h158, h159, h160, h161, h162⟩ | ⟨z163, z164, z165, z166, z167, z168, f169, z170, rfl, rfl, h171, h172, h173, h174, h175, h176, h177, h178, h179, h180, h181, h182, h183, h184, h185⟩
                · refine J_nf (nh2 := nh) (ck2 := 0) (sk2 := 0) (st2 := [.int (zI 1)]) rfl rfl rfl rfl ?_
                  refine J_app (L3 := [(54, .inr (5, [.ref 55, .int (zI ln), .int (zI z141), .int (zI z142), .int (zI z143), .int (zI z144), .int (zI z145), .int (zI fl), .ref 56, .int (zI z146)])), (56, .inl (0, 412, .inl (zA f147))), (54, .inr (5, [.ref 55, .int (zI ln), .int (zI z129), .int (zI z130), .int (zI z131), .int (zI z132), .int (zI px_12), .int (zI fl), .ref 56, .int (zI zx_12)])), (56, .inl (0, 412, .inl (zA cx_12)))]) rfl ?_
                  refine J_mask (L2 := [(54, .inr (5, [.ref 55, .int (zI ln), .int (zI z141), .int (zI z142), .int (zI z143), .int (zI z144), .int (zI z145), .int (zI fl), .ref 56, .int (zI z146)])), (56, .inl (0, 412, .inl (zA f147)))]) (ks := [54, 56, 54, 56]) [true, true, false, false] rfl (by decide +kernel) rfl ?_
                  refine Z_if_ne (tgt := 66) dX5_sum_61 (by decide) v_4dcc24baa7 (fun h186 => ?_) (fun h186 => absurd h186 v_3a47bfd896)
                  refine J_aload_n dX5_sum_66 rfl rfl ?_
                  refine J_iload_n dX5_sum_67 rfl rfl ?_
                  refine Z_iconst (n := 0) dX5_sum_68 ?_
                  refine J_callV (st := []) dX5_sum_69 cv_X5_72 (d_emit 3 0 ln z141 z142 z143 z144 z145 fl z146 f147 v_1cc5223c3a v_b17331891f h157 h158 h160 rfl rfl) rfl rfl rfl (Nat.le_of_ble_eq_true rfl) ⟨(Nat.le_of_ble_eq_true rfl), (Nat.le_of_ble_eq_true rfl)⟩ ⟨(Nat.le_of_ble_eq_true rfl), (Nat.le_of_ble_eq_true rfl)⟩ (fun r h9 hp => ?_)
                  obtain ⟨z187, f188, rfl, rfl, h189, h190, h191, h192, h193⟩ := hp
                  refine J_nf (nh2 := nh) (ck2 := 0) (sk2 := 0) (st2 := [.int (zI z146)]) rfl rfl rfl rfl ?_
                  refine J_app (L3 := [(54, .inr (5, [.ref 55, .int (zI ln), .int (zI z141), .int (zI z142), .int (zI z143), .int (zI z144), .int (zI z145), .int (zI fl), .ref 56, .int (zI z187)])), (56, .inl (0, 412, .inl (zA f188))), (54, .inr (5, [.ref 55, .int (zI ln), .int (zI z141), .int (zI z142), .int (zI z143), .int (zI z144), .int (zI z145), .int (zI fl), .ref 56, .int (zI z146)])), (56, .inl (0, 412, .inl (zA f147)))]) rfl ?_
                  refine J_mask (L2 := [(54, .inr (5, [.ref 55, .int (zI ln), .int (zI z141), .int (zI z142), .int (zI z143), .int (zI z144), .int (zI z145), .int (zI fl), .ref 56, .int (zI z187)])), (56, .inl (0, 412, .inl (zA f188)))]) (ks := [54, 56, 54, 56]) [true, true, false, false] rfl (by decide +kernel) rfl ?_
                  refine J_pop dX5_sum_72 rfl ?_
                  refine Z_iinc (c := i_12 + 1) (ls2 := [some (.ref 54), some (.int (zI 0)), some (.int (zI (i_12 + 1))), some (.int (zI 3))]) dX5_sum_73 rfl (Nat.le_of_ble_eq_true rfl) rfl rfl rfl ?_
                  refine J_goto (tgt := 12) dX5_sum_76 (by decide) ?_
                  refine J_drop (ls2 := [some (.ref 54), some (.int (zI 0)), some (.int (zI (i_12 + 1))), none]) [true, true, true, false] rfl ?_
                  exact ih12 (i_12 + 1) z141 z142 z143 z144 z145 z187 f188 (v_da458fa48a i12_0) (v_6924477667 h47) (v_5af1455273 i12_2 g128 h135 h161 h192) (v_269579bf42 i12_3 g128 h135 h162) h148 h149 h150 h151 h152 h153 h154 h159 h193 h189 h190 h155 h156 (meas_lt v_ceb2ed6d2b (v_44ddc35e90 h47) hm12)
                · refine J_nf (nh2 := nh) (ck2 := 0) (sk2 := 0) (st2 := [.int (zI 0)]) rfl rfl rfl rfl ?_
                  refine J_app (L3 := [(54, .inr (5, [.ref 55, .int (zI ln), .int (zI z163), .int (zI z164), .int (zI z165), .int (zI z166), .int (zI z167), .int (zI z170), .ref 56, .int (zI z168)])), (56, .inl (0, 412, .inl (zA f169))), (54, .inr (5, [.ref 55, .int (zI ln), .int (zI z129), .int (zI z130), .int (zI z131), .int (zI z132), .int (zI px_12), .int (zI fl), .ref 56, .int (zI zx_12)])), (56, .inl (0, 412, .inl (zA cx_12)))]) rfl ?_
                  refine J_mask (L2 := [(54, .inr (5, [.ref 55, .int (zI ln), .int (zI z163), .int (zI z164), .int (zI z165), .int (zI z166), .int (zI z167), .int (zI z170), .ref 56, .int (zI z168)])), (56, .inl (0, 412, .inl (zA f169)))]) (ks := [54, 56, 54, 56]) [true, true, false, false] rfl (by decide +kernel) rfl ?_
                  refine Z_if_ne (tgt := 66) dX5_sum_61 (by decide) v_b17331891f (fun h194 => absurd h194 (fun q => q v_2ca2bbca1f)) (fun h194 => ?_)
                  refine Z_iconst (n := 0) dX5_sum_64 ?_
                  exact J_iret dX5_sum_65 rfl (jbn v_939070ca3f v_316afd7d0b) (Nat.le_of_ble_eq_true rfl) (Nat.le_of_ble_eq_true rfl) (Or.inr ⟨z163, z164, z165, z166, z167, z168, f169, z170, rfl, rfl, h171, h172, h173, h174, h175, h176, h177, h178, h179, h180, h181, h182, h183, h184, h185⟩)
            · refine J_nf (nh2 := nh) (ck2 := 0) (sk2 := 0) (st2 := [.int (zI 0)]) rfl rfl rfl rfl ?_
              refine Z_if_eq (tgt := 79) dX5_sum_34 (by decide) v_b17331891f (fun h195 => ?_) (fun h195 => absurd h195 (fun q => q v_2ca2bbca1f))
              refine Z_iconst (n := 1) dX5_sum_79 ?_
              exact J_iret dX5_sum_80 rfl (jbn v_316afd7d0b v_bbcfac9b7d) (Nat.le_of_ble_eq_true rfl) (Nat.le_of_ble_eq_true rfl) (Or.inl ⟨tx_12, sx_12, bx_12, vx_12, px_12, zx_12, cx_12, rfl, rfl, i12_4, i12_5, i12_6, i12_7, i12_8, i12_9, i12_10, i12_15, i12_16, i12_13, i12_14, i12_11, i12_12, i12_2, i12_3⟩)
    exact lp12 _ 0 z1 z2 z3 z4 z5 z6 f7 v_939070ca3f v_5ab96f7b5e h21 h22 h8 h9 h10 h11 h12 h13 h14 h19 h20 h17 h18 h15 h16 (Nat.lt_succ_self _)
  · refine J_nf (nh2 := nh) (ck2 := 0) (sk2 := 0) (st2 := [.int (zI 0)]) rfl rfl rfl rfl ?_
    refine J_app (L3 := [(54, .inr (5, [.ref 55, .int (zI ln), .int (zI z23), .int (zI z24), .int (zI z25), .int (zI z26), .int (zI z27), .int (zI z30), .ref 56, .int (zI z28)])), (56, .inl (0, 412, .inl (zA f29)))]) rfl ?_
    refine Z_if_ne (tgt := 10) dX5_sum_5 (by decide) v_b17331891f (fun h196 => absurd h196 (fun q => q v_2ca2bbca1f)) (fun h196 => ?_)
    refine Z_iconst (n := 0) dX5_sum_8 ?_
    exact J_iret dX5_sum_9 rfl (jbn v_939070ca3f v_316afd7d0b) (Nat.le_of_ble_eq_true rfl) (Nat.le_of_ble_eq_true rfl) (Or.inr ⟨z23, z24, z25, z26, z27, z28, f29, z30, rfl, rfl, h31, h32, h33, h34, h35, h36, h37, h38, h39, h40, h41, h42, h43, h44, h45⟩)
set_option maxHeartbeats 4000000 in
set_option maxRecDepth 100000 in
theorem d_bracketedTest0 {l : Launch} {G : jG} {nh : Nat} {fh : Nat → Option va_E} (ln : Int) (tk : Int) (st : Int) (bh : Int) (va : Int) (pa : Int) (fl : Int) (sz : Int) (tp : Int → Int) (cd : Int → Int) (q0 : 0 ≤ ln) (q1 : ln ≤ 400) (q2 : 0 ≤ tk) (q3 : tk ≤ 355) (q4 : 0 ≤ st) (q5 : st ≤ bh) (q6 : bh ≤ ln) (q7 : 0 ≤ va) (q8 : va ≤ 1001) (q9 : 0 ≤ pa) (q10 : pa ≤ 50) (q11 : zr fl) (q12 : 0 ≤ sz) (q13 : sz ≤ 412) (q14 : TokL tk st bh) (q15 : Rg tp 400 0 255) (q16 : Rg cd 412 (-2147483648) 2147483647) (hk54 : fh 54 = some (.inr (5, [.ref 55, .int (zI ln), .int (zI tk), .int (zI st), .int (zI bh), .int (zI va), .int (zI pa), .int (zI fl), .ref 56, .int (zI sz)]))) (hk55 : fh 55 = some (.inl (0, 400, .inl (zA tp)))) (hk56 : fh 56 = some (.inl (0, 412, .inl (zA cd)))) : JM l G yX5_bracketedTest MX5_bracketedTest { frames := 40, cells := 0, slots := 0, locals := 898 } [.ref 54, .int (zI 0)] (nh, fh) (fun rr h9 => (∃ tk2 : Int, ∃ st2 : Int, ∃ bh2 : Int, ∃ va2 : Int, ∃ pa2 : Int, ∃ sz2 : Int, ∃ cd2 : Int → Int, rr = some (.int (zI 1)) ∧ h9 = (nh, hc fh [(54, .inr (5, [.ref 55, .int (zI ln), .int (zI tk2), .int (zI st2), .int (zI bh2), .int (zI va2), .int (zI pa2), .int (zI fl), .ref 56, .int (zI sz2)])), (56, .inl (0, 412, .inl (zA cd2)))]) ∧ (0 ≤ tk2) ∧ (tk2 ≤ 355) ∧ (0 ≤ st2) ∧ (st2 ≤ bh2) ∧ (bh2 ≤ ln) ∧ (0 ≤ va2) ∧ (va2 ≤ 1001) ∧ (0 ≤ pa2) ∧ (pa2 ≤ 50) ∧ (0 ≤ sz2) ∧ (sz2 ≤ 412) ∧ (TokL tk2 st2 bh2) ∧ (Rg cd2 412 (-2147483648) 2147483647) ∧ (sz2 + st ≤ sz + st2) ∧ (st ≤ st2)) ∨ (∃ tk2 : Int, ∃ st2 : Int, ∃ bh2 : Int, ∃ va2 : Int, ∃ pa2 : Int, ∃ sz2 : Int, ∃ cd2 : Int → Int, ∃ fl2 : Int, rr = some (.int (zI 0)) ∧ h9 = (nh, hc fh [(54, .inr (5, [.ref 55, .int (zI ln), .int (zI tk2), .int (zI st2), .int (zI bh2), .int (zI va2), .int (zI pa2), .int (zI fl2), .ref 56, .int (zI sz2)])), (56, .inl (0, 412, .inl (zA cd2)))]) ∧ (0 ≤ tk2) ∧ (tk2 ≤ 355) ∧ (0 ≤ st2) ∧ (st2 ≤ bh2) ∧ (bh2 ≤ ln) ∧ (0 ≤ va2) ∧ (va2 ≤ 1001) ∧ (0 ≤ pa2) ∧ (pa2 ≤ 50) ∧ (0 ≤ sz2) ∧ (sz2 ≤ 412) ∧ (TokL tk2 st2 bh2) ∧ (Rg cd2 412 (-2147483648) 2147483647) ∧ (0 ≤ fl2) ∧ (fl2 ≤ 400))) := by
  refine JM.of (by decide) rfl (fun h => by cases h) (Nat.le_of_ble_eq_true rfl) ⟨0, rfl⟩ ?_
  refine J_hc0 (J_ls (ls2 := [some (.ref 54), some (.int (zI 0))]) rfl ?_)
  refine J_iload_n dX5_bracketedTest_0 rfl rfl ?_
  refine Z_bipush (n := 8) dX5_bracketedTest_1 (by decide +kernel) ?_
  refine Z_icmp_lt (tgt := 11) dX5_bracketedTest_3 (by decide) v_b17331891f v_665891e294 (fun h1 => ?_) (fun h1 => absurd h1 (fun q => q v_d437d0a088))
  refine J_aload_n dX5_bracketedTest_11 rfl rfl ?_
  refine J_callV (st := []) dX5_bracketedTest_12 cv_X5_43 (d_advance ln tk st bh va pa fl sz tp q0 q1 (v_21976c7318 q4 q5) q6 q7 q8 q15 hk54 hk55) hk54 rfl rfl (Nat.le_of_ble_eq_true rfl) ⟨(Nat.le_of_ble_eq_true rfl), (Nat.le_of_ble_eq_true rfl)⟩ ⟨(Nat.le_of_ble_eq_true rfl), (Nat.le_of_ble_eq_true rfl)⟩ (fun r h9 hp => ?_)
  obtain ⟨z2, z3, z4, z5, rfl, rfl, h6, h7, h8, h9, h10, h11, h12, h13⟩ := hp
  refine J_nf (nh2 := nh) (ck2 := 0) (sk2 := 0) (st2 := []) rfl rfl rfl rfl ?_
  refine J_app (L3 := [(54, .inr (5, [.ref 55, .int (zI ln), .int (zI z2), .int (zI z3), .int (zI z4), .int (zI z5), .int (zI pa), .int (zI fl), .ref 56, .int (zI sz)]))]) rfl ?_
  refine J_aload_n dX5_bracketedTest_15 rfl rfl ?_
  refine J_iload_n dX5_bracketedTest_16 rfl rfl ?_
  refine Z_iconst (n := 1) dX5_bracketedTest_17 ?_
  refine Z_iadd (c := 1) dX5_bracketedTest_18 v_a8511d4785 ?_
  refine J_callV (st := []) dX5_bracketedTest_19 cv_X5_67 (d_test1 ln z2 z3 z4 z5 pa fl sz tp cd q0 q1 h6 h7 (v_7eaccd6eb1 q4 q5 h8) h9 h10 h11 h12 q9 q10 q11 q12 q13 h13 q15 q16 rfl hk55 hk56) rfl rfl rfl (Nat.le_of_ble_eq_true rfl) ⟨(Nat.le_of_ble_eq_true rfl), (Nat.le_of_ble_eq_true rfl)⟩ ⟨(Nat.le_of_ble_eq_true rfl), (Nat.le_of_ble_eq_true rfl)⟩ (fun r h9 hp => ?_)
  rcases hp with ⟨z14, z15, z16, z17, z18, z19, f20, rfl, rfl, h21, h22, h23, h24, h25, h26, h27, h28, h29, h30, h31, h32, h33, h34, h35⟩ | ⟨z36, z37, z38, z39, z40, z41, f42, z43, rfl, rfl, h44, h45, h46, h47, h48, h49, h50, h51, h52, h53, h54, h55, h56, h57, h58⟩
  · refine J_nf (nh2 := nh) (ck2 := 0) (sk2 := 0) (st2 := [.int (zI 1)]) rfl rfl rfl rfl ?_
    refine J_app (L3 := [(54, .inr (5, [.ref 55, .int (zI ln), .int (zI z14), .int (zI z15), .int (zI z16), .int (zI z17), .int (zI z18), .int (zI fl), .ref 56, .int (zI z19)])), (56, .inl (0, 412, .inl (zA f20))), (54, .inr (5, [.ref 55, .int (zI ln), .int (zI z2), .int (zI z3), .int (zI z4), .int (zI z5), .int (zI pa), .int (zI fl), .ref 56, .int (zI sz)]))]) rfl ?_
    refine J_mask (L2 := [(54, .inr (5, [.ref 55, .int (zI ln), .int (zI z14), .int (zI z15), .int (zI z16), .int (zI z17), .int (zI z18), .int (zI fl), .ref 56, .int (zI z19)])), (56, .inl (0, 412, .inl (zA f20)))]) (ks := [54, 56, 54]) [true, true, false] rfl (by decide +kernel) rfl ?_
    refine Z_if_ne (tgt := 27) dX5_bracketedTest_22 (by decide) v_4dcc24baa7 (fun h59 => ?_) (fun h59 => absurd h59 v_3a47bfd896)
    refine J_aload_n dX5_bracketedTest_27 rfl rfl ?_
    refine Z_bipush (n := 41) dX5_bracketedTest_28 (by decide +kernel) ?_
    refine J_callV (st := []) dX5_bracketedTest_30 cv_X5_50 (d_isSign 41 ln z14 z15 z16 z17 z18 fl z19 v_eff0eb06dc v_d0aa1234d6 h21 h22 rfl) rfl rfl rfl (Nat.le_of_ble_eq_true rfl) ⟨(Nat.le_of_ble_eq_true rfl), (Nat.le_of_ble_eq_true rfl)⟩ ⟨(Nat.le_of_ble_eq_true rfl), (Nat.le_of_ble_eq_true rfl)⟩ (fun r h9 hp => ?_)
    rcases hp with ⟨rfl, rfl, h60⟩ | ⟨rfl, rfl, h61⟩
    · refine J_nf (nh2 := nh) (ck2 := 0) (sk2 := 0) (st2 := [.int (zI 1)]) rfl rfl rfl rfl ?_
      refine Z_if_ne (tgt := 41) dX5_bracketedTest_33 (by decide) v_4dcc24baa7 (fun h62 => ?_) (fun h62 => absurd h62 v_3a47bfd896)
      refine J_aload_n dX5_bracketedTest_41 rfl rfl ?_
      have g63 := TokL.lt h32 (v_5f6578b310 h60)
      refine J_callV (st := []) dX5_bracketedTest_42 cv_X5_43 (d_advance ln z14 z15 z16 z17 z18 fl z19 tp q0 q1 (v_d253cb2c59 h23 g63) h25 h26 h27 q15 rfl hk55) rfl rfl rfl (Nat.le_of_ble_eq_true rfl) ⟨(Nat.le_of_ble_eq_true rfl), (Nat.le_of_ble_eq_true rfl)⟩ ⟨(Nat.le_of_ble_eq_true rfl), (Nat.le_of_ble_eq_true rfl)⟩ (fun r h9 hp => ?_)
      obtain ⟨z64, z65, z66, z67, rfl, rfl, h68, h69, h70, h71, h72, h73, h74, h75⟩ := hp
      refine J_nf (nh2 := nh) (ck2 := 0) (sk2 := 0) (st2 := []) rfl rfl rfl rfl ?_
      refine J_app (L3 := [(54, .inr (5, [.ref 55, .int (zI ln), .int (zI z64), .int (zI z65), .int (zI z66), .int (zI z67), .int (zI z18), .int (zI fl), .ref 56, .int (zI z19)])), (54, .inr (5, [.ref 55, .int (zI ln), .int (zI z14), .int (zI z15), .int (zI z16), .int (zI z17), .int (zI z18), .int (zI fl), .ref 56, .int (zI z19)])), (56, .inl (0, 412, .inl (zA f20)))]) rfl ?_
      refine J_mask (L2 := [(54, .inr (5, [.ref 55, .int (zI ln), .int (zI z64), .int (zI z65), .int (zI z66), .int (zI z67), .int (zI z18), .int (zI fl), .ref 56, .int (zI z19)])), (56, .inl (0, 412, .inl (zA f20)))]) (ks := [54, 54, 56]) [true, false, true] rfl (by decide +kernel) rfl ?_
      refine Z_iconst (n := 1) dX5_bracketedTest_45 ?_
      exact J_iret dX5_bracketedTest_46 rfl (jbn v_316afd7d0b v_bbcfac9b7d) (Nat.le_of_ble_eq_true rfl) (Nat.le_of_ble_eq_true rfl) (Or.inl ⟨z64, z65, z66, z67, z18, z19, f20, rfl, rfl, h68, h69, (v_9b2e2070a2 h23 g63 h70), h71, h72, h73, h74, h28, h29, h30, h31, h75, h33, (v_a156850946 q5 h8 h34 g63 h70), (v_b3d66fcd45 q5 h8 h35 g63 h70)⟩)
    · refine J_nf (nh2 := nh) (ck2 := 0) (sk2 := 0) (st2 := [.int (zI 0)]) rfl rfl rfl rfl ?_
      refine Z_if_ne (tgt := 41) dX5_bracketedTest_33 (by decide) v_b17331891f (fun h76 => absurd h76 (fun q => q v_2ca2bbca1f)) (fun h76 => ?_)
      refine J_aload_n dX5_bracketedTest_36 rfl rfl ?_
      refine J_callV (st := []) dX5_bracketedTest_37 cv_X5_54 (d_wrong ln z14 z15 z16 z17 z18 fl z19 h23 (v_1adcfdfee5 q1 h24 h25) rfl) rfl rfl rfl (Nat.le_of_ble_eq_true rfl) ⟨(Nat.le_of_ble_eq_true rfl), (Nat.le_of_ble_eq_true rfl)⟩ ⟨(Nat.le_of_ble_eq_true rfl), (Nat.le_of_ble_eq_true rfl)⟩ (fun r h9 hp => ?_)
      obtain ⟨rfl, rfl⟩ := hp
      refine J_nf (nh2 := nh) (ck2 := 0) (sk2 := 0) (st2 := [.int (zI 0)]) rfl rfl rfl rfl ?_
      refine J_app (L3 := [(54, .inr (5, [.ref 55, .int (zI ln), .int (zI z14), .int (zI z15), .int (zI z16), .int (zI z17), .int (zI z18), .int (zI z15), .ref 56, .int (zI z19)])), (54, .inr (5, [.ref 55, .int (zI ln), .int (zI z14), .int (zI z15), .int (zI z16), .int (zI z17), .int (zI z18), .int (zI fl), .ref 56, .int (zI z19)])), (56, .inl (0, 412, .inl (zA f20)))]) rfl ?_
      refine J_mask (L2 := [(54, .inr (5, [.ref 55, .int (zI ln), .int (zI z14), .int (zI z15), .int (zI z16), .int (zI z17), .int (zI z18), .int (zI z15), .ref 56, .int (zI z19)])), (56, .inl (0, 412, .inl (zA f20)))]) (ks := [54, 54, 56]) [true, false, true] rfl (by decide +kernel) rfl ?_
      exact J_iret dX5_bracketedTest_40 rfl (jbn v_939070ca3f v_316afd7d0b) (Nat.le_of_ble_eq_true rfl) (Nat.le_of_ble_eq_true rfl) (Or.inr ⟨z14, z15, z16, z17, z18, z19, f20, z15, rfl, rfl, h21, h22, h23, h24, h25, h26, h27, h28, h29, h30, h31, h32, h33, h23, (v_1adcfdfee5 q1 h24 h25)⟩)
  · refine J_nf (nh2 := nh) (ck2 := 0) (sk2 := 0) (st2 := [.int (zI 0)]) rfl rfl rfl rfl ?_
    refine J_app (L3 := [(54, .inr (5, [.ref 55, .int (zI ln), .int (zI z36), .int (zI z37), .int (zI z38), .int (zI z39), .int (zI z40), .int (zI z43), .ref 56, .int (zI z41)])), (56, .inl (0, 412, .inl (zA f42))), (54, .inr (5, [.ref 55, .int (zI ln), .int (zI z2), .int (zI z3), .int (zI z4), .int (zI z5), .int (zI pa), .int (zI fl), .ref 56, .int (zI sz)]))]) rfl ?_
    refine J_mask (L2 := [(54, .inr (5, [.ref 55, .int (zI ln), .int (zI z36), .int (zI z37), .int (zI z38), .int (zI z39), .int (zI z40), .int (zI z43), .ref 56, .int (zI z41)])), (56, .inl (0, 412, .inl (zA f42)))]) (ks := [54, 56, 54]) [true, true, false] rfl (by decide +kernel) rfl ?_
    refine Z_if_ne (tgt := 27) dX5_bracketedTest_22 (by decide) v_b17331891f (fun h77 => absurd h77 (fun q => q v_2ca2bbca1f)) (fun h77 => ?_)
    refine Z_iconst (n := 0) dX5_bracketedTest_25 ?_
    exact J_iret dX5_bracketedTest_26 rfl (jbn v_939070ca3f v_316afd7d0b) (Nat.le_of_ble_eq_true rfl) (Nat.le_of_ble_eq_true rfl) (Or.inr ⟨z36, z37, z38, z39, z40, z41, f42, z43, rfl, rfl, h44, h45, h46, h47, h48, h49, h50, h51, h52, h53, h54, h55, h56, h57, h58⟩)
set_option maxHeartbeats 4000000 in
set_option maxRecDepth 100000 in
theorem d_plain0 {l : Launch} {G : jG} {nh : Nat} {fh : Nat → Option va_E} (ln : Int) (tk : Int) (st : Int) (bh : Int) (va : Int) (pa : Int) (fl : Int) (sz : Int) (tp : Int → Int) (cd : Int → Int) (q0 : 0 ≤ ln) (q1 : ln ≤ 400) (q2 : 0 ≤ tk) (q3 : tk ≤ 355) (q4 : 0 ≤ st) (q5 : st ≤ bh) (q6 : bh ≤ ln) (q7 : 0 ≤ va) (q8 : va ≤ 1001) (q9 : 0 ≤ pa) (q10 : pa ≤ 50) (q11 : zr fl) (q12 : 0 ≤ sz) (q13 : sz ≤ 412) (q14 : TokL tk st bh) (q15 : Rg tp 400 0 255) (q16 : Rg cd 412 (-2147483648) 2147483647) (hk54 : fh 54 = some (.inr (5, [.ref 55, .int (zI ln), .int (zI tk), .int (zI st), .int (zI bh), .int (zI va), .int (zI pa), .int (zI fl), .ref 56, .int (zI sz)]))) (hk55 : fh 55 = some (.inl (0, 400, .inl (zA tp)))) (hk56 : fh 56 = some (.inl (0, 412, .inl (zA cd)))) : JM l G yX5_plain MX5_plain { frames := 41, cells := 0, slots := 0, locals := 919 } [.ref 54, .int (zI 0)] (nh, fh) (fun rr h9 => (∃ tk2 : Int, ∃ st2 : Int, ∃ bh2 : Int, ∃ va2 : Int, ∃ pa2 : Int, ∃ sz2 : Int, ∃ cd2 : Int → Int, rr = some (.int (zI 1)) ∧ h9 = (nh, hc fh [(54, .inr (5, [.ref 55, .int (zI ln), .int (zI tk2), .int (zI st2), .int (zI bh2), .int (zI va2), .int (zI pa2), .int (zI fl), .ref 56, .int (zI sz2)])), (56, .inl (0, 412, .inl (zA cd2)))]) ∧ (0 ≤ tk2) ∧ (tk2 ≤ 355) ∧ (0 ≤ st2) ∧ (st2 ≤ bh2) ∧ (bh2 ≤ ln) ∧ (0 ≤ va2) ∧ (va2 ≤ 1001) ∧ (0 ≤ pa2) ∧ (pa2 ≤ 50) ∧ (0 ≤ sz2) ∧ (sz2 ≤ 412) ∧ (TokL tk2 st2 bh2) ∧ (Rg cd2 412 (-2147483648) 2147483647) ∧ (sz2 + st ≤ sz + st2) ∧ (st ≤ st2)) ∨ (∃ tk2 : Int, ∃ st2 : Int, ∃ bh2 : Int, ∃ va2 : Int, ∃ pa2 : Int, ∃ sz2 : Int, ∃ cd2 : Int → Int, ∃ fl2 : Int, rr = some (.int (zI 0)) ∧ h9 = (nh, hc fh [(54, .inr (5, [.ref 55, .int (zI ln), .int (zI tk2), .int (zI st2), .int (zI bh2), .int (zI va2), .int (zI pa2), .int (zI fl2), .ref 56, .int (zI sz2)])), (56, .inl (0, 412, .inl (zA cd2)))]) ∧ (0 ≤ tk2) ∧ (tk2 ≤ 355) ∧ (0 ≤ st2) ∧ (st2 ≤ bh2) ∧ (bh2 ≤ ln) ∧ (0 ≤ va2) ∧ (va2 ≤ 1001) ∧ (0 ≤ pa2) ∧ (pa2 ≤ 50) ∧ (0 ≤ sz2) ∧ (sz2 ≤ 412) ∧ (TokL tk2 st2 bh2) ∧ (Rg cd2 412 (-2147483648) 2147483647) ∧ (0 ≤ fl2) ∧ (fl2 ≤ 400))) := by
  refine JM.of (by decide) rfl (fun h => by cases h) (Nat.le_of_ble_eq_true rfl) ⟨2, rfl⟩ ?_
  refine J_hc0 (J_ls (ls2 := [some (.ref 54), some (.int (zI 0)), none, none]) rfl ?_)
  refine Z_iconst (n := 0) dX5_plain_0 ?_
  refine J_istore_n dX5_plain_1 rfl (Nat.le_of_ble_eq_true rfl) rfl ?_
  refine J_ls (ls2 := [some (.ref 54), some (.int (zI 0)), some (.int (zI 0)), none]) rfl ?_
  refine Z_iconst (n := 0) dX5_plain_2 ?_
  refine J_istore_n dX5_plain_3 rfl (Nat.le_of_ble_eq_true rfl) rfl ?_
  refine J_ls (ls2 := [some (.ref 54), some (.int (zI 0)), some (.int (zI 0)), some (.int (zI 0))]) rfl ?_
  refine J_touch (k := 54) (e := .inr (5, [.ref 55, .int (zI ln), .int (zI tk), .int (zI st), .int (zI bh), .int (zI va), .int (zI pa), .int (zI fl), .ref 56, .int (zI sz)])) hk54 ?_
  have lp4 : ∀ (N4 : Nat) (dn_4 : Int) (i_4 : Int) (tx_4 : Int) (sx_4 : Int) (bx_4 : Int) (vx_4 : Int), (0 ≤ i_4) → (i_4 ≤ 400) → (0 ≤ dn_4) → (dn_4 ≤ 1) → (st + dn_4 ≤ sx_4) → (0 ≤ tx_4) → (tx_4 ≤ 355) → (0 ≤ sx_4) → (sx_4 ≤ bx_4) → (bx_4 ≤ ln) → (0 ≤ vx_4) → (vx_4 ≤ 1001) → (TokL tx_4 sx_4 bx_4) → (400 - i_4).toNat < N4 → J l G MX5_plain { frames := 41, cells := 0, slots := 0, locals := 919 } jE (jMQ G { frames := 41, cells := 0, slots := 0, locals := 919 } (fun rr h9 => (∃ tk2 : Int, ∃ st2 : Int, ∃ bh2 : Int, ∃ va2 : Int, ∃ pa2 : Int, ∃ sz2 : Int, ∃ cd2 : Int → Int, rr = some (.int (zI 1)) ∧ h9 = (nh, hc fh [(54, .inr (5, [.ref 55, .int (zI ln), .int (zI tk2), .int (zI st2), .int (zI bh2), .int (zI va2), .int (zI pa2), .int (zI fl), .ref 56, .int (zI sz2)])), (56, .inl (0, 412, .inl (zA cd2)))]) ∧ (0 ≤ tk2) ∧ (tk2 ≤ 355) ∧ (0 ≤ st2) ∧ (st2 ≤ bh2) ∧ (bh2 ≤ ln) ∧ (0 ≤ va2) ∧ (va2 ≤ 1001) ∧ (0 ≤ pa2) ∧ (pa2 ≤ 50) ∧ (0 ≤ sz2) ∧ (sz2 ≤ 412) ∧ (TokL tk2 st2 bh2) ∧ (Rg cd2 412 (-2147483648) 2147483647) ∧ (sz2 + st ≤ sz + st2) ∧ (st ≤ st2)) ∨ (∃ tk2 : Int, ∃ st2 : Int, ∃ bh2 : Int, ∃ va2 : Int, ∃ pa2 : Int, ∃ sz2 : Int, ∃ cd2 : Int → Int, ∃ fl2 : Int, rr = some (.int (zI 0)) ∧ h9 = (nh, hc fh [(54, .inr (5, [.ref 55, .int (zI ln), .int (zI tk2), .int (zI st2), .int (zI bh2), .int (zI va2), .int (zI pa2), .int (zI fl2), .ref 56, .int (zI sz2)])), (56, .inl (0, 412, .inl (zA cd2)))]) ∧ (0 ≤ tk2) ∧ (tk2 ≤ 355) ∧ (0 ≤ st2) ∧ (st2 ≤ bh2) ∧ (bh2 ≤ ln) ∧ (0 ≤ va2) ∧ (va2 ≤ 1001) ∧ (0 ≤ pa2) ∧ (pa2 ≤ 50) ∧ (0 ≤ sz2) ∧ (sz2 ≤ 412) ∧ (TokL tk2 st2 bh2) ∧ (Rg cd2 412 (-2147483648) 2147483647) ∧ (0 ≤ fl2) ∧ (fl2 ≤ 400)))) (nh, hc fh [(54, .inr (5, [.ref 55, .int (zI ln), .int (zI tx_4), .int (zI sx_4), .int (zI bx_4), .int (zI vx_4), .int (zI pa), .int (zI fl), .ref 56, .int (zI sz)]))]) 0 0 4 [some (.ref 54), some (.int (zI 0)), some (.int (zI dn_4)), some (.int (zI i_4))] [] := by
    intro N4
    induction N4 with
    | zero => intro dn_4 i_4 tx_4 sx_4 bx_4 vx_4 i4_0 i4_1 i4_2 i4_3 i4_4 i4_5 i4_6 i4_7 i4_8 i4_9 i4_10 i4_11 i4_12 hm; exact absurd hm (Nat.not_lt_zero _)
    | succ N4 ih4 =>
      intro dn_4 i_4 tx_4 sx_4 bx_4 vx_4 i4_0 i4_1 i4_2 i4_3 i4_4 i4_5 i4_6 i4_7 i4_8 i4_9 i4_10 i4_11 i4_12 hm4
      refine J_iload_n dX5_plain_4 rfl rfl ?_
      refine Z_sipush (n := 400) dX5_plain_5 (by decide +kernel) ?_
      refine Z_icmp_ge (tgt := 40) dX5_plain_8 (by decide) (v_d7389cde0f i4_0 i4_1) v_d8dcd4dd52 (fun h1 => ?_) (fun h1 => ?_)
      · refine J_aload_n dX5_plain_40 rfl rfl ?_
        refine Z_bipush (n := 40) dX5_plain_41 (by decide +kernel) ?_
        refine J_callV (st := []) dX5_plain_43 cv_X5_50 (d_isSign 40 ln tx_4 sx_4 bx_4 vx_4 pa fl sz v_3958fe4c87 v_fdd2493dbb i4_5 i4_6 rfl) rfl rfl rfl (Nat.le_of_ble_eq_true rfl) ⟨(Nat.le_of_ble_eq_true rfl), (Nat.le_of_ble_eq_true rfl)⟩ ⟨(Nat.le_of_ble_eq_true rfl), (Nat.le_of_ble_eq_true rfl)⟩ (fun r h9 hp => ?_)
        rcases hp with ⟨rfl, rfl, h2⟩ | ⟨rfl, rfl, h3⟩
        · refine J_nf (nh2 := nh) (ck2 := 0) (sk2 := 0) (st2 := [.int (zI 1)]) rfl rfl rfl rfl ?_
          refine Z_if_eq (tgt := 59) dX5_plain_46 (by decide) v_4dcc24baa7 (fun h4 => absurd h4 v_3a47bfd896) (fun h4 => ?_)
          refine J_aload_n dX5_plain_49 rfl rfl ?_
          refine J_iload_n dX5_plain_50 rfl rfl ?_
          refine J_callV (st := []) dX5_plain_51 cv_X5_86 (d_bracketedTest0 ln tx_4 sx_4 bx_4 vx_4 pa fl sz tp cd q0 q1 i4_5 i4_6 i4_7 i4_8 i4_9 i4_10 i4_11 q9 q10 q11 q12 q13 i4_12 q15 q16 rfl hk55 hk56) rfl rfl rfl (Nat.le_of_ble_eq_true rfl) ⟨(Nat.le_of_ble_eq_true rfl), (Nat.le_of_ble_eq_true rfl)⟩ ⟨(Nat.le_of_ble_eq_true rfl), (Nat.le_of_ble_eq_true rfl)⟩ (fun r h9 hp => ?_)
          rcases hp with ⟨z5, z6, z7, z8, z9, z10, f11, rfl, rfl, h12, h13, h14, h15, h16, h17, h18, h19, h20, h21, h22, h23, h24, h25, h26⟩ | ⟨z27, z28, z29, z30, z31, z32, f33, z34, rfl, rfl, h35, h36, h37, h38, h39, h40, h41, h42, h43, h44, h45, h46, h47, h48, h49⟩
          · refine J_nf (nh2 := nh) (ck2 := 0) (sk2 := 0) (st2 := [.int (zI 1)]) rfl rfl rfl rfl ?_
            refine J_app (L3 := [(54, .inr (5, [.ref 55, .int (zI ln), .int (zI z5), .int (zI z6), .int (zI z7), .int (zI z8), .int (zI z9), .int (zI fl), .ref 56, .int (zI z10)])), (56, .inl (0, 412, .inl (zA f11))), (54, .inr (5, [.ref 55, .int (zI ln), .int (zI tx_4), .int (zI sx_4), .int (zI bx_4), .int (zI vx_4), .int (zI pa), .int (zI fl), .ref 56, .int (zI sz)]))]) rfl ?_
            refine J_mask (L2 := [(54, .inr (5, [.ref 55, .int (zI ln), .int (zI z5), .int (zI z6), .int (zI z7), .int (zI z8), .int (zI z9), .int (zI fl), .ref 56, .int (zI z10)])), (56, .inl (0, 412, .inl (zA f11)))]) (ks := [54, 56, 54]) [true, true, false] rfl (by decide +kernel) rfl ?_
            refine Z_if_ne (tgt := 141) dX5_plain_54 (by decide) v_4dcc24baa7 (fun h50 => ?_) (fun h50 => absurd h50 v_3a47bfd896)
            refine J_iload_n dX5_plain_141 rfl rfl ?_
            refine Z_if_eq (tgt := 153) dX5_plain_142 (by decide) (v_5f10a759cd i4_2 i4_3) (fun h51 => ?_) (fun h51 => ?_)
            · refine Z_iconst (n := 1) dX5_plain_153 ?_
              exact J_iret dX5_plain_154 rfl (jbn v_316afd7d0b v_bbcfac9b7d) (Nat.le_of_ble_eq_true rfl) (Nat.le_of_ble_eq_true rfl) (Or.inl ⟨z5, z6, z7, z8, z9, z10, f11, rfl, rfl, h12, h13, h14, h15, h16, h17, h18, h19, h20, h21, h22, h23, h24, (v_f7907ed2b5 i4_2 i4_4 h25), (v_4790cfd5f0 i4_2 i4_4 h26)⟩)
            · refine J_aload_n dX5_plain_145 rfl rfl ?_
              refine Z_bipush (n := 9) dX5_plain_146 (by decide +kernel) ?_
              refine Z_iconst (n := 0) dX5_plain_148 ?_
              refine J_callV (st := []) dX5_plain_149 cv_X5_72 (d_emit 9 0 ln z5 z6 z7 z8 z9 fl z10 f11 v_00f9f00cc1 v_b17331891f h21 h22 h24 rfl rfl) rfl rfl rfl (Nat.le_of_ble_eq_true rfl) ⟨(Nat.le_of_ble_eq_true rfl), (Nat.le_of_ble_eq_true rfl)⟩ ⟨(Nat.le_of_ble_eq_true rfl), (Nat.le_of_ble_eq_true rfl)⟩ (fun r h9 hp => ?_)
              obtain ⟨z52, f53, rfl, rfl, h54, h55, h56, h57, h58⟩ := hp
              refine J_nf (nh2 := nh) (ck2 := 0) (sk2 := 0) (st2 := [.int (zI z10)]) rfl rfl rfl rfl ?_
              refine J_app (L3 := [(54, .inr (5, [.ref 55, .int (zI ln), .int (zI z5), .int (zI z6), .int (zI z7), .int (zI z8), .int (zI z9), .int (zI fl), .ref 56, .int (zI z52)])), (56, .inl (0, 412, .inl (zA f53))), (54, .inr (5, [.ref 55, .int (zI ln), .int (zI z5), .int (zI z6), .int (zI z7), .int (zI z8), .int (zI z9), .int (zI fl), .ref 56, .int (zI z10)])), (56, .inl (0, 412, .inl (zA f11)))]) rfl ?_
              refine J_mask (L2 := [(54, .inr (5, [.ref 55, .int (zI ln), .int (zI z5), .int (zI z6), .int (zI z7), .int (zI z8), .int (zI z9), .int (zI fl), .ref 56, .int (zI z52)])), (56, .inl (0, 412, .inl (zA f53)))]) (ks := [54, 56, 54, 56]) [true, true, false, false] rfl (by decide +kernel) rfl ?_
              refine J_pop dX5_plain_152 rfl ?_
              refine Z_iconst (n := 1) dX5_plain_153 ?_
              exact J_iret dX5_plain_154 rfl (jbn v_316afd7d0b v_bbcfac9b7d) (Nat.le_of_ble_eq_true rfl) (Nat.le_of_ble_eq_true rfl) (Or.inl ⟨z5, z6, z7, z8, z9, z52, f53, rfl, rfl, h12, h13, h14, h15, h16, h17, h18, h19, h20, h54, h55, h23, h58, (v_6cbc4edc5d i4_2 i4_4 h25 h51 h57), (v_4790cfd5f0 i4_2 i4_4 h26)⟩)
          · refine J_nf (nh2 := nh) (ck2 := 0) (sk2 := 0) (st2 := [.int (zI 0)]) rfl rfl rfl rfl ?_
            refine J_app (L3 := [(54, .inr (5, [.ref 55, .int (zI ln), .int (zI z27), .int (zI z28), .int (zI z29), .int (zI z30), .int (zI z31), .int (zI z34), .ref 56, .int (zI z32)])), (56, .inl (0, 412, .inl (zA f33))), (54, .inr (5, [.ref 55, .int (zI ln), .int (zI tx_4), .int (zI sx_4), .int (zI bx_4), .int (zI vx_4), .int (zI pa), .int (zI fl), .ref 56, .int (zI sz)]))]) rfl ?_
            refine J_mask (L2 := [(54, .inr (5, [.ref 55, .int (zI ln), .int (zI z27), .int (zI z28), .int (zI z29), .int (zI z30), .int (zI z31), .int (zI z34), .ref 56, .int (zI z32)])), (56, .inl (0, 412, .inl (zA f33)))]) (ks := [54, 56, 54]) [true, true, false] rfl (by decide +kernel) rfl ?_
            refine Z_if_ne (tgt := 141) dX5_plain_54 (by decide) v_b17331891f (fun h59 => absurd h59 (fun q => q v_2ca2bbca1f)) (fun h59 => ?_)
            refine Z_iconst (n := 0) dX5_plain_57 ?_
            exact J_iret dX5_plain_58 rfl (jbn v_939070ca3f v_316afd7d0b) (Nat.le_of_ble_eq_true rfl) (Nat.le_of_ble_eq_true rfl) (Or.inr ⟨z27, z28, z29, z30, z31, z32, f33, z34, rfl, rfl, h35, h36, h37, h38, h39, h40, h41, h42, h43, h44, h45, h46, h47, h48, h49⟩)
        · refine J_nf (nh2 := nh) (ck2 := 0) (sk2 := 0) (st2 := [.int (zI 0)]) rfl rfl rfl rfl ?_
          refine Z_if_eq (tgt := 59) dX5_plain_46 (by decide) v_b17331891f (fun h60 => ?_) (fun h60 => absurd h60 (fun q => q v_2ca2bbca1f))
          refine J_aload_n dX5_plain_59 rfl rfl ?_
          refine J_iload_n dX5_plain_60 rfl rfl ?_
          refine J_callV (st := []) dX5_plain_61 cv_X5_63 (d_sum0 ln tx_4 sx_4 bx_4 vx_4 pa fl sz tp cd q0 q1 i4_5 i4_6 i4_7 i4_8 i4_9 i4_10 i4_11 q9 q10 q11 q12 q13 i4_12 q15 q16 rfl hk55 hk56) rfl rfl rfl (Nat.le_of_ble_eq_true rfl) ⟨(Nat.le_of_ble_eq_true rfl), (Nat.le_of_ble_eq_true rfl)⟩ ⟨(Nat.le_of_ble_eq_true rfl), (Nat.le_of_ble_eq_true rfl)⟩ (fun r h9 hp => ?_)
          rcases hp with ⟨z61, z62, z63, z64, z65, z66, f67, rfl, rfl, h68, h69, h70, h71, h72, h73, h74, h75, h76, h77, h78, h79, h80, h81, h82⟩ | ⟨z83, z84, z85, z86, z87, z88, f89, z90, rfl, rfl, h91, h92, h93, h94, h95, h96, h97, h98, h99, h100, h101, h102, h103, h104, h105⟩
          · refine J_nf (nh2 := nh) (ck2 := 0) (sk2 := 0) (st2 := [.int (zI 1)]) rfl rfl rfl rfl ?_
            refine J_app (L3 := [(54, .inr (5, [.ref 55, .int (zI ln), .int (zI z61), .int (zI z62), .int (zI z63), .int (zI z64), .int (zI z65), .int (zI fl), .ref 56, .int (zI z66)])), (56, .inl (0, 412, .inl (zA f67))), (54, .inr (5, [.ref 55, .int (zI ln), .int (zI tx_4), .int (zI sx_4), .int (zI bx_4), .int (zI vx_4), .int (zI pa), .int (zI fl), .ref 56, .int (zI sz)]))]) rfl ?_
            refine J_mask (L2 := [(54, .inr (5, [.ref 55, .int (zI ln), .int (zI z61), .int (zI z62), .int (zI z63), .int (zI z64), .int (zI z65), .int (zI fl), .ref 56, .int (zI z66)])), (56, .inl (0, 412, .inl (zA f67)))]) (ks := [54, 56, 54]) [true, true, false] rfl (by decide +kernel) rfl ?_
            refine Z_if_ne (tgt := 69) dX5_plain_64 (by decide) v_4dcc24baa7 (fun h106 => ?_) (fun h106 => absurd h106 v_3a47bfd896)
            refine J_aload_n dX5_plain_69 rfl rfl ?_
            refine Z_bipush (n := 60) dX5_plain_70 (by decide +kernel) ?_
            refine J_callV (st := []) dX5_plain_72 cv_X5_50 (d_isSign 60 ln z61 z62 z63 z64 z65 fl z66 v_eb2f5e1e3a v_382af52349 h68 h69 rfl) rfl rfl rfl (Nat.le_of_ble_eq_true rfl) ⟨(Nat.le_of_ble_eq_true rfl), (Nat.le_of_ble_eq_true rfl)⟩ ⟨(Nat.le_of_ble_eq_true rfl), (Nat.le_of_ble_eq_true rfl)⟩ (fun r h9 hp => ?_)
            rcases hp with ⟨rfl, rfl, h107⟩ | ⟨rfl, rfl, h108⟩
            · refine J_nf (nh2 := nh) (ck2 := 0) (sk2 := 0) (st2 := [.int (zI 1)]) rfl rfl rfl rfl ?_
              refine Z_if_eq (tgt := 83) dX5_plain_75 (by decide) v_4dcc24baa7 (fun h109 => absurd h109 v_3a47bfd896) (fun h109 => ?_)
              refine Z_bipush (n := 6) dX5_plain_78 (by decide +kernel) ?_
              refine J_goto (tgt := 99) dX5_plain_80 (by decide) ?_
              refine J_istore_n dX5_plain_99 rfl (Nat.le_of_ble_eq_true rfl) rfl ?_
              refine J_ls (ls2 := [some (.ref 54), some (.int (zI 0)), some (.int (zI dn_4)), some (.int (zI 6))]) rfl ?_
              refine J_iload_n dX5_plain_100 rfl rfl ?_
              refine Z_bipush (n := 8) dX5_plain_101 (by decide +kernel) ?_
              refine Z_icmp_ne (tgt := 120) dX5_plain_103 (by decide) v_8f5ecbc95e v_665891e294 (fun h110 => ?_) (fun h110 => absurd h110 v_ada6685030)
              refine J_aload_n dX5_plain_120 rfl rfl ?_
              have g111 := TokL.lt h79 (v_f5333b39e4 h107)
              refine J_callV (st := []) dX5_plain_121 cv_X5_43 (d_advance ln z61 z62 z63 z64 z65 fl z66 tp q0 q1 (v_d253cb2c59 h70 g111) h72 h73 h74 q15 rfl hk55) rfl rfl rfl (Nat.le_of_ble_eq_true rfl) ⟨(Nat.le_of_ble_eq_true rfl), (Nat.le_of_ble_eq_true rfl)⟩ ⟨(Nat.le_of_ble_eq_true rfl), (Nat.le_of_ble_eq_true rfl)⟩ (fun r h9 hp => ?_)
              obtain ⟨z112, z113, z114, z115, rfl, rfl, h116, h117, h118, h119, h120, h121, h122, h123⟩ := hp
              refine J_nf (nh2 := nh) (ck2 := 0) (sk2 := 0) (st2 := []) rfl rfl rfl rfl ?_
              refine J_app (L3 := [(54, .inr (5, [.ref 55, .int (zI ln), .int (zI z112), .int (zI z113), .int (zI z114), .int (zI z115), .int (zI z65), .int (zI fl), .ref 56, .int (zI z66)])), (54, .inr (5, [.ref 55, .int (zI ln), .int (zI z61), .int (zI z62), .int (zI z63), .int (zI z64), .int (zI z65), .int (zI fl), .ref 56, .int (zI z66)])), (56, .inl (0, 412, .inl (zA f67)))]) rfl ?_
              refine J_mask (L2 := [(54, .inr (5, [.ref 55, .int (zI ln), .int (zI z112), .int (zI z113), .int (zI z114), .int (zI z115), .int (zI z65), .int (zI fl), .ref 56, .int (zI z66)])), (56, .inl (0, 412, .inl (zA f67)))]) (ks := [54, 54, 56]) [true, false, true] rfl (by decide +kernel) rfl ?_
              refine J_aload_n dX5_plain_124 rfl rfl ?_
              refine J_iload_n dX5_plain_125 rfl rfl ?_
              refine J_callV (st := []) dX5_plain_126 cv_X5_63 (d_sum0 ln z112 z113 z114 z115 z65 fl z66 tp f67 q0 q1 h116 h117 (v_9b2e2070a2 h70 g111 h118) h119 h120 h121 h122 h75 h76 q11 h77 h78 h123 q15 h80 rfl hk55 rfl) rfl rfl rfl (Nat.le_of_ble_eq_true rfl) ⟨(Nat.le_of_ble_eq_true rfl), (Nat.le_of_ble_eq_true rfl)⟩ ⟨(Nat.le_of_ble_eq_true rfl), (Nat.le_of_ble_eq_true rfl)⟩ (fun r h9 hp => ?_)
              rcases hp with ⟨z124, z125, z126, z127, z128, z129, f130, rfl, rfl, h131, h132, h133, h134, h135, h136, h137, h138, h139, h140, h141, h142, h143, h144, h145⟩ | ⟨z146, z147, z148, z149, z150, z151, f152, z153, rfl, rfl, h154, h155, h156, h157, h158, h159, h160, h161, h162, h163, h164, h165, h166, h167, h168⟩
              · refine J_nf (nh2 := nh) (ck2 := 0) (sk2 := 0) (st2 := [.int (zI 1)]) rfl rfl rfl rfl ?_
                refine J_app (L3 := [(54, .inr (5, [.ref 55, .int (zI ln), .int (zI z124), .int (zI z125), .int (zI z126), .int (zI z127), .int (zI z128), .int (zI fl), .ref 56, .int (zI z129)])), (56, .inl (0, 412, .inl (zA f130))), (54, .inr (5, [.ref 55, .int (zI ln), .int (zI z112), .int (zI z113), .int (zI z114), .int (zI z115), .int (zI z65), .int (zI fl), .ref 56, .int (zI z66)])), (56, .inl (0, 412, .inl (zA f67)))]) rfl ?_
                refine J_mask (L2 := [(54, .inr (5, [.ref 55, .int (zI ln), .int (zI z124), .int (zI z125), .int (zI z126), .int (zI z127), .int (zI z128), .int (zI fl), .ref 56, .int (zI z129)])), (56, .inl (0, 412, .inl (zA f130)))]) (ks := [54, 56, 54, 56]) [true, true, false, false] rfl (by decide +kernel) rfl ?_
                refine Z_if_ne (tgt := 134) dX5_plain_129 (by decide) v_4dcc24baa7 (fun h169 => ?_) (fun h169 => absurd h169 v_3a47bfd896)
                refine J_aload_n dX5_plain_134 rfl rfl ?_
                refine J_iload_n dX5_plain_135 rfl rfl ?_
                refine Z_iconst (n := 0) dX5_plain_136 ?_
                refine J_callV (st := []) dX5_plain_137 cv_X5_72 (d_emit 6 0 ln z124 z125 z126 z127 z128 fl z129 f130 v_8f5ecbc95e v_b17331891f h140 h141 h143 rfl rfl) rfl rfl rfl (Nat.le_of_ble_eq_true rfl) ⟨(Nat.le_of_ble_eq_true rfl), (Nat.le_of_ble_eq_true rfl)⟩ ⟨(Nat.le_of_ble_eq_true rfl), (Nat.le_of_ble_eq_true rfl)⟩ (fun r h9 hp => ?_)
                obtain ⟨z170, f171, rfl, rfl, h172, h173, h174, h175, h176⟩ := hp
                refine J_nf (nh2 := nh) (ck2 := 0) (sk2 := 0) (st2 := [.int (zI z129)]) rfl rfl rfl rfl ?_
                refine J_app (L3 := [(54, .inr (5, [.ref 55, .int (zI ln), .int (zI z124), .int (zI z125), .int (zI z126), .int (zI z127), .int (zI z128), .int (zI fl), .ref 56, .int (zI z170)])), (56, .inl (0, 412, .inl (zA f171))), (54, .inr (5, [.ref 55, .int (zI ln), .int (zI z124), .int (zI z125), .int (zI z126), .int (zI z127), .int (zI z128), .int (zI fl), .ref 56, .int (zI z129)])), (56, .inl (0, 412, .inl (zA f130)))]) rfl ?_
                refine J_mask (L2 := [(54, .inr (5, [.ref 55, .int (zI ln), .int (zI z124), .int (zI z125), .int (zI z126), .int (zI z127), .int (zI z128), .int (zI fl), .ref 56, .int (zI z170)])), (56, .inl (0, 412, .inl (zA f171)))]) (ks := [54, 56, 54, 56]) [true, true, false, false] rfl (by decide +kernel) rfl ?_
                refine J_pop dX5_plain_140 rfl ?_
                refine J_iload_n dX5_plain_141 rfl rfl ?_
                refine Z_if_eq (tgt := 153) dX5_plain_142 (by decide) (v_5f10a759cd i4_2 i4_3) (fun h177 => ?_) (fun h177 => ?_)
                · refine Z_iconst (n := 1) dX5_plain_153 ?_
                  exact J_iret dX5_plain_154 rfl (jbn v_316afd7d0b v_bbcfac9b7d) (Nat.le_of_ble_eq_true rfl) (Nat.le_of_ble_eq_true rfl) (Or.inl ⟨z124, z125, z126, z127, z128, z170, f171, rfl, rfl, h131, h132, h133, h134, h135, h136, h137, h138, h139, h172, h173, h142, h176, (v_5848421b37 i4_2 i4_4 h81 g111 h118 h144 h175), (v_60a9ec55dc i4_2 i4_4 h82 g111 h118 h145)⟩)
                · refine J_aload_n dX5_plain_145 rfl rfl ?_
                  refine Z_bipush (n := 9) dX5_plain_146 (by decide +kernel) ?_
                  refine Z_iconst (n := 0) dX5_plain_148 ?_
                  refine J_callV (st := []) dX5_plain_149 cv_X5_72 (d_emit 9 0 ln z124 z125 z126 z127 z128 fl z170 f171 v_00f9f00cc1 v_b17331891f h172 h173 h176 rfl rfl) rfl rfl rfl (Nat.le_of_ble_eq_true rfl) ⟨(Nat.le_of_ble_eq_true rfl), (Nat.le_of_ble_eq_true rfl)⟩ ⟨(Nat.le_of_ble_eq_true rfl), (Nat.le_of_ble_eq_true rfl)⟩ (fun r h9 hp => ?_)
                  obtain ⟨z178, f179, rfl, rfl, h180, h181, h182, h183, h184⟩ := hp
                  refine J_nf (nh2 := nh) (ck2 := 0) (sk2 := 0) (st2 := [.int (zI z170)]) rfl rfl rfl rfl ?_
                  refine J_app (L3 := [(54, .inr (5, [.ref 55, .int (zI ln), .int (zI z124), .int (zI z125), .int (zI z126), .int (zI z127), .int (zI z128), .int (zI fl), .ref 56, .int (zI z178)])), (56, .inl (0, 412, .inl (zA f179))), (54, .inr (5, [.ref 55, .int (zI ln), .int (zI z124), .int (zI z125), .int (zI z126), .int (zI z127), .int (zI z128), .int (zI fl), .ref 56, .int (zI z170)])), (56, .inl (0, 412, .inl (zA f171)))]) rfl ?_
                  refine J_mask (L2 := [(54, .inr (5, [.ref 55, .int (zI ln), .int (zI z124), .int (zI z125), .int (zI z126), .int (zI z127), .int (zI z128), .int (zI fl), .ref 56, .int (zI z178)])), (56, .inl (0, 412, .inl (zA f179)))]) (ks := [54, 56, 54, 56]) [true, true, false, false] rfl (by decide +kernel) rfl ?_
                  refine J_pop dX5_plain_152 rfl ?_
                  refine Z_iconst (n := 1) dX5_plain_153 ?_
                  exact J_iret dX5_plain_154 rfl (jbn v_316afd7d0b v_bbcfac9b7d) (Nat.le_of_ble_eq_true rfl) (Nat.le_of_ble_eq_true rfl) (Or.inl ⟨z124, z125, z126, z127, z128, z178, f179, rfl, rfl, h131, h132, h133, h134, h135, h136, h137, h138, h139, h180, h181, h142, h184, (v_1533bd4120 i4_2 i4_4 h81 g111 h118 h144 h175 h177 h183), (v_60a9ec55dc i4_2 i4_4 h82 g111 h118 h145)⟩)
              · refine J_nf (nh2 := nh) (ck2 := 0) (sk2 := 0) (st2 := [.int (zI 0)]) rfl rfl rfl rfl ?_
                refine J_app (L3 := [(54, .inr (5, [.ref 55, .int (zI ln), .int (zI z146), .int (zI z147), .int (zI z148), .int (zI z149), .int (zI z150), .int (zI z153), .ref 56, .int (zI z151)])), (56, .inl (0, 412, .inl (zA f152))), (54, .inr (5, [.ref 55, .int (zI ln), .int (zI z112), .int (zI z113), .int (zI z114), .int (zI z115), .int (zI z65), .int (zI fl), .ref 56, .int (zI z66)])), (56, .inl (0, 412, .inl (zA f67)))]) rfl ?_
                refine J_mask (L2 := [(54, .inr (5, [.ref 55, .int (zI ln), .int (zI z146), .int (zI z147), .int (zI z148), .int (zI z149), .int (zI z150), .int (zI z153), .ref 56, .int (zI z151)])), (56, .inl (0, 412, .inl (zA f152)))]) (ks := [54, 56, 54, 56]) [true, true, false, false] rfl (by decide +kernel) rfl ?_
                refine Z_if_ne (tgt := 134) dX5_plain_129 (by decide) v_b17331891f (fun h185 => absurd h185 (fun q => q v_2ca2bbca1f)) (fun h185 => ?_)
                refine Z_iconst (n := 0) dX5_plain_132 ?_
                exact J_iret dX5_plain_133 rfl (jbn v_939070ca3f v_316afd7d0b) (Nat.le_of_ble_eq_true rfl) (Nat.le_of_ble_eq_true rfl) (Or.inr ⟨z146, z147, z148, z149, z150, z151, f152, z153, rfl, rfl, h154, h155, h156, h157, h158, h159, h160, h161, h162, h163, h164, h165, h166, h167, h168⟩)
            · refine J_nf (nh2 := nh) (ck2 := 0) (sk2 := 0) (st2 := [.int (zI 0)]) rfl rfl rfl rfl ?_
              refine Z_if_eq (tgt := 83) dX5_plain_75 (by decide) v_b17331891f (fun h186 => ?_) (fun h186 => absurd h186 (fun q => q v_2ca2bbca1f))
              refine J_aload_n dX5_plain_83 rfl rfl ?_
              refine Z_bipush (n := 62) dX5_plain_84 (by decide +kernel) ?_
              refine J_callV (st := []) dX5_plain_86 cv_X5_50 (d_isSign 62 ln z61 z62 z63 z64 z65 fl z66 v_722c6b3941 v_3996c1d9a8 h68 h69 rfl) rfl rfl rfl (Nat.le_of_ble_eq_true rfl) ⟨(Nat.le_of_ble_eq_true rfl), (Nat.le_of_ble_eq_true rfl)⟩ ⟨(Nat.le_of_ble_eq_true rfl), (Nat.le_of_ble_eq_true rfl)⟩ (fun r h9 hp => ?_)
              rcases hp with ⟨rfl, rfl, h187⟩ | ⟨rfl, rfl, h188⟩
              · refine J_nf (nh2 := nh) (ck2 := 0) (sk2 := 0) (st2 := [.int (zI 1)]) rfl rfl rfl rfl ?_
                refine Z_if_eq (tgt := 97) dX5_plain_89 (by decide) v_4dcc24baa7 (fun h189 => absurd h189 v_3a47bfd896) (fun h189 => ?_)
                refine Z_bipush (n := 7) dX5_plain_92 (by decide +kernel) ?_
                refine J_goto (tgt := 99) dX5_plain_94 (by decide) ?_
                refine J_istore_n dX5_plain_99 rfl (Nat.le_of_ble_eq_true rfl) rfl ?_
                refine J_ls (ls2 := [some (.ref 54), some (.int (zI 0)), some (.int (zI dn_4)), some (.int (zI 7))]) rfl ?_
                refine J_iload_n dX5_plain_100 rfl rfl ?_
                refine Z_bipush (n := 8) dX5_plain_101 (by decide +kernel) ?_
                refine Z_icmp_ne (tgt := 120) dX5_plain_103 (by decide) v_c3fe1a091f v_665891e294 (fun h190 => ?_) (fun h190 => absurd h190 v_d62b89f05c)
                refine J_aload_n dX5_plain_120 rfl rfl ?_
                have g191 := TokL.lt h79 (v_3ec9e003c7 h187)
                refine J_callV (st := []) dX5_plain_121 cv_X5_43 (d_advance ln z61 z62 z63 z64 z65 fl z66 tp q0 q1 (v_d253cb2c59 h70 g191) h72 h73 h74 q15 rfl hk55) rfl rfl rfl (Nat.le_of_ble_eq_true rfl) ⟨(Nat.le_of_ble_eq_true rfl), (Nat.le_of_ble_eq_true rfl)⟩ ⟨(Nat.le_of_ble_eq_true rfl), (Nat.le_of_ble_eq_true rfl)⟩ (fun r h9 hp => ?_)
                obtain ⟨z192, z193, z194, z195, rfl, rfl, h196, h197, h198, h199, h200, h201, h202, h203⟩ := hp
                refine J_nf (nh2 := nh) (ck2 := 0) (sk2 := 0) (st2 := []) rfl rfl rfl rfl ?_
                refine J_app (L3 := [(54, .inr (5, [.ref 55, .int (zI ln), .int (zI z192), .int (zI z193), .int (zI z194), .int (zI z195), .int (zI z65), .int (zI fl), .ref 56, .int (zI z66)])), (54, .inr (5, [.ref 55, .int (zI ln), .int (zI z61), .int (zI z62), .int (zI z63), .int (zI z64), .int (zI z65), .int (zI fl), .ref 56, .int (zI z66)])), (56, .inl (0, 412, .inl (zA f67)))]) rfl ?_
                refine J_mask (L2 := [(54, .inr (5, [.ref 55, .int (zI ln), .int (zI z192), .int (zI z193), .int (zI z194), .int (zI z195), .int (zI z65), .int (zI fl), .ref 56, .int (zI z66)])), (56, .inl (0, 412, .inl (zA f67)))]) (ks := [54, 54, 56]) [true, false, true] rfl (by decide +kernel) rfl ?_
                refine J_aload_n dX5_plain_124 rfl rfl ?_
                refine J_iload_n dX5_plain_125 rfl rfl ?_
                refine J_callV (st := []) dX5_plain_126 cv_X5_63 (d_sum0 ln z192 z193 z194 z195 z65 fl z66 tp f67 q0 q1 h196 h197 (v_9b2e2070a2 h70 g191 h198) h199 h200 h201 h202 h75 h76 q11 h77 h78 h203 q15 h80 rfl hk55 rfl) rfl rfl rfl (Nat.le_of_ble_eq_true rfl) ⟨(Nat.le_of_ble_eq_true rfl), (Nat.le_of_ble_eq_true rfl)⟩ ⟨(Nat.le_of_ble_eq_true rfl), (Nat.le_of_ble_eq_true rfl)⟩ (fun r h9 hp => ?_)
                rcases hp with ⟨z204, z205, z206, z207, z208, z209, f210, rfl, rfl, h211, h212, h213, h214, h215, h216, h217, h218, h219, h220, h221, h222, h223, h224, h225⟩ | ⟨z226, z227, z228, z229, z230, z231, f232, z233, rfl, rfl, h234, h235, h236, h237, h238, h239, h240, h241, h242, h243, h244, h245, h246, h247, h248⟩
                · refine J_nf (nh2 := nh) (ck2 := 0) (sk2 := 0) (st2 := [.int (zI 1)]) rfl rfl rfl rfl ?_
                  refine J_app (L3 := [(54, .inr (5, [.ref 55, .int (zI ln), .int (zI z204), .int (zI z205), .int (zI z206), .int (zI z207), .int (zI z208), .int (zI fl), .ref 56, .int (zI z209)])), (56, .inl (0, 412, .inl (zA f210))), (54, .inr (5, [.ref 55, .int (zI ln), .int (zI z192), .int (zI z193), .int (zI z194), .int (zI z195), .int (zI z65), .int (zI fl), .ref 56, .int (zI z66)])), (56, .inl (0, 412, .inl (zA f67)))]) rfl ?_
                  refine J_mask (L2 := [(54, .inr (5, [.ref 55, .int (zI ln), .int (zI z204), .int (zI z205), .int (zI z206), .int (zI z207), .int (zI z208), .int (zI fl), .ref 56, .int (zI z209)])), (56, .inl (0, 412, .inl (zA f210)))]) (ks := [54, 56, 54, 56]) [true, true, false, false] rfl (by decide +kernel) rfl ?_
                  refine Z_if_ne (tgt := 134) dX5_plain_129 (by decide) v_4dcc24baa7 (fun h249 => ?_) (fun h249 => absurd h249 v_3a47bfd896)
                  refine J_aload_n dX5_plain_134 rfl rfl ?_
                  refine J_iload_n dX5_plain_135 rfl rfl ?_
                  refine Z_iconst (n := 0) dX5_plain_136 ?_
                  refine J_callV (st := []) dX5_plain_137 cv_X5_72 (d_emit 7 0 ln z204 z205 z206 z207 z208 fl z209 f210 v_c3fe1a091f v_b17331891f h220 h221 h223 rfl rfl) rfl rfl rfl (Nat.le_of_ble_eq_true rfl) ⟨(Nat.le_of_ble_eq_true rfl), (Nat.le_of_ble_eq_true rfl)⟩ ⟨(Nat.le_of_ble_eq_true rfl), (Nat.le_of_ble_eq_true rfl)⟩ (fun r h9 hp => ?_)
                  obtain ⟨z250, f251, rfl, rfl, h252, h253, h254, h255, h256⟩ := hp
                  refine J_nf (nh2 := nh) (ck2 := 0) (sk2 := 0) (st2 := [.int (zI z209)]) rfl rfl rfl rfl ?_
                  refine J_app (L3 := [(54, .inr (5, [.ref 55, .int (zI ln), .int (zI z204), .int (zI z205), .int (zI z206), .int (zI z207), .int (zI z208), .int (zI fl), .ref 56, .int (zI z250)])), (56, .inl (0, 412, .inl (zA f251))), (54, .inr (5, [.ref 55, .int (zI ln), .int (zI z204), .int (zI z205), .int (zI z206), .int (zI z207), .int (zI z208), .int (zI fl), .ref 56, .int (zI z209)])), (56, .inl (0, 412, .inl (zA f210)))]) rfl ?_
                  refine J_mask (L2 := [(54, .inr (5, [.ref 55, .int (zI ln), .int (zI z204), .int (zI z205), .int (zI z206), .int (zI z207), .int (zI z208), .int (zI fl), .ref 56, .int (zI z250)])), (56, .inl (0, 412, .inl (zA f251)))]) (ks := [54, 56, 54, 56]) [true, true, false, false] rfl (by decide +kernel) rfl ?_
                  refine J_pop dX5_plain_140 rfl ?_
                  refine J_iload_n dX5_plain_141 rfl rfl ?_
                  refine Z_if_eq (tgt := 153) dX5_plain_142 (by decide) (v_5f10a759cd i4_2 i4_3) (fun h257 => ?_) (fun h257 => ?_)
                  · refine Z_iconst (n := 1) dX5_plain_153 ?_
                    exact J_iret dX5_plain_154 rfl (jbn v_316afd7d0b v_bbcfac9b7d) (Nat.le_of_ble_eq_true rfl) (Nat.le_of_ble_eq_true rfl) (Or.inl ⟨z204, z205, z206, z207, z208, z250, f251, rfl, rfl, h211, h212, h213, h214, h215, h216, h217, h218, h219, h252, h253, h222, h256, (v_5848421b37 i4_2 i4_4 h81 g191 h198 h224 h255), (v_60a9ec55dc i4_2 i4_4 h82 g191 h198 h225)⟩)
                  · refine J_aload_n dX5_plain_145 rfl rfl ?_
                    refine Z_bipush (n := 9) dX5_plain_146 (by decide +kernel) ?_
                    refine Z_iconst (n := 0) dX5_plain_148 ?_
                    refine J_callV (st := []) dX5_plain_149 cv_X5_72 (d_emit 9 0 ln z204 z205 z206 z207 z208 fl z250 f251 v_00f9f00cc1 v_b17331891f h252 h253 h256 rfl rfl) rfl rfl rfl (Nat.le_of_ble_eq_true rfl) ⟨(Nat.le_of_ble_eq_true rfl), (Nat.le_of_ble_eq_true rfl)⟩ ⟨(Nat.le_of_ble_eq_true rfl), (Nat.le_of_ble_eq_true rfl)⟩ (fun r h9 hp => ?_)
                    obtain ⟨z258, f259, rfl, rfl, h260, h261, h262, h263, h264⟩ := hp
                    refine J_nf (nh2 := nh) (ck2 := 0) (sk2 := 0) (st2 := [.int (zI z250)]) rfl rfl rfl rfl ?_
                    refine J_app (L3 := [(54, .inr (5, [.ref 55, .int (zI ln), .int (zI z204), .int (zI z205), .int (zI z206), .int (zI z207), .int (zI z208), .int (zI fl), .ref 56, .int (zI z258)])), (56, .inl (0, 412, .inl (zA f259))), (54, .inr (5, [.ref 55, .int (zI ln), .int (zI z204), .int (zI z205), .int (zI z206), .int (zI z207), .int (zI z208), .int (zI fl), .ref 56, .int (zI z250)])), (56, .inl (0, 412, .inl (zA f251)))]) rfl ?_
                    refine J_mask (L2 := [(54, .inr (5, [.ref 55, .int (zI ln), .int (zI z204), .int (zI z205), .int (zI z206), .int (zI z207), .int (zI z208), .int (zI fl), .ref 56, .int (zI z258)])), (56, .inl (0, 412, .inl (zA f259)))]) (ks := [54, 56, 54, 56]) [true, true, false, false] rfl (by decide +kernel) rfl ?_
                    refine J_pop dX5_plain_152 rfl ?_
                    refine Z_iconst (n := 1) dX5_plain_153 ?_
                    exact J_iret dX5_plain_154 rfl (jbn v_316afd7d0b v_bbcfac9b7d) (Nat.le_of_ble_eq_true rfl) (Nat.le_of_ble_eq_true rfl) (Or.inl ⟨z204, z205, z206, z207, z208, z258, f259, rfl, rfl, h211, h212, h213, h214, h215, h216, h217, h218, h219, h260, h261, h222, h264, (v_1533bd4120 i4_2 i4_4 h81 g191 h198 h224 h255 h257 h263), (v_60a9ec55dc i4_2 i4_4 h82 g191 h198 h225)⟩)
                · refine J_nf (nh2 := nh) (ck2 := 0) (sk2 := 0) (st2 := [.int (zI 0)]) rfl rfl rfl rfl ?_
                  refine J_app (L3 := [(54, .inr (5, [.ref 55, .int (zI ln), .int (zI z226), .int (zI z227), .int (zI z228), .int (zI z229), .int (zI z230), .int (zI z233), .ref 56, .int (zI z231)])), (56, .inl (0, 412, .inl (zA f232))), (54, .inr (5, [.ref 55, .int (zI ln), .int (zI z192), .int (zI z193), .int (zI z194), .int (zI z195), .int (zI z65), .int (zI fl), .ref 56, .int (zI z66)])), (56, .inl (0, 412, .inl (zA f67)))]) rfl ?_
                  refine J_mask (L2 := [(54, .inr (5, [.ref 55, .int (zI ln), .int (zI z226), .int (zI z227), .int (zI z228), .int (zI z229), .int (zI z230), .int (zI z233), .ref 56, .int (zI z231)])), (56, .inl (0, 412, .inl (zA f232)))]) (ks := [54, 56, 54, 56]) [true, true, false, false] rfl (by decide +kernel) rfl ?_
                  refine Z_if_ne (tgt := 134) dX5_plain_129 (by decide) v_b17331891f (fun h265 => absurd h265 (fun q => q v_2ca2bbca1f)) (fun h265 => ?_)
                  refine Z_iconst (n := 0) dX5_plain_132 ?_
                  exact J_iret dX5_plain_133 rfl (jbn v_939070ca3f v_316afd7d0b) (Nat.le_of_ble_eq_true rfl) (Nat.le_of_ble_eq_true rfl) (Or.inr ⟨z226, z227, z228, z229, z230, z231, f232, z233, rfl, rfl, h234, h235, h236, h237, h238, h239, h240, h241, h242, h243, h244, h245, h246, h247, h248⟩)
              · refine J_nf (nh2 := nh) (ck2 := 0) (sk2 := 0) (st2 := [.int (zI 0)]) rfl rfl rfl rfl ?_
                refine Z_if_eq (tgt := 97) dX5_plain_89 (by decide) v_b17331891f (fun h266 => ?_) (fun h266 => absurd h266 (fun q => q v_2ca2bbca1f))
                refine Z_bipush (n := 8) dX5_plain_97 (by decide +kernel) ?_
                refine J_istore_n dX5_plain_99 rfl (Nat.le_of_ble_eq_true rfl) rfl ?_
                refine J_ls (ls2 := [some (.ref 54), some (.int (zI 0)), some (.int (zI dn_4)), some (.int (zI 8))]) rfl ?_
                refine J_iload_n dX5_plain_100 rfl rfl ?_
                refine Z_bipush (n := 8) dX5_plain_101 (by decide +kernel) ?_
                refine Z_icmp_ne (tgt := 120) dX5_plain_103 (by decide) v_665891e294 v_665891e294 (fun h267 => absurd h267 (fun q => q v_c1b8243509)) (fun h267 => ?_)
                refine J_aload_n dX5_plain_106 rfl rfl ?_
                refine Z_bipush (n := 61) dX5_plain_107 (by decide +kernel) ?_
                refine J_callV (st := []) dX5_plain_109 cv_X5_50 (d_isSign 61 ln z61 z62 z63 z64 z65 fl z66 v_b92a3c53b8 v_7b9730a51b h68 h69 rfl) rfl rfl rfl (Nat.le_of_ble_eq_true rfl) ⟨(Nat.le_of_ble_eq_true rfl), (Nat.le_of_ble_eq_true rfl)⟩ ⟨(Nat.le_of_ble_eq_true rfl), (Nat.le_of_ble_eq_true rfl)⟩ (fun r h9 hp => ?_)
                rcases hp with ⟨rfl, rfl, h268⟩ | ⟨rfl, rfl, h269⟩
                · refine J_nf (nh2 := nh) (ck2 := 0) (sk2 := 0) (st2 := [.int (zI 1)]) rfl rfl rfl rfl ?_
                  refine Z_if_ne (tgt := 120) dX5_plain_112 (by decide) v_4dcc24baa7 (fun h270 => ?_) (fun h270 => absurd h270 v_3a47bfd896)
                  refine J_aload_n dX5_plain_120 rfl rfl ?_
                  have g271 := TokL.lt h79 (v_23eeeea057 h268)
                  refine J_callV (st := []) dX5_plain_121 cv_X5_43 (d_advance ln z61 z62 z63 z64 z65 fl z66 tp q0 q1 (v_d253cb2c59 h70 g271) h72 h73 h74 q15 rfl hk55) rfl rfl rfl (Nat.le_of_ble_eq_true rfl) ⟨(Nat.le_of_ble_eq_true rfl), (Nat.le_of_ble_eq_true rfl)⟩ ⟨(Nat.le_of_ble_eq_true rfl), (Nat.le_of_ble_eq_true rfl)⟩ (fun r h9 hp => ?_)
                  obtain ⟨z272, z273, z274, z275, rfl, rfl, h276, h277, h278, h279, h280, h281, h282, h283⟩ := hp
                  refine J_nf (nh2 := nh) (ck2 := 0) (sk2 := 0) (st2 := []) rfl rfl rfl rfl ?_
                  refine J_app (L3 := [(54, .inr (5, [.ref 55, .int (zI ln), .int (zI z272), .int (zI z273), .int (zI z274), .int (zI z275), .int (zI z65), .int (zI fl), .ref 56, .int (zI z66)])), (54, .inr (5, [.ref 55, .int (zI ln), .int (zI z61), .int (zI z62), .int (zI z63), .int (zI z64), .int (zI z65), .int (zI fl), .ref 56, .int (zI z66)])), (56, .inl (0, 412, .inl (zA f67)))]) rfl ?_
                  refine J_mask (L2 := [(54, .inr (5, [.ref 55, .int (zI ln), .int (zI z272), .int (zI z273), .int (zI z274), .int (zI z275), .int (zI z65), .int (zI fl), .ref 56, .int (zI z66)])), (56, .inl (0, 412, .inl (zA f67)))]) (ks := [54, 54, 56]) [true, false, true] rfl (by decide +kernel) rfl ?_
                  refine J_aload_n dX5_plain_124 rfl rfl ?_
                  refine J_iload_n dX5_plain_125 rfl rfl ?_
                  refine J_callV (st := []) dX5_plain_126 cv_X5_63 (d_sum0 ln z272 z273 z274 z275 z65 fl z66 tp f67 q0 q1 h276 h277 (v_9b2e2070a2 h70 g271 h278) h279 h280 h281 h282 h75 h76 q11 h77 h78 h283 q15 h80 rfl hk55 rfl) rfl rfl rfl (Nat.le_of_ble_eq_true rfl) ⟨(Nat.le_of_ble_eq_true rfl), (Nat.le_of_ble_eq_true rfl)⟩ ⟨(Nat.le_of_ble_eq_true rfl), (Nat.le_of_ble_eq_true rfl)⟩ (fun r h9 hp => ?_)
                  rcases hp with ⟨z284, z285, z286, z287, z288, z289, f290, rfl, rfl, h291, h292, h293, h294, h295, h296, h297, h298, h299, h300, h301, h302, h303, h304, h305⟩ | ⟨z306, z307, z308, z309, z310, z311, f312, z313, rfl, rfl, h314, h315, h316, h317, h318, h319, h320, h321, h322, h323, h324, h325, h326, h327, h328⟩
                  · refine J_nf (nh2 := nh) (ck2 := 0) (sk2 := 0) (st2 := [.int (zI 1)]) rfl rfl rfl rfl ?_
                    refine J_app (L3 := [(54, .inr (5, [.ref 55, .int (zI ln), .int (zI z284), .int (zI z285), .int (zI z286), .int (zI z287), .int (zI z288), .int (zI fl), .ref 56, .int (zI z289)])), (56, .inl (0, 412, .inl (zA f290))), (54, .inr (5, [.ref 55, .int (zI ln), .int (zI z272), .int (zI z273), .int (zI z274), .int (zI z275), .int (zI z65), .int (zI fl), .ref 56, .int (zI z66)])), (56, .inl (0, 412, .inl (zA f67)))]) rfl ?_
                    refine J_mask (L2 := [(54, .inr (5, [.ref 55, .int (zI ln), .int (zI z284), .int (zI z285), .int (zI z286), .int (zI z287), .int (zI z288), .int (zI fl), .ref 56, .int (zI z289)])), (56, .inl (0, 412, .inl (zA f290)))]) (ks := [54, 56, 54, 56]) [true, true, false, false] rfl (by decide +kernel) rfl ?_
                    refine Z_if_ne (tgt := 134) dX5_plain_129 (by decide) v_4dcc24baa7 (fun h329 => ?_) (fun h329 => absurd h329 v_3a47bfd896)
                    refine J_aload_n dX5_plain_134 rfl rfl ?_
                    refine J_iload_n dX5_plain_135 rfl rfl ?_
                    refine Z_iconst (n := 0) dX5_plain_136 ?_
                    refine J_callV (st := []) dX5_plain_137 cv_X5_72 (d_emit 8 0 ln z284 z285 z286 z287 z288 fl z289 f290 v_665891e294 v_b17331891f h300 h301 h303 rfl rfl) rfl rfl rfl (Nat.le_of_ble_eq_true rfl) ⟨(Nat.le_of_ble_eq_true rfl), (Nat.le_of_ble_eq_true rfl)⟩ ⟨(Nat.le_of_ble_eq_true rfl), (Nat.le_of_ble_eq_true rfl)⟩ (fun r h9 hp => ?_)
                    obtain ⟨z330, f331, rfl, rfl, h332, h333, h334, h335, h336⟩ := hp
                    refine J_nf (nh2 := nh) (ck2 := 0) (sk2 := 0) (st2 := [.int (zI z289)]) rfl rfl rfl rfl ?_
                    refine J_app (L3 := [(54, .inr (5, [.ref 55, .int (zI ln), .int (zI z284), .int (zI z285), .int (zI z286), .int (zI z287), .int (zI z288), .int (zI fl), .ref 56, .int (zI z330)])), (56, .inl (0, 412, .inl (zA f331))), (54, .inr (5, [.ref 55, .int (zI ln), .int (zI z284), .int (zI z285), .int (zI z286), .int (zI z287), .int (zI z288), .int (zI fl), .ref 56, .int (zI z289)])), (56, .inl (0, 412, .inl (zA f290)))]) rfl ?_
                    refine J_mask (L2 := [(54, .inr (5, [.ref 55, .int (zI ln), .int (zI z284), .int (zI z285), .int (zI z286), .int (zI z287), .int (zI z288), .int (zI fl), .ref 56, .int (zI z330)])), (56, .inl (0, 412, .inl (zA f331)))]) (ks := [54, 56, 54, 56]) [true, true, false, false] rfl (by decide +kernel) rfl ?_
                    refine J_pop dX5_plain_140 rfl ?_
                    refine J_iload_n dX5_plain_141 rfl rfl ?_
                    refine Z_if_eq (tgt := 153) dX5_plain_142 (by decide) (v_5f10a759cd i4_2 i4_3) (fun h337 => ?_) (fun h337 => ?_)
                    · refine Z_iconst (n := 1) dX5_plain_153 ?_
                      exact J_iret dX5_plain_154 rfl (jbn v_316afd7d0b v_bbcfac9b7d) (Nat.le_of_ble_eq_true rfl) (Nat.le_of_ble_eq_true rfl) (Or.inl ⟨z284, z285, z286, z287, z288, z330, f331, rfl, rfl, h291, h292, h293, h294, h295, h296, h297, h298, h299, h332, h333, h302, h336, (v_5848421b37 i4_2 i4_4 h81 g271 h278 h304 h335), (v_60a9ec55dc i4_2 i4_4 h82 g271 h278 h305)⟩)
                    · refine J_aload_n dX5_plain_145 rfl rfl ?_
                      refine Z_bipush (n := 9) dX5_plain_146 (by decide +kernel) ?_
                      refine Z_iconst (n := 0) dX5_plain_148 ?_
                      refine J_callV (st := []) dX5_plain_149 cv_X5_72 (d_emit 9 0 ln z284 z285 z286 z287 z288 fl z330 f331 v_00f9f00cc1 v_b17331891f h332 h333 h336 rfl rfl) rfl rfl rfl (Nat.le_of_ble_eq_true rfl) ⟨(Nat.le_of_ble_eq_true rfl), (Nat.le_of_ble_eq_true rfl)⟩ ⟨(Nat.le_of_ble_eq_true rfl), (Nat.le_of_ble_eq_true rfl)⟩ (fun r h9 hp => ?_)
                      obtain ⟨z338, f339, rfl, rfl, h340, h341, h342, h343, h344⟩ := hp
                      refine J_nf (nh2 := nh) (ck2 := 0) (sk2 := 0) (st2 := [.int (zI z330)]) rfl rfl rfl rfl ?_
                      refine J_app (L3 := [(54, .inr (5, [.ref 55, .int (zI ln), .int (zI z284), .int (zI z285), .int (zI z286), .int (zI z287), .int (zI z288), .int (zI fl), .ref 56, .int (zI z338)])), (56, .inl (0, 412, .inl (zA f339))), (54, .inr (5, [.ref 55, .int (zI ln), .int (zI z284), .int (zI z285), .int (zI z286), .int (zI z287), .int (zI z288), .int (zI fl), .ref 56, .int (zI z330)])), (56, .inl (0, 412, .inl (zA f331)))]) rfl ?_
                      refine J_mask (L2 := [(54, .inr (5, [.ref 55, .int (zI ln), .int (zI z284), .int (zI z285), .int (zI z286), .int (zI z287), .int (zI z288), .int (zI fl), .ref 56, .int (zI z338)])), (56, .inl (0, 412, .inl (zA f339)))]) (ks := [54, 56, 54, 56]) [true, true, false, false] rfl (by decide +kernel) rfl ?_
                      refine J_pop dX5_plain_152 rfl ?_
                      refine Z_iconst (n := 1) dX5_plain_153 ?_
                      exact J_iret dX5_plain_154 rfl (jbn v_316afd7d0b v_bbcfac9b7d) (Nat.le_of_ble_eq_true rfl) (Nat.le_of_ble_eq_true rfl) (Or.inl ⟨z284, z285, z286, z287, z288, z338, f339, rfl, rfl, h291, h292, h293, h294, h295, h296, h297, h298, h299, h340, h341, h302, h344, (v_1533bd4120 i4_2 i4_4 h81 g271 h278 h304 h335 h337 h343), (v_60a9ec55dc i4_2 i4_4 h82 g271 h278 h305)⟩)
                  · refine J_nf (nh2 := nh) (ck2 := 0) (sk2 := 0) (st2 := [.int (zI 0)]) rfl rfl rfl rfl ?_
                    refine J_app (L3 := [(54, .inr (5, [.ref 55, .int (zI ln), .int (zI z306), .int (zI z307), .int (zI z308), .int (zI z309), .int (zI z310), .int (zI z313), .ref 56, .int (zI z311)])), (56, .inl (0, 412, .inl (zA f312))), (54, .inr (5, [.ref 55, .int (zI ln), .int (zI z272), .int (zI z273), .int (zI z274), .int (zI z275), .int (zI z65), .int (zI fl), .ref 56, .int (zI z66)])), (56, .inl (0, 412, .inl (zA f67)))]) rfl ?_
                    refine J_mask (L2 := [(54, .inr (5, [.ref 55, .int (zI ln), .int (zI z306), .int (zI z307), .int (zI z308), .int (zI z309), .int (zI z310), .int (zI z313), .ref 56, .int (zI z311)])), (56, .inl (0, 412, .inl (zA f312)))]) (ks := [54, 56, 54, 56]) [true, true, false, false] rfl (by decide +kernel) rfl ?_
                    refine Z_if_ne (tgt := 134) dX5_plain_129 (by decide) v_b17331891f (fun h345 => absurd h345 (fun q => q v_2ca2bbca1f)) (fun h345 => ?_)
                    refine Z_iconst (n := 0) dX5_plain_132 ?_
                    exact J_iret dX5_plain_133 rfl (jbn v_939070ca3f v_316afd7d0b) (Nat.le_of_ble_eq_true rfl) (Nat.le_of_ble_eq_true rfl) (Or.inr ⟨z306, z307, z308, z309, z310, z311, f312, z313, rfl, rfl, h314, h315, h316, h317, h318, h319, h320, h321, h322, h323, h324, h325, h326, h327, h328⟩)
                · refine J_nf (nh2 := nh) (ck2 := 0) (sk2 := 0) (st2 := [.int (zI 0)]) rfl rfl rfl rfl ?_
                  refine Z_if_ne (tgt := 120) dX5_plain_112 (by decide) v_b17331891f (fun h346 => absurd h346 (fun q => q v_2ca2bbca1f)) (fun h346 => ?_)
                  refine J_aload_n dX5_plain_115 rfl rfl ?_
                  refine J_callV (st := []) dX5_plain_116 cv_X5_54 (d_wrong ln z61 z62 z63 z64 z65 fl z66 h70 (v_1adcfdfee5 q1 h71 h72) rfl) rfl rfl rfl (Nat.le_of_ble_eq_true rfl) ⟨(Nat.le_of_ble_eq_true rfl), (Nat.le_of_ble_eq_true rfl)⟩ ⟨(Nat.le_of_ble_eq_true rfl), (Nat.le_of_ble_eq_true rfl)⟩ (fun r h9 hp => ?_)
                  obtain ⟨rfl, rfl⟩ := hp
                  refine J_nf (nh2 := nh) (ck2 := 0) (sk2 := 0) (st2 := [.int (zI 0)]) rfl rfl rfl rfl ?_
                  refine J_app (L3 := [(54, .inr (5, [.ref 55, .int (zI ln), .int (zI z61), .int (zI z62), .int (zI z63), .int (zI z64), .int (zI z65), .int (zI z62), .ref 56, .int (zI z66)])), (54, .inr (5, [.ref 55, .int (zI ln), .int (zI z61), .int (zI z62), .int (zI z63), .int (zI z64), .int (zI z65), .int (zI fl), .ref 56, .int (zI z66)])), (56, .inl (0, 412, .inl (zA f67)))]) rfl ?_
                  refine J_mask (L2 := [(54, .inr (5, [.ref 55, .int (zI ln), .int (zI z61), .int (zI z62), .int (zI z63), .int (zI z64), .int (zI z65), .int (zI z62), .ref 56, .int (zI z66)])), (56, .inl (0, 412, .inl (zA f67)))]) (ks := [54, 54, 56]) [true, false, true] rfl (by decide +kernel) rfl ?_
                  exact J_iret dX5_plain_119 rfl (jbn v_939070ca3f v_316afd7d0b) (Nat.le_of_ble_eq_true rfl) (Nat.le_of_ble_eq_true rfl) (Or.inr ⟨z61, z62, z63, z64, z65, z66, f67, z62, rfl, rfl, h68, h69, h70, h71, h72, h73, h74, h75, h76, h77, h78, h79, h80, h70, (v_1adcfdfee5 q1 h71 h72)⟩)
          · refine J_nf (nh2 := nh) (ck2 := 0) (sk2 := 0) (st2 := [.int (zI 0)]) rfl rfl rfl rfl ?_
            refine J_app (L3 := [(54, .inr (5, [.ref 55, .int (zI ln), .int (zI z83), .int (zI z84), .int (zI z85), .int (zI z86), .int (zI z87), .int (zI z90), .ref 56, .int (zI z88)])), (56, .inl (0, 412, .inl (zA f89))), (54, .inr (5, [.ref 55, .int (zI ln), .int (zI tx_4), .int (zI sx_4), .int (zI bx_4), .int (zI vx_4), .int (zI pa), .int (zI fl), .ref 56, .int (zI sz)]))]) rfl ?_
            refine J_mask (L2 := [(54, .inr (5, [.ref 55, .int (zI ln), .int (zI z83), .int (zI z84), .int (zI z85), .int (zI z86), .int (zI z87), .int (zI z90), .ref 56, .int (zI z88)])), (56, .inl (0, 412, .inl (zA f89)))]) (ks := [54, 56, 54]) [true, true, false] rfl (by decide +kernel) rfl ?_
            refine Z_if_ne (tgt := 69) dX5_plain_64 (by decide) v_b17331891f (fun h347 => absurd h347 (fun q => q v_2ca2bbca1f)) (fun h347 => ?_)
            refine Z_iconst (n := 0) dX5_plain_67 ?_
            exact J_iret dX5_plain_68 rfl (jbn v_939070ca3f v_316afd7d0b) (Nat.le_of_ble_eq_true rfl) (Nat.le_of_ble_eq_true rfl) (Or.inr ⟨z83, z84, z85, z86, z87, z88, f89, z90, rfl, rfl, h91, h92, h93, h94, h95, h96, h97, h98, h99, h100, h101, h102, h103, h104, h105⟩)
      · refine J_aload_n dX5_plain_11 rfl rfl ?_
        refine J_get (v := .int (zI tx_4)) dX5_plain_12 fl_X5_19 rfl rfl ?_
        refine Z_bipush (n := 6) dX5_plain_15 (by decide +kernel) ?_
        refine Z_icmp_ne (tgt := 40) dX5_plain_17 (by decide) (v_96bf6f782e i4_5 i4_6) v_8f5ecbc95e (fun h348 => ?_) (fun h348 => ?_)
        · refine J_aload_n dX5_plain_40 rfl rfl ?_
          refine Z_bipush (n := 40) dX5_plain_41 (by decide +kernel) ?_
          refine J_callV (st := []) dX5_plain_43 cv_X5_50 (d_isSign 40 ln tx_4 sx_4 bx_4 vx_4 pa fl sz v_3958fe4c87 v_fdd2493dbb i4_5 i4_6 rfl) rfl rfl rfl (Nat.le_of_ble_eq_true rfl) ⟨(Nat.le_of_ble_eq_true rfl), (Nat.le_of_ble_eq_true rfl)⟩ ⟨(Nat.le_of_ble_eq_true rfl), (Nat.le_of_ble_eq_true rfl)⟩ (fun r h9 hp => ?_)
          rcases hp with ⟨rfl, rfl, h349⟩ | ⟨rfl, rfl, h350⟩
          · refine J_nf (nh2 := nh) (ck2 := 0) (sk2 := 0) (st2 := [.int (zI 1)]) rfl rfl rfl rfl ?_
            refine Z_if_eq (tgt := 59) dX5_plain_46 (by decide) v_4dcc24baa7 (fun h351 => absurd h351 v_3a47bfd896) (fun h351 => ?_)
            refine J_aload_n dX5_plain_49 rfl rfl ?_
            refine J_iload_n dX5_plain_50 rfl rfl ?_
            refine J_callV (st := []) dX5_plain_51 cv_X5_86 (d_bracketedTest0 ln tx_4 sx_4 bx_4 vx_4 pa fl sz tp cd q0 q1 i4_5 i4_6 i4_7 i4_8 i4_9 i4_10 i4_11 q9 q10 q11 q12 q13 i4_12 q15 q16 rfl hk55 hk56) rfl rfl rfl (Nat.le_of_ble_eq_true rfl) ⟨(Nat.le_of_ble_eq_true rfl), (Nat.le_of_ble_eq_true rfl)⟩ ⟨(Nat.le_of_ble_eq_true rfl), (Nat.le_of_ble_eq_true rfl)⟩ (fun r h9 hp => ?_)
            rcases hp with ⟨z352, z353, z354, z355, z356, z357, f358, rfl, rfl, h359, h360, h361, h362, h363, h364, h365, h366, h367, h368, h369, h370, h371, h372, h373⟩ | ⟨z374, z375, z376, z377, z378, z379, f380, z381, rfl, rfl, h382, h383, h384, h385, h386, h387, h388, h389, h390, h391, h392, h393, h394, h395, h396⟩
            · refine J_nf (nh2 := nh) (ck2 := 0) (sk2 := 0) (st2 := [.int (zI 1)]) rfl rfl rfl rfl ?_
              refine J_app (L3 := [(54, .inr (5, [.ref 55, .int (zI ln), .int (zI z352), .int (zI z353), .int (zI z354), .int (zI z355), .int (zI z356), .int (zI fl), .ref 56, .int (zI z357)])), (56, .inl (0, 412, .inl (zA f358))), (54, .inr (5, [.ref 55, .int (zI ln), .int (zI tx_4), .int (zI sx_4), .int (zI bx_4), .int (zI vx_4), .int (zI pa), .int (zI fl), .ref 56, .int (zI sz)]))]) rfl ?_
              refine J_mask (L2 := [(54, .inr (5, [.ref 55, .int (zI ln), .int (zI z352), .int (zI z353), .int (zI z354), .int (zI z355), .int (zI z356), .int (zI fl), .ref 56, .int (zI z357)])), (56, .inl (0, 412, .inl (zA f358)))]) (ks := [54, 56, 54]) [true, true, false] rfl (by decide +kernel) rfl ?_
              refine Z_if_ne (tgt := 141) dX5_plain_54 (by decide) v_4dcc24baa7 (fun h397 => ?_) (fun h397 => absurd h397 v_3a47bfd896)
              refine J_iload_n dX5_plain_141 rfl rfl ?_
              refine Z_if_eq (tgt := 153) dX5_plain_142 (by decide) (v_5f10a759cd i4_2 i4_3) (fun h398 => ?_) (fun h398 => ?_)
              · refine Z_iconst (n := 1) dX5_plain_153 ?_
                exact J_iret dX5_plain_154 rfl (jbn v_316afd7d0b v_bbcfac9b7d) (Nat.le_of_ble_eq_true rfl) (Nat.le_of_ble_eq_true rfl) (Or.inl ⟨z352, z353, z354, z355, z356, z357, f358, rfl, rfl, h359, h360, h361, h362, h363, h364, h365, h366, h367, h368, h369, h370, h371, (v_f7907ed2b5 i4_2 i4_4 h372), (v_4790cfd5f0 i4_2 i4_4 h373)⟩)
              · refine J_aload_n dX5_plain_145 rfl rfl ?_
                refine Z_bipush (n := 9) dX5_plain_146 (by decide +kernel) ?_
                refine Z_iconst (n := 0) dX5_plain_148 ?_
                refine J_callV (st := []) dX5_plain_149 cv_X5_72 (d_emit 9 0 ln z352 z353 z354 z355 z356 fl z357 f358 v_00f9f00cc1 v_b17331891f h368 h369 h371 rfl rfl) rfl rfl rfl (Nat.le_of_ble_eq_true rfl) ⟨(Nat.le_of_ble_eq_true rfl), (Nat.le_of_ble_eq_true rfl)⟩ ⟨(Nat.le_of_ble_eq_true rfl), (Nat.le_of_ble_eq_true rfl)⟩ (fun r h9 hp => ?_)
                obtain ⟨z399, f400, rfl, rfl, h401, h402, h403, h404, h405⟩ := hp
                refine J_nf (nh2 := nh) (ck2 := 0) (sk2 := 0) (st2 := [.int (zI z357)]) rfl rfl rfl rfl ?_
                refine J_app (L3 := [(54, .inr (5, [.ref 55, .int (zI ln), .int (zI z352), .int (zI z353), .int (zI z354), .int (zI z355), .int (zI z356), .int (zI fl), .ref 56, .int (zI z399)])), (56, .inl (0, 412, .inl (zA f400))), (54, .inr (5, [.ref 55, .int (zI ln), .int (zI z352), .int (zI z353), .int (zI z354), .int (zI z355), .int (zI z356), .int (zI fl), .ref 56, .int (zI z357)])), (56, .inl (0, 412, .inl (zA f358)))]) rfl ?_
                refine J_mask (L2 := [(54, .inr (5, [.ref 55, .int (zI ln), .int (zI z352), .int (zI z353), .int (zI z354), .int (zI z355), .int (zI z356), .int (zI fl), .ref 56, .int (zI z399)])), (56, .inl (0, 412, .inl (zA f400)))]) (ks := [54, 56, 54, 56]) [true, true, false, false] rfl (by decide +kernel) rfl ?_
                refine J_pop dX5_plain_152 rfl ?_
                refine Z_iconst (n := 1) dX5_plain_153 ?_
                exact J_iret dX5_plain_154 rfl (jbn v_316afd7d0b v_bbcfac9b7d) (Nat.le_of_ble_eq_true rfl) (Nat.le_of_ble_eq_true rfl) (Or.inl ⟨z352, z353, z354, z355, z356, z399, f400, rfl, rfl, h359, h360, h361, h362, h363, h364, h365, h366, h367, h401, h402, h370, h405, (v_6cbc4edc5d i4_2 i4_4 h372 h398 h404), (v_4790cfd5f0 i4_2 i4_4 h373)⟩)
            · refine J_nf (nh2 := nh) (ck2 := 0) (sk2 := 0) (st2 := [.int (zI 0)]) rfl rfl rfl rfl ?_
              refine J_app (L3 := [(54, .inr (5, [.ref 55, .int (zI ln), .int (zI z374), .int (zI z375), .int (zI z376), .int (zI z377), .int (zI z378), .int (zI z381), .ref 56, .int (zI z379)])), (56, .inl (0, 412, .inl (zA f380))), (54, .inr (5, [.ref 55, .int (zI ln), .int (zI tx_4), .int (zI sx_4), .int (zI bx_4), .int (zI vx_4), .int (zI pa), .int (zI fl), .ref 56, .int (zI sz)]))]) rfl ?_
              refine J_mask (L2 := [(54, .inr (5, [.ref 55, .int (zI ln), .int (zI z374), .int (zI z375), .int (zI z376), .int (zI z377), .int (zI z378), .int (zI z381), .ref 56, .int (zI z379)])), (56, .inl (0, 412, .inl (zA f380)))]) (ks := [54, 56, 54]) [true, true, false] rfl (by decide +kernel) rfl ?_
              refine Z_if_ne (tgt := 141) dX5_plain_54 (by decide) v_b17331891f (fun h406 => absurd h406 (fun q => q v_2ca2bbca1f)) (fun h406 => ?_)
              refine Z_iconst (n := 0) dX5_plain_57 ?_
              exact J_iret dX5_plain_58 rfl (jbn v_939070ca3f v_316afd7d0b) (Nat.le_of_ble_eq_true rfl) (Nat.le_of_ble_eq_true rfl) (Or.inr ⟨z374, z375, z376, z377, z378, z379, f380, z381, rfl, rfl, h382, h383, h384, h385, h386, h387, h388, h389, h390, h391, h392, h393, h394, h395, h396⟩)
          · refine J_nf (nh2 := nh) (ck2 := 0) (sk2 := 0) (st2 := [.int (zI 0)]) rfl rfl rfl rfl ?_
            refine Z_if_eq (tgt := 59) dX5_plain_46 (by decide) v_b17331891f (fun h407 => ?_) (fun h407 => absurd h407 (fun q => q v_2ca2bbca1f))
            refine J_aload_n dX5_plain_59 rfl rfl ?_
            refine J_iload_n dX5_plain_60 rfl rfl ?_
            refine J_callV (st := []) dX5_plain_61 cv_X5_63 (d_sum0 ln tx_4 sx_4 bx_4 vx_4 pa fl sz tp cd q0 q1 i4_5 i4_6 i4_7 i4_8 i4_9 i4_10 i4_11 q9 q10 q11 q12 q13 i4_12 q15 q16 rfl hk55 hk56) rfl rfl rfl (Nat.le_of_ble_eq_true rfl) ⟨(Nat.le_of_ble_eq_true rfl), (Nat.le_of_ble_eq_true rfl)⟩ ⟨(Nat.le_of_ble_eq_true rfl), (Nat.le_of_ble_eq_true rfl)⟩ (fun r h9 hp => ?_)
            rcases hp with ⟨z408, z409, z410, z411, z412, z413, f414, rfl, rfl, h415, h416, h417, h418, h419, h420, h421, h422, h423, h424, h425, h426, h427, h428, h429⟩ | ⟨z430, z431, z432, z433, z434, z435, f436, z437, rfl, rfl, h438, h439, h440, h441, h442, h443, h444, h445, h446, h447, h448, h449, h450, h451, h452⟩
            · refine J_nf (nh2 := nh) (ck2 := 0) (sk2 := 0) (st2 := [.int (zI 1)]) rfl rfl rfl rfl ?_
              refine J_app (L3 := [(54, .inr (5, [.ref 55, .int (zI ln), .int (zI z408), .int (zI z409), .int (zI z410), .int (zI z411), .int (zI z412), .int (zI fl), .ref 56, .int (zI z413)])), (56, .inl (0, 412, .inl (zA f414))), (54, .inr (5, [.ref 55, .int (zI ln), .int (zI tx_4), .int (zI sx_4), .int (zI bx_4), .int (zI vx_4), .int (zI pa), .int (zI fl), .ref 56, .int (zI sz)]))]) rfl ?_
              refine J_mask (L2 := [(54, .inr (5, [.ref 55, .int (zI ln), .int (zI z408), .int (zI z409), .int (zI z410), .int (zI z411), .int (zI z412), .int (zI fl), .ref 56, .int (zI z413)])), (56, .inl (0, 412, .inl (zA f414)))]) (ks := [54, 56, 54]) [true, true, false] rfl (by decide +kernel) rfl ?_
              refine Z_if_ne (tgt := 69) dX5_plain_64 (by decide) v_4dcc24baa7 (fun h453 => ?_) (fun h453 => absurd h453 v_3a47bfd896)
              refine J_aload_n dX5_plain_69 rfl rfl ?_
              refine Z_bipush (n := 60) dX5_plain_70 (by decide +kernel) ?_
              refine J_callV (st := []) dX5_plain_72 cv_X5_50 (d_isSign 60 ln z408 z409 z410 z411 z412 fl z413 v_eb2f5e1e3a v_382af52349 h415 h416 rfl) rfl rfl rfl (Nat.le_of_ble_eq_true rfl) ⟨(Nat.le_of_ble_eq_true rfl), (Nat.le_of_ble_eq_true rfl)⟩ ⟨(Nat.le_of_ble_eq_true rfl), (Nat.le_of_ble_eq_true rfl)⟩ (fun r h9 hp => ?_)
              rcases hp with ⟨rfl, rfl, h454⟩ | ⟨rfl, rfl, h455⟩
              · refine J_nf (nh2 := nh) (ck2 := 0) (sk2 := 0) (st2 := [.int (zI 1)]) rfl rfl rfl rfl ?_
                refine Z_if_eq (tgt := 83) dX5_plain_75 (by decide) v_4dcc24baa7 (fun h456 => absurd h456 v_3a47bfd896) (fun h456 => ?_)
                refine Z_bipush (n := 6) dX5_plain_78 (by decide +kernel) ?_
                refine J_goto (tgt := 99) dX5_plain_80 (by decide) ?_
                refine J_istore_n dX5_plain_99 rfl (Nat.le_of_ble_eq_true rfl) rfl ?_
                refine J_ls (ls2 := [some (.ref 54), some (.int (zI 0)), some (.int (zI dn_4)), some (.int (zI 6))]) rfl ?_
                refine J_iload_n dX5_plain_100 rfl rfl ?_
                refine Z_bipush (n := 8) dX5_plain_101 (by decide +kernel) ?_
                refine Z_icmp_ne (tgt := 120) dX5_plain_103 (by decide) v_8f5ecbc95e v_665891e294 (fun h457 => ?_) (fun h457 => absurd h457 v_ada6685030)
                refine J_aload_n dX5_plain_120 rfl rfl ?_
                have g458 := TokL.lt h426 (v_f5333b39e4 h454)
                refine J_callV (st := []) dX5_plain_121 cv_X5_43 (d_advance ln z408 z409 z410 z411 z412 fl z413 tp q0 q1 (v_d253cb2c59 h417 g458) h419 h420 h421 q15 rfl hk55) rfl rfl rfl (Nat.le_of_ble_eq_true rfl) ⟨(Nat.le_of_ble_eq_true rfl), (Nat.le_of_ble_eq_true rfl)⟩ ⟨(Nat.le_of_ble_eq_true rfl), (Nat.le_of_ble_eq_true rfl)⟩ (fun r h9 hp => ?_)
                obtain ⟨z459, z460, z461, z462, rfl, rfl, h463, h464, h465, h466, h467, h468, h469, h470⟩ := hp
                refine J_nf (nh2 := nh) (ck2 := 0) (sk2 := 0) (st2 := []) rfl rfl rfl rfl ?_
                refine J_app (L3 := [(54, .inr (5, [.ref 55, .int (zI ln), .int (zI z459), .int (zI z460), .int (zI z461), .int (zI z462), .int (zI z412), .int (zI fl), .ref 56, .int (zI z413)])), (54, .inr (5, [.ref 55, .int (zI ln), .int (zI z408), .int (zI z409), .int (zI z410), .int (zI z411), .int (zI z412), .int (zI fl), .ref 56, .int (zI z413)])), (56, .inl (0, 412, .inl (zA f414)))]) rfl ?_
                refine J_mask (L2 := [(54, .inr (5, [.ref 55, .int (zI ln), .int (zI z459), .int (zI z460), .int (zI z461), .int (zI z462), .int (zI z412), .int (zI fl), .ref 56, .int (zI z413)])), (56, .inl (0, 412, .inl (zA f414)))]) (ks := [54, 54, 56]) [true, false, true] rfl (by decide +kernel) rfl ?_
                refine J_aload_n dX5_plain_124 rfl rfl ?_
                refine J_iload_n dX5_plain_125 rfl rfl ?_
                refine J_callV (st := []) dX5_plain_126 cv_X5_63 (d_sum0 ln z459 z460 z461 z462 z412 fl z413 tp f414 q0 q1 h463 h464 (v_9b2e2070a2 h417 g458 h465) h466 h467 h468 h469 h422 h423 q11 h424 h425 h470 q15 h427 rfl hk55 rfl) rfl rfl rfl (Nat.le_of_ble_eq_true rfl) ⟨(Nat.le_of_ble_eq_true rfl), (Nat.le_of_ble_eq_true rfl)⟩ ⟨(Nat.le_of_ble_eq_true rfl), (Nat.le_of_ble_eq_true rfl)⟩ (fun r h9 hp => ?_)
                rcases hp with ⟨z471, z472, z473, z474, z475, z476, f477, rfl, rfl, h478, h479, h480, h481, h482, h483, h484, h485, h486, h487, h488, h489, h490, h491, h492⟩ | ⟨z493, z494, z495, z496, z497, z498, f499, z500, rfl, rfl, h501, h502, h503, h504, h505, h506, h507, h508, h509, h510, h511, h512, h513, h514, h515⟩
                · refine J_nf (nh2 := nh) (ck2 := 0) (sk2 := 0) (st2 := [.int (zI 1)]) rfl rfl rfl rfl ?_
                  refine J_app (L3 := [(54, .inr (5, [.ref 55, .int (zI ln), .int (zI z471), .int (zI z472), .int (zI z473), .int (zI z474), .int (zI z475), .int (zI fl), .ref 56, .int (zI z476)])), (56, .inl (0, 412, .inl (zA f477))), (54, .inr (5, [.ref 55, .int (zI ln), .int (zI z459), .int (zI z460), .int (zI z461), .int (zI z462), .int (zI z412), .int (zI fl), .ref 56, .int (zI z413)])), (56, .inl (0, 412, .inl (zA f414)))]) rfl ?_
                  refine J_mask (L2 := [(54, .inr (5, [.ref 55, .int (zI ln), .int (zI z471), .int (zI z472), .int (zI z473), .int (zI z474), .int (zI z475), .int (zI fl), .ref 56, .int (zI z476)])), (56, .inl (0, 412, .inl (zA f477)))]) (ks := [54, 56, 54, 56]) [true, true, false, false] rfl (by decide +kernel) rfl ?_
                  refine Z_if_ne (tgt := 134) dX5_plain_129 (by decide) v_4dcc24baa7 (fun h516 => ?_) (fun h516 => absurd h516 v_3a47bfd896)
                  refine J_aload_n dX5_plain_134 rfl rfl ?_
                  refine J_iload_n dX5_plain_135 rfl rfl ?_
                  refine Z_iconst (n := 0) dX5_plain_136 ?_
                  refine J_callV (st := []) dX5_plain_137 cv_X5_72 (d_emit 6 0 ln z471 z472 z473 z474 z475 fl z476 f477 v_8f5ecbc95e v_b17331891f h487 h488 h490 rfl rfl) rfl rfl rfl (Nat.le_of_ble_eq_true rfl) ⟨(Nat.le_of_ble_eq_true rfl), (Nat.le_of_ble_eq_true rfl)⟩ ⟨(Nat.le_of_ble_eq_true rfl), (Nat.le_of_ble_eq_true rfl)⟩ (fun r h9 hp => ?_)
                  obtain ⟨z517, f518, rfl, rfl, h519, h520, h521, h522, h523⟩ := hp
                  refine J_nf (nh2 := nh) (ck2 := 0) (sk2 := 0) (st2 := [.int (zI z476)]) rfl rfl rfl rfl ?_
                  refine J_app (L3 := [(54, .inr (5, [.ref 55, .int (zI ln), .int (zI z471), .int (zI z472), .int (zI z473), .int (zI z474), .int (zI z475), .int (zI fl), .ref 56, .int (zI z517)])), (56, .inl (0, 412, .inl (zA f518))), (54, .inr (5, [.ref 55, .int (zI ln), .int (zI z471), .int (zI z472), .int (zI z473), .int (zI z474), .int (zI z475), .int (zI fl), .ref 56, .int (zI z476)])), (56, .inl (0, 412, .inl (zA f477)))]) rfl ?_
                  refine J_mask (L2 := [(54, .inr (5, [.ref 55, .int (zI ln), .int (zI z471), .int (zI z472), .int (zI z473), .int (zI z474), .int (zI z475), .int (zI fl), .ref 56, .int (zI z517)])), (56, .inl (0, 412, .inl (zA f518)))]) (ks := [54, 56, 54, 56]) [true, true, false, false] rfl (by decide +kernel) rfl ?_
                  refine J_pop dX5_plain_140 rfl ?_
                  refine J_iload_n dX5_plain_141 rfl rfl ?_
                  refine Z_if_eq (tgt := 153) dX5_plain_142 (by decide) (v_5f10a759cd i4_2 i4_3) (fun h524 => ?_) (fun h524 => ?_)
                  · refine Z_iconst (n := 1) dX5_plain_153 ?_
                    exact J_iret dX5_plain_154 rfl (jbn v_316afd7d0b v_bbcfac9b7d) (Nat.le_of_ble_eq_true rfl) (Nat.le_of_ble_eq_true rfl) (Or.inl ⟨z471, z472, z473, z474, z475, z517, f518, rfl, rfl, h478, h479, h480, h481, h482, h483, h484, h485, h486, h519, h520, h489, h523, (v_5848421b37 i4_2 i4_4 h428 g458 h465 h491 h522), (v_60a9ec55dc i4_2 i4_4 h429 g458 h465 h492)⟩)
                  · refine J_aload_n dX5_plain_145 rfl rfl ?_
                    refine Z_bipush (n := 9) dX5_plain_146 (by decide +kernel) ?_
                    refine Z_iconst (n := 0) dX5_plain_148 ?_
                    refine J_callV (st := []) dX5_plain_149 cv_X5_72 (d_emit 9 0 ln z471 z472 z473 z474 z475 fl z517 f518 v_00f9f00cc1 v_b17331891f h519 h520 h523 rfl rfl) rfl rfl rfl (Nat.le_of_ble_eq_true rfl) ⟨(Nat.le_of_ble_eq_true rfl), (Nat.le_of_ble_eq_true rfl)⟩ ⟨(Nat.le_of_ble_eq_true rfl), (Nat.le_of_ble_eq_true rfl)⟩ (fun r h9 hp => ?_)
                    obtain ⟨z525, f526, rfl, rfl, h527, h528, h529, h530, h531⟩ := hp
                    refine J_nf (nh2 := nh) (ck2 := 0) (sk2 := 0) (st2 := [.int (zI z517)]) rfl rfl rfl rfl ?_
                    refine J_app (L3 := [(54, .inr (5, [.ref 55, .int (zI ln), .int (zI z471), .int (zI z472), .int (zI z473), .int (zI z474), .int (zI z475), .int (zI fl), .ref 56, .int (zI z525)])), (56, .inl (0, 412, .inl (zA f526))), (54, .inr (5, [.ref 55, .int (zI ln), .int (zI z471), .int (zI z472), .int (zI z473), .int (zI z474), .int (zI z475), .int (zI fl), .ref 56, .int (zI z517)])), (56, .inl (0, 412, .inl (zA f518)))]) rfl ?_
                    refine J_mask (L2 := [(54, .inr (5, [.ref 55, .int (zI ln), .int (zI z471), .int (zI z472), .int (zI z473), .int (zI z474), .int (zI z475), .int (zI fl), .ref 56, .int (zI z525)])), (56, .inl (0, 412, .inl (zA f526)))]) (ks := [54, 56, 54, 56]) [true, true, false, false] rfl (by decide +kernel) rfl ?_
                    refine J_pop dX5_plain_152 rfl ?_
                    refine Z_iconst (n := 1) dX5_plain_153 ?_
                    exact J_iret dX5_plain_154 rfl (jbn v_316afd7d0b v_bbcfac9b7d) (Nat.le_of_ble_eq_true rfl) (Nat.le_of_ble_eq_true rfl) (Or.inl ⟨z471, z472, z473, z474, z475, z525, f526, rfl, rfl, h478, h479, h480, h481, h482, h483, h484, h485, h486, h527, h528, h489, h531, (v_1533bd4120 i4_2 i4_4 h428 g458 h465 h491 h522 h524 h530), (v_60a9ec55dc i4_2 i4_4 h429 g458 h465 h492)⟩)
                · refine J_nf (nh2 := nh) (ck2 := 0) (sk2 := 0) (st2 := [.int (zI 0)]) rfl rfl rfl rfl ?_
                  refine J_app (L3 := [(54, .inr (5, [.ref 55, .int (zI ln), .int (zI z493), .int (zI z494), .int (zI z495), .int (zI z496), .int (zI z497), .int (zI z500), .ref 56, .int (zI z498)])), (56, .inl (0, 412, .inl (zA f499))), (54, .inr (5, [.ref 55, .int (zI ln), .int (zI z459), .int (zI z460), .int (zI z461), .int (zI z462), .int (zI z412), .int (zI fl), .ref 56, .int (zI z413)])), (56, .inl (0, 412, .inl (zA f414)))]) rfl ?_
                  refine J_mask (L2 := [(54, .inr (5, [.ref 55, .int (zI ln), .int (zI z493), .int (zI z494), .int (zI z495), .int (zI z496), .int (zI z497), .int (zI z500), .ref 56, .int (zI z498)])), (56, .inl (0, 412, .inl (zA f499)))]) (ks := [54, 56, 54, 56]) [true, true, false, false] rfl (by decide +kernel) rfl ?_
                  refine Z_if_ne (tgt := 134) dX5_plain_129 (by decide) v_b17331891f (fun h532 => absurd h532 (fun q => q v_2ca2bbca1f)) (fun h532 => ?_)
                  refine Z_iconst (n := 0) dX5_plain_132 ?_
                  exact J_iret dX5_plain_133 rfl (jbn v_939070ca3f v_316afd7d0b) (Nat.le_of_ble_eq_true rfl) (Nat.le_of_ble_eq_true rfl) (Or.inr ⟨z493, z494, z495, z496, z497, z498, f499, z500, rfl, rfl, h501, h502, h503, h504, h505, h506, h507, h508, h509, h510, h511, h512, h513, h514, h515⟩)
              · refine J_nf (nh2 := nh) (ck2 := 0) (sk2 := 0) (st2 := [.int (zI 0)]) rfl rfl rfl rfl ?_
                refine Z_if_eq (tgt := 83) dX5_plain_75 (by decide) v_b17331891f (fun h533 => ?_) (fun h533 => absurd h533 (fun q => q v_2ca2bbca1f))
                refine J_aload_n dX5_plain_83 rfl rfl ?_
                refine Z_bipush (n := 62) dX5_plain_84 (by decide +kernel) ?_
                refine J_callV (st := []) dX5_plain_86 cv_X5_50 (d_isSign 62 ln z408 z409 z410 z411 z412 fl z413 v_722c6b3941 v_3996c1d9a8 h415 h416 rfl) rfl rfl rfl (Nat.le_of_ble_eq_true rfl) ⟨(Nat.le_of_ble_eq_true rfl), (Nat.le_of_ble_eq_true rfl)⟩ ⟨(Nat.le_of_ble_eq_true rfl), (Nat.le_of_ble_eq_true rfl)⟩ (fun r h9 hp => ?_)
                rcases hp with ⟨rfl, rfl, h534⟩ | ⟨rfl, rfl, h535⟩
                · refine J_nf (nh2 := nh) (ck2 := 0) (sk2 := 0) (st2 := [.int (zI 1)]) rfl rfl rfl rfl ?_
                  refine Z_if_eq (tgt := 97) dX5_plain_89 (by decide) v_4dcc24baa7 (fun h536 => absurd h536 v_3a47bfd896) (fun h536 => ?_)
                  refine Z_bipush (n := 7) dX5_plain_92 (by decide +kernel) ?_
                  refine J_goto (tgt := 99) dX5_plain_94 (by decide) ?_
                  refine J_istore_n dX5_plain_99 rfl (Nat.le_of_ble_eq_true rfl) rfl ?_
                  refine J_ls (ls2 := [some (.ref 54), some (.int (zI 0)), some (.int (zI dn_4)), some (.int (zI 7))]) rfl ?_
                  refine J_iload_n dX5_plain_100 rfl rfl ?_
                  refine Z_bipush (n := 8) dX5_plain_101 (by decide +kernel) ?_
                  refine Z_icmp_ne (tgt := 120) dX5_plain_103 (by decide) v_c3fe1a091f v_665891e294 (fun h537 => ?_) (fun h537 => absurd h537 v_d62b89f05c)
                  refine J_aload_n dX5_plain_120 rfl rfl ?_
                  have g538 := TokL.lt h426 (v_3ec9e003c7 h534)
                  refine J_callV (st := []) dX5_plain_121 cv_X5_43 (d_advance ln z408 z409 z410 z411 z412 fl z413 tp q0 q1 (v_d253cb2c59 h417 g538) h419 h420 h421 q15 rfl hk55) rfl rfl rfl (Nat.le_of_ble_eq_true rfl) ⟨(Nat.le_of_ble_eq_true rfl), (Nat.le_of_ble_eq_true rfl)⟩ ⟨(Nat.le_of_ble_eq_true rfl), (Nat.le_of_ble_eq_true rfl)⟩ (fun r h9 hp => ?_)
                  obtain ⟨z539, z540, z541, z542, rfl, rfl, h543, h544, h545, h546, h547, h548, h549, h550⟩ := hp
                  refine J_nf (nh2 := nh) (ck2 := 0) (sk2 := 0) (st2 := []) rfl rfl rfl rfl ?_
                  refine J_app (L3 := [(54, .inr (5, [.ref 55, .int (zI ln), .int (zI z539), .int (zI z540), .int (zI z541), .int (zI z542), .int (zI z412), .int (zI fl), .ref 56, .int (zI z413)])), (54, .inr (5, [.ref 55, .int (zI ln), .int (zI z408), .int (zI z409), .int (zI z410), .int (zI z411), .int (zI z412), .int (zI fl), .ref 56, .int (zI z413)])), (56, .inl (0, 412, .inl (zA f414)))]) rfl ?_
                  refine J_mask (L2 := [(54, .inr (5, [.ref 55, .int (zI ln), .int (zI z539), .int (zI z540), .int (zI z541), .int (zI z542), .int (zI z412), .int (zI fl), .ref 56, .int (zI z413)])), (56, .inl (0, 412, .inl (zA f414)))]) (ks := [54, 54, 56]) [true, false, true] rfl (by decide +kernel) rfl ?_
                  refine J_aload_n dX5_plain_124 rfl rfl ?_
                  refine J_iload_n dX5_plain_125 rfl rfl ?_
                  refine J_callV (st := []) dX5_plain_126 cv_X5_63 (d_sum0 ln z539 z540 z541 z542 z412 fl z413 tp f414 q0 q1 h543 h544 (v_9b2e2070a2 h417 g538 h545) h546 h547 h548 h549 h422 h423 q11 h424 h425 h550 q15 h427 rfl hk55 rfl) rfl rfl rfl (Nat.le_of_ble_eq_true rfl) ⟨(Nat.le_of_ble_eq_true rfl), (Nat.le_of_ble_eq_true rfl)⟩ ⟨(Nat.le_of_ble_eq_true rfl), (Nat.le_of_ble_eq_true rfl)⟩ (fun r h9 hp => ?_)
                  rcases hp with ⟨z551, z552, z553, z554, z555, z556, f557, rfl, rfl, h558, h559, h560, h561, h562, h563, h564, h565, h566, h567, h568, h569, h570, h571, h572⟩ | ⟨z573, z574, z575, z576, z577, z578, f579, z580, rfl, rfl, h581, h582, h583, h584, h585, h586, h587, h588, h589, h590, h591, h592, h593, h594, h595⟩
                  · refine J_nf (nh2 := nh) (ck2 := 0) (sk2 := 0) (st2 := [.int (zI 1)]) rfl rfl rfl rfl ?_
                    refine J_app (L3 := [(54, .inr (5, [.ref 55, .int (zI ln), .int (zI z551), .int (zI z552), .int (zI z553), .int (zI z554), .int (zI z555), .int (zI fl), .ref 56, .int (zI z556)])), (56, .inl (0, 412, .inl (zA f557))), (54, .inr (5, [.ref 55, .int (zI ln), .int (zI z539), .int (zI z540), .int (zI z541), .int (zI z542), .int (zI z412), .int (zI fl), .ref 56, .int (zI z413)])), (56, .inl (0, 412, .inl (zA f414)))]) rfl ?_
                    refine J_mask (L2 := [(54, .inr (5, [.ref 55, .int (zI ln), .int (zI z551), .int (zI z552), .int (zI z553), .int (zI z554), .int (zI z555), .int (zI fl), .ref 56, .int (zI z556)])), (56, .inl (0, 412, .inl (zA f557)))]) (ks := [54, 56, 54, 56]) [true, true, false, false] rfl (by decide +kernel) rfl ?_
                    refine Z_if_ne (tgt := 134) dX5_plain_129 (by decide) v_4dcc24baa7 (fun h596 => ?_) (fun h596 => absurd h596 v_3a47bfd896)
                    refine J_aload_n dX5_plain_134 rfl rfl ?_
                    refine J_iload_n dX5_plain_135 rfl rfl ?_
                    refine Z_iconst (n := 0) dX5_plain_136 ?_
                    refine J_callV (st := []) dX5_plain_137 cv_X5_72 (d_emit 7 0 ln z551 z552 z553 z554 z555 fl z556 f557 v_c3fe1a091f v_b17331891f h567 h568 h570 rfl rfl) rfl rfl rfl (Nat.le_of_ble_eq_true rfl) ⟨(Nat.le_of_ble_eq_true rfl), (Nat.le_of_ble_eq_true rfl)⟩ ⟨(Nat.le_of_ble_eq_true rfl), (Nat.le_of_ble_eq_true rfl)⟩ (fun r h9 hp => ?_)
                    obtain ⟨z597, f598, rfl, rfl, h599, h600, h601, h602, h603⟩ := hp
                    refine J_nf (nh2 := nh) (ck2 := 0) (sk2 := 0) (st2 := [.int (zI z556)]) rfl rfl rfl rfl ?_
                    refine J_app (L3 := [(54, .inr (5, [.ref 55, .int (zI ln), .int (zI z551), .int (zI z552), .int (zI z553), .int (zI z554), .int (zI z555), .int (zI fl), .ref 56, .int (zI z597)])), (56, .inl (0, 412, .inl (zA f598))), (54, .inr (5, [.ref 55, .int (zI ln), .int (zI z551), .int (zI z552), .int (zI z553), .int (zI z554), .int (zI z555), .int (zI fl), .ref 56, .int (zI z556)])), (56, .inl (0, 412, .inl (zA f557)))]) rfl ?_
                    refine J_mask (L2 := [(54, .inr (5, [.ref 55, .int (zI ln), .int (zI z551), .int (zI z552), .int (zI z553), .int (zI z554), .int (zI z555), .int (zI fl), .ref 56, .int (zI z597)])), (56, .inl (0, 412, .inl (zA f598)))]) (ks := [54, 56, 54, 56]) [true, true, false, false] rfl (by decide +kernel) rfl ?_
                    refine J_pop dX5_plain_140 rfl ?_
                    refine J_iload_n dX5_plain_141 rfl rfl ?_
                    refine Z_if_eq (tgt := 153) dX5_plain_142 (by decide) (v_5f10a759cd i4_2 i4_3) (fun h604 => ?_) (fun h604 => ?_)
                    · refine Z_iconst (n := 1) dX5_plain_153 ?_
                      exact J_iret dX5_plain_154 rfl (jbn v_316afd7d0b v_bbcfac9b7d) (Nat.le_of_ble_eq_true rfl) (Nat.le_of_ble_eq_true rfl) (Or.inl ⟨z551, z552, z553, z554, z555, z597, f598, rfl, rfl, h558, h559, h560, h561, h562, h563, h564, h565, h566, h599, h600, h569, h603, (v_5848421b37 i4_2 i4_4 h428 g538 h545 h571 h602), (v_60a9ec55dc i4_2 i4_4 h429 g538 h545 h572)⟩)
                    · refine J_aload_n dX5_plain_145 rfl rfl ?_
                      refine Z_bipush (n := 9) dX5_plain_146 (by decide +kernel) ?_
                      refine Z_iconst (n := 0) dX5_plain_148 ?_
                      refine J_callV (st := []) dX5_plain_149 cv_X5_72 (d_emit 9 0 ln z551 z552 z553 z554 z555 fl z597 f598 v_00f9f00cc1 v_b17331891f h599 h600 h603 rfl rfl) rfl rfl rfl (Nat.le_of_ble_eq_true rfl) ⟨(Nat.le_of_ble_eq_true rfl), (Nat.le_of_ble_eq_true rfl)⟩ ⟨(Nat.le_of_ble_eq_true rfl), (Nat.le_of_ble_eq_true rfl)⟩ (fun r h9 hp => ?_)
                      obtain ⟨z605, f606, rfl, rfl, h607, h608, h609, h610, h611⟩ := hp
                      refine J_nf (nh2 := nh) (ck2 := 0) (sk2 := 0) (st2 := [.int (zI z597)]) rfl rfl rfl rfl ?_
                      refine J_app (L3 := [(54, .inr (5, [.ref 55, .int (zI ln), .int (zI z551), .int (zI z552), .int (zI z553), .int (zI z554), .int (zI z555), .int (zI fl), .ref 56, .int (zI z605)])), (56, .inl (0, 412, .inl (zA f606))), (54, .inr (5, [.ref 55, .int (zI ln), .int (zI z551), .int (zI z552), .int (zI z553), .int (zI z554), .int (zI z555), .int (zI fl), .ref 56, .int (zI z597)])), (56, .inl (0, 412, .inl (zA f598)))]) rfl ?_
                      refine J_mask (L2 := [(54, .inr (5, [.ref 55, .int (zI ln), .int (zI z551), .int (zI z552), .int (zI z553), .int (zI z554), .int (zI z555), .int (zI fl), .ref 56, .int (zI z605)])), (56, .inl (0, 412, .inl (zA f606)))]) (ks := [54, 56, 54, 56]) [true, true, false, false] rfl (by decide +kernel) rfl ?_
                      refine J_pop dX5_plain_152 rfl ?_
                      refine Z_iconst (n := 1) dX5_plain_153 ?_
                      exact J_iret dX5_plain_154 rfl (jbn v_316afd7d0b v_bbcfac9b7d) (Nat.le_of_ble_eq_true rfl) (Nat.le_of_ble_eq_true rfl) (Or.inl ⟨z551, z552, z553, z554, z555, z605, f606, rfl, rfl, h558, h559, h560, h561, h562, h563, h564, h565, h566, h607, h608, h569, h611, (v_1533bd4120 i4_2 i4_4 h428 g538 h545 h571 h602 h604 h610), (v_60a9ec55dc i4_2 i4_4 h429 g538 h545 h572)⟩)
                  · refine J_nf (nh2 := nh) (ck2 := 0) (sk2 := 0) (st2 := [.int (zI 0)]) rfl rfl rfl rfl ?_
                    refine J_app (L3 := [(54, .inr (5, [.ref 55, .int (zI ln), .int (zI z573), .int (zI z574), .int (zI z575), .int (zI z576), .int (zI z577), .int (zI z580), .ref 56, .int (zI z578)])), (56, .inl (0, 412, .inl (zA f579))), (54, .inr (5, [.ref 55, .int (zI ln), .int (zI z539), .int (zI z540), .int (zI z541), .int (zI z542), .int (zI z412), .int (zI fl), .ref 56, .int (zI z413)])), (56, .inl (0, 412, .inl (zA f414)))]) rfl ?_
                    refine J_mask (L2 := [(54, .inr (5, [.ref 55, .int (zI ln), .int (zI z573), .int (zI z574), .int (zI z575), .int (zI z576), .int (zI z577), .int (zI z580), .ref 56, .int (zI z578)])), (56, .inl (0, 412, .inl (zA f579)))]) (ks := [54, 56, 54, 56]) [true, true, false, false] rfl (by decide +kernel) rfl ?_
                    refine Z_if_ne (tgt := 134) dX5_plain_129 (by decide) v_b17331891f (fun h612 => absurd h612 (fun q => q v_2ca2bbca1f)) (fun h612 => ?_)
                    refine Z_iconst (n := 0) dX5_plain_132 ?_
                    exact J_iret dX5_plain_133 rfl (jbn v_939070ca3f v_316afd7d0b) (Nat.le_of_ble_eq_true rfl) (Nat.le_of_ble_eq_true rfl) (Or.inr ⟨z573, z574, z575, z576, z577, z578, f579, z580, rfl, rfl, h581, h582, h583, h584, h585, h586, h587, h588, h589, h590, h591, h592, h593, h594, h595⟩)
                · refine J_nf (nh2 := nh) (ck2 := 0) (sk2 := 0) (st2 := [.int (zI 0)]) rfl rfl rfl rfl ?_
                  refine Z_if_eq (tgt := 97) dX5_plain_89 (by decide) v_b17331891f (fun h613 => ?_) (fun h613 => absurd h613 (fun q => q v_2ca2bbca1f))
                  refine Z_bipush (n := 8) dX5_plain_97 (by decide +kernel) ?_
                  refine J_istore_n dX5_plain_99 rfl (Nat.le_of_ble_eq_true rfl) rfl ?_
                  refine J_ls (ls2 := [some (.ref 54), some (.int (zI 0)), some (.int (zI dn_4)), some (.int (zI 8))]) rfl ?_
                  refine J_iload_n dX5_plain_100 rfl rfl ?_
                  refine Z_bipush (n := 8) dX5_plain_101 (by decide +kernel) ?_
                  refine Z_icmp_ne (tgt := 120) dX5_plain_103 (by decide) v_665891e294 v_665891e294 (fun h614 => absurd h614 (fun q => q v_c1b8243509)) (fun h614 => ?_)
                  refine J_aload_n dX5_plain_106 rfl rfl ?_
                  refine Z_bipush (n := 61) dX5_plain_107 (by decide +kernel) ?_
                  refine J_callV (st := []) dX5_plain_109 cv_X5_50 (d_isSign 61 ln z408 z409 z410 z411 z412 fl z413 v_b92a3c53b8 v_7b9730a51b h415 h416 rfl) rfl rfl rfl (Nat.le_of_ble_eq_true rfl) ⟨(Nat.le_of_ble_eq_true rfl), (Nat.le_of_ble_eq_true rfl)⟩ ⟨(Nat.le_of_ble_eq_true rfl), (Nat.le_of_ble_eq_true rfl)⟩ (fun r h9 hp => ?_)
                  rcases hp with ⟨rfl, rfl, h615⟩ | ⟨rfl, rfl, h616⟩
                  · refine J_nf (nh2 := nh) (ck2 := 0) (sk2 := 0) (st2 := [.int (zI 1)]) rfl rfl rfl rfl ?_
                    refine Z_if_ne (tgt := 120) dX5_plain_112 (by decide) v_4dcc24baa7 (fun h617 => ?_) (fun h617 => absurd h617 v_3a47bfd896)
                    refine J_aload_n dX5_plain_120 rfl rfl ?_
                    have g618 := TokL.lt h426 (v_23eeeea057 h615)
                    refine J_callV (st := []) dX5_plain_121 cv_X5_43 (d_advance ln z408 z409 z410 z411 z412 fl z413 tp q0 q1 (v_d253cb2c59 h417 g618) h419 h420 h421 q15 rfl hk55) rfl rfl rfl (Nat.le_of_ble_eq_true rfl) ⟨(Nat.le_of_ble_eq_true rfl), (Nat.le_of_ble_eq_true rfl)⟩ ⟨(Nat.le_of_ble_eq_true rfl), (Nat.le_of_ble_eq_true rfl)⟩ (fun r h9 hp => ?_)
                    obtain ⟨z619, z620, z621, z622, rfl, rfl, h623, h624, h625, h626, h627, h628, h629, h630⟩ := hp
                    refine J_nf (nh2 := nh) (ck2 := 0) (sk2 := 0) (st2 := []) rfl rfl rfl rfl ?_
                    refine J_app (L3 := [(54, .inr (5, [.ref 55, .int (zI ln), .int (zI z619), .int (zI z620), .int (zI z621), .int (zI z622), .int (zI z412), .int (zI fl), .ref 56, .int (zI z413)])), (54, .inr (5, [.ref 55, .int (zI ln), .int (zI z408), .int (zI z409), .int (zI z410), .int (zI z411), .int (zI z412), .int (zI fl), .ref 56, .int (zI z413)])), (56, .inl (0, 412, .inl (zA f414)))]) rfl ?_
                    refine J_mask (L2 := [(54, .inr (5, [.ref 55, .int (zI ln), .int (zI z619), .int (zI z620), .int (zI z621), .int (zI z622), .int (zI z412), .int (zI fl), .ref 56, .int (zI z413)])), (56, .inl (0, 412, .inl (zA f414)))]) (ks := [54, 54, 56]) [true, false, true] rfl (by decide +kernel) rfl ?_
                    refine J_aload_n dX5_plain_124 rfl rfl ?_
                    refine J_iload_n dX5_plain_125 rfl rfl ?_
                    refine J_callV (st := []) dX5_plain_126 cv_X5_63 (d_sum0 ln z619 z620 z621 z622 z412 fl z413 tp f414 q0 q1 h623 h624 (v_9b2e2070a2 h417 g618 h625) h626 h627 h628 h629 h422 h423 q11 h424 h425 h630 q15 h427 rfl hk55 rfl) rfl rfl rfl (Nat.le_of_ble_eq_true rfl) ⟨(Nat.le_of_ble_eq_true rfl), (Nat.le_of_ble_eq_true rfl)⟩ ⟨(Nat.le_of_ble_eq_true rfl), (Nat.le_of_ble_eq_true rfl)⟩ (fun r h9 hp => ?_)
                    rcases hp with ⟨z631, z632, z633, z634, z635, z636, f637, rfl, rfl, h638, h639, h640, h641, h642, h643, h644, h645, h646, h647, h648, h649, h650, h651, h652⟩ | ⟨z653, z654, z655, z656, z657, z658, f659, z660, rfl, rfl, h661, h662, h663, h664, h665, h666, h667, h668, h669, h670, h671, h672, h673, h674, h675⟩
                    · refine J_nf (nh2 := nh) (ck2 := 0) (sk2 := 0) (st2 := [.int (zI 1)]) rfl rfl rfl rfl ?_
                      refine J_app (L3 := [(54, .inr (5, [.ref 55, .int (zI ln), .int (zI z631), .int (zI z632), .int (zI z633), .int (zI z634), .int (zI z635), .int (zI fl), .ref 56, .int (zI z636)])), (56, .inl (0, 412, .inl (zA f637))), (54, .inr (5, [.ref 55, .int (zI ln), .int (zI z619), .int (zI z620), .int (zI z621), .int (zI z622), .int (zI z412), .int (zI fl), .ref 56, .int (zI z413)])), (56, .inl (0, 412, .inl (zA f414)))]) rfl ?_
                      refine J_mask (L2 := [(54, .inr (5, [.ref 55, .int (zI ln), .int (zI z631), .int (zI z632), .int (zI z633), .int (zI z634), .int (zI z635), .int (zI fl), .ref 56, .int (zI z636)])), (56, .inl (0, 412, .inl (zA f637)))]) (ks := [54, 56, 54, 56]) [true, true, false, false] rfl (by decide +kernel) rfl ?_
                      refine Z_if_ne (tgt := 134) dX5_plain_129 (by decide) v_4dcc24baa7 (fun h676 => ?_) (fun h676 => absurd h676 v_3a47bfd896)
                      refine J_aload_n dX5_plain_134 rfl rfl ?_
                      refine J_iload_n dX5_plain_135 rfl rfl ?_
                      refine Z_iconst (n := 0) dX5_plain_136 ?_
                      refine J_callV (st := []) dX5_plain_137 cv_X5_72 (d_emit 8 0 ln z631 z632 z633 z634 z635 fl z636 f637 v_665891e294 v_b17331891f h647 h648 h650 rfl rfl) rfl rfl rfl (Nat.le_of_ble_eq_true rfl) ⟨(Nat.le_of_ble_eq_true rfl), (Nat.le_of_ble_eq_true rfl)⟩ ⟨(Nat.le_of_ble_eq_true rfl), (Nat.le_of_ble_eq_true rfl)⟩ (fun r h9 hp => ?_)
                      obtain ⟨z677, f678, rfl, rfl, h679, h680, h681, h682, h683⟩ := hp
                      refine J_nf (nh2 := nh) (ck2 := 0) (sk2 := 0) (st2 := [.int (zI z636)]) rfl rfl rfl rfl ?_
                      refine J_app (L3 := [(54, .inr (5, [.ref 55, .int (zI ln), .int (zI z631), .int (zI z632), .int (zI z633), .int (zI z634), .int (zI z635), .int (zI fl), .ref 56, .int (zI z677)])), (56, .inl (0, 412, .inl (zA f678))), (54, .inr (5, [.ref 55, .int (zI ln), .int (zI z631), .int (zI z632), .int (zI z633), .int (zI z634), .int (zI z635), .int (zI fl), .ref 56, .int (zI z636)])), (56, .inl (0, 412, .inl (zA f637)))]) rfl ?_
                      refine J_mask (L2 := [(54, .inr (5, [.ref 55, .int (zI ln), .int (zI z631), .int (zI z632), .int (zI z633), .int (zI z634), .int (zI z635), .int (zI fl), .ref 56, .int (zI z677)])), (56, .inl (0, 412, .inl (zA f678)))]) (ks := [54, 56, 54, 56]) [true, true, false, false] rfl (by decide +kernel) rfl ?_
                      refine J_pop dX5_plain_140 rfl ?_
                      refine J_iload_n dX5_plain_141 rfl rfl ?_
                      refine Z_if_eq (tgt := 153) dX5_plain_142 (by decide) (v_5f10a759cd i4_2 i4_3) (fun h684 => ?_) (fun h684 => ?_)
                      · refine Z_iconst (n := 1) dX5_plain_153 ?_
                        exact J_iret dX5_plain_154 rfl (jbn v_316afd7d0b v_bbcfac9b7d) (Nat.le_of_ble_eq_true rfl) (Nat.le_of_ble_eq_true rfl) (Or.inl ⟨z631, z632, z633, z634, z635, z677, f678, rfl, rfl, h638, h639, h640, h641, h642, h643, h644, h645, h646, h679, h680, h649, h683, (v_5848421b37 i4_2 i4_4 h428 g618 h625 h651 h682), (v_60a9ec55dc i4_2 i4_4 h429 g618 h625 h652)⟩)
                      · refine J_aload_n dX5_plain_145 rfl rfl ?_
                        refine Z_bipush (n := 9) dX5_plain_146 (by decide +kernel) ?_
                        refine Z_iconst (n := 0) dX5_plain_148 ?_
                        refine J_callV (st := []) dX5_plain_149 cv_X5_72 (d_emit 9 0 ln z631 z632 z633 z634 z635 fl z677 f678 v_00f9f00cc1 v_b17331891f h679 h680 h683 rfl rfl) rfl rfl rfl (Nat.le_of_ble_eq_true rfl) ⟨(Nat.le_of_ble_eq_true rfl), (Nat.le_of_ble_eq_true rfl)⟩ ⟨(Nat.le_of_ble_eq_true rfl), (Nat.le_of_ble_eq_true rfl)⟩ (fun r h9 hp => ?_)
                        obtain ⟨z685, f686, rfl, rfl, h687, h688, h689, h690, h691⟩ := hp
                        refine J_nf (nh2 := nh) (ck2 := 0) (sk2 := 0) (st2 := [.int (zI z677)]) rfl rfl rfl rfl ?_
                        refine J_app (L3 := [(54, .inr (5, [.ref 55, .int (zI ln), .int (zI z631), .int (zI z632), .int (zI z633), .int (zI z634), .int (zI z635), .int (zI fl), .ref 56, .int (zI z685)])), (56, .inl (0, 412, .inl (zA f686))), (54, .inr (5, [.ref 55, .int (zI ln), .int (zI z631), .int (zI z632), .int (zI z633), .int (zI z634), .int (zI z635), .int (zI fl), .ref 56, .int (zI z677)])), (56, .inl (0, 412, .inl (zA f678)))]) rfl ?_
                        refine J_mask (L2 := [(54, .inr (5, [.ref 55, .int (zI ln), .int (zI z631), .int (zI z632), .int (zI z633), .int (zI z634), .int (zI z635), .int (zI fl), .ref 56, .int (zI z685)])), (56, .inl (0, 412, .inl (zA f686)))]) (ks := [54, 56, 54, 56]) [true, true, false, false] rfl (by decide +kernel) rfl ?_
                        refine J_pop dX5_plain_152 rfl ?_
                        refine Z_iconst (n := 1) dX5_plain_153 ?_
                        exact J_iret dX5_plain_154 rfl (jbn v_316afd7d0b v_bbcfac9b7d) (Nat.le_of_ble_eq_true rfl) (Nat.le_of_ble_eq_true rfl) (Or.inl ⟨z631, z632, z633, z634, z635, z685, f686, rfl, rfl, h638, h639, h640, h641, h642, h643, h644, h645, h646, h687, h688, h649, h691, (v_1533bd4120 i4_2 i4_4 h428 g618 h625 h651 h682 h684 h690), (v_60a9ec55dc i4_2 i4_4 h429 g618 h625 h652)⟩)
                    · refine J_nf (nh2 := nh) (ck2 := 0) (sk2 := 0) (st2 := [.int (zI 0)]) rfl rfl rfl rfl ?_
                      refine J_app (L3 := [(54, .inr (5, [.ref 55, .int (zI ln), .int (zI z653), .int (zI z654), .int (zI z655), .int (zI z656), .int (zI z657), .int (zI z660), .ref 56, .int (zI z658)])), (56, .inl (0, 412, .inl (zA f659))), (54, .inr (5, [.ref 55, .int (zI ln), .int (zI z619), .int (zI z620), .int (zI z621), .int (zI z622), .int (zI z412), .int (zI fl), .ref 56, .int (zI z413)])), (56, .inl (0, 412, .inl (zA f414)))]) rfl ?_
                      refine J_mask (L2 := [(54, .inr (5, [.ref 55, .int (zI ln), .int (zI z653), .int (zI z654), .int (zI z655), .int (zI z656), .int (zI z657), .int (zI z660), .ref 56, .int (zI z658)])), (56, .inl (0, 412, .inl (zA f659)))]) (ks := [54, 56, 54, 56]) [true, true, false, false] rfl (by decide +kernel) rfl ?_
                      refine Z_if_ne (tgt := 134) dX5_plain_129 (by decide) v_b17331891f (fun h692 => absurd h692 (fun q => q v_2ca2bbca1f)) (fun h692 => ?_)
                      refine Z_iconst (n := 0) dX5_plain_132 ?_
                      exact J_iret dX5_plain_133 rfl (jbn v_939070ca3f v_316afd7d0b) (Nat.le_of_ble_eq_true rfl) (Nat.le_of_ble_eq_true rfl) (Or.inr ⟨z653, z654, z655, z656, z657, z658, f659, z660, rfl, rfl, h661, h662, h663, h664, h665, h666, h667, h668, h669, h670, h671, h672, h673, h674, h675⟩)
                  · refine J_nf (nh2 := nh) (ck2 := 0) (sk2 := 0) (st2 := [.int (zI 0)]) rfl rfl rfl rfl ?_
                    refine Z_if_ne (tgt := 120) dX5_plain_112 (by decide) v_b17331891f (fun h693 => absurd h693 (fun q => q v_2ca2bbca1f)) (fun h693 => ?_)
                    refine J_aload_n dX5_plain_115 rfl rfl ?_
                    refine J_callV (st := []) dX5_plain_116 cv_X5_54 (d_wrong ln z408 z409 z410 z411 z412 fl z413 h417 (v_1adcfdfee5 q1 h418 h419) rfl) rfl rfl rfl (Nat.le_of_ble_eq_true rfl) ⟨(Nat.le_of_ble_eq_true rfl), (Nat.le_of_ble_eq_true rfl)⟩ ⟨(Nat.le_of_ble_eq_true rfl), (Nat.le_of_ble_eq_true rfl)⟩ (fun r h9 hp => ?_)
                    obtain ⟨rfl, rfl⟩ := hp
                    refine J_nf (nh2 := nh) (ck2 := 0) (sk2 := 0) (st2 := [.int (zI 0)]) rfl rfl rfl rfl ?_
                    refine J_app (L3 := [(54, .inr (5, [.ref 55, .int (zI ln), .int (zI z408), .int (zI z409), .int (zI z410), .int (zI z411), .int (zI z412), .int (zI z409), .ref 56, .int (zI z413)])), (54, .inr (5, [.ref 55, .int (zI ln), .int (zI z408), .int (zI z409), .int (zI z410), .int (zI z411), .int (zI z412), .int (zI fl), .ref 56, .int (zI z413)])), (56, .inl (0, 412, .inl (zA f414)))]) rfl ?_
                    refine J_mask (L2 := [(54, .inr (5, [.ref 55, .int (zI ln), .int (zI z408), .int (zI z409), .int (zI z410), .int (zI z411), .int (zI z412), .int (zI z409), .ref 56, .int (zI z413)])), (56, .inl (0, 412, .inl (zA f414)))]) (ks := [54, 54, 56]) [true, false, true] rfl (by decide +kernel) rfl ?_
                    exact J_iret dX5_plain_119 rfl (jbn v_939070ca3f v_316afd7d0b) (Nat.le_of_ble_eq_true rfl) (Nat.le_of_ble_eq_true rfl) (Or.inr ⟨z408, z409, z410, z411, z412, z413, f414, z409, rfl, rfl, h415, h416, h417, h418, h419, h420, h421, h422, h423, h424, h425, h426, h427, h417, (v_1adcfdfee5 q1 h418 h419)⟩)
            · refine J_nf (nh2 := nh) (ck2 := 0) (sk2 := 0) (st2 := [.int (zI 0)]) rfl rfl rfl rfl ?_
              refine J_app (L3 := [(54, .inr (5, [.ref 55, .int (zI ln), .int (zI z430), .int (zI z431), .int (zI z432), .int (zI z433), .int (zI z434), .int (zI z437), .ref 56, .int (zI z435)])), (56, .inl (0, 412, .inl (zA f436))), (54, .inr (5, [.ref 55, .int (zI ln), .int (zI tx_4), .int (zI sx_4), .int (zI bx_4), .int (zI vx_4), .int (zI pa), .int (zI fl), .ref 56, .int (zI sz)]))]) rfl ?_
              refine J_mask (L2 := [(54, .inr (5, [.ref 55, .int (zI ln), .int (zI z430), .int (zI z431), .int (zI z432), .int (zI z433), .int (zI z434), .int (zI z437), .ref 56, .int (zI z435)])), (56, .inl (0, 412, .inl (zA f436)))]) (ks := [54, 56, 54]) [true, true, false] rfl (by decide +kernel) rfl ?_
              refine Z_if_ne (tgt := 69) dX5_plain_64 (by decide) v_b17331891f (fun h694 => absurd h694 (fun q => q v_2ca2bbca1f)) (fun h694 => ?_)
              refine Z_iconst (n := 0) dX5_plain_67 ?_
              exact J_iret dX5_plain_68 rfl (jbn v_939070ca3f v_316afd7d0b) (Nat.le_of_ble_eq_true rfl) (Nat.le_of_ble_eq_true rfl) (Or.inr ⟨z430, z431, z432, z433, z434, z435, f436, z437, rfl, rfl, h438, h439, h440, h441, h442, h443, h444, h445, h446, h447, h448, h449, h450, h451, h452⟩)
        · refine J_iload_n dX5_plain_20 rfl rfl ?_
          refine Z_if_ne (tgt := 28) dX5_plain_21 (by decide) (v_5f10a759cd i4_2 i4_3) (fun h695 => ?_) (fun h695 => ?_)
          · refine Z_iconst (n := 0) dX5_plain_28 ?_
            refine J_istore_n dX5_plain_29 rfl (Nat.le_of_ble_eq_true rfl) rfl ?_
            refine J_ls (ls2 := [some (.ref 54), some (.int (zI 0)), some (.int (zI 0)), some (.int (zI i_4))]) rfl ?_
            refine J_aload_n dX5_plain_30 rfl rfl ?_
            have g696 := TokL.lt i4_12 (v_3a5b2158d2 h348)
            refine J_callV (st := []) dX5_plain_31 cv_X5_43 (d_advance ln tx_4 sx_4 bx_4 vx_4 pa fl sz tp q0 q1 (v_d253cb2c59 i4_7 g696) i4_9 i4_10 i4_11 q15 rfl hk55) rfl rfl rfl (Nat.le_of_ble_eq_true rfl) ⟨(Nat.le_of_ble_eq_true rfl), (Nat.le_of_ble_eq_true rfl)⟩ ⟨(Nat.le_of_ble_eq_true rfl), (Nat.le_of_ble_eq_true rfl)⟩ (fun r h9 hp => ?_)
            obtain ⟨z697, z698, z699, z700, rfl, rfl, h701, h702, h703, h704, h705, h706, h707, h708⟩ := hp
            refine J_nf (nh2 := nh) (ck2 := 0) (sk2 := 0) (st2 := []) rfl rfl rfl rfl ?_
            refine J_app (L3 := [(54, .inr (5, [.ref 55, .int (zI ln), .int (zI z697), .int (zI z698), .int (zI z699), .int (zI z700), .int (zI pa), .int (zI fl), .ref 56, .int (zI sz)])), (54, .inr (5, [.ref 55, .int (zI ln), .int (zI tx_4), .int (zI sx_4), .int (zI bx_4), .int (zI vx_4), .int (zI pa), .int (zI fl), .ref 56, .int (zI sz)]))]) rfl ?_
            refine J_mask (L2 := [(54, .inr (5, [.ref 55, .int (zI ln), .int (zI z697), .int (zI z698), .int (zI z699), .int (zI z700), .int (zI pa), .int (zI fl), .ref 56, .int (zI sz)]))]) (ks := [54, 54]) [true, false] rfl (by decide +kernel) rfl ?_
            refine Z_iinc (c := i_4 + 1) (ls2 := [some (.ref 54), some (.int (zI 0)), some (.int (zI 0)), some (.int (zI (i_4 + 1)))]) dX5_plain_34 rfl (Nat.le_of_ble_eq_true rfl) rfl rfl rfl ?_
            refine J_goto (tgt := 4) dX5_plain_37 (by decide) ?_
            exact ih4 0 (i_4 + 1) z697 z698 z699 z700 (v_da458fa48a i4_0) (v_6924477667 h1) v_939070ca3f v_316afd7d0b (v_17f5bda46b i4_2 i4_4 g696 h703) h701 h702 (v_9b2e2070a2 i4_7 g696 h703) h704 h705 h706 h707 h708 (meas_lt v_ceb2ed6d2b (v_44ddc35e90 h1) hm4)
          · refine Z_iconst (n := 1) dX5_plain_24 ?_
            refine J_goto (tgt := 29) dX5_plain_25 (by decide) ?_
            refine J_istore_n dX5_plain_29 rfl (Nat.le_of_ble_eq_true rfl) rfl ?_
            refine J_ls (ls2 := [some (.ref 54), some (.int (zI 0)), some (.int (zI 1)), some (.int (zI i_4))]) rfl ?_
            refine J_aload_n dX5_plain_30 rfl rfl ?_
            have g709 := TokL.lt i4_12 (v_3a5b2158d2 h348)
            refine J_callV (st := []) dX5_plain_31 cv_X5_43 (d_advance ln tx_4 sx_4 bx_4 vx_4 pa fl sz tp q0 q1 (v_d253cb2c59 i4_7 g709) i4_9 i4_10 i4_11 q15 rfl hk55) rfl rfl rfl (Nat.le_of_ble_eq_true rfl) ⟨(Nat.le_of_ble_eq_true rfl), (Nat.le_of_ble_eq_true rfl)⟩ ⟨(Nat.le_of_ble_eq_true rfl), (Nat.le_of_ble_eq_true rfl)⟩ (fun r h9 hp => ?_)
            obtain ⟨z710, z711, z712, z713, rfl, rfl, h714, h715, h716, h717, h718, h719, h720, h721⟩ := hp
            refine J_nf (nh2 := nh) (ck2 := 0) (sk2 := 0) (st2 := []) rfl rfl rfl rfl ?_
            refine J_app (L3 := [(54, .inr (5, [.ref 55, .int (zI ln), .int (zI z710), .int (zI z711), .int (zI z712), .int (zI z713), .int (zI pa), .int (zI fl), .ref 56, .int (zI sz)])), (54, .inr (5, [.ref 55, .int (zI ln), .int (zI tx_4), .int (zI sx_4), .int (zI bx_4), .int (zI vx_4), .int (zI pa), .int (zI fl), .ref 56, .int (zI sz)]))]) rfl ?_
            refine J_mask (L2 := [(54, .inr (5, [.ref 55, .int (zI ln), .int (zI z710), .int (zI z711), .int (zI z712), .int (zI z713), .int (zI pa), .int (zI fl), .ref 56, .int (zI sz)]))]) (ks := [54, 54]) [true, false] rfl (by decide +kernel) rfl ?_
            refine Z_iinc (c := i_4 + 1) (ls2 := [some (.ref 54), some (.int (zI 0)), some (.int (zI 1)), some (.int (zI (i_4 + 1)))]) dX5_plain_34 rfl (Nat.le_of_ble_eq_true rfl) rfl rfl rfl ?_
            refine J_goto (tgt := 4) dX5_plain_37 (by decide) ?_
            exact ih4 1 (i_4 + 1) z710 z711 z712 z713 (v_da458fa48a i4_0) (v_6924477667 h1) v_316afd7d0b v_bbcfac9b7d (v_9fcadba328 i4_2 i4_4 g709 h716) h714 h715 (v_9b2e2070a2 i4_7 g709 h716) h717 h718 h719 h720 h721 (meas_lt v_ceb2ed6d2b (v_44ddc35e90 h1) hm4)
  exact lp4 _ 0 0 tk st bh va v_939070ca3f v_5ab96f7b5e v_939070ca3f v_316afd7d0b v_2776526004 q2 q3 q4 q5 q6 q7 q8 q14 (Nat.lt_succ_self _)
set_option maxHeartbeats 4000000 in
set_option maxRecDepth 100000 in
theorem d_both0 {l : Launch} {G : jG} {nh : Nat} {fh : Nat → Option va_E} (ln : Int) (tk : Int) (st : Int) (bh : Int) (va : Int) (pa : Int) (fl : Int) (sz : Int) (tp : Int → Int) (cd : Int → Int) (q0 : 0 ≤ ln) (q1 : ln ≤ 400) (q2 : 0 ≤ tk) (q3 : tk ≤ 355) (q4 : 0 ≤ st) (q5 : st ≤ bh) (q6 : bh ≤ ln) (q7 : 0 ≤ va) (q8 : va ≤ 1001) (q9 : 0 ≤ pa) (q10 : pa ≤ 50) (q11 : zr fl) (q12 : 0 ≤ sz) (q13 : sz ≤ 412) (q14 : TokL tk st bh) (q15 : Rg tp 400 0 255) (q16 : Rg cd 412 (-2147483648) 2147483647) (hk54 : fh 54 = some (.inr (5, [.ref 55, .int (zI ln), .int (zI tk), .int (zI st), .int (zI bh), .int (zI va), .int (zI pa), .int (zI fl), .ref 56, .int (zI sz)]))) (hk55 : fh 55 = some (.inl (0, 400, .inl (zA tp)))) (hk56 : fh 56 = some (.inl (0, 412, .inl (zA cd)))) : JM l G yX5_both MX5_both { frames := 42, cells := 0, slots := 0, locals := 942 } [.ref 54, .int (zI 0)] (nh, fh) (fun rr h9 => (∃ tk2 : Int, ∃ st2 : Int, ∃ bh2 : Int, ∃ va2 : Int, ∃ pa2 : Int, ∃ sz2 : Int, ∃ cd2 : Int → Int, rr = some (.int (zI 1)) ∧ h9 = (nh, hc fh [(54, .inr (5, [.ref 55, .int (zI ln), .int (zI tk2), .int (zI st2), .int (zI bh2), .int (zI va2), .int (zI pa2), .int (zI fl), .ref 56, .int (zI sz2)])), (56, .inl (0, 412, .inl (zA cd2)))]) ∧ (0 ≤ tk2) ∧ (tk2 ≤ 355) ∧ (0 ≤ st2) ∧ (st2 ≤ bh2) ∧ (bh2 ≤ ln) ∧ (0 ≤ va2) ∧ (va2 ≤ 1001) ∧ (0 ≤ pa2) ∧ (pa2 ≤ 50) ∧ (0 ≤ sz2) ∧ (sz2 ≤ 412) ∧ (TokL tk2 st2 bh2) ∧ (Rg cd2 412 (-2147483648) 2147483647) ∧ (sz2 + st ≤ sz + st2) ∧ (st ≤ st2)) ∨ (∃ tk2 : Int, ∃ st2 : Int, ∃ bh2 : Int, ∃ va2 : Int, ∃ pa2 : Int, ∃ sz2 : Int, ∃ cd2 : Int → Int, ∃ fl2 : Int, rr = some (.int (zI 0)) ∧ h9 = (nh, hc fh [(54, .inr (5, [.ref 55, .int (zI ln), .int (zI tk2), .int (zI st2), .int (zI bh2), .int (zI va2), .int (zI pa2), .int (zI fl2), .ref 56, .int (zI sz2)])), (56, .inl (0, 412, .inl (zA cd2)))]) ∧ (0 ≤ tk2) ∧ (tk2 ≤ 355) ∧ (0 ≤ st2) ∧ (st2 ≤ bh2) ∧ (bh2 ≤ ln) ∧ (0 ≤ va2) ∧ (va2 ≤ 1001) ∧ (0 ≤ pa2) ∧ (pa2 ≤ 50) ∧ (0 ≤ sz2) ∧ (sz2 ≤ 412) ∧ (TokL tk2 st2 bh2) ∧ (Rg cd2 412 (-2147483648) 2147483647) ∧ (0 ≤ fl2) ∧ (fl2 ≤ 400))) := by
  refine JM.of (by decide) rfl (fun h => by cases h) (Nat.le_of_ble_eq_true rfl) ⟨2, rfl⟩ ?_
  refine J_hc0 (J_ls (ls2 := [some (.ref 54), some (.int (zI 0)), none, none]) rfl ?_)
  refine J_aload_n dX5_both_0 rfl rfl ?_
  refine J_iload_n dX5_both_1 rfl rfl ?_
  refine J_callV (st := []) dX5_both_2 cv_X5_83 (d_plain0 ln tk st bh va pa fl sz tp cd q0 q1 q2 q3 q4 q5 q6 q7 q8 q9 q10 q11 q12 q13 q14 q15 q16 hk54 hk55 hk56) hk54 rfl rfl (Nat.le_of_ble_eq_true rfl) ⟨(Nat.le_of_ble_eq_true rfl), (Nat.le_of_ble_eq_true rfl)⟩ ⟨(Nat.le_of_ble_eq_true rfl), (Nat.le_of_ble_eq_true rfl)⟩ (fun r h9 hp => ?_)
  rcases hp with ⟨z1, z2, z3, z4, z5, z6, f7, rfl, rfl, h8, h9, h10, h11, h12, h13, h14, h15, h16, h17, h18, h19, h20, h21, h22⟩ | ⟨z23, z24, z25, z26, z27, z28, f29, z30, rfl, rfl, h31, h32, h33, h34, h35, h36, h37, h38, h39, h40, h41, h42, h43, h44, h45⟩
  · refine J_nf (nh2 := nh) (ck2 := 0) (sk2 := 0) (st2 := [.int (zI 1)]) rfl rfl rfl rfl ?_
    refine J_app (L3 := [(54, .inr (5, [.ref 55, .int (zI ln), .int (zI z1), .int (zI z2), .int (zI z3), .int (zI z4), .int (zI z5), .int (zI fl), .ref 56, .int (zI z6)])), (56, .inl (0, 412, .inl (zA f7)))]) rfl ?_
    refine Z_if_ne (tgt := 10) dX5_both_5 (by decide) v_4dcc24baa7 (fun h46 => ?_) (fun h46 => absurd h46 v_3a47bfd896)
    refine Z_iconst (n := 0) dX5_both_10 ?_
    refine J_istore_n dX5_both_11 rfl (Nat.le_of_ble_eq_true rfl) rfl ?_
    refine J_ls (ls2 := [some (.ref 54), some (.int (zI 0)), some (.int (zI 0)), none]) rfl ?_
    have lp12 : ∀ (N12 : Nat) (i_12 : Int) (tx_12 : Int) (sx_12 : Int) (bx_12 : Int) (vx_12 : Int) (px_12 : Int) (zx_12 : Int) (cx_12 : Int → Int), (0 ≤ i_12) → (i_12 ≤ 400) → (zx_12 + st ≤ sz + sx_12) → (st ≤ sx_12) → (0 ≤ tx_12) → (tx_12 ≤ 355) → (0 ≤ sx_12) → (sx_12 ≤ bx_12) → (bx_12 ≤ ln) → (0 ≤ vx_12) → (vx_12 ≤ 1001) → (TokL tx_12 sx_12 bx_12) → (Rg cx_12 412 (-2147483648) 2147483647) → (0 ≤ zx_12) → (zx_12 ≤ 412) → (0 ≤ px_12) → (px_12 ≤ 50) → (400 - i_12).toNat < N12 → J l G MX5_both { frames := 42, cells := 0, slots := 0, locals := 942 } jE (jMQ G { frames := 42, cells := 0, slots := 0, locals := 942 } (fun rr h9 => (∃ tk2 : Int, ∃ st2 : Int, ∃ bh2 : Int, ∃ va2 : Int, ∃ pa2 : Int, ∃ sz2 : Int, ∃ cd2 : Int → Int, rr = some (.int (zI 1)) ∧ h9 = (nh, hc fh [(54, .inr (5, [.ref 55, .int (zI ln), .int (zI tk2), .int (zI st2), .int (zI bh2), .int (zI va2), .int (zI pa2), .int (zI fl), .ref 56, .int (zI sz2)])), (56, .inl (0, 412, .inl (zA cd2)))]) ∧ (0 ≤ tk2) ∧ (tk2 ≤ 355) ∧ (0 ≤ st2) ∧ (st2 ≤ bh2) ∧ (bh2 ≤ ln) ∧ (0 ≤ va2) ∧ (va2 ≤ 1001) ∧ (0 ≤ pa2) ∧ (pa2 ≤ 50) ∧ (0 ≤ sz2) ∧ (sz2 ≤ 412) ∧ (TokL tk2 st2 bh2) ∧ (Rg cd2 412 (-2147483648) 2147483647) ∧ (sz2 + st ≤ sz + st2) ∧ (st ≤ st2)) ∨ (∃ tk2 : Int, ∃ st2 : Int, ∃ bh2 : Int, ∃ va2 : Int, ∃ pa2 : Int, ∃ sz2 : Int, ∃ cd2 : Int → Int, ∃ fl2 : Int, rr = some (.int (zI 0)) ∧ h9 = (nh, hc fh [(54, .inr (5, [.ref 55, .int (zI ln), .int (zI tk2), .int (zI st2), .int (zI bh2), .int (zI va2), .int (zI pa2), .int (zI fl2), .ref 56, .int (zI sz2)])), (56, .inl (0, 412, .inl (zA cd2)))]) ∧ (0 ≤ tk2) ∧ (tk2 ≤ 355) ∧ (0 ≤ st2) ∧ (st2 ≤ bh2) ∧ (bh2 ≤ ln) ∧ (0 ≤ va2) ∧ (va2 ≤ 1001) ∧ (0 ≤ pa2) ∧ (pa2 ≤ 50) ∧ (0 ≤ sz2) ∧ (sz2 ≤ 412) ∧ (TokL tk2 st2 bh2) ∧ (Rg cd2 412 (-2147483648) 2147483647) ∧ (0 ≤ fl2) ∧ (fl2 ≤ 400)))) (nh, hc fh [(54, .inr (5, [.ref 55, .int (zI ln), .int (zI tx_12), .int (zI sx_12), .int (zI bx_12), .int (zI vx_12), .int (zI px_12), .int (zI fl), .ref 56, .int (zI zx_12)])), (56, .inl (0, 412, .inl (zA cx_12)))]) 0 0 12 [some (.ref 54), some (.int (zI 0)), some (.int (zI i_12)), none] [] := by
      intro N12
      induction N12 with
      | zero => intro i_12 tx_12 sx_12 bx_12 vx_12 px_12 zx_12 cx_12 i12_0 i12_1 i12_2 i12_3 i12_4 i12_5 i12_6 i12_7 i12_8 i12_9 i12_10 i12_11 i12_12 i12_13 i12_14 i12_15 i12_16 hm; exact absurd hm (Nat.not_lt_zero _)
      | succ N12 ih12 =>
        intro i_12 tx_12 sx_12 bx_12 vx_12 px_12 zx_12 cx_12 i12_0 i12_1 i12_2 i12_3 i12_4 i12_5 i12_6 i12_7 i12_8 i12_9 i12_10 i12_11 i12_12 i12_13 i12_14 i12_15 i12_16 hm12
        refine J_iload_n dX5_both_12 rfl rfl ?_
        refine Z_sipush (n := 400) dX5_both_13 (by decide +kernel) ?_
        refine Z_icmp_ge (tgt := 60) dX5_both_16 (by decide) (v_d7389cde0f i12_0 i12_1) v_d8dcd4dd52 (fun h47 => ?_) (fun h47 => ?_)
        · refine Z_iconst (n := 1) dX5_both_60 ?_
          exact J_iret dX5_both_61 rfl (jbn v_316afd7d0b v_bbcfac9b7d) (Nat.le_of_ble_eq_true rfl) (Nat.le_of_ble_eq_true rfl) (Or.inl ⟨tx_12, sx_12, bx_12, vx_12, px_12, zx_12, cx_12, rfl, rfl, i12_4, i12_5, i12_6, i12_7, i12_8, i12_9, i12_10, i12_15, i12_16, i12_13, i12_14, i12_11, i12_12, i12_2, i12_3⟩)
        · refine J_aload_n dX5_both_19 rfl rfl ?_
          refine J_get (v := .int (zI tx_12)) dX5_both_20 fl_X5_19 rfl rfl ?_
          refine Z_iconst (n := 5) dX5_both_23 ?_
          refine Z_icmp_ne (tgt := 60) dX5_both_24 (by decide) (v_96bf6f782e i12_4 i12_5) v_3961fe0d0d (fun h48 => ?_) (fun h48 => ?_)
          · refine Z_iconst (n := 1) dX5_both_60 ?_
            exact J_iret dX5_both_61 rfl (jbn v_316afd7d0b v_bbcfac9b7d) (Nat.le_of_ble_eq_true rfl) (Nat.le_of_ble_eq_true rfl) (Or.inl ⟨tx_12, sx_12, bx_12, vx_12, px_12, zx_12, cx_12, rfl, rfl, i12_4, i12_5, i12_6, i12_7, i12_8, i12_9, i12_10, i12_15, i12_16, i12_13, i12_14, i12_11, i12_12, i12_2, i12_3⟩)
          · refine J_aload_n dX5_both_27 rfl rfl ?_
            have g49 := TokL.lt i12_11 (v_9ad38f4709 h48)
            refine J_callV (st := []) dX5_both_28 cv_X5_43 (d_advance ln tx_12 sx_12 bx_12 vx_12 px_12 fl zx_12 tp q0 q1 (v_d253cb2c59 i12_6 g49) i12_8 i12_9 i12_10 q15 rfl hk55) rfl rfl rfl (Nat.le_of_ble_eq_true rfl) ⟨(Nat.le_of_ble_eq_true rfl), (Nat.le_of_ble_eq_true rfl)⟩ ⟨(Nat.le_of_ble_eq_true rfl), (Nat.le_of_ble_eq_true rfl)⟩ (fun r h9 hp => ?_)
            obtain ⟨z50, z51, z52, z53, rfl, rfl, h54, h55, h56, h57, h58, h59, h60, h61⟩ := hp
            refine J_nf (nh2 := nh) (ck2 := 0) (sk2 := 0) (st2 := []) rfl rfl rfl rfl ?_
            refine J_app (L3 := [(54, .inr (5, [.ref 55, .int (zI ln), .int (zI z50), .int (zI z51), .int (zI z52), .int (zI z53), .int (zI px_12), .int (zI fl), .ref 56, .int (zI zx_12)])), (54, .inr (5, [.ref 55, .int (zI ln), .int (zI tx_12), .int (zI sx_12), .int (zI bx_12), .int (zI vx_12), .int (zI px_12), .int (zI fl), .ref 56, .int (zI zx_12)])), (56, .inl (0, 412, .inl (zA cx_12)))]) rfl ?_
            refine J_mask (L2 := [(54, .inr (5, [.ref 55, .int (zI ln), .int (zI z50), .int (zI z51), .int (zI z52), .int (zI z53), .int (zI px_12), .int (zI fl), .ref 56, .int (zI zx_12)])), (56, .inl (0, 412, .inl (zA cx_12)))]) (ks := [54, 54, 56]) [true, false, true] rfl (by decide +kernel) rfl ?_
            refine J_aload_n dX5_both_31 rfl rfl ?_
            refine Z_bipush (n := 11) dX5_both_32 (by decide +kernel) ?_
            refine Z_iconst (n := 0) dX5_both_34 ?_
            refine J_callV (st := []) dX5_both_35 cv_X5_72 (d_emit 11 0 ln z50 z51 z52 z53 px_12 fl zx_12 cx_12 v_d58e110b81 v_b17331891f i12_13 i12_14 i12_12 rfl rfl) rfl rfl rfl (Nat.le_of_ble_eq_true rfl) ⟨(Nat.le_of_ble_eq_true rfl), (Nat.le_of_ble_eq_true rfl)⟩ ⟨(Nat.le_of_ble_eq_true rfl), (Nat.le_of_ble_eq_true rfl)⟩ (fun r h9 hp => ?_)
            obtain ⟨z62, f63, rfl, rfl, h64, h65, h66, h67, h68⟩ := hp
            refine J_nf (nh2 := nh) (ck2 := 0) (sk2 := 0) (st2 := [.int (zI zx_12)]) rfl rfl rfl rfl ?_
            refine J_app (L3 := [(54, .inr (5, [.ref 55, .int (zI ln), .int (zI z50), .int (zI z51), .int (zI z52), .int (zI z53), .int (zI px_12), .int (zI fl), .ref 56, .int (zI z62)])), (56, .inl (0, 412, .inl (zA f63))), (54, .inr (5, [.ref 55, .int (zI ln), .int (zI z50), .int (zI z51), .int (zI z52), .int (zI z53), .int (zI px_12), .int (zI fl), .ref 56, .int (zI zx_12)])), (56, .inl (0, 412, .inl (zA cx_12)))]) rfl ?_
            refine J_mask (L2 := [(54, .inr (5, [.ref 55, .int (zI ln), .int (zI z50), .int (zI z51), .int (zI z52), .int (zI z53), .int (zI px_12), .int (zI fl), .ref 56, .int (zI z62)])), (56, .inl (0, 412, .inl (zA f63)))]) (ks := [54, 56, 54, 56]) [true, true, false, false] rfl (by decide +kernel) rfl ?_
            refine J_istore_n dX5_both_38 rfl (Nat.le_of_ble_eq_true rfl) rfl ?_
            refine J_ls (ls2 := [some (.ref 54), some (.int (zI 0)), some (.int (zI i_12)), some (.int (zI zx_12))]) rfl ?_
            refine J_aload_n dX5_both_39 rfl rfl ?_
            refine J_iload_n dX5_both_40 rfl rfl ?_
            refine J_callV (st := []) dX5_both_41 cv_X5_83 (d_plain0 ln z50 z51 z52 z53 px_12 fl z62 tp f63 q0 q1 h54 h55 (v_9b2e2070a2 i12_6 g49 h56) h57 h58 h59 h60 i12_15 i12_16 q11 h64 h65 h61 q15 h68 rfl hk55 rfl) rfl rfl rfl (Nat.le_of_ble_eq_true rfl) ⟨(Nat.le_of_ble_eq_true rfl), (Nat.le_of_ble_eq_true rfl)⟩ ⟨(Nat.le_of_ble_eq_true rfl), (Nat.le_of_ble_eq_true rfl)⟩ (fun r h9 hp => ?_)
            rcases hp with ⟨z69, z70, z71, z72, z73, z74, f75, rfl, rfl, h76, h77, h78, h79, h80, h81, h82, h83, h84, h85, h86, h87, h88, h89, h90⟩ | ⟨z91, z92, z93, z94, z95, z96, f97, z98, rfl, rfl, h99, h100, h101, h102, h103, h104, h105, h106, h107, h108, h109, h110, h111, h112, h113⟩
            · refine J_nf (nh2 := nh) (ck2 := 0) (sk2 := 0) (st2 := [.int (zI 1)]) rfl rfl rfl rfl ?_
              refine J_app (L3 := [(54, .inr (5, [.ref 55, .int (zI ln), .int (zI z69), .int (zI z70), .int (zI z71), .int (zI z72), .int (zI z73), .int (zI fl), .ref 56, .int (zI z74)])), (56, .inl (0, 412, .inl (zA f75))), (54, .inr (5, [.ref 55, .int (zI ln), .int (zI z50), .int (zI z51), .int (zI z52), .int (zI z53), .int (zI px_12), .int (zI fl), .ref 56, .int (zI z62)])), (56, .inl (0, 412, .inl (zA f63)))]) rfl ?_
              refine J_mask (L2 := [(54, .inr (5, [.ref 55, .int (zI ln), .int (zI z69), .int (zI z70), .int (zI z71), .int (zI z72), .int (zI z73), .int (zI fl), .ref 56, .int (zI z74)])), (56, .inl (0, 412, .inl (zA f75)))]) (ks := [54, 56, 54, 56]) [true, true, false, false] rfl (by decide +kernel) rfl ?_
              refine Z_if_ne (tgt := 49) dX5_both_44 (by decide) v_4dcc24baa7 (fun h114 => ?_) (fun h114 => absurd h114 v_3a47bfd896)
              refine J_aload_n dX5_both_49 rfl rfl ?_
              refine J_iload_n dX5_both_50 rfl rfl ?_
              refine J_callV (st := []) dX5_both_51 cv_X5_79 (d_aim zx_12 ln z69 z70 z71 z72 z73 fl z74 f75 (v_9099852440 i12_13 i12_14) h85 h86 h88 rfl rfl) rfl rfl rfl (Nat.le_of_ble_eq_true rfl) ⟨(Nat.le_of_ble_eq_true rfl), (Nat.le_of_ble_eq_true rfl)⟩ ⟨(Nat.le_of_ble_eq_true rfl), (Nat.le_of_ble_eq_true rfl)⟩ (fun r h9 hp => ?_)
              obtain ⟨f115, rfl, rfl, h116⟩ := hp
              refine J_nf (nh2 := nh) (ck2 := 0) (sk2 := 0) (st2 := []) rfl rfl rfl rfl ?_
              refine J_app (L3 := [(56, .inl (0, 412, .inl (zA f115))), (54, .inr (5, [.ref 55, .int (zI ln), .int (zI z69), .int (zI z70), .int (zI z71), .int (zI z72), .int (zI z73), .int (zI fl), .ref 56, .int (zI z74)])), (56, .inl (0, 412, .inl (zA f75)))]) rfl ?_
              refine J_mask (L2 := [(56, .inl (0, 412, .inl (zA f115))), (54, .inr (5, [.ref 55, .int (zI ln), .int (zI z69), .int (zI z70), .int (zI z71), .int (zI z72), .int (zI z73), .int (zI fl), .ref 56, .int (zI z74)]))]) (ks := [56, 54, 56]) [true, true, false] rfl (by decide +kernel) rfl ?_
              refine Z_iinc (c := i_12 + 1) (ls2 := [some (.ref 54), some (.int (zI 0)), some (.int (zI (i_12 + 1))), some (.int (zI zx_12))]) dX5_both_54 rfl (Nat.le_of_ble_eq_true rfl) rfl rfl rfl ?_
              refine J_goto (tgt := 12) dX5_both_57 (by decide) ?_
              refine J_touch (k := 56) (e := .inl (0, 412, .inl (zA f115))) rfl ?_
              refine J_touch (k := 54) (e := .inr (5, [.ref 55, .int (zI ln), .int (zI z69), .int (zI z70), .int (zI z71), .int (zI z72), .int (zI z73), .int (zI fl), .ref 56, .int (zI z74)])) rfl ?_
              refine J_mask (L2 := [(54, .inr (5, [.ref 55, .int (zI ln), .int (zI z69), .int (zI z70), .int (zI z71), .int (zI z72), .int (zI z73), .int (zI fl), .ref 56, .int (zI z74)])), (56, .inl (0, 412, .inl (zA f115)))]) (ks := [54, 56, 56, 54]) [true, true, false, false] rfl (by decide +kernel) rfl ?_
              refine J_drop (ls2 := [some (.ref 54), some (.int (zI 0)), some (.int (zI (i_12 + 1))), none]) [true, true, true, false] rfl ?_
              exact ih12 (i_12 + 1) z69 z70 z71 z72 z73 z74 f115 (v_da458fa48a i12_0) (v_6924477667 h47) (v_f82b1dc229 i12_2 g49 h56 h67 h89) (v_269579bf42 i12_3 g49 h56 h90) h76 h77 h78 h79 h80 h81 h82 h87 h116 h85 h86 h83 h84 (meas_lt v_ceb2ed6d2b (v_44ddc35e90 h47) hm12)
            · refine J_nf (nh2 := nh) (ck2 := 0) (sk2 := 0) (st2 := [.int (zI 0)]) rfl rfl rfl rfl ?_
              refine J_app (L3 := [(54, .inr (5, [.ref 55, .int (zI ln), .int (zI z91), .int (zI z92), .int (zI z93), .int (zI z94), .int (zI z95), .int (zI z98), .ref 56, .int (zI z96)])), (56, .inl (0, 412, .inl (zA f97))), (54, .inr (5, [.ref 55, .int (zI ln), .int (zI z50), .int (zI z51), .int (zI z52), .int (zI z53), .int (zI px_12), .int (zI fl), .ref 56, .int (zI z62)])), (56, .inl (0, 412, .inl (zA f63)))]) rfl ?_
              refine J_mask (L2 := [(54, .inr (5, [.ref 55, .int (zI ln), .int (zI z91), .int (zI z92), .int (zI z93), .int (zI z94), .int (zI z95), .int (zI z98), .ref 56, .int (zI z96)])), (56, .inl (0, 412, .inl (zA f97)))]) (ks := [54, 56, 54, 56]) [true, true, false, false] rfl (by decide +kernel) rfl ?_
              refine Z_if_ne (tgt := 49) dX5_both_44 (by decide) v_b17331891f (fun h117 => absurd h117 (fun q => q v_2ca2bbca1f)) (fun h117 => ?_)
              refine Z_iconst (n := 0) dX5_both_47 ?_
              exact J_iret dX5_both_48 rfl (jbn v_939070ca3f v_316afd7d0b) (Nat.le_of_ble_eq_true rfl) (Nat.le_of_ble_eq_true rfl) (Or.inr ⟨z91, z92, z93, z94, z95, z96, f97, z98, rfl, rfl, h99, h100, h101, h102, h103, h104, h105, h106, h107, h108, h109, h110, h111, h112, h113⟩)
    exact lp12 _ 0 z1 z2 z3 z4 z5 z6 f7 v_939070ca3f v_5ab96f7b5e h21 h22 h8 h9 h10 h11 h12 h13 h14 h19 h20 h17 h18 h15 h16 (Nat.lt_succ_self _)
  · refine J_nf (nh2 := nh) (ck2 := 0) (sk2 := 0) (st2 := [.int (zI 0)]) rfl rfl rfl rfl ?_
    refine J_app (L3 := [(54, .inr (5, [.ref 55, .int (zI ln), .int (zI z23), .int (zI z24), .int (zI z25), .int (zI z26), .int (zI z27), .int (zI z30), .ref 56, .int (zI z28)])), (56, .inl (0, 412, .inl (zA f29)))]) rfl ?_
    refine Z_if_ne (tgt := 10) dX5_both_5 (by decide) v_b17331891f (fun h118 => absurd h118 (fun q => q v_2ca2bbca1f)) (fun h118 => ?_)
    refine Z_iconst (n := 0) dX5_both_8 ?_
    exact J_iret dX5_both_9 rfl (jbn v_939070ca3f v_316afd7d0b) (Nat.le_of_ble_eq_true rfl) (Nat.le_of_ble_eq_true rfl) (Or.inr ⟨z23, z24, z25, z26, z27, z28, f29, z30, rfl, rfl, h31, h32, h33, h34, h35, h36, h37, h38, h39, h40, h41, h42, h43, h44, h45⟩)
set_option maxHeartbeats 4000000 in
set_option maxRecDepth 100000 in
theorem d_test0 {l : Launch} {G : jG} {nh : Nat} {fh : Nat → Option va_E} (ln : Int) (tk : Int) (st : Int) (bh : Int) (va : Int) (pa : Int) (fl : Int) (sz : Int) (tp : Int → Int) (cd : Int → Int) (q0 : 0 ≤ ln) (q1 : ln ≤ 400) (q2 : 0 ≤ tk) (q3 : tk ≤ 355) (q4 : 0 ≤ st) (q5 : st ≤ bh) (q6 : bh ≤ ln) (q7 : 0 ≤ va) (q8 : va ≤ 1001) (q9 : 0 ≤ pa) (q10 : pa ≤ 50) (q11 : zr fl) (q12 : 0 ≤ sz) (q13 : sz ≤ 412) (q14 : TokL tk st bh) (q15 : Rg tp 400 0 255) (q16 : Rg cd 412 (-2147483648) 2147483647) (hk54 : fh 54 = some (.inr (5, [.ref 55, .int (zI ln), .int (zI tk), .int (zI st), .int (zI bh), .int (zI va), .int (zI pa), .int (zI fl), .ref 56, .int (zI sz)]))) (hk55 : fh 55 = some (.inl (0, 400, .inl (zA tp)))) (hk56 : fh 56 = some (.inl (0, 412, .inl (zA cd)))) : JM l G yX5_test MX5_test { frames := 43, cells := 0, slots := 0, locals := 965 } [.ref 54, .int (zI 0)] (nh, fh) (fun rr h9 => (∃ tk2 : Int, ∃ st2 : Int, ∃ bh2 : Int, ∃ va2 : Int, ∃ pa2 : Int, ∃ sz2 : Int, ∃ cd2 : Int → Int, rr = some (.int (zI 1)) ∧ h9 = (nh, hc fh [(54, .inr (5, [.ref 55, .int (zI ln), .int (zI tk2), .int (zI st2), .int (zI bh2), .int (zI va2), .int (zI pa2), .int (zI fl), .ref 56, .int (zI sz2)])), (56, .inl (0, 412, .inl (zA cd2)))]) ∧ (0 ≤ tk2) ∧ (tk2 ≤ 355) ∧ (0 ≤ st2) ∧ (st2 ≤ bh2) ∧ (bh2 ≤ ln) ∧ (0 ≤ va2) ∧ (va2 ≤ 1001) ∧ (0 ≤ pa2) ∧ (pa2 ≤ 50) ∧ (0 ≤ sz2) ∧ (sz2 ≤ 412) ∧ (TokL tk2 st2 bh2) ∧ (Rg cd2 412 (-2147483648) 2147483647) ∧ (sz2 + st ≤ sz + st2) ∧ (st ≤ st2)) ∨ (∃ tk2 : Int, ∃ st2 : Int, ∃ bh2 : Int, ∃ va2 : Int, ∃ pa2 : Int, ∃ sz2 : Int, ∃ cd2 : Int → Int, ∃ fl2 : Int, rr = some (.int (zI 0)) ∧ h9 = (nh, hc fh [(54, .inr (5, [.ref 55, .int (zI ln), .int (zI tk2), .int (zI st2), .int (zI bh2), .int (zI va2), .int (zI pa2), .int (zI fl2), .ref 56, .int (zI sz2)])), (56, .inl (0, 412, .inl (zA cd2)))]) ∧ (0 ≤ tk2) ∧ (tk2 ≤ 355) ∧ (0 ≤ st2) ∧ (st2 ≤ bh2) ∧ (bh2 ≤ ln) ∧ (0 ≤ va2) ∧ (va2 ≤ 1001) ∧ (0 ≤ pa2) ∧ (pa2 ≤ 50) ∧ (0 ≤ sz2) ∧ (sz2 ≤ 412) ∧ (TokL tk2 st2 bh2) ∧ (Rg cd2 412 (-2147483648) 2147483647) ∧ (0 ≤ fl2) ∧ (fl2 ≤ 400))) := by
  refine JM.of (by decide) rfl (fun h => by cases h) (Nat.le_of_ble_eq_true rfl) ⟨2, rfl⟩ ?_
  refine J_hc0 (J_ls (ls2 := [some (.ref 54), some (.int (zI 0)), none, none]) rfl ?_)
  refine J_aload_n dX5_test_0 rfl rfl ?_
  refine J_iload_n dX5_test_1 rfl rfl ?_
  refine J_callV (st := []) dX5_test_2 cv_X5_76 (d_both0 ln tk st bh va pa fl sz tp cd q0 q1 q2 q3 q4 q5 q6 q7 q8 q9 q10 q11 q12 q13 q14 q15 q16 hk54 hk55 hk56) hk54 rfl rfl (Nat.le_of_ble_eq_true rfl) ⟨(Nat.le_of_ble_eq_true rfl), (Nat.le_of_ble_eq_true rfl)⟩ ⟨(Nat.le_of_ble_eq_true rfl), (Nat.le_of_ble_eq_true rfl)⟩ (fun r h9 hp => ?_)
  rcases hp with ⟨z1, z2, z3, z4, z5, z6, f7, rfl, rfl, h8, h9, h10, h11, h12, h13, h14, h15, h16, h17, h18, h19, h20, h21, h22⟩ | ⟨z23, z24, z25, z26, z27, z28, f29, z30, rfl, rfl, h31, h32, h33, h34, h35, h36, h37, h38, h39, h40, h41, h42, h43, h44, h45⟩
  · refine J_nf (nh2 := nh) (ck2 := 0) (sk2 := 0) (st2 := [.int (zI 1)]) rfl rfl rfl rfl ?_
    refine J_app (L3 := [(54, .inr (5, [.ref 55, .int (zI ln), .int (zI z1), .int (zI z2), .int (zI z3), .int (zI z4), .int (zI z5), .int (zI fl), .ref 56, .int (zI z6)])), (56, .inl (0, 412, .inl (zA f7)))]) rfl ?_
    refine Z_if_ne (tgt := 10) dX5_test_5 (by decide) v_4dcc24baa7 (fun h46 => ?_) (fun h46 => absurd h46 v_3a47bfd896)
    refine Z_iconst (n := 0) dX5_test_10 ?_
    refine J_istore_n dX5_test_11 rfl (Nat.le_of_ble_eq_true rfl) rfl ?_
    refine J_ls (ls2 := [some (.ref 54), some (.int (zI 0)), some (.int (zI 0)), none]) rfl ?_
    have lp12 : ∀ (N12 : Nat) (i_12 : Int) (tx_12 : Int) (sx_12 : Int) (bx_12 : Int) (vx_12 : Int) (px_12 : Int) (zx_12 : Int) (cx_12 : Int → Int), (0 ≤ i_12) → (i_12 ≤ 400) → (zx_12 + st ≤ sz + sx_12) → (st ≤ sx_12) → (0 ≤ tx_12) → (tx_12 ≤ 355) → (0 ≤ sx_12) → (sx_12 ≤ bx_12) → (bx_12 ≤ ln) → (0 ≤ vx_12) → (vx_12 ≤ 1001) → (TokL tx_12 sx_12 bx_12) → (Rg cx_12 412 (-2147483648) 2147483647) → (0 ≤ zx_12) → (zx_12 ≤ 412) → (0 ≤ px_12) → (px_12 ≤ 50) → (400 - i_12).toNat < N12 → J l G MX5_test { frames := 43, cells := 0, slots := 0, locals := 965 } jE (jMQ G { frames := 43, cells := 0, slots := 0, locals := 965 } (fun rr h9 => (∃ tk2 : Int, ∃ st2 : Int, ∃ bh2 : Int, ∃ va2 : Int, ∃ pa2 : Int, ∃ sz2 : Int, ∃ cd2 : Int → Int, rr = some (.int (zI 1)) ∧ h9 = (nh, hc fh [(54, .inr (5, [.ref 55, .int (zI ln), .int (zI tk2), .int (zI st2), .int (zI bh2), .int (zI va2), .int (zI pa2), .int (zI fl), .ref 56, .int (zI sz2)])), (56, .inl (0, 412, .inl (zA cd2)))]) ∧ (0 ≤ tk2) ∧ (tk2 ≤ 355) ∧ (0 ≤ st2) ∧ (st2 ≤ bh2) ∧ (bh2 ≤ ln) ∧ (0 ≤ va2) ∧ (va2 ≤ 1001) ∧ (0 ≤ pa2) ∧ (pa2 ≤ 50) ∧ (0 ≤ sz2) ∧ (sz2 ≤ 412) ∧ (TokL tk2 st2 bh2) ∧ (Rg cd2 412 (-2147483648) 2147483647) ∧ (sz2 + st ≤ sz + st2) ∧ (st ≤ st2)) ∨ (∃ tk2 : Int, ∃ st2 : Int, ∃ bh2 : Int, ∃ va2 : Int, ∃ pa2 : Int, ∃ sz2 : Int, ∃ cd2 : Int → Int, ∃ fl2 : Int, rr = some (.int (zI 0)) ∧ h9 = (nh, hc fh [(54, .inr (5, [.ref 55, .int (zI ln), .int (zI tk2), .int (zI st2), .int (zI bh2), .int (zI va2), .int (zI pa2), .int (zI fl2), .ref 56, .int (zI sz2)])), (56, .inl (0, 412, .inl (zA cd2)))]) ∧ (0 ≤ tk2) ∧ (tk2 ≤ 355) ∧ (0 ≤ st2) ∧ (st2 ≤ bh2) ∧ (bh2 ≤ ln) ∧ (0 ≤ va2) ∧ (va2 ≤ 1001) ∧ (0 ≤ pa2) ∧ (pa2 ≤ 50) ∧ (0 ≤ sz2) ∧ (sz2 ≤ 412) ∧ (TokL tk2 st2 bh2) ∧ (Rg cd2 412 (-2147483648) 2147483647) ∧ (0 ≤ fl2) ∧ (fl2 ≤ 400)))) (nh, hc fh [(54, .inr (5, [.ref 55, .int (zI ln), .int (zI tx_12), .int (zI sx_12), .int (zI bx_12), .int (zI vx_12), .int (zI px_12), .int (zI fl), .ref 56, .int (zI zx_12)])), (56, .inl (0, 412, .inl (zA cx_12)))]) 0 0 12 [some (.ref 54), some (.int (zI 0)), some (.int (zI i_12)), none] [] := by
      intro N12
      induction N12 with
      | zero => intro i_12 tx_12 sx_12 bx_12 vx_12 px_12 zx_12 cx_12 i12_0 i12_1 i12_2 i12_3 i12_4 i12_5 i12_6 i12_7 i12_8 i12_9 i12_10 i12_11 i12_12 i12_13 i12_14 i12_15 i12_16 hm; exact absurd hm (Nat.not_lt_zero _)
      | succ N12 ih12 =>
        intro i_12 tx_12 sx_12 bx_12 vx_12 px_12 zx_12 cx_12 i12_0 i12_1 i12_2 i12_3 i12_4 i12_5 i12_6 i12_7 i12_8 i12_9 i12_10 i12_11 i12_12 i12_13 i12_14 i12_15 i12_16 hm12
        refine J_iload_n dX5_test_12 rfl rfl ?_
        refine Z_sipush (n := 400) dX5_test_13 (by decide +kernel) ?_
        refine Z_icmp_ge (tgt := 60) dX5_test_16 (by decide) (v_d7389cde0f i12_0 i12_1) v_d8dcd4dd52 (fun h47 => ?_) (fun h47 => ?_)
        · refine Z_iconst (n := 1) dX5_test_60 ?_
          exact J_iret dX5_test_61 rfl (jbn v_316afd7d0b v_bbcfac9b7d) (Nat.le_of_ble_eq_true rfl) (Nat.le_of_ble_eq_true rfl) (Or.inl ⟨tx_12, sx_12, bx_12, vx_12, px_12, zx_12, cx_12, rfl, rfl, i12_4, i12_5, i12_6, i12_7, i12_8, i12_9, i12_10, i12_15, i12_16, i12_13, i12_14, i12_11, i12_12, i12_2, i12_3⟩)
        · refine J_aload_n dX5_test_19 rfl rfl ?_
          refine J_get (v := .int (zI tx_12)) dX5_test_20 fl_X5_19 rfl rfl ?_
          refine Z_iconst (n := 4) dX5_test_23 ?_
          refine Z_icmp_ne (tgt := 60) dX5_test_24 (by decide) (v_96bf6f782e i12_4 i12_5) v_ffb526fa28 (fun h48 => ?_) (fun h48 => ?_)
          · refine Z_iconst (n := 1) dX5_test_60 ?_
            exact J_iret dX5_test_61 rfl (jbn v_316afd7d0b v_bbcfac9b7d) (Nat.le_of_ble_eq_true rfl) (Nat.le_of_ble_eq_true rfl) (Or.inl ⟨tx_12, sx_12, bx_12, vx_12, px_12, zx_12, cx_12, rfl, rfl, i12_4, i12_5, i12_6, i12_7, i12_8, i12_9, i12_10, i12_15, i12_16, i12_13, i12_14, i12_11, i12_12, i12_2, i12_3⟩)
          · refine J_aload_n dX5_test_27 rfl rfl ?_
            have g49 := TokL.lt i12_11 (v_5ca91df03c h48)
            refine J_callV (st := []) dX5_test_28 cv_X5_43 (d_advance ln tx_12 sx_12 bx_12 vx_12 px_12 fl zx_12 tp q0 q1 (v_d253cb2c59 i12_6 g49) i12_8 i12_9 i12_10 q15 rfl hk55) rfl rfl rfl (Nat.le_of_ble_eq_true rfl) ⟨(Nat.le_of_ble_eq_true rfl), (Nat.le_of_ble_eq_true rfl)⟩ ⟨(Nat.le_of_ble_eq_true rfl), (Nat.le_of_ble_eq_true rfl)⟩ (fun r h9 hp => ?_)
            obtain ⟨z50, z51, z52, z53, rfl, rfl, h54, h55, h56, h57, h58, h59, h60, h61⟩ := hp
            refine J_nf (nh2 := nh) (ck2 := 0) (sk2 := 0) (st2 := []) rfl rfl rfl rfl ?_
            refine J_app (L3 := [(54, .inr (5, [.ref 55, .int (zI ln), .int (zI z50), .int (zI z51), .int (zI z52), .int (zI z53), .int (zI px_12), .int (zI fl), .ref 56, .int (zI zx_12)])), (54, .inr (5, [.ref 55, .int (zI ln), .int (zI tx_12), .int (zI sx_12), .int (zI bx_12), .int (zI vx_12), .int (zI px_12), .int (zI fl), .ref 56, .int (zI zx_12)])), (56, .inl (0, 412, .inl (zA cx_12)))]) rfl ?_
            refine J_mask (L2 := [(54, .inr (5, [.ref 55, .int (zI ln), .int (zI z50), .int (zI z51), .int (zI z52), .int (zI z53), .int (zI px_12), .int (zI fl), .ref 56, .int (zI zx_12)])), (56, .inl (0, 412, .inl (zA cx_12)))]) (ks := [54, 54, 56]) [true, false, true] rfl (by decide +kernel) rfl ?_
            refine J_aload_n dX5_test_31 rfl rfl ?_
            refine Z_bipush (n := 10) dX5_test_32 (by decide +kernel) ?_
            refine Z_iconst (n := 0) dX5_test_34 ?_
            refine J_callV (st := []) dX5_test_35 cv_X5_72 (d_emit 10 0 ln z50 z51 z52 z53 px_12 fl zx_12 cx_12 v_2388fd5833 v_b17331891f i12_13 i12_14 i12_12 rfl rfl) rfl rfl rfl (Nat.le_of_ble_eq_true rfl) ⟨(Nat.le_of_ble_eq_true rfl), (Nat.le_of_ble_eq_true rfl)⟩ ⟨(Nat.le_of_ble_eq_true rfl), (Nat.le_of_ble_eq_true rfl)⟩ (fun r h9 hp => ?_)
            obtain ⟨z62, f63, rfl, rfl, h64, h65, h66, h67, h68⟩ := hp
            refine J_nf (nh2 := nh) (ck2 := 0) (sk2 := 0) (st2 := [.int (zI zx_12)]) rfl rfl rfl rfl ?_
            refine J_app (L3 := [(54, .inr (5, [.ref 55, .int (zI ln), .int (zI z50), .int (zI z51), .int (zI z52), .int (zI z53), .int (zI px_12), .int (zI fl), .ref 56, .int (zI z62)])), (56, .inl (0, 412, .inl (zA f63))), (54, .inr (5, [.ref 55, .int (zI ln), .int (zI z50), .int (zI z51), .int (zI z52), .int (zI z53), .int (zI px_12), .int (zI fl), .ref 56, .int (zI zx_12)])), (56, .inl (0, 412, .inl (zA cx_12)))]) rfl ?_
            refine J_mask (L2 := [(54, .inr (5, [.ref 55, .int (zI ln), .int (zI z50), .int (zI z51), .int (zI z52), .int (zI z53), .int (zI px_12), .int (zI fl), .ref 56, .int (zI z62)])), (56, .inl (0, 412, .inl (zA f63)))]) (ks := [54, 56, 54, 56]) [true, true, false, false] rfl (by decide +kernel) rfl ?_
            refine J_istore_n dX5_test_38 rfl (Nat.le_of_ble_eq_true rfl) rfl ?_
            refine J_ls (ls2 := [some (.ref 54), some (.int (zI 0)), some (.int (zI i_12)), some (.int (zI zx_12))]) rfl ?_
            refine J_aload_n dX5_test_39 rfl rfl ?_
            refine J_iload_n dX5_test_40 rfl rfl ?_
            refine J_callV (st := []) dX5_test_41 cv_X5_76 (d_both0 ln z50 z51 z52 z53 px_12 fl z62 tp f63 q0 q1 h54 h55 (v_9b2e2070a2 i12_6 g49 h56) h57 h58 h59 h60 i12_15 i12_16 q11 h64 h65 h61 q15 h68 rfl hk55 rfl) rfl rfl rfl (Nat.le_of_ble_eq_true rfl) ⟨(Nat.le_of_ble_eq_true rfl), (Nat.le_of_ble_eq_true rfl)⟩ ⟨(Nat.le_of_ble_eq_true rfl), (Nat.le_of_ble_eq_true rfl)⟩ (fun r h9 hp => ?_)
            rcases hp with ⟨z69, z70, z71, z72, z73, z74, f75, rfl, rfl, h76, h77, h78, h79, h80, h81, h82, h83, h84, h85, h86, h87, h88, h89, h90⟩ | ⟨z91, z92, z93, z94, z95, z96, f97, z98, rfl, rfl, h99, h100, h101, h102, h103, h104, h105, h106, h107, h108, h109, h110, h111, h112, h113⟩
            · refine J_nf (nh2 := nh) (ck2 := 0) (sk2 := 0) (st2 := [.int (zI 1)]) rfl rfl rfl rfl ?_
              refine J_app (L3 := [(54, .inr (5, [.ref 55, .int (zI ln), .int (zI z69), .int (zI z70), .int (zI z71), .int (zI z72), .int (zI z73), .int (zI fl), .ref 56, .int (zI z74)])), (56, .inl (0, 412, .inl (zA f75))), (54, .inr (5, [.ref 55, .int (zI ln), .int (zI z50), .int (zI z51), .int (zI z52), .int (zI z53), .int (zI px_12), .int (zI fl), .ref 56, .int (zI z62)])), (56, .inl (0, 412, .inl (zA f63)))]) rfl ?_
              refine J_mask (L2 := [(54, .inr (5, [.ref 55, .int (zI ln), .int (zI z69), .int (zI z70), .int (zI z71), .int (zI z72), .int (zI z73), .int (zI fl), .ref 56, .int (zI z74)])), (56, .inl (0, 412, .inl (zA f75)))]) (ks := [54, 56, 54, 56]) [true, true, false, false] rfl (by decide +kernel) rfl ?_
              refine Z_if_ne (tgt := 49) dX5_test_44 (by decide) v_4dcc24baa7 (fun h114 => ?_) (fun h114 => absurd h114 v_3a47bfd896)
              refine J_aload_n dX5_test_49 rfl rfl ?_
              refine J_iload_n dX5_test_50 rfl rfl ?_
              refine J_callV (st := []) dX5_test_51 cv_X5_79 (d_aim zx_12 ln z69 z70 z71 z72 z73 fl z74 f75 (v_9099852440 i12_13 i12_14) h85 h86 h88 rfl rfl) rfl rfl rfl (Nat.le_of_ble_eq_true rfl) ⟨(Nat.le_of_ble_eq_true rfl), (Nat.le_of_ble_eq_true rfl)⟩ ⟨(Nat.le_of_ble_eq_true rfl), (Nat.le_of_ble_eq_true rfl)⟩ (fun r h9 hp => ?_)
              obtain ⟨f115, rfl, rfl, h116⟩ := hp
              refine J_nf (nh2 := nh) (ck2 := 0) (sk2 := 0) (st2 := []) rfl rfl rfl rfl ?_
              refine J_app (L3 := [(56, .inl (0, 412, .inl (zA f115))), (54, .inr (5, [.ref 55, .int (zI ln), .int (zI z69), .int (zI z70), .int (zI z71), .int (zI z72), .int (zI z73), .int (zI fl), .ref 56, .int (zI z74)])), (56, .inl (0, 412, .inl (zA f75)))]) rfl ?_
              refine J_mask (L2 := [(56, .inl (0, 412, .inl (zA f115))), (54, .inr (5, [.ref 55, .int (zI ln), .int (zI z69), .int (zI z70), .int (zI z71), .int (zI z72), .int (zI z73), .int (zI fl), .ref 56, .int (zI z74)]))]) (ks := [56, 54, 56]) [true, true, false] rfl (by decide +kernel) rfl ?_
              refine Z_iinc (c := i_12 + 1) (ls2 := [some (.ref 54), some (.int (zI 0)), some (.int (zI (i_12 + 1))), some (.int (zI zx_12))]) dX5_test_54 rfl (Nat.le_of_ble_eq_true rfl) rfl rfl rfl ?_
              refine J_goto (tgt := 12) dX5_test_57 (by decide) ?_
              refine J_touch (k := 56) (e := .inl (0, 412, .inl (zA f115))) rfl ?_
              refine J_touch (k := 54) (e := .inr (5, [.ref 55, .int (zI ln), .int (zI z69), .int (zI z70), .int (zI z71), .int (zI z72), .int (zI z73), .int (zI fl), .ref 56, .int (zI z74)])) rfl ?_
              refine J_mask (L2 := [(54, .inr (5, [.ref 55, .int (zI ln), .int (zI z69), .int (zI z70), .int (zI z71), .int (zI z72), .int (zI z73), .int (zI fl), .ref 56, .int (zI z74)])), (56, .inl (0, 412, .inl (zA f115)))]) (ks := [54, 56, 56, 54]) [true, true, false, false] rfl (by decide +kernel) rfl ?_
              refine J_drop (ls2 := [some (.ref 54), some (.int (zI 0)), some (.int (zI (i_12 + 1))), none]) [true, true, true, false] rfl ?_
              exact ih12 (i_12 + 1) z69 z70 z71 z72 z73 z74 f115 (v_da458fa48a i12_0) (v_6924477667 h47) (v_f82b1dc229 i12_2 g49 h56 h67 h89) (v_269579bf42 i12_3 g49 h56 h90) h76 h77 h78 h79 h80 h81 h82 h87 h116 h85 h86 h83 h84 (meas_lt v_ceb2ed6d2b (v_44ddc35e90 h47) hm12)
            · refine J_nf (nh2 := nh) (ck2 := 0) (sk2 := 0) (st2 := [.int (zI 0)]) rfl rfl rfl rfl ?_
              refine J_app (L3 := [(54, .inr (5, [.ref 55, .int (zI ln), .int (zI z91), .int (zI z92), .int (zI z93), .int (zI z94), .int (zI z95), .int (zI z98), .ref 56, .int (zI z96)])), (56, .inl (0, 412, .inl (zA f97))), (54, .inr (5, [.ref 55, .int (zI ln), .int (zI z50), .int (zI z51), .int (zI z52), .int (zI z53), .int (zI px_12), .int (zI fl), .ref 56, .int (zI z62)])), (56, .inl (0, 412, .inl (zA f63)))]) rfl ?_
              refine J_mask (L2 := [(54, .inr (5, [.ref 55, .int (zI ln), .int (zI z91), .int (zI z92), .int (zI z93), .int (zI z94), .int (zI z95), .int (zI z98), .ref 56, .int (zI z96)])), (56, .inl (0, 412, .inl (zA f97)))]) (ks := [54, 56, 54, 56]) [true, true, false, false] rfl (by decide +kernel) rfl ?_
              refine Z_if_ne (tgt := 49) dX5_test_44 (by decide) v_b17331891f (fun h117 => absurd h117 (fun q => q v_2ca2bbca1f)) (fun h117 => ?_)
              refine Z_iconst (n := 0) dX5_test_47 ?_
              exact J_iret dX5_test_48 rfl (jbn v_939070ca3f v_316afd7d0b) (Nat.le_of_ble_eq_true rfl) (Nat.le_of_ble_eq_true rfl) (Or.inr ⟨z91, z92, z93, z94, z95, z96, f97, z98, rfl, rfl, h99, h100, h101, h102, h103, h104, h105, h106, h107, h108, h109, h110, h111, h112, h113⟩)
    exact lp12 _ 0 z1 z2 z3 z4 z5 z6 f7 v_939070ca3f v_5ab96f7b5e h21 h22 h8 h9 h10 h11 h12 h13 h14 h19 h20 h17 h18 h15 h16 (Nat.lt_succ_self _)
  · refine J_nf (nh2 := nh) (ck2 := 0) (sk2 := 0) (st2 := [.int (zI 0)]) rfl rfl rfl rfl ?_
    refine J_app (L3 := [(54, .inr (5, [.ref 55, .int (zI ln), .int (zI z23), .int (zI z24), .int (zI z25), .int (zI z26), .int (zI z27), .int (zI z30), .ref 56, .int (zI z28)])), (56, .inl (0, 412, .inl (zA f29)))]) rfl ?_
    refine Z_if_ne (tgt := 10) dX5_test_5 (by decide) v_b17331891f (fun h118 => absurd h118 (fun q => q v_2ca2bbca1f)) (fun h118 => ?_)
    refine Z_iconst (n := 0) dX5_test_8 ?_
    exact J_iret dX5_test_9 rfl (jbn v_939070ca3f v_316afd7d0b) (Nat.le_of_ble_eq_true rfl) (Nat.le_of_ble_eq_true rfl) (Or.inr ⟨z23, z24, z25, z26, z27, z28, f29, z30, rfl, rfl, h31, h32, h33, h34, h35, h36, h37, h38, h39, h40, h41, h42, h43, h44, h45⟩)
set_option maxHeartbeats 4000000 in
set_option maxRecDepth 100000 in
theorem d_clause {l : Launch} {G : jG} {nh : Nat} {fh : Nat → Option va_E} (ln : Int) (tk : Int) (st : Int) (bh : Int) (va : Int) (pa : Int) (fl : Int) (sz : Int) (tp : Int → Int) (cd : Int → Int) (q0 : 0 ≤ ln) (q1 : ln ≤ 400) (q2 : 0 ≤ tk) (q3 : tk ≤ 355) (q4 : 0 ≤ st) (q5 : st ≤ bh) (q6 : bh ≤ ln) (q7 : 0 ≤ va) (q8 : va ≤ 1001) (q9 : 0 ≤ pa) (q10 : pa ≤ 50) (q11 : zr fl) (q12 : 0 ≤ sz) (q13 : sz ≤ 412) (q14 : TokL tk st bh) (q15 : Rg tp 400 0 255) (q16 : Rg cd 412 (-2147483648) 2147483647) (hk54 : fh 54 = some (.inr (5, [.ref 55, .int (zI ln), .int (zI tk), .int (zI st), .int (zI bh), .int (zI va), .int (zI pa), .int (zI fl), .ref 56, .int (zI sz)]))) (hk55 : fh 55 = some (.inl (0, 400, .inl (zA tp)))) (hk56 : fh 56 = some (.inl (0, 412, .inl (zA cd)))) : JM l G yX5_clause MX5_clause { frames := 44, cells := 0, slots := 0, locals := 988 } [.ref 54] (nh, fh) (fun rr h9 => (∃ tk2 : Int, ∃ st2 : Int, ∃ bh2 : Int, ∃ va2 : Int, ∃ pa2 : Int, ∃ sz2 : Int, ∃ cd2 : Int → Int, rr = some (.int (zI 1)) ∧ h9 = (nh, hc fh [(54, .inr (5, [.ref 55, .int (zI ln), .int (zI tk2), .int (zI st2), .int (zI bh2), .int (zI va2), .int (zI pa2), .int (zI fl), .ref 56, .int (zI sz2)])), (56, .inl (0, 412, .inl (zA cd2)))]) ∧ (0 ≤ tk2) ∧ (tk2 ≤ 355) ∧ (0 ≤ st2) ∧ (st2 ≤ bh2) ∧ (bh2 ≤ ln) ∧ (0 ≤ va2) ∧ (va2 ≤ 1001) ∧ (0 ≤ pa2) ∧ (pa2 ≤ 50) ∧ (0 ≤ sz2) ∧ (sz2 ≤ 412) ∧ (TokL tk2 st2 bh2) ∧ (Rg cd2 412 (-2147483648) 2147483647) ∧ (sz2 + st ≤ sz + st2 + 1) ∧ (st ≤ st2)) ∨ (∃ tk2 : Int, ∃ st2 : Int, ∃ bh2 : Int, ∃ va2 : Int, ∃ pa2 : Int, ∃ sz2 : Int, ∃ cd2 : Int → Int, ∃ fl2 : Int, rr = some (.int (zI 0)) ∧ h9 = (nh, hc fh [(54, .inr (5, [.ref 55, .int (zI ln), .int (zI tk2), .int (zI st2), .int (zI bh2), .int (zI va2), .int (zI pa2), .int (zI fl2), .ref 56, .int (zI sz2)])), (56, .inl (0, 412, .inl (zA cd2)))]) ∧ (0 ≤ tk2) ∧ (tk2 ≤ 355) ∧ (0 ≤ st2) ∧ (st2 ≤ bh2) ∧ (bh2 ≤ ln) ∧ (0 ≤ va2) ∧ (va2 ≤ 1001) ∧ (0 ≤ pa2) ∧ (pa2 ≤ 50) ∧ (0 ≤ sz2) ∧ (sz2 ≤ 412) ∧ (TokL tk2 st2 bh2) ∧ (Rg cd2 412 (-2147483648) 2147483647) ∧ (0 ≤ fl2) ∧ (fl2 ≤ 400))) := by
  refine JM.of (by decide) rfl (fun h => by cases h) (Nat.le_of_ble_eq_true rfl) ⟨1, rfl⟩ ?_
  refine J_hc0 (J_ls (ls2 := [some (.ref 54), none]) rfl ?_)
  refine J_aload_n dX5_clause_0 rfl rfl ?_
  refine J_get (v := .int (zI tk)) dX5_clause_1 fl_X5_19 hk54 rfl ?_
  refine J_istore_n dX5_clause_4 rfl (Nat.le_of_ble_eq_true rfl) rfl ?_
  refine J_ls (ls2 := [some (.ref 54), some (.int (zI tk))]) rfl ?_
  refine J_iload_n dX5_clause_5 rfl rfl ?_
  refine Z_if_eq (tgt := 24) dX5_clause_6 (by decide) (v_96bf6f782e q2 q3) (fun h1 => ?_) (fun h1 => ?_)
  · refine J_aload_n dX5_clause_24 rfl rfl ?_
    have g2 := TokL.lt q14 (v_9e3e808914 h1)
    refine J_callV (st := []) dX5_clause_25 cv_X5_43 (d_advance ln tk st bh va pa fl sz tp q0 q1 (v_d253cb2c59 q4 g2) q6 q7 q8 q15 hk54 hk55) hk54 rfl rfl (Nat.le_of_ble_eq_true rfl) ⟨(Nat.le_of_ble_eq_true rfl), (Nat.le_of_ble_eq_true rfl)⟩ ⟨(Nat.le_of_ble_eq_true rfl), (Nat.le_of_ble_eq_true rfl)⟩ (fun r h9 hp => ?_)
    obtain ⟨z3, z4, z5, z6, rfl, rfl, h7, h8, h9, h10, h11, h12, h13, h14⟩ := hp
    refine J_nf (nh2 := nh) (ck2 := 0) (sk2 := 0) (st2 := []) rfl rfl rfl rfl ?_
    refine J_app (L3 := [(54, .inr (5, [.ref 55, .int (zI ln), .int (zI z3), .int (zI z4), .int (zI z5), .int (zI z6), .int (zI pa), .int (zI fl), .ref 56, .int (zI sz)]))]) rfl ?_
    refine J_iload_n dX5_clause_28 rfl rfl ?_
    refine Z_if_ne (tgt := 42) dX5_clause_29 (by decide) (v_1bb2bfd6ba q2 h1) (fun h15 => absurd h15 (fun q => q (v_bd6c74a791 q2 h1))) (fun h15 => ?_)
    refine J_aload_n dX5_clause_32 rfl rfl ?_
    refine Z_iconst (n := 0) dX5_clause_33 ?_
    refine J_callV (st := []) dX5_clause_34 cv_X5_63 (d_sum0 ln z3 z4 z5 z6 pa fl sz tp cd q0 q1 h7 h8 (v_9b2e2070a2 q4 g2 h9) h10 h11 h12 h13 q9 q10 q11 q12 q13 h14 q15 q16 rfl hk55 hk56) rfl rfl rfl (Nat.le_of_ble_eq_true rfl) ⟨(Nat.le_of_ble_eq_true rfl), (Nat.le_of_ble_eq_true rfl)⟩ ⟨(Nat.le_of_ble_eq_true rfl), (Nat.le_of_ble_eq_true rfl)⟩ (fun r h9 hp => ?_)
    rcases hp with ⟨z16, z17, z18, z19, z20, z21, f22, rfl, rfl, h23, h24, h25, h26, h27, h28, h29, h30, h31, h32, h33, h34, h35, h36, h37⟩ | ⟨z38, z39, z40, z41, z42, z43, f44, z45, rfl, rfl, h46, h47, h48, h49, h50, h51, h52, h53, h54, h55, h56, h57, h58, h59, h60⟩
    · refine J_nf (nh2 := nh) (ck2 := 0) (sk2 := 0) (st2 := [.int (zI 1)]) rfl rfl rfl rfl ?_
      refine J_app (L3 := [(54, .inr (5, [.ref 55, .int (zI ln), .int (zI z16), .int (zI z17), .int (zI z18), .int (zI z19), .int (zI z20), .int (zI fl), .ref 56, .int (zI z21)])), (56, .inl (0, 412, .inl (zA f22))), (54, .inr (5, [.ref 55, .int (zI ln), .int (zI z3), .int (zI z4), .int (zI z5), .int (zI z6), .int (zI pa), .int (zI fl), .ref 56, .int (zI sz)]))]) rfl ?_
      refine J_mask (L2 := [(54, .inr (5, [.ref 55, .int (zI ln), .int (zI z16), .int (zI z17), .int (zI z18), .int (zI z19), .int (zI z20), .int (zI fl), .ref 56, .int (zI z21)])), (56, .inl (0, 412, .inl (zA f22)))]) (ks := [54, 56, 54]) [true, true, false] rfl (by decide +kernel) rfl ?_
      refine Z_if_ne (tgt := 42) dX5_clause_37 (by decide) v_4dcc24baa7 (fun h61 => ?_) (fun h61 => absurd h61 v_3a47bfd896)
      refine J_aload_n dX5_clause_42 rfl rfl ?_
      refine J_get (v := .int (zI z16)) dX5_clause_43 fl_X5_19 rfl rfl ?_
      refine Z_iconst (n := 3) dX5_clause_46 ?_
      refine Z_icmp_ne (tgt := 64) dX5_clause_47 (by decide) (v_96bf6f782e h23 h24) v_1cc5223c3a (fun h62 => ?_) (fun h62 => ?_)
      · refine J_aload_n dX5_clause_64 rfl rfl ?_
        refine Z_iconst (n := 0) dX5_clause_65 ?_
        refine Z_iconst (n := 1) dX5_clause_66 ?_
        refine J_callV (st := []) dX5_clause_67 cv_X5_72 (d_emit 0 1 ln z16 z17 z18 z19 z20 fl z21 f22 v_b17331891f v_4dcc24baa7 h32 h33 h35 rfl rfl) rfl rfl rfl (Nat.le_of_ble_eq_true rfl) ⟨(Nat.le_of_ble_eq_true rfl), (Nat.le_of_ble_eq_true rfl)⟩ ⟨(Nat.le_of_ble_eq_true rfl), (Nat.le_of_ble_eq_true rfl)⟩ (fun r h9 hp => ?_)
        obtain ⟨z63, f64, rfl, rfl, h65, h66, h67, h68, h69⟩ := hp
        refine J_nf (nh2 := nh) (ck2 := 0) (sk2 := 0) (st2 := [.int (zI z21)]) rfl rfl rfl rfl ?_
        refine J_app (L3 := [(54, .inr (5, [.ref 55, .int (zI ln), .int (zI z16), .int (zI z17), .int (zI z18), .int (zI z19), .int (zI z20), .int (zI fl), .ref 56, .int (zI z63)])), (56, .inl (0, 412, .inl (zA f64))), (54, .inr (5, [.ref 55, .int (zI ln), .int (zI z16), .int (zI z17), .int (zI z18), .int (zI z19), .int (zI z20), .int (zI fl), .ref 56, .int (zI z21)])), (56, .inl (0, 412, .inl (zA f22)))]) rfl ?_
        refine J_mask (L2 := [(54, .inr (5, [.ref 55, .int (zI ln), .int (zI z16), .int (zI z17), .int (zI z18), .int (zI z19), .int (zI z20), .int (zI fl), .ref 56, .int (zI z63)])), (56, .inl (0, 412, .inl (zA f64)))]) (ks := [54, 56, 54, 56]) [true, true, false, false] rfl (by decide +kernel) rfl ?_
        refine J_pop dX5_clause_70 rfl ?_
        refine J_aload_n dX5_clause_71 rfl rfl ?_
        refine J_iload_n dX5_clause_72 rfl rfl ?_
        refine Z_if_ne (tgt := 81) dX5_clause_73 (by decide) (v_1bb2bfd6ba q2 h1) (fun h70 => absurd h70 (fun q => q (v_bd6c74a791 q2 h1))) (fun h70 => ?_)
        refine Z_bipush (n := 12) dX5_clause_76 (by decide +kernel) ?_
        refine J_goto (tgt := 93) dX5_clause_78 (by decide) ?_
        refine Z_iconst (n := 0) dX5_clause_93 ?_
        refine J_callV (st := []) dX5_clause_94 cv_X5_72 (d_emit 12 0 ln z16 z17 z18 z19 z20 fl z63 f64 v_1288359c70 v_b17331891f h65 h66 h69 rfl rfl) rfl rfl rfl (Nat.le_of_ble_eq_true rfl) ⟨(Nat.le_of_ble_eq_true rfl), (Nat.le_of_ble_eq_true rfl)⟩ ⟨(Nat.le_of_ble_eq_true rfl), (Nat.le_of_ble_eq_true rfl)⟩ (fun r h9 hp => ?_)
        obtain ⟨z71, f72, rfl, rfl, h73, h74, h75, h76, h77⟩ := hp
        refine J_nf (nh2 := nh) (ck2 := 0) (sk2 := 0) (st2 := [.int (zI z63)]) rfl rfl rfl rfl ?_
        refine J_app (L3 := [(54, .inr (5, [.ref 55, .int (zI ln), .int (zI z16), .int (zI z17), .int (zI z18), .int (zI z19), .int (zI z20), .int (zI fl), .ref 56, .int (zI z71)])), (56, .inl (0, 412, .inl (zA f72))), (54, .inr (5, [.ref 55, .int (zI ln), .int (zI z16), .int (zI z17), .int (zI z18), .int (zI z19), .int (zI z20), .int (zI fl), .ref 56, .int (zI z63)])), (56, .inl (0, 412, .inl (zA f64)))]) rfl ?_
        refine J_mask (L2 := [(54, .inr (5, [.ref 55, .int (zI ln), .int (zI z16), .int (zI z17), .int (zI z18), .int (zI z19), .int (zI z20), .int (zI fl), .ref 56, .int (zI z71)])), (56, .inl (0, 412, .inl (zA f72)))]) (ks := [54, 56, 54, 56]) [true, true, false, false] rfl (by decide +kernel) rfl ?_
        refine J_pop dX5_clause_97 rfl ?_
        refine Z_iconst (n := 1) dX5_clause_98 ?_
        exact J_iret dX5_clause_99 rfl (jbn v_316afd7d0b v_bbcfac9b7d) (Nat.le_of_ble_eq_true rfl) (Nat.le_of_ble_eq_true rfl) (Or.inl ⟨z16, z17, z18, z19, z20, z71, f72, rfl, rfl, h23, h24, h25, h26, h27, h28, h29, h30, h31, h73, h74, h34, h77, (v_f1c4f9e4a5 g2 h9 h36 h68 h76), (v_f86ed2c715 g2 h9 h37)⟩)
      · refine J_aload_n dX5_clause_50 rfl rfl ?_
        have g78 := TokL.lt h34 (v_e24a142995 h62)
        refine J_callV (st := []) dX5_clause_51 cv_X5_43 (d_advance ln z16 z17 z18 z19 z20 fl z21 tp q0 q1 (v_d253cb2c59 h25 g78) h27 h28 h29 q15 rfl hk55) rfl rfl rfl (Nat.le_of_ble_eq_true rfl) ⟨(Nat.le_of_ble_eq_true rfl), (Nat.le_of_ble_eq_true rfl)⟩ ⟨(Nat.le_of_ble_eq_true rfl), (Nat.le_of_ble_eq_true rfl)⟩ (fun r h9 hp => ?_)
        obtain ⟨z79, z80, z81, z82, rfl, rfl, h83, h84, h85, h86, h87, h88, h89, h90⟩ := hp
        refine J_nf (nh2 := nh) (ck2 := 0) (sk2 := 0) (st2 := []) rfl rfl rfl rfl ?_
        refine J_app (L3 := [(54, .inr (5, [.ref 55, .int (zI ln), .int (zI z79), .int (zI z80), .int (zI z81), .int (zI z82), .int (zI z20), .int (zI fl), .ref 56, .int (zI z21)])), (54, .inr (5, [.ref 55, .int (zI ln), .int (zI z16), .int (zI z17), .int (zI z18), .int (zI z19), .int (zI z20), .int (zI fl), .ref 56, .int (zI z21)])), (56, .inl (0, 412, .inl (zA f22)))]) rfl ?_
        refine J_mask (L2 := [(54, .inr (5, [.ref 55, .int (zI ln), .int (zI z79), .int (zI z80), .int (zI z81), .int (zI z82), .int (zI z20), .int (zI fl), .ref 56, .int (zI z21)])), (56, .inl (0, 412, .inl (zA f22)))]) (ks := [54, 54, 56]) [true, false, true] rfl (by decide +kernel) rfl ?_
        refine J_aload_n dX5_clause_54 rfl rfl ?_
        refine Z_iconst (n := 0) dX5_clause_55 ?_
        refine J_callV (st := []) dX5_clause_56 cv_X5_67 (d_test0 ln z79 z80 z81 z82 z20 fl z21 tp f22 q0 q1 h83 h84 (v_9b2e2070a2 h25 g78 h85) h86 h87 h88 h89 h30 h31 q11 h32 h33 h90 q15 h35 rfl hk55 rfl) rfl rfl rfl (Nat.le_of_ble_eq_true rfl) ⟨(Nat.le_of_ble_eq_true rfl), (Nat.le_of_ble_eq_true rfl)⟩ ⟨(Nat.le_of_ble_eq_true rfl), (Nat.le_of_ble_eq_true rfl)⟩ (fun r h9 hp => ?_)
        rcases hp with ⟨z91, z92, z93, z94, z95, z96, f97, rfl, rfl, h98, h99, h100, h101, h102, h103, h104, h105, h106, h107, h108, h109, h110, h111, h112⟩ | ⟨z113, z114, z115, z116, z117, z118, f119, z120, rfl, rfl, h121, h122, h123, h124, h125, h126, h127, h128, h129, h130, h131, h132, h133, h134, h135⟩
        · refine J_nf (nh2 := nh) (ck2 := 0) (sk2 := 0) (st2 := [.int (zI 1)]) rfl rfl rfl rfl ?_
          refine J_app (L3 := [(54, .inr (5, [.ref 55, .int (zI ln), .int (zI z91), .int (zI z92), .int (zI z93), .int (zI z94), .int (zI z95), .int (zI fl), .ref 56, .int (zI z96)])), (56, .inl (0, 412, .inl (zA f97))), (54, .inr (5, [.ref 55, .int (zI ln), .int (zI z79), .int (zI z80), .int (zI z81), .int (zI z82), .int (zI z20), .int (zI fl), .ref 56, .int (zI z21)])), (56, .inl (0, 412, .inl (zA f22)))]) rfl ?_
          refine J_mask (L2 := [(54, .inr (5, [.ref 55, .int (zI ln), .int (zI z91), .int (zI z92), .int (zI z93), .int (zI z94), .int (zI z95), .int (zI fl), .ref 56, .int (zI z96)])), (56, .inl (0, 412, .inl (zA f97)))]) (ks := [54, 56, 54, 56]) [true, true, false, false] rfl (by decide +kernel) rfl ?_
          refine Z_if_ne (tgt := 71) dX5_clause_59 (by decide) v_4dcc24baa7 (fun h136 => ?_) (fun h136 => absurd h136 v_3a47bfd896)
          refine J_aload_n dX5_clause_71 rfl rfl ?_
          refine J_iload_n dX5_clause_72 rfl rfl ?_
          refine Z_if_ne (tgt := 81) dX5_clause_73 (by decide) (v_1bb2bfd6ba q2 h1) (fun h137 => absurd h137 (fun q => q (v_bd6c74a791 q2 h1))) (fun h137 => ?_)
          refine Z_bipush (n := 12) dX5_clause_76 (by decide +kernel) ?_
          refine J_goto (tgt := 93) dX5_clause_78 (by decide) ?_
          refine Z_iconst (n := 0) dX5_clause_93 ?_
          refine J_callV (st := []) dX5_clause_94 cv_X5_72 (d_emit 12 0 ln z91 z92 z93 z94 z95 fl z96 f97 v_1288359c70 v_b17331891f h107 h108 h110 rfl rfl) rfl rfl rfl (Nat.le_of_ble_eq_true rfl) ⟨(Nat.le_of_ble_eq_true rfl), (Nat.le_of_ble_eq_true rfl)⟩ ⟨(Nat.le_of_ble_eq_true rfl), (Nat.le_of_ble_eq_true rfl)⟩ (fun r h9 hp => ?_)
          obtain ⟨z138, f139, rfl, rfl, h140, h141, h142, h143, h144⟩ := hp
          refine J_nf (nh2 := nh) (ck2 := 0) (sk2 := 0) (st2 := [.int (zI z96)]) rfl rfl rfl rfl ?_
          refine J_app (L3 := [(54, .inr (5, [.ref 55, .int (zI ln), .int (zI z91), .int (zI z92), .int (zI z93), .int (zI z94), .int (zI z95), .int (zI fl), .ref 56, .int (zI z138)])), (56, .inl (0, 412, .inl (zA f139))), (54, .inr (5, [.ref 55, .int (zI ln), .int (zI z91), .int (zI z92), .int (zI z93), .int (zI z94), .int (zI z95), .int (zI fl), .ref 56, .int (zI z96)])), (56, .inl (0, 412, .inl (zA f97)))]) rfl ?_
          refine J_mask (L2 := [(54, .inr (5, [.ref 55, .int (zI ln), .int (zI z91), .int (zI z92), .int (zI z93), .int (zI z94), .int (zI z95), .int (zI fl), .ref 56, .int (zI z138)])), (56, .inl (0, 412, .inl (zA f139)))]) (ks := [54, 56, 54, 56]) [true, true, false, false] rfl (by decide +kernel) rfl ?_
          refine J_pop dX5_clause_97 rfl ?_
          refine Z_iconst (n := 1) dX5_clause_98 ?_
          exact J_iret dX5_clause_99 rfl (jbn v_316afd7d0b v_bbcfac9b7d) (Nat.le_of_ble_eq_true rfl) (Nat.le_of_ble_eq_true rfl) (Or.inl ⟨z91, z92, z93, z94, z95, z138, f139, rfl, rfl, h98, h99, h100, h101, h102, h103, h104, h105, h106, h140, h141, h109, h144, (v_1018864788 g2 h9 h36 g78 h85 h111 h143), (v_04b81f21f8 g2 h9 h37 g78 h85 h112)⟩)
        · refine J_nf (nh2 := nh) (ck2 := 0) (sk2 := 0) (st2 := [.int (zI 0)]) rfl rfl rfl rfl ?_
          refine J_app (L3 := [(54, .inr (5, [.ref 55, .int (zI ln), .int (zI z113), .int (zI z114), .int (zI z115), .int (zI z116), .int (zI z117), .int (zI z120), .ref 56, .int (zI z118)])), (56, .inl (0, 412, .inl (zA f119))), (54, .inr (5, [.ref 55, .int (zI ln), .int (zI z79), .int (zI z80), .int (zI z81), .int (zI z82), .int (zI z20), .int (zI fl), .ref 56, .int (zI z21)])), (56, .inl (0, 412, .inl (zA f22)))]) rfl ?_
          refine J_mask (L2 := [(54, .inr (5, [.ref 55, .int (zI ln), .int (zI z113), .int (zI z114), .int (zI z115), .int (zI z116), .int (zI z117), .int (zI z120), .ref 56, .int (zI z118)])), (56, .inl (0, 412, .inl (zA f119)))]) (ks := [54, 56, 54, 56]) [true, true, false, false] rfl (by decide +kernel) rfl ?_
          refine Z_if_ne (tgt := 71) dX5_clause_59 (by decide) v_b17331891f (fun h145 => absurd h145 (fun q => q v_2ca2bbca1f)) (fun h145 => ?_)
          refine Z_iconst (n := 0) dX5_clause_62 ?_
          exact J_iret dX5_clause_63 rfl (jbn v_939070ca3f v_316afd7d0b) (Nat.le_of_ble_eq_true rfl) (Nat.le_of_ble_eq_true rfl) (Or.inr ⟨z113, z114, z115, z116, z117, z118, f119, z120, rfl, rfl, h121, h122, h123, h124, h125, h126, h127, h128, h129, h130, h131, h132, h133, h134, h135⟩)
    · refine J_nf (nh2 := nh) (ck2 := 0) (sk2 := 0) (st2 := [.int (zI 0)]) rfl rfl rfl rfl ?_
      refine J_app (L3 := [(54, .inr (5, [.ref 55, .int (zI ln), .int (zI z38), .int (zI z39), .int (zI z40), .int (zI z41), .int (zI z42), .int (zI z45), .ref 56, .int (zI z43)])), (56, .inl (0, 412, .inl (zA f44))), (54, .inr (5, [.ref 55, .int (zI ln), .int (zI z3), .int (zI z4), .int (zI z5), .int (zI z6), .int (zI pa), .int (zI fl), .ref 56, .int (zI sz)]))]) rfl ?_
      refine J_mask (L2 := [(54, .inr (5, [.ref 55, .int (zI ln), .int (zI z38), .int (zI z39), .int (zI z40), .int (zI z41), .int (zI z42), .int (zI z45), .ref 56, .int (zI z43)])), (56, .inl (0, 412, .inl (zA f44)))]) (ks := [54, 56, 54]) [true, true, false] rfl (by decide +kernel) rfl ?_
      refine Z_if_ne (tgt := 42) dX5_clause_37 (by decide) v_b17331891f (fun h146 => absurd h146 (fun q => q v_2ca2bbca1f)) (fun h146 => ?_)
      refine Z_iconst (n := 0) dX5_clause_40 ?_
      exact J_iret dX5_clause_41 rfl (jbn v_939070ca3f v_316afd7d0b) (Nat.le_of_ble_eq_true rfl) (Nat.le_of_ble_eq_true rfl) (Or.inr ⟨z38, z39, z40, z41, z42, z43, f44, z45, rfl, rfl, h46, h47, h48, h49, h50, h51, h52, h53, h54, h55, h56, h57, h58, h59, h60⟩)
  · refine J_iload_n dX5_clause_9 rfl rfl ?_
    refine Z_iconst (n := 1) dX5_clause_10 ?_
    refine Z_icmp_eq (tgt := 24) dX5_clause_11 (by decide) (v_96bf6f782e q2 q3) v_4dcc24baa7 (fun h147 => ?_) (fun h147 => ?_)
    · refine J_aload_n dX5_clause_24 rfl rfl ?_
      have g148 := TokL.lt q14 (v_0735d96bf3 h147)
      refine J_callV (st := []) dX5_clause_25 cv_X5_43 (d_advance ln tk st bh va pa fl sz tp q0 q1 (v_d253cb2c59 q4 g148) q6 q7 q8 q15 hk54 hk55) hk54 rfl rfl (Nat.le_of_ble_eq_true rfl) ⟨(Nat.le_of_ble_eq_true rfl), (Nat.le_of_ble_eq_true rfl)⟩ ⟨(Nat.le_of_ble_eq_true rfl), (Nat.le_of_ble_eq_true rfl)⟩ (fun r h9 hp => ?_)
      obtain ⟨z149, z150, z151, z152, rfl, rfl, h153, h154, h155, h156, h157, h158, h159, h160⟩ := hp
      refine J_nf (nh2 := nh) (ck2 := 0) (sk2 := 0) (st2 := []) rfl rfl rfl rfl ?_
      refine J_app (L3 := [(54, .inr (5, [.ref 55, .int (zI ln), .int (zI z149), .int (zI z150), .int (zI z151), .int (zI z152), .int (zI pa), .int (zI fl), .ref 56, .int (zI sz)]))]) rfl ?_
      refine J_iload_n dX5_clause_28 rfl rfl ?_
      refine Z_if_ne (tgt := 42) dX5_clause_29 (by decide) (v_1a3a51a3ac h147) (fun h161 => ?_) (fun h161 => absurd h161 (v_e0bf6d6e6a h147))
      refine J_aload_n dX5_clause_42 rfl rfl ?_
      refine J_get (v := .int (zI z149)) dX5_clause_43 fl_X5_19 rfl rfl ?_
      refine Z_iconst (n := 3) dX5_clause_46 ?_
      refine Z_icmp_ne (tgt := 64) dX5_clause_47 (by decide) (v_96bf6f782e h153 h154) v_1cc5223c3a (fun h162 => ?_) (fun h162 => ?_)
      · refine J_aload_n dX5_clause_64 rfl rfl ?_
        refine Z_iconst (n := 0) dX5_clause_65 ?_
        refine Z_iconst (n := 1) dX5_clause_66 ?_
        refine J_callV (st := []) dX5_clause_67 cv_X5_72 (d_emit 0 1 ln z149 z150 z151 z152 pa fl sz cd v_b17331891f v_4dcc24baa7 q12 q13 q16 rfl hk56) rfl rfl rfl (Nat.le_of_ble_eq_true rfl) ⟨(Nat.le_of_ble_eq_true rfl), (Nat.le_of_ble_eq_true rfl)⟩ ⟨(Nat.le_of_ble_eq_true rfl), (Nat.le_of_ble_eq_true rfl)⟩ (fun r h9 hp => ?_)
        obtain ⟨z163, f164, rfl, rfl, h165, h166, h167, h168, h169⟩ := hp
        refine J_nf (nh2 := nh) (ck2 := 0) (sk2 := 0) (st2 := [.int (zI sz)]) rfl rfl rfl rfl ?_
        refine J_app (L3 := [(54, .inr (5, [.ref 55, .int (zI ln), .int (zI z149), .int (zI z150), .int (zI z151), .int (zI z152), .int (zI pa), .int (zI fl), .ref 56, .int (zI z163)])), (56, .inl (0, 412, .inl (zA f164))), (54, .inr (5, [.ref 55, .int (zI ln), .int (zI z149), .int (zI z150), .int (zI z151), .int (zI z152), .int (zI pa), .int (zI fl), .ref 56, .int (zI sz)]))]) rfl ?_
        refine J_mask (L2 := [(54, .inr (5, [.ref 55, .int (zI ln), .int (zI z149), .int (zI z150), .int (zI z151), .int (zI z152), .int (zI pa), .int (zI fl), .ref 56, .int (zI z163)])), (56, .inl (0, 412, .inl (zA f164)))]) (ks := [54, 56, 54]) [true, true, false] rfl (by decide +kernel) rfl ?_
        refine J_pop dX5_clause_70 rfl ?_
        refine J_aload_n dX5_clause_71 rfl rfl ?_
        refine J_iload_n dX5_clause_72 rfl rfl ?_
        refine Z_if_ne (tgt := 81) dX5_clause_73 (by decide) (v_1a3a51a3ac h147) (fun h170 => ?_) (fun h170 => absurd h170 (v_e0bf6d6e6a h147))
        refine J_iload_n dX5_clause_81 rfl rfl ?_
        refine Z_iconst (n := 1) dX5_clause_82 ?_
        refine Z_icmp_ne (tgt := 91) dX5_clause_83 (by decide) (v_1a3a51a3ac h147) v_4dcc24baa7 (fun h171 => absurd h171 (fun q => q (v_b757d97f93 h147))) (fun h171 => ?_)
        refine Z_bipush (n := 13) dX5_clause_86 (by decide +kernel) ?_
        refine J_goto (tgt := 93) dX5_clause_88 (by decide) ?_
        refine Z_iconst (n := 0) dX5_clause_93 ?_
        refine J_callV (st := []) dX5_clause_94 cv_X5_72 (d_emit 13 0 ln z149 z150 z151 z152 pa fl z163 f164 v_9c1fa5e798 v_b17331891f h165 h166 h169 rfl rfl) rfl rfl rfl (Nat.le_of_ble_eq_true rfl) ⟨(Nat.le_of_ble_eq_true rfl), (Nat.le_of_ble_eq_true rfl)⟩ ⟨(Nat.le_of_ble_eq_true rfl), (Nat.le_of_ble_eq_true rfl)⟩ (fun r h9 hp => ?_)
        obtain ⟨z172, f173, rfl, rfl, h174, h175, h176, h177, h178⟩ := hp
        refine J_nf (nh2 := nh) (ck2 := 0) (sk2 := 0) (st2 := [.int (zI z163)]) rfl rfl rfl rfl ?_
        refine J_app (L3 := [(54, .inr (5, [.ref 55, .int (zI ln), .int (zI z149), .int (zI z150), .int (zI z151), .int (zI z152), .int (zI pa), .int (zI fl), .ref 56, .int (zI z172)])), (56, .inl (0, 412, .inl (zA f173))), (54, .inr (5, [.ref 55, .int (zI ln), .int (zI z149), .int (zI z150), .int (zI z151), .int (zI z152), .int (zI pa), .int (zI fl), .ref 56, .int (zI z163)])), (56, .inl (0, 412, .inl (zA f164)))]) rfl ?_
        refine J_mask (L2 := [(54, .inr (5, [.ref 55, .int (zI ln), .int (zI z149), .int (zI z150), .int (zI z151), .int (zI z152), .int (zI pa), .int (zI fl), .ref 56, .int (zI z172)])), (56, .inl (0, 412, .inl (zA f173)))]) (ks := [54, 56, 54, 56]) [true, true, false, false] rfl (by decide +kernel) rfl ?_
        refine J_pop dX5_clause_97 rfl ?_
        refine Z_iconst (n := 1) dX5_clause_98 ?_
        exact J_iret dX5_clause_99 rfl (jbn v_316afd7d0b v_bbcfac9b7d) (Nat.le_of_ble_eq_true rfl) (Nat.le_of_ble_eq_true rfl) (Or.inl ⟨z149, z150, z151, z152, pa, z172, f173, rfl, rfl, h153, h154, (v_9b2e2070a2 q4 g148 h155), h156, h157, h158, h159, q9, q10, h174, h175, h160, h178, (v_5eea6dddff g148 h155 h168 h177), (v_016485883e g148 h155)⟩)
      · refine J_aload_n dX5_clause_50 rfl rfl ?_
        have g179 := TokL.lt h160 (v_e24a142995 h162)
        refine J_callV (st := []) dX5_clause_51 cv_X5_43 (d_advance ln z149 z150 z151 z152 pa fl sz tp q0 q1 (v_845a44a026 q4 g148 h155 g179) h157 h158 h159 q15 rfl hk55) rfl rfl rfl (Nat.le_of_ble_eq_true rfl) ⟨(Nat.le_of_ble_eq_true rfl), (Nat.le_of_ble_eq_true rfl)⟩ ⟨(Nat.le_of_ble_eq_true rfl), (Nat.le_of_ble_eq_true rfl)⟩ (fun r h9 hp => ?_)
        obtain ⟨z180, z181, z182, z183, rfl, rfl, h184, h185, h186, h187, h188, h189, h190, h191⟩ := hp
        refine J_nf (nh2 := nh) (ck2 := 0) (sk2 := 0) (st2 := []) rfl rfl rfl rfl ?_
        refine J_app (L3 := [(54, .inr (5, [.ref 55, .int (zI ln), .int (zI z180), .int (zI z181), .int (zI z182), .int (zI z183), .int (zI pa), .int (zI fl), .ref 56, .int (zI sz)])), (54, .inr (5, [.ref 55, .int (zI ln), .int (zI z149), .int (zI z150), .int (zI z151), .int (zI z152), .int (zI pa), .int (zI fl), .ref 56, .int (zI sz)]))]) rfl ?_
        refine J_mask (L2 := [(54, .inr (5, [.ref 55, .int (zI ln), .int (zI z180), .int (zI z181), .int (zI z182), .int (zI z183), .int (zI pa), .int (zI fl), .ref 56, .int (zI sz)]))]) (ks := [54, 54]) [true, false] rfl (by decide +kernel) rfl ?_
        refine J_aload_n dX5_clause_54 rfl rfl ?_
        refine Z_iconst (n := 0) dX5_clause_55 ?_
        refine J_callV (st := []) dX5_clause_56 cv_X5_67 (d_test0 ln z180 z181 z182 z183 pa fl sz tp cd q0 q1 h184 h185 (v_69db46a620 q4 g148 h155 g179 h186) h187 h188 h189 h190 q9 q10 q11 q12 q13 h191 q15 q16 rfl hk55 hk56) rfl rfl rfl (Nat.le_of_ble_eq_true rfl) ⟨(Nat.le_of_ble_eq_true rfl), (Nat.le_of_ble_eq_true rfl)⟩ ⟨(Nat.le_of_ble_eq_true rfl), (Nat.le_of_ble_eq_true rfl)⟩ (fun r h9 hp => ?_)
        rcases hp with ⟨z192, z193, z194, z195, z196, z197, f198, rfl, rfl, h199, h200, h201, h202, h203, h204, h205, h206, h207, h208, h209, h210, h211, h212, h213⟩ | ⟨z214, z215, z216, z217, z218, z219, f220, z221, rfl, rfl, h222, h223, h224, h225, h226, h227, h228, h229, h230, h231, h232, h233, h234, h235, h236⟩
        · refine J_nf (nh2 := nh) (ck2 := 0) (sk2 := 0) (st2 := [.int (zI 1)]) rfl rfl rfl rfl ?_
          refine J_app (L3 := [(54, .inr (5, [.ref 55, .int (zI ln), .int (zI z192), .int (zI z193), .int (zI z194), .int (zI z195), .int (zI z196), .int (zI fl), .ref 56, .int (zI z197)])), (56, .inl (0, 412, .inl (zA f198))), (54, .inr (5, [.ref 55, .int (zI ln), .int (zI z180), .int (zI z181), .int (zI z182), .int (zI z183), .int (zI pa), .int (zI fl), .ref 56, .int (zI sz)]))]) rfl ?_
          refine J_mask (L2 := [(54, .inr (5, [.ref 55, .int (zI ln), .int (zI z192), .int (zI z193), .int (zI z194), .int (zI z195), .int (zI z196), .int (zI fl), .ref 56, .int (zI z197)])), (56, .inl (0, 412, .inl (zA f198)))]) (ks := [54, 56, 54]) [true, true, false] rfl (by decide +kernel) rfl ?_
          refine Z_if_ne (tgt := 71) dX5_clause_59 (by decide) v_4dcc24baa7 (fun h237 => ?_) (fun h237 => absurd h237 v_3a47bfd896)
          refine J_aload_n dX5_clause_71 rfl rfl ?_
          refine J_iload_n dX5_clause_72 rfl rfl ?_
          refine Z_if_ne (tgt := 81) dX5_clause_73 (by decide) (v_1a3a51a3ac h147) (fun h238 => ?_) (fun h238 => absurd h238 (v_e0bf6d6e6a h147))
          refine J_iload_n dX5_clause_81 rfl rfl ?_
          refine Z_iconst (n := 1) dX5_clause_82 ?_
          refine Z_icmp_ne (tgt := 91) dX5_clause_83 (by decide) (v_1a3a51a3ac h147) v_4dcc24baa7 (fun h239 => absurd h239 (fun q => q (v_b757d97f93 h147))) (fun h239 => ?_)
          refine Z_bipush (n := 13) dX5_clause_86 (by decide +kernel) ?_
          refine J_goto (tgt := 93) dX5_clause_88 (by decide) ?_
          refine Z_iconst (n := 0) dX5_clause_93 ?_
          refine J_callV (st := []) dX5_clause_94 cv_X5_72 (d_emit 13 0 ln z192 z193 z194 z195 z196 fl z197 f198 v_9c1fa5e798 v_b17331891f h208 h209 h211 rfl rfl) rfl rfl rfl (Nat.le_of_ble_eq_true rfl) ⟨(Nat.le_of_ble_eq_true rfl), (Nat.le_of_ble_eq_true rfl)⟩ ⟨(Nat.le_of_ble_eq_true rfl), (Nat.le_of_ble_eq_true rfl)⟩ (fun r h9 hp => ?_)
          obtain ⟨z240, f241, rfl, rfl, h242, h243, h244, h245, h246⟩ := hp
          refine J_nf (nh2 := nh) (ck2 := 0) (sk2 := 0) (st2 := [.int (zI z197)]) rfl rfl rfl rfl ?_
          refine J_app (L3 := [(54, .inr (5, [.ref 55, .int (zI ln), .int (zI z192), .int (zI z193), .int (zI z194), .int (zI z195), .int (zI z196), .int (zI fl), .ref 56, .int (zI z240)])), (56, .inl (0, 412, .inl (zA f241))), (54, .inr (5, [.ref 55, .int (zI ln), .int (zI z192), .int (zI z193), .int (zI z194), .int (zI z195), .int (zI z196), .int (zI fl), .ref 56, .int (zI z197)])), (56, .inl (0, 412, .inl (zA f198)))]) rfl ?_
          refine J_mask (L2 := [(54, .inr (5, [.ref 55, .int (zI ln), .int (zI z192), .int (zI z193), .int (zI z194), .int (zI z195), .int (zI z196), .int (zI fl), .ref 56, .int (zI z240)])), (56, .inl (0, 412, .inl (zA f241)))]) (ks := [54, 56, 54, 56]) [true, true, false, false] rfl (by decide +kernel) rfl ?_
          refine J_pop dX5_clause_97 rfl ?_
          refine Z_iconst (n := 1) dX5_clause_98 ?_
          exact J_iret dX5_clause_99 rfl (jbn v_316afd7d0b v_bbcfac9b7d) (Nat.le_of_ble_eq_true rfl) (Nat.le_of_ble_eq_true rfl) (Or.inl ⟨z192, z193, z194, z195, z196, z240, f241, rfl, rfl, h199, h200, h201, h202, h203, h204, h205, h206, h207, h242, h243, h210, h246, (v_20edcbe329 g148 h155 g179 h186 h212 h245), (v_5a3a613fae g148 h155 g179 h186 h213)⟩)
        · refine J_nf (nh2 := nh) (ck2 := 0) (sk2 := 0) (st2 := [.int (zI 0)]) rfl rfl rfl rfl ?_
          refine J_app (L3 := [(54, .inr (5, [.ref 55, .int (zI ln), .int (zI z214), .int (zI z215), .int (zI z216), .int (zI z217), .int (zI z218), .int (zI z221), .ref 56, .int (zI z219)])), (56, .inl (0, 412, .inl (zA f220))), (54, .inr (5, [.ref 55, .int (zI ln), .int (zI z180), .int (zI z181), .int (zI z182), .int (zI z183), .int (zI pa), .int (zI fl), .ref 56, .int (zI sz)]))]) rfl ?_
          refine J_mask (L2 := [(54, .inr (5, [.ref 55, .int (zI ln), .int (zI z214), .int (zI z215), .int (zI z216), .int (zI z217), .int (zI z218), .int (zI z221), .ref 56, .int (zI z219)])), (56, .inl (0, 412, .inl (zA f220)))]) (ks := [54, 56, 54]) [true, true, false] rfl (by decide +kernel) rfl ?_
          refine Z_if_ne (tgt := 71) dX5_clause_59 (by decide) v_b17331891f (fun h247 => absurd h247 (fun q => q v_2ca2bbca1f)) (fun h247 => ?_)
          refine Z_iconst (n := 0) dX5_clause_62 ?_
          exact J_iret dX5_clause_63 rfl (jbn v_939070ca3f v_316afd7d0b) (Nat.le_of_ble_eq_true rfl) (Nat.le_of_ble_eq_true rfl) (Or.inr ⟨z214, z215, z216, z217, z218, z219, f220, z221, rfl, rfl, h222, h223, h224, h225, h226, h227, h228, h229, h230, h231, h232, h233, h234, h235, h236⟩)
    · refine J_iload_n dX5_clause_14 rfl rfl ?_
      refine Z_iconst (n := 2) dX5_clause_15 ?_
      refine Z_icmp_eq (tgt := 24) dX5_clause_16 (by decide) (v_96bf6f782e q2 q3) v_9ea63c5f56 (fun h248 => ?_) (fun h248 => ?_)
      · refine J_aload_n dX5_clause_24 rfl rfl ?_
        have g249 := TokL.lt q14 (v_e357b15c27 h248)
        refine J_callV (st := []) dX5_clause_25 cv_X5_43 (d_advance ln tk st bh va pa fl sz tp q0 q1 (v_d253cb2c59 q4 g249) q6 q7 q8 q15 hk54 hk55) hk54 rfl rfl (Nat.le_of_ble_eq_true rfl) ⟨(Nat.le_of_ble_eq_true rfl), (Nat.le_of_ble_eq_true rfl)⟩ ⟨(Nat.le_of_ble_eq_true rfl), (Nat.le_of_ble_eq_true rfl)⟩ (fun r h9 hp => ?_)
        obtain ⟨z250, z251, z252, z253, rfl, rfl, h254, h255, h256, h257, h258, h259, h260, h261⟩ := hp
        refine J_nf (nh2 := nh) (ck2 := 0) (sk2 := 0) (st2 := []) rfl rfl rfl rfl ?_
        refine J_app (L3 := [(54, .inr (5, [.ref 55, .int (zI ln), .int (zI z250), .int (zI z251), .int (zI z252), .int (zI z253), .int (zI pa), .int (zI fl), .ref 56, .int (zI sz)]))]) rfl ?_
        refine J_iload_n dX5_clause_28 rfl rfl ?_
        refine Z_if_ne (tgt := 42) dX5_clause_29 (by decide) (v_968939783c h248) (fun h262 => ?_) (fun h262 => absurd h262 (v_aa452c7951 h248))
        refine J_aload_n dX5_clause_42 rfl rfl ?_
        refine J_get (v := .int (zI z250)) dX5_clause_43 fl_X5_19 rfl rfl ?_
        refine Z_iconst (n := 3) dX5_clause_46 ?_
        refine Z_icmp_ne (tgt := 64) dX5_clause_47 (by decide) (v_96bf6f782e h254 h255) v_1cc5223c3a (fun h263 => ?_) (fun h263 => ?_)
        · refine J_aload_n dX5_clause_64 rfl rfl ?_
          refine Z_iconst (n := 0) dX5_clause_65 ?_
          refine Z_iconst (n := 1) dX5_clause_66 ?_
          refine J_callV (st := []) dX5_clause_67 cv_X5_72 (d_emit 0 1 ln z250 z251 z252 z253 pa fl sz cd v_b17331891f v_4dcc24baa7 q12 q13 q16 rfl hk56) rfl rfl rfl (Nat.le_of_ble_eq_true rfl) ⟨(Nat.le_of_ble_eq_true rfl), (Nat.le_of_ble_eq_true rfl)⟩ ⟨(Nat.le_of_ble_eq_true rfl), (Nat.le_of_ble_eq_true rfl)⟩ (fun r h9 hp => ?_)
          obtain ⟨z264, f265, rfl, rfl, h266, h267, h268, h269, h270⟩ := hp
          refine J_nf (nh2 := nh) (ck2 := 0) (sk2 := 0) (st2 := [.int (zI sz)]) rfl rfl rfl rfl ?_
          refine J_app (L3 := [(54, .inr (5, [.ref 55, .int (zI ln), .int (zI z250), .int (zI z251), .int (zI z252), .int (zI z253), .int (zI pa), .int (zI fl), .ref 56, .int (zI z264)])), (56, .inl (0, 412, .inl (zA f265))), (54, .inr (5, [.ref 55, .int (zI ln), .int (zI z250), .int (zI z251), .int (zI z252), .int (zI z253), .int (zI pa), .int (zI fl), .ref 56, .int (zI sz)]))]) rfl ?_
          refine J_mask (L2 := [(54, .inr (5, [.ref 55, .int (zI ln), .int (zI z250), .int (zI z251), .int (zI z252), .int (zI z253), .int (zI pa), .int (zI fl), .ref 56, .int (zI z264)])), (56, .inl (0, 412, .inl (zA f265)))]) (ks := [54, 56, 54]) [true, true, false] rfl (by decide +kernel) rfl ?_
          refine J_pop dX5_clause_70 rfl ?_
          refine J_aload_n dX5_clause_71 rfl rfl ?_
          refine J_iload_n dX5_clause_72 rfl rfl ?_
          refine Z_if_ne (tgt := 81) dX5_clause_73 (by decide) (v_968939783c h248) (fun h271 => ?_) (fun h271 => absurd h271 (v_aa452c7951 h248))
          refine J_iload_n dX5_clause_81 rfl rfl ?_
          refine Z_iconst (n := 1) dX5_clause_82 ?_
          refine Z_icmp_ne (tgt := 91) dX5_clause_83 (by decide) (v_968939783c h248) v_4dcc24baa7 (fun h272 => ?_) (fun h272 => absurd h272 (v_bce346d883 h248))
          refine Z_bipush (n := 14) dX5_clause_91 (by decide +kernel) ?_
          refine Z_iconst (n := 0) dX5_clause_93 ?_
          refine J_callV (st := []) dX5_clause_94 cv_X5_72 (d_emit 14 0 ln z250 z251 z252 z253 pa fl z264 f265 v_2a4719925a v_b17331891f h266 h267 h270 rfl rfl) rfl rfl rfl (Nat.le_of_ble_eq_true rfl) ⟨(Nat.le_of_ble_eq_true rfl), (Nat.le_of_ble_eq_true rfl)⟩ ⟨(Nat.le_of_ble_eq_true rfl), (Nat.le_of_ble_eq_true rfl)⟩ (fun r h9 hp => ?_)
          obtain ⟨z273, f274, rfl, rfl, h275, h276, h277, h278, h279⟩ := hp
          refine J_nf (nh2 := nh) (ck2 := 0) (sk2 := 0) (st2 := [.int (zI z264)]) rfl rfl rfl rfl ?_
          refine J_app (L3 := [(54, .inr (5, [.ref 55, .int (zI ln), .int (zI z250), .int (zI z251), .int (zI z252), .int (zI z253), .int (zI pa), .int (zI fl), .ref 56, .int (zI z273)])), (56, .inl (0, 412, .inl (zA f274))), (54, .inr (5, [.ref 55, .int (zI ln), .int (zI z250), .int (zI z251), .int (zI z252), .int (zI z253), .int (zI pa), .int (zI fl), .ref 56, .int (zI z264)])), (56, .inl (0, 412, .inl (zA f265)))]) rfl ?_
          refine J_mask (L2 := [(54, .inr (5, [.ref 55, .int (zI ln), .int (zI z250), .int (zI z251), .int (zI z252), .int (zI z253), .int (zI pa), .int (zI fl), .ref 56, .int (zI z273)])), (56, .inl (0, 412, .inl (zA f274)))]) (ks := [54, 56, 54, 56]) [true, true, false, false] rfl (by decide +kernel) rfl ?_
          refine J_pop dX5_clause_97 rfl ?_
          refine Z_iconst (n := 1) dX5_clause_98 ?_
          exact J_iret dX5_clause_99 rfl (jbn v_316afd7d0b v_bbcfac9b7d) (Nat.le_of_ble_eq_true rfl) (Nat.le_of_ble_eq_true rfl) (Or.inl ⟨z250, z251, z252, z253, pa, z273, f274, rfl, rfl, h254, h255, (v_9b2e2070a2 q4 g249 h256), h257, h258, h259, h260, q9, q10, h275, h276, h261, h279, (v_5eea6dddff g249 h256 h269 h278), (v_016485883e g249 h256)⟩)
        · refine J_aload_n dX5_clause_50 rfl rfl ?_
          have g280 := TokL.lt h261 (v_e24a142995 h263)
          refine J_callV (st := []) dX5_clause_51 cv_X5_43 (d_advance ln z250 z251 z252 z253 pa fl sz tp q0 q1 (v_845a44a026 q4 g249 h256 g280) h258 h259 h260 q15 rfl hk55) rfl rfl rfl (Nat.le_of_ble_eq_true rfl) ⟨(Nat.le_of_ble_eq_true rfl), (Nat.le_of_ble_eq_true rfl)⟩ ⟨(Nat.le_of_ble_eq_true rfl), (Nat.le_of_ble_eq_true rfl)⟩ (fun r h9 hp => ?_)
          obtain ⟨z281, z282, z283, z284, rfl, rfl, h285, h286, h287, h288, h289, h290, h291, h292⟩ := hp
          refine J_nf (nh2 := nh) (ck2 := 0) (sk2 := 0) (st2 := []) rfl rfl rfl rfl ?_
          refine J_app (L3 := [(54, .inr (5, [.ref 55, .int (zI ln), .int (zI z281), .int (zI z282), .int (zI z283), .int (zI z284), .int (zI pa), .int (zI fl), .ref 56, .int (zI sz)])), (54, .inr (5, [.ref 55, .int (zI ln), .int (zI z250), .int (zI z251), .int (zI z252), .int (zI z253), .int (zI pa), .int (zI fl), .ref 56, .int (zI sz)]))]) rfl ?_
          refine J_mask (L2 := [(54, .inr (5, [.ref 55, .int (zI ln), .int (zI z281), .int (zI z282), .int (zI z283), .int (zI z284), .int (zI pa), .int (zI fl), .ref 56, .int (zI sz)]))]) (ks := [54, 54]) [true, false] rfl (by decide +kernel) rfl ?_
          refine J_aload_n dX5_clause_54 rfl rfl ?_
          refine Z_iconst (n := 0) dX5_clause_55 ?_
          refine J_callV (st := []) dX5_clause_56 cv_X5_67 (d_test0 ln z281 z282 z283 z284 pa fl sz tp cd q0 q1 h285 h286 (v_69db46a620 q4 g249 h256 g280 h287) h288 h289 h290 h291 q9 q10 q11 q12 q13 h292 q15 q16 rfl hk55 hk56) rfl rfl rfl (Nat.le_of_ble_eq_true rfl) ⟨(Nat.le_of_ble_eq_true rfl), (Nat.le_of_ble_eq_true rfl)⟩ ⟨(Nat.le_of_ble_eq_true rfl), (Nat.le_of_ble_eq_true rfl)⟩ (fun r h9 hp => ?_)
          rcases hp with ⟨z293, z294, z295, z296, z297, z298, f299, rfl, rfl, h300, h301, h302, h303, h304, h305, h306, h307, h308, h309, h310, h311, h312, h313, h314⟩ | ⟨z315, z316, z317, z318, z319, z320, f321, z322, rfl, rfl, h323, h324, h325, h326, h327, h328, h329, h330, h331, h332, h333, h334, h335, h336, h337⟩
          · refine J_nf (nh2 := nh) (ck2 := 0) (sk2 := 0) (st2 := [.int (zI 1)]) rfl rfl rfl rfl ?_
            refine J_app (L3 := [(54, .inr (5, [.ref 55, .int (zI ln), .int (zI z293), .int (zI z294), .int (zI z295), .int (zI z296), .int (zI z297), .int (zI fl), .ref 56, .int (zI z298)])), (56, .inl (0, 412, .inl (zA f299))), (54, .inr (5, [.ref 55, .int (zI ln), .int (zI z281), .int (zI z282), .int (zI z283), .int (zI z284), .int (zI pa), .int (zI fl), .ref 56, .int (zI sz)]))]) rfl ?_
            refine J_mask (L2 := [(54, .inr (5, [.ref 55, .int (zI ln), .int (zI z293), .int (zI z294), .int (zI z295), .int (zI z296), .int (zI z297), .int (zI fl), .ref 56, .int (zI z298)])), (56, .inl (0, 412, .inl (zA f299)))]) (ks := [54, 56, 54]) [true, true, false] rfl (by decide +kernel) rfl ?_
            refine Z_if_ne (tgt := 71) dX5_clause_59 (by decide) v_4dcc24baa7 (fun h338 => ?_) (fun h338 => absurd h338 v_3a47bfd896)
            refine J_aload_n dX5_clause_71 rfl rfl ?_
            refine J_iload_n dX5_clause_72 rfl rfl ?_
            refine Z_if_ne (tgt := 81) dX5_clause_73 (by decide) (v_968939783c h248) (fun h339 => ?_) (fun h339 => absurd h339 (v_aa452c7951 h248))
            refine J_iload_n dX5_clause_81 rfl rfl ?_
            refine Z_iconst (n := 1) dX5_clause_82 ?_
            refine Z_icmp_ne (tgt := 91) dX5_clause_83 (by decide) (v_968939783c h248) v_4dcc24baa7 (fun h340 => ?_) (fun h340 => absurd h340 (v_bce346d883 h248))
            refine Z_bipush (n := 14) dX5_clause_91 (by decide +kernel) ?_
            refine Z_iconst (n := 0) dX5_clause_93 ?_
            refine J_callV (st := []) dX5_clause_94 cv_X5_72 (d_emit 14 0 ln z293 z294 z295 z296 z297 fl z298 f299 v_2a4719925a v_b17331891f h309 h310 h312 rfl rfl) rfl rfl rfl (Nat.le_of_ble_eq_true rfl) ⟨(Nat.le_of_ble_eq_true rfl), (Nat.le_of_ble_eq_true rfl)⟩ ⟨(Nat.le_of_ble_eq_true rfl), (Nat.le_of_ble_eq_true rfl)⟩ (fun r h9 hp => ?_)
            obtain ⟨z341, f342, rfl, rfl, h343, h344, h345, h346, h347⟩ := hp
            refine J_nf (nh2 := nh) (ck2 := 0) (sk2 := 0) (st2 := [.int (zI z298)]) rfl rfl rfl rfl ?_
            refine J_app (L3 := [(54, .inr (5, [.ref 55, .int (zI ln), .int (zI z293), .int (zI z294), .int (zI z295), .int (zI z296), .int (zI z297), .int (zI fl), .ref 56, .int (zI z341)])), (56, .inl (0, 412, .inl (zA f342))), (54, .inr (5, [.ref 55, .int (zI ln), .int (zI z293), .int (zI z294), .int (zI z295), .int (zI z296), .int (zI z297), .int (zI fl), .ref 56, .int (zI z298)])), (56, .inl (0, 412, .inl (zA f299)))]) rfl ?_
            refine J_mask (L2 := [(54, .inr (5, [.ref 55, .int (zI ln), .int (zI z293), .int (zI z294), .int (zI z295), .int (zI z296), .int (zI z297), .int (zI fl), .ref 56, .int (zI z341)])), (56, .inl (0, 412, .inl (zA f342)))]) (ks := [54, 56, 54, 56]) [true, true, false, false] rfl (by decide +kernel) rfl ?_
            refine J_pop dX5_clause_97 rfl ?_
            refine Z_iconst (n := 1) dX5_clause_98 ?_
            exact J_iret dX5_clause_99 rfl (jbn v_316afd7d0b v_bbcfac9b7d) (Nat.le_of_ble_eq_true rfl) (Nat.le_of_ble_eq_true rfl) (Or.inl ⟨z293, z294, z295, z296, z297, z341, f342, rfl, rfl, h300, h301, h302, h303, h304, h305, h306, h307, h308, h343, h344, h311, h347, (v_20edcbe329 g249 h256 g280 h287 h313 h346), (v_5a3a613fae g249 h256 g280 h287 h314)⟩)
          · refine J_nf (nh2 := nh) (ck2 := 0) (sk2 := 0) (st2 := [.int (zI 0)]) rfl rfl rfl rfl ?_
            refine J_app (L3 := [(54, .inr (5, [.ref 55, .int (zI ln), .int (zI z315), .int (zI z316), .int (zI z317), .int (zI z318), .int (zI z319), .int (zI z322), .ref 56, .int (zI z320)])), (56, .inl (0, 412, .inl (zA f321))), (54, .inr (5, [.ref 55, .int (zI ln), .int (zI z281), .int (zI z282), .int (zI z283), .int (zI z284), .int (zI pa), .int (zI fl), .ref 56, .int (zI sz)]))]) rfl ?_
            refine J_mask (L2 := [(54, .inr (5, [.ref 55, .int (zI ln), .int (zI z315), .int (zI z316), .int (zI z317), .int (zI z318), .int (zI z319), .int (zI z322), .ref 56, .int (zI z320)])), (56, .inl (0, 412, .inl (zA f321)))]) (ks := [54, 56, 54]) [true, true, false] rfl (by decide +kernel) rfl ?_
            refine Z_if_ne (tgt := 71) dX5_clause_59 (by decide) v_b17331891f (fun h348 => absurd h348 (fun q => q v_2ca2bbca1f)) (fun h348 => ?_)
            refine Z_iconst (n := 0) dX5_clause_62 ?_
            exact J_iret dX5_clause_63 rfl (jbn v_939070ca3f v_316afd7d0b) (Nat.le_of_ble_eq_true rfl) (Nat.le_of_ble_eq_true rfl) (Or.inr ⟨z315, z316, z317, z318, z319, z320, f321, z322, rfl, rfl, h323, h324, h325, h326, h327, h328, h329, h330, h331, h332, h333, h334, h335, h336, h337⟩)
      · refine J_aload_n dX5_clause_19 rfl rfl ?_
        refine J_callV (st := []) dX5_clause_20 cv_X5_54 (d_wrong ln tk st bh va pa fl sz q4 (v_1adcfdfee5 q1 q5 q6) hk54) hk54 rfl rfl (Nat.le_of_ble_eq_true rfl) ⟨(Nat.le_of_ble_eq_true rfl), (Nat.le_of_ble_eq_true rfl)⟩ ⟨(Nat.le_of_ble_eq_true rfl), (Nat.le_of_ble_eq_true rfl)⟩ (fun r h9 hp => ?_)
        obtain ⟨rfl, rfl⟩ := hp
        refine J_nf (nh2 := nh) (ck2 := 0) (sk2 := 0) (st2 := [.int (zI 0)]) rfl rfl rfl rfl ?_
        refine J_app (L3 := [(54, .inr (5, [.ref 55, .int (zI ln), .int (zI tk), .int (zI st), .int (zI bh), .int (zI va), .int (zI pa), .int (zI st), .ref 56, .int (zI sz)]))]) rfl ?_
        refine J_touch (k := 56) (e := .inl (0, 412, .inl (zA cd))) hk56 ?_
        refine J_touch (k := 54) (e := .inr (5, [.ref 55, .int (zI ln), .int (zI tk), .int (zI st), .int (zI bh), .int (zI va), .int (zI pa), .int (zI st), .ref 56, .int (zI sz)])) rfl ?_
        refine J_mask (L2 := [(54, .inr (5, [.ref 55, .int (zI ln), .int (zI tk), .int (zI st), .int (zI bh), .int (zI va), .int (zI pa), .int (zI st), .ref 56, .int (zI sz)])), (56, .inl (0, 412, .inl (zA cd)))]) (ks := [54, 56, 54]) [true, true, false] rfl (by decide +kernel) rfl ?_
        exact J_iret dX5_clause_23 rfl (jbn v_939070ca3f v_316afd7d0b) (Nat.le_of_ble_eq_true rfl) (Nat.le_of_ble_eq_true rfl) (Or.inr ⟨tk, st, bh, va, pa, sz, cd, st, rfl, rfl, q2, q3, q4, q5, q6, q7, q8, q9, q10, q12, q13, q14, q16, q4, (v_1adcfdfee5 q1 q5 q6)⟩)
set_option maxHeartbeats 4000000 in
set_option maxRecDepth 100000 in
theorem d_compile {l : Launch} {G : jG} {nh : Nat} {fh : Nat → Option va_E} (ln : Int) (tk : Int) (st : Int) (bh : Int) (va : Int) (pa : Int) (fl : Int) (sz : Int) (tp : Int → Int) (cd : Int → Int) (q0 : 0 ≤ ln) (q1 : ln ≤ 400) (q2 : 0 ≤ va) (q3 : va ≤ 1001) (q4 : 0 ≤ tk) (q5 : tk ≤ 355) (q6 : Rg tp 400 0 255) (q7 : Rg cd 412 (-2147483648) 2147483647) (hk54 : fh 54 = some (.inr (5, [.ref 55, .int (zI ln), .int (zI tk), .int (zI st), .int (zI bh), .int (zI va), .int (zI pa), .int (zI fl), .ref 56, .int (zI sz)]))) (hk55 : fh 55 = some (.inl (0, 400, .inl (zA tp)))) (hk56 : fh 56 = some (.inl (0, 412, .inl (zA cd)))) : JM l G yX5_compile MX5_compile { frames := 45, cells := 0, slots := 0, locals := 1009 } [.ref 54] (nh, fh) (fun rr h9 => (∃ tk2 : Int, ∃ st2 : Int, ∃ bh2 : Int, ∃ va2 : Int, ∃ pa2 : Int, ∃ sz2 : Int, ∃ cd2 : Int → Int, ∃ fl2 : Int, rr = some (.int (zI (-1))) ∧ h9 = (nh, hc fh [(54, .inr (5, [.ref 55, .int (zI ln), .int (zI tk2), .int (zI st2), .int (zI bh2), .int (zI va2), .int (zI pa2), .int (zI fl2), .ref 56, .int (zI sz2)])), (56, .inl (0, 412, .inl (zA cd2)))]) ∧ (sz2 ≤ 402) ∧ (0 ≤ sz2) ∧ (0 ≤ va2) ∧ (va2 ≤ 1001) ∧ (0 ≤ tk2) ∧ (tk2 ≤ 355) ∧ (Rg cd2 412 (-2147483648) 2147483647) ∧ (fl2 = -1)) ∨ (∃ tk2 : Int, ∃ st2 : Int, ∃ bh2 : Int, ∃ va2 : Int, ∃ pa2 : Int, ∃ sz2 : Int, ∃ cd2 : Int → Int, ∃ fl2 : Int, rr = some (.int (zI fl2)) ∧ h9 = (nh, hc fh [(54, .inr (5, [.ref 55, .int (zI ln), .int (zI tk2), .int (zI st2), .int (zI bh2), .int (zI va2), .int (zI pa2), .int (zI fl2), .ref 56, .int (zI sz2)])), (56, .inl (0, 412, .inl (zA cd2)))]) ∧ (0 ≤ fl2) ∧ (fl2 ≤ 400) ∧ (0 ≤ sz2) ∧ (sz2 ≤ 412) ∧ (0 ≤ va2) ∧ (va2 ≤ 1001) ∧ (0 ≤ tk2) ∧ (tk2 ≤ 355) ∧ (Rg cd2 412 (-2147483648) 2147483647))) := by
  refine JM.of (by decide) rfl (fun h => by cases h) (Nat.le_of_ble_eq_true rfl) ⟨2, rfl⟩ ?_
  refine J_hc0 (J_ls (ls2 := [some (.ref 54), none, none]) rfl ?_)
  refine J_aload_n dX5_compile_0 rfl rfl ?_
  refine Z_iconst (n := 0) dX5_compile_1 ?_
  refine K_put (fs2 := [.ref 55, .int (zI ln), .int (zI tk), .int (zI st), .int (zI 0), .int (zI va), .int (zI pa), .int (zI fl), .ref 56, .int (zI sz)]) dX5_compile_2 fw_X5_25 hk54 (Nat.le_of_ble_eq_true rfl) (fun _ => ⟨rfl, rfl⟩) rfl ?_
  refine J_aload_n dX5_compile_5 rfl rfl ?_
  refine Z_iconst (n := 0) dX5_compile_6 ?_
  refine K_put (fs2 := [.ref 55, .int (zI ln), .int (zI tk), .int (zI st), .int (zI 0), .int (zI va), .int (zI 0), .int (zI fl), .ref 56, .int (zI sz)]) dX5_compile_7 fw_X5_31 rfl (Nat.le_of_ble_eq_true rfl) (fun _ => ⟨rfl, rfl⟩) rfl ?_
  refine J_aload_n dX5_compile_10 rfl rfl ?_
  refine Z_iconst (n := 0) dX5_compile_11 ?_
  refine K_put (fs2 := [.ref 55, .int (zI ln), .int (zI tk), .int (zI st), .int (zI 0), .int (zI va), .int (zI 0), .int (zI fl), .ref 56, .int (zI 0)]) dX5_compile_12 fw_X5_40 rfl (Nat.le_of_ble_eq_true rfl) (fun _ => ⟨rfl, rfl⟩) rfl ?_
  refine J_aload_n dX5_compile_15 rfl rfl ?_
  refine Z_iconst (n := -1) dX5_compile_16 ?_
  refine K_put (fs2 := [.ref 55, .int (zI ln), .int (zI tk), .int (zI st), .int (zI 0), .int (zI va), .int (zI 0), .int (zI (-1)), .ref 56, .int (zI 0)]) dX5_compile_17 fw_X5_34 rfl (Nat.le_of_ble_eq_true rfl) (fun _ => ⟨rfl, rfl⟩) rfl ?_
  refine J_aload_n dX5_compile_20 rfl rfl ?_
  refine J_callV (st := []) dX5_compile_21 cv_X5_43 (d_advance ln tk st 0 va 0 (-1) 0 tp q0 q1 v_939070ca3f q0 q2 q3 q6 rfl hk55) rfl rfl rfl (Nat.le_of_ble_eq_true rfl) ⟨(Nat.le_of_ble_eq_true rfl), (Nat.le_of_ble_eq_true rfl)⟩ ⟨(Nat.le_of_ble_eq_true rfl), (Nat.le_of_ble_eq_true rfl)⟩ (fun r h9 hp => ?_)
  obtain ⟨z1, z2, z3, z4, rfl, rfl, h5, h6, h7, h8, h9, h10, h11, h12⟩ := hp
  refine J_nf (nh2 := nh) (ck2 := 0) (sk2 := 0) (st2 := []) rfl rfl rfl rfl ?_
  refine J_app (L3 := [(54, .inr (5, [.ref 55, .int (zI ln), .int (zI z1), .int (zI z2), .int (zI z3), .int (zI z4), .int (zI 0), .int (zI (-1)), .ref 56, .int (zI 0)])), (54, .inr (5, [.ref 55, .int (zI ln), .int (zI tk), .int (zI st), .int (zI 0), .int (zI va), .int (zI 0), .int (zI (-1)), .ref 56, .int (zI 0)])), (54, .inr (5, [.ref 55, .int (zI ln), .int (zI tk), .int (zI st), .int (zI 0), .int (zI va), .int (zI 0), .int (zI fl), .ref 56, .int (zI 0)])), (54, .inr (5, [.ref 55, .int (zI ln), .int (zI tk), .int (zI st), .int (zI 0), .int (zI va), .int (zI 0), .int (zI fl), .ref 56, .int (zI sz)])), (54, .inr (5, [.ref 55, .int (zI ln), .int (zI tk), .int (zI st), .int (zI 0), .int (zI va), .int (zI pa), .int (zI fl), .ref 56, .int (zI sz)]))]) rfl ?_
  refine J_mask (L2 := [(54, .inr (5, [.ref 55, .int (zI ln), .int (zI z1), .int (zI z2), .int (zI z3), .int (zI z4), .int (zI 0), .int (zI (-1)), .ref 56, .int (zI 0)]))]) (ks := [54, 54, 54, 54, 54]) [true, false, false, false, false] rfl (by decide +kernel) rfl ?_
  refine J_aload_n dX5_compile_24 rfl rfl ?_
  refine J_callV (st := []) dX5_compile_25 cv_X5_46 (d_clause ln z1 z2 z3 z4 0 (-1) 0 tp cd q0 q1 h5 h6 h7 h8 h9 h10 h11 v_939070ca3f v_724316b824 v_d64efa60f9 v_939070ca3f v_178ac4adec h12 q6 q7 rfl hk55 hk56) rfl rfl rfl (Nat.le_of_ble_eq_true rfl) ⟨(Nat.le_of_ble_eq_true rfl), (Nat.le_of_ble_eq_true rfl)⟩ ⟨(Nat.le_of_ble_eq_true rfl), (Nat.le_of_ble_eq_true rfl)⟩ (fun r h9 hp => ?_)
  rcases hp with ⟨z13, z14, z15, z16, z17, z18, f19, rfl, rfl, h20, h21, h22, h23, h24, h25, h26, h27, h28, h29, h30, h31, h32, h33, h34⟩ | ⟨z35, z36, z37, z38, z39, z40, f41, z42, rfl, rfl, h43, h44, h45, h46, h47, h48, h49, h50, h51, h52, h53, h54, h55, h56, h57⟩
  · refine J_nf (nh2 := nh) (ck2 := 0) (sk2 := 0) (st2 := [.int (zI 1)]) rfl rfl rfl rfl ?_
    refine J_app (L3 := [(54, .inr (5, [.ref 55, .int (zI ln), .int (zI z13), .int (zI z14), .int (zI z15), .int (zI z16), .int (zI z17), .int (zI (-1)), .ref 56, .int (zI z18)])), (56, .inl (0, 412, .inl (zA f19))), (54, .inr (5, [.ref 55, .int (zI ln), .int (zI z1), .int (zI z2), .int (zI z3), .int (zI z4), .int (zI 0), .int (zI (-1)), .ref 56, .int (zI 0)]))]) rfl ?_
    refine J_mask (L2 := [(54, .inr (5, [.ref 55, .int (zI ln), .int (zI z13), .int (zI z14), .int (zI z15), .int (zI z16), .int (zI z17), .int (zI (-1)), .ref 56, .int (zI z18)])), (56, .inl (0, 412, .inl (zA f19)))]) (ks := [54, 56, 54]) [true, true, false] rfl (by decide +kernel) rfl ?_
    refine J_istore_n dX5_compile_28 rfl (Nat.le_of_ble_eq_true rfl) rfl ?_
    refine J_ls (ls2 := [some (.ref 54), some (.int (zI 1)), none]) rfl ?_
    refine Z_iconst (n := 1) dX5_compile_29 ?_
    refine J_istore_n dX5_compile_30 rfl (Nat.le_of_ble_eq_true rfl) rfl ?_
    refine J_ls (ls2 := [some (.ref 54), some (.int (zI 1)), some (.int (zI 1))]) rfl ?_
    have lp31 : ∀ (N31 : Nat) (gd_31 : Int) (i_31 : Int) (tx_31 : Int) (sx_31 : Int) (bx_31 : Int) (vx_31 : Int) (px_31 : Int) (fx_31 : Int) (zx_31 : Int) (cx_31 : Int → Int), (1 ≤ i_31) → (i_31 ≤ 13) → (0 ≤ gd_31) → (gd_31 ≤ 1) → (fx_31 + 1 ≤ 401 * (1 - gd_31)) → (-gd_31 ≤ fx_31) → (zx_31 ≤ sx_31 + 1 + 412 * (1 - gd_31)) → (0 ≤ tx_31) → (tx_31 ≤ 355) → (0 ≤ sx_31) → (sx_31 ≤ bx_31) → (bx_31 ≤ ln) → (0 ≤ vx_31) → (vx_31 ≤ 1001) → (TokL tx_31 sx_31 bx_31) → (Rg cx_31 412 (-2147483648) 2147483647) → (0 ≤ zx_31) → (zx_31 ≤ 412) → (0 ≤ px_31) → (px_31 ≤ 50) → (13 - i_31).toNat < N31 → J l G MX5_compile { frames := 45, cells := 0, slots := 0, locals := 1009 } jE (jMQ G { frames := 45, cells := 0, slots := 0, locals := 1009 } (fun rr h9 => (∃ tk2 : Int, ∃ st2 : Int, ∃ bh2 : Int, ∃ va2 : Int, ∃ pa2 : Int, ∃ sz2 : Int, ∃ cd2 : Int → Int, ∃ fl2 : Int, rr = some (.int (zI (-1))) ∧ h9 = (nh, hc fh [(54, .inr (5, [.ref 55, .int (zI ln), .int (zI tk2), .int (zI st2), .int (zI bh2), .int (zI va2), .int (zI pa2), .int (zI fl2), .ref 56, .int (zI sz2)])), (56, .inl (0, 412, .inl (zA cd2)))]) ∧ (sz2 ≤ 402) ∧ (0 ≤ sz2) ∧ (0 ≤ va2) ∧ (va2 ≤ 1001) ∧ (0 ≤ tk2) ∧ (tk2 ≤ 355) ∧ (Rg cd2 412 (-2147483648) 2147483647) ∧ (fl2 = -1)) ∨ (∃ tk2 : Int, ∃ st2 : Int, ∃ bh2 : Int, ∃ va2 : Int, ∃ pa2 : Int, ∃ sz2 : Int, ∃ cd2 : Int → Int, ∃ fl2 : Int, rr = some (.int (zI fl2)) ∧ h9 = (nh, hc fh [(54, .inr (5, [.ref 55, .int (zI ln), .int (zI tk2), .int (zI st2), .int (zI bh2), .int (zI va2), .int (zI pa2), .int (zI fl2), .ref 56, .int (zI sz2)])), (56, .inl (0, 412, .inl (zA cd2)))]) ∧ (0 ≤ fl2) ∧ (fl2 ≤ 400) ∧ (0 ≤ sz2) ∧ (sz2 ≤ 412) ∧ (0 ≤ va2) ∧ (va2 ≤ 1001) ∧ (0 ≤ tk2) ∧ (tk2 ≤ 355) ∧ (Rg cd2 412 (-2147483648) 2147483647)))) (nh, hc fh [(54, .inr (5, [.ref 55, .int (zI ln), .int (zI tx_31), .int (zI sx_31), .int (zI bx_31), .int (zI vx_31), .int (zI px_31), .int (zI fx_31), .ref 56, .int (zI zx_31)])), (56, .inl (0, 412, .inl (zA cx_31)))]) 0 0 31 [some (.ref 54), some (.int (zI gd_31)), some (.int (zI i_31))] [] := by
      intro N31
      induction N31 with
      | zero => intro gd_31 i_31 tx_31 sx_31 bx_31 vx_31 px_31 fx_31 zx_31 cx_31 i31_0 i31_1 i31_2 i31_3 i31_4 i31_5 i31_6 i31_7 i31_8 i31_9 i31_10 i31_11 i31_12 i31_13 i31_14 i31_15 i31_16 i31_17 i31_18 i31_19 hm; exact absurd hm (Nat.not_lt_zero _)
      | succ N31 ih31 =>
        intro gd_31 i_31 tx_31 sx_31 bx_31 vx_31 px_31 fx_31 zx_31 cx_31 i31_0 i31_1 i31_2 i31_3 i31_4 i31_5 i31_6 i31_7 i31_8 i31_9 i31_10 i31_11 i31_12 i31_13 i31_14 i31_15 i31_16 i31_17 i31_18 i31_19 hm31
        refine J_iload_n dX5_compile_31 rfl rfl ?_
        refine Z_bipush (n := 12) dX5_compile_32 (by decide +kernel) ?_
        refine Z_icmp_gt (tgt := 78) dX5_compile_34 (by decide) (v_a34c27d11e i31_0 i31_1) v_1288359c70 (fun h58 => ?_) (fun h58 => ?_)
        · refine J_iload_n dX5_compile_78 rfl rfl ?_
          refine Z_if_eq (tgt := 96) dX5_compile_79 (by decide) (v_5f10a759cd i31_2 i31_3) (fun h59 => ?_) (fun h59 => ?_)
          · refine J_aload_n dX5_compile_96 rfl rfl ?_
            refine J_get (v := .int (zI fx_31)) dX5_compile_97 fl_X5_34 rfl rfl ?_
            exact J_iret dX5_compile_100 rfl rfl (Nat.le_of_ble_eq_true rfl) (Nat.le_of_ble_eq_true rfl) (Or.inr ⟨tx_31, sx_31, bx_31, vx_31, px_31, zx_31, cx_31, fx_31, rfl, rfl, (v_0305cee7fe i31_5 h59), (v_5d2348a0fa i31_2 i31_4), i31_16, i31_17, i31_12, i31_13, i31_7, i31_8, i31_15⟩)
          · refine J_aload_n dX5_compile_82 rfl rfl ?_
            refine J_get (v := .int (zI tx_31)) dX5_compile_83 fl_X5_19 rfl rfl ?_
            refine Z_bipush (n := 17) dX5_compile_86 (by decide +kernel) ?_
            refine Z_icmp_eq (tgt := 96) dX5_compile_88 (by decide) (v_96bf6f782e i31_7 i31_8) v_55f4e57ae7 (fun h60 => ?_) (fun h60 => ?_)
            · refine J_aload_n dX5_compile_96 rfl rfl ?_
              refine J_get (v := .int (zI fx_31)) dX5_compile_97 fl_X5_34 rfl rfl ?_
              refine Z_top (b := -1) (v_2204f4773d i31_2 i31_4 i31_5 h59) ?_
              exact J_iret dX5_compile_100 rfl rfl (Nat.le_of_ble_eq_true rfl) (Nat.le_of_ble_eq_true rfl) (Or.inl ⟨tx_31, sx_31, bx_31, vx_31, px_31, zx_31, cx_31, fx_31, rfl, rfl, (v_f0d9d901dd q1 i31_2 i31_6 i31_10 i31_11 h59), i31_16, i31_12, i31_13, i31_7, i31_8, i31_15, (v_2204f4773d i31_2 i31_4 i31_5 h59)⟩)
            · refine J_aload_n dX5_compile_91 rfl rfl ?_
              refine J_callV (st := []) dX5_compile_92 cv_X5_54 (d_wrong ln tx_31 sx_31 bx_31 vx_31 px_31 fx_31 zx_31 i31_9 (v_1adcfdfee5 q1 i31_10 i31_11) rfl) rfl rfl rfl (Nat.le_of_ble_eq_true rfl) ⟨(Nat.le_of_ble_eq_true rfl), (Nat.le_of_ble_eq_true rfl)⟩ ⟨(Nat.le_of_ble_eq_true rfl), (Nat.le_of_ble_eq_true rfl)⟩ (fun r h9 hp => ?_)
              obtain ⟨rfl, rfl⟩ := hp
              refine J_nf (nh2 := nh) (ck2 := 0) (sk2 := 0) (st2 := [.int (zI 0)]) rfl rfl rfl rfl ?_
              refine J_app (L3 := [(54, .inr (5, [.ref 55, .int (zI ln), .int (zI tx_31), .int (zI sx_31), .int (zI bx_31), .int (zI vx_31), .int (zI px_31), .int (zI sx_31), .ref 56, .int (zI zx_31)])), (54, .inr (5, [.ref 55, .int (zI ln), .int (zI tx_31), .int (zI sx_31), .int (zI bx_31), .int (zI vx_31), .int (zI px_31), .int (zI fx_31), .ref 56, .int (zI zx_31)])), (56, .inl (0, 412, .inl (zA cx_31)))]) rfl ?_
              refine J_mask (L2 := [(54, .inr (5, [.ref 55, .int (zI ln), .int (zI tx_31), .int (zI sx_31), .int (zI bx_31), .int (zI vx_31), .int (zI px_31), .int (zI sx_31), .ref 56, .int (zI zx_31)])), (56, .inl (0, 412, .inl (zA cx_31)))]) (ks := [54, 54, 56]) [true, false, true] rfl (by decide +kernel) rfl ?_
              refine J_pop dX5_compile_95 rfl ?_
              refine J_aload_n dX5_compile_96 rfl rfl ?_
              refine J_get (v := .int (zI sx_31)) dX5_compile_97 fl_X5_34 rfl rfl ?_
              exact J_iret dX5_compile_100 rfl rfl (Nat.le_of_ble_eq_true rfl) (Nat.le_of_ble_eq_true rfl) (Or.inr ⟨tx_31, sx_31, bx_31, vx_31, px_31, zx_31, cx_31, sx_31, rfl, rfl, i31_9, (v_1adcfdfee5 q1 i31_10 i31_11), i31_16, i31_17, i31_12, i31_13, i31_7, i31_8, i31_15⟩)
        · refine J_iload_n dX5_compile_37 rfl rfl ?_
          refine Z_if_eq (tgt := 78) dX5_compile_38 (by decide) (v_5f10a759cd i31_2 i31_3) (fun h61 => ?_) (fun h61 => ?_)
          · refine J_iload_n dX5_compile_78 rfl rfl ?_
            refine Z_if_eq (tgt := 96) dX5_compile_79 (by decide) (v_1bb2bfd6ba i31_2 h61) (fun h62 => ?_) (fun h62 => absurd h62 (fun q => q (v_bd6c74a791 i31_2 h61)))
            refine J_aload_n dX5_compile_96 rfl rfl ?_
            refine J_get (v := .int (zI fx_31)) dX5_compile_97 fl_X5_34 rfl rfl ?_
            exact J_iret dX5_compile_100 rfl rfl (Nat.le_of_ble_eq_true rfl) (Nat.le_of_ble_eq_true rfl) (Or.inr ⟨tx_31, sx_31, bx_31, vx_31, px_31, zx_31, cx_31, fx_31, rfl, rfl, (v_0305cee7fe i31_5 h61), (v_5d2348a0fa i31_2 i31_4), i31_16, i31_17, i31_12, i31_13, i31_7, i31_8, i31_15⟩)
          · refine J_aload_n dX5_compile_41 rfl rfl ?_
            refine Z_bipush (n := 59) dX5_compile_42 (by decide +kernel) ?_
            refine J_callV (st := []) dX5_compile_44 cv_X5_50 (d_isSign 59 ln tx_31 sx_31 bx_31 vx_31 px_31 fx_31 zx_31 v_891b05d1c3 v_a8513e8773 i31_7 i31_8 rfl) rfl rfl rfl (Nat.le_of_ble_eq_true rfl) ⟨(Nat.le_of_ble_eq_true rfl), (Nat.le_of_ble_eq_true rfl)⟩ ⟨(Nat.le_of_ble_eq_true rfl), (Nat.le_of_ble_eq_true rfl)⟩ (fun r h9 hp => ?_)
            rcases hp with ⟨rfl, rfl, h63⟩ | ⟨rfl, rfl, h64⟩
            · refine J_nf (nh2 := nh) (ck2 := 0) (sk2 := 0) (st2 := [.int (zI 1)]) rfl rfl rfl rfl ?_
              refine Z_if_eq (tgt := 78) dX5_compile_47 (by decide) v_4dcc24baa7 (fun h65 => absurd h65 v_3a47bfd896) (fun h65 => ?_)
              refine J_aload_n dX5_compile_50 rfl rfl ?_
              have g66 := TokL.lt i31_14 (v_ab9b015ba3 h63)
              refine J_callV (st := []) dX5_compile_51 cv_X5_43 (d_advance ln tx_31 sx_31 bx_31 vx_31 px_31 fx_31 zx_31 tp q0 q1 (v_d253cb2c59 i31_9 g66) i31_11 i31_12 i31_13 q6 rfl hk55) rfl rfl rfl (Nat.le_of_ble_eq_true rfl) ⟨(Nat.le_of_ble_eq_true rfl), (Nat.le_of_ble_eq_true rfl)⟩ ⟨(Nat.le_of_ble_eq_true rfl), (Nat.le_of_ble_eq_true rfl)⟩ (fun r h9 hp => ?_)
              obtain ⟨z67, z68, z69, z70, rfl, rfl, h71, h72, h73, h74, h75, h76, h77, h78⟩ := hp
              refine J_nf (nh2 := nh) (ck2 := 0) (sk2 := 0) (st2 := []) rfl rfl rfl rfl ?_
              refine J_app (L3 := [(54, .inr (5, [.ref 55, .int (zI ln), .int (zI z67), .int (zI z68), .int (zI z69), .int (zI z70), .int (zI px_31), .int (zI fx_31), .ref 56, .int (zI zx_31)])), (54, .inr (5, [.ref 55, .int (zI ln), .int (zI tx_31), .int (zI sx_31), .int (zI bx_31), .int (zI vx_31), .int (zI px_31), .int (zI fx_31), .ref 56, .int (zI zx_31)])), (56, .inl (0, 412, .inl (zA cx_31)))]) rfl ?_
              refine J_mask (L2 := [(54, .inr (5, [.ref 55, .int (zI ln), .int (zI z67), .int (zI z68), .int (zI z69), .int (zI z70), .int (zI px_31), .int (zI fx_31), .ref 56, .int (zI zx_31)])), (56, .inl (0, 412, .inl (zA cx_31)))]) (ks := [54, 54, 56]) [true, false, true] rfl (by decide +kernel) rfl ?_
              refine J_iload_n dX5_compile_54 rfl rfl ?_
              refine Z_bipush (n := 12) dX5_compile_55 (by decide +kernel) ?_
              refine Z_icmp_ge (tgt := 67) dX5_compile_57 (by decide) (v_136dea8776 i31_0 h58) v_1288359c70 (fun h79 => ?_) (fun h79 => ?_)
              · refine J_aload_n dX5_compile_67 rfl rfl ?_
                refine J_callV (st := []) dX5_compile_68 cv_X5_54 (d_wrong ln z67 z68 z69 z70 px_31 fx_31 zx_31 (v_9b2e2070a2 i31_9 g66 h73) (v_1adcfdfee5 q1 h74 h75) rfl) rfl rfl rfl (Nat.le_of_ble_eq_true rfl) ⟨(Nat.le_of_ble_eq_true rfl), (Nat.le_of_ble_eq_true rfl)⟩ ⟨(Nat.le_of_ble_eq_true rfl), (Nat.le_of_ble_eq_true rfl)⟩ (fun r h9 hp => ?_)
                obtain ⟨rfl, rfl⟩ := hp
                refine J_nf (nh2 := nh) (ck2 := 0) (sk2 := 0) (st2 := [.int (zI 0)]) rfl rfl rfl rfl ?_
                refine J_app (L3 := [(54, .inr (5, [.ref 55, .int (zI ln), .int (zI z67), .int (zI z68), .int (zI z69), .int (zI z70), .int (zI px_31), .int (zI z68), .ref 56, .int (zI zx_31)])), (54, .inr (5, [.ref 55, .int (zI ln), .int (zI z67), .int (zI z68), .int (zI z69), .int (zI z70), .int (zI px_31), .int (zI fx_31), .ref 56, .int (zI zx_31)])), (56, .inl (0, 412, .inl (zA cx_31)))]) rfl ?_
                refine J_mask (L2 := [(54, .inr (5, [.ref 55, .int (zI ln), .int (zI z67), .int (zI z68), .int (zI z69), .int (zI z70), .int (zI px_31), .int (zI z68), .ref 56, .int (zI zx_31)])), (56, .inl (0, 412, .inl (zA cx_31)))]) (ks := [54, 54, 56]) [true, false, true] rfl (by decide +kernel) rfl ?_
                refine J_istore_n dX5_compile_71 rfl (Nat.le_of_ble_eq_true rfl) rfl ?_
                refine J_ls (ls2 := [some (.ref 54), some (.int (zI 0)), some (.int (zI i_31))]) rfl ?_
                refine Z_iinc (c := i_31 + 1) (ls2 := [some (.ref 54), some (.int (zI 0)), some (.int (zI (i_31 + 1)))]) dX5_compile_72 rfl (Nat.le_of_ble_eq_true rfl) rfl rfl rfl ?_
                refine J_goto (tgt := 31) dX5_compile_75 (by decide) ?_
                exact ih31 0 (i_31 + 1) z67 z68 z69 z70 px_31 z68 zx_31 cx_31 (v_d5c0b6f86d h79) (v_88b14b6dbe h58) v_939070ca3f v_316afd7d0b (v_9e5bb7733d q1 h74 h75) (v_01585510fa i31_9 g66 h73) (v_e28c14db79 i31_2 i31_6 g66 h73) h71 h72 (v_9b2e2070a2 i31_9 g66 h73) h74 h75 h76 h77 h78 i31_15 i31_16 i31_17 i31_18 i31_19 (meas_lt v_bcd0abe930 (v_c2e07689da h58) hm31)
              · refine J_aload_n dX5_compile_60 rfl rfl ?_
                refine J_callV (st := []) dX5_compile_61 cv_X5_46 (d_clause ln z67 z68 z69 z70 px_31 fx_31 zx_31 tp cx_31 q0 q1 h71 h72 (v_9b2e2070a2 i31_9 g66 h73) h74 h75 h76 h77 i31_18 i31_19 (v_5d41d20438 i31_2 i31_4 i31_5) i31_16 i31_17 h78 q6 i31_15 rfl hk55 rfl) rfl rfl rfl (Nat.le_of_ble_eq_true rfl) ⟨(Nat.le_of_ble_eq_true rfl), (Nat.le_of_ble_eq_true rfl)⟩ ⟨(Nat.le_of_ble_eq_true rfl), (Nat.le_of_ble_eq_true rfl)⟩ (fun r h9 hp => ?_)
                rcases hp with ⟨z80, z81, z82, z83, z84, z85, f86, rfl, rfl, h87, h88, h89, h90, h91, h92, h93, h94, h95, h96, h97, h98, h99, h100, h101⟩ | ⟨z102, z103, z104, z105, z106, z107, f108, z109, rfl, rfl, h110, h111, h112, h113, h114, h115, h116, h117, h118, h119, h120, h121, h122, h123, h124⟩
                · refine J_nf (nh2 := nh) (ck2 := 0) (sk2 := 0) (st2 := [.int (zI 1)]) rfl rfl rfl rfl ?_
                  refine J_app (L3 := [(54, .inr (5, [.ref 55, .int (zI ln), .int (zI z80), .int (zI z81), .int (zI z82), .int (zI z83), .int (zI z84), .int (zI fx_31), .ref 56, .int (zI z85)])), (56, .inl (0, 412, .inl (zA f86))), (54, .inr (5, [.ref 55, .int (zI ln), .int (zI z67), .int (zI z68), .int (zI z69), .int (zI z70), .int (zI px_31), .int (zI fx_31), .ref 56, .int (zI zx_31)])), (56, .inl (0, 412, .inl (zA cx_31)))]) rfl ?_
                  refine J_mask (L2 := [(54, .inr (5, [.ref 55, .int (zI ln), .int (zI z80), .int (zI z81), .int (zI z82), .int (zI z83), .int (zI z84), .int (zI fx_31), .ref 56, .int (zI z85)])), (56, .inl (0, 412, .inl (zA f86)))]) (ks := [54, 56, 54, 56]) [true, true, false, false] rfl (by decide +kernel) rfl ?_
                  refine J_goto (tgt := 71) dX5_compile_64 (by decide) ?_
                  refine J_istore_n dX5_compile_71 rfl (Nat.le_of_ble_eq_true rfl) rfl ?_
                  refine J_ls (ls2 := [some (.ref 54), some (.int (zI 1)), some (.int (zI i_31))]) rfl ?_
                  refine Z_iinc (c := i_31 + 1) (ls2 := [some (.ref 54), some (.int (zI 1)), some (.int (zI (i_31 + 1)))]) dX5_compile_72 rfl (Nat.le_of_ble_eq_true rfl) rfl rfl rfl ?_
                  refine J_goto (tgt := 31) dX5_compile_75 (by decide) ?_
                  exact ih31 1 (i_31 + 1) z80 z81 z82 z83 z84 fx_31 z85 f86 (v_f86fa765f0 i31_0) (v_57473e1536 h79) v_316afd7d0b v_bbcfac9b7d (v_838545eb26 i31_2 i31_4 h61) (v_1e02a2c5cb i31_4 i31_5) (v_b38bc9c89f i31_2 i31_6 h61 g66 h73 h100) h87 h88 h89 h90 h91 h92 h93 h98 h99 h96 h97 h94 h95 (meas_lt v_bcd0abe930 (v_03a236858c h79) hm31)
                · refine J_nf (nh2 := nh) (ck2 := 0) (sk2 := 0) (st2 := [.int (zI 0)]) rfl rfl rfl rfl ?_
                  refine J_app (L3 := [(54, .inr (5, [.ref 55, .int (zI ln), .int (zI z102), .int (zI z103), .int (zI z104), .int (zI z105), .int (zI z106), .int (zI z109), .ref 56, .int (zI z107)])), (56, .inl (0, 412, .inl (zA f108))), (54, .inr (5, [.ref 55, .int (zI ln), .int (zI z67), .int (zI z68), .int (zI z69), .int (zI z70), .int (zI px_31), .int (zI fx_31), .ref 56, .int (zI zx_31)])), (56, .inl (0, 412, .inl (zA cx_31)))]) rfl ?_
                  refine J_mask (L2 := [(54, .inr (5, [.ref 55, .int (zI ln), .int (zI z102), .int (zI z103), .int (zI z104), .int (zI z105), .int (zI z106), .int (zI z109), .ref 56, .int (zI z107)])), (56, .inl (0, 412, .inl (zA f108)))]) (ks := [54, 56, 54, 56]) [true, true, false, false] rfl (by decide +kernel) rfl ?_
                  refine J_goto (tgt := 71) dX5_compile_64 (by decide) ?_
                  refine J_istore_n dX5_compile_71 rfl (Nat.le_of_ble_eq_true rfl) rfl ?_
                  refine J_ls (ls2 := [some (.ref 54), some (.int (zI 0)), some (.int (zI i_31))]) rfl ?_
                  refine Z_iinc (c := i_31 + 1) (ls2 := [some (.ref 54), some (.int (zI 0)), some (.int (zI (i_31 + 1)))]) dX5_compile_72 rfl (Nat.le_of_ble_eq_true rfl) rfl rfl rfl ?_
                  refine J_goto (tgt := 31) dX5_compile_75 (by decide) ?_
                  exact ih31 0 (i_31 + 1) z102 z103 z104 z105 z106 z109 z107 f108 (v_f86fa765f0 i31_0) (v_57473e1536 h79) v_939070ca3f v_316afd7d0b (v_1ab801cc12 h124) (v_c6d35956d5 h123) (v_d2556409d8 h112 h120) h110 h111 h112 h113 h114 h115 h116 h121 h122 h119 h120 h117 h118 (meas_lt v_bcd0abe930 (v_03a236858c h79) hm31)
            · refine J_nf (nh2 := nh) (ck2 := 0) (sk2 := 0) (st2 := [.int (zI 0)]) rfl rfl rfl rfl ?_
              refine Z_if_eq (tgt := 78) dX5_compile_47 (by decide) v_b17331891f (fun h125 => ?_) (fun h125 => absurd h125 (fun q => q v_2ca2bbca1f))
              refine J_iload_n dX5_compile_78 rfl rfl ?_
              refine Z_if_eq (tgt := 96) dX5_compile_79 (by decide) (v_5f10a759cd i31_2 i31_3) (fun h126 => absurd h126 (v_d47f715d39 i31_2 h61)) (fun h126 => ?_)
              refine J_aload_n dX5_compile_82 rfl rfl ?_
              refine J_get (v := .int (zI tx_31)) dX5_compile_83 fl_X5_19 rfl rfl ?_
              refine Z_bipush (n := 17) dX5_compile_86 (by decide +kernel) ?_
              refine Z_icmp_eq (tgt := 96) dX5_compile_88 (by decide) (v_96bf6f782e i31_7 i31_8) v_55f4e57ae7 (fun h127 => ?_) (fun h127 => ?_)
              · refine J_aload_n dX5_compile_96 rfl rfl ?_
                refine J_get (v := .int (zI fx_31)) dX5_compile_97 fl_X5_34 rfl rfl ?_
                refine Z_top (b := -1) (v_2204f4773d i31_2 i31_4 i31_5 h61) ?_
                exact J_iret dX5_compile_100 rfl rfl (Nat.le_of_ble_eq_true rfl) (Nat.le_of_ble_eq_true rfl) (Or.inl ⟨tx_31, sx_31, bx_31, vx_31, px_31, zx_31, cx_31, fx_31, rfl, rfl, (v_f0d9d901dd q1 i31_2 i31_6 i31_10 i31_11 h61), i31_16, i31_12, i31_13, i31_7, i31_8, i31_15, (v_2204f4773d i31_2 i31_4 i31_5 h61)⟩)
              · refine J_aload_n dX5_compile_91 rfl rfl ?_
                refine J_callV (st := []) dX5_compile_92 cv_X5_54 (d_wrong ln tx_31 sx_31 bx_31 vx_31 px_31 fx_31 zx_31 i31_9 (v_1adcfdfee5 q1 i31_10 i31_11) rfl) rfl rfl rfl (Nat.le_of_ble_eq_true rfl) ⟨(Nat.le_of_ble_eq_true rfl), (Nat.le_of_ble_eq_true rfl)⟩ ⟨(Nat.le_of_ble_eq_true rfl), (Nat.le_of_ble_eq_true rfl)⟩ (fun r h9 hp => ?_)
                obtain ⟨rfl, rfl⟩ := hp
                refine J_nf (nh2 := nh) (ck2 := 0) (sk2 := 0) (st2 := [.int (zI 0)]) rfl rfl rfl rfl ?_
                refine J_app (L3 := [(54, .inr (5, [.ref 55, .int (zI ln), .int (zI tx_31), .int (zI sx_31), .int (zI bx_31), .int (zI vx_31), .int (zI px_31), .int (zI sx_31), .ref 56, .int (zI zx_31)])), (54, .inr (5, [.ref 55, .int (zI ln), .int (zI tx_31), .int (zI sx_31), .int (zI bx_31), .int (zI vx_31), .int (zI px_31), .int (zI fx_31), .ref 56, .int (zI zx_31)])), (56, .inl (0, 412, .inl (zA cx_31)))]) rfl ?_
                refine J_mask (L2 := [(54, .inr (5, [.ref 55, .int (zI ln), .int (zI tx_31), .int (zI sx_31), .int (zI bx_31), .int (zI vx_31), .int (zI px_31), .int (zI sx_31), .ref 56, .int (zI zx_31)])), (56, .inl (0, 412, .inl (zA cx_31)))]) (ks := [54, 54, 56]) [true, false, true] rfl (by decide +kernel) rfl ?_
                refine J_pop dX5_compile_95 rfl ?_
                refine J_aload_n dX5_compile_96 rfl rfl ?_
                refine J_get (v := .int (zI sx_31)) dX5_compile_97 fl_X5_34 rfl rfl ?_
                exact J_iret dX5_compile_100 rfl rfl (Nat.le_of_ble_eq_true rfl) (Nat.le_of_ble_eq_true rfl) (Or.inr ⟨tx_31, sx_31, bx_31, vx_31, px_31, zx_31, cx_31, sx_31, rfl, rfl, i31_9, (v_1adcfdfee5 q1 i31_10 i31_11), i31_16, i31_17, i31_12, i31_13, i31_7, i31_8, i31_15⟩)
    exact lp31 _ 1 1 z13 z14 z15 z16 z17 (-1) z18 f19 v_bbcfac9b7d v_128fe8cba7 v_316afd7d0b v_bbcfac9b7d v_ac332776b7 v_4d9e6ac08a (v_66b657ba6d h7 h33) h20 h21 h22 h23 h24 h25 h26 h31 h32 h29 h30 h27 h28 (Nat.lt_succ_self _)
  · refine J_nf (nh2 := nh) (ck2 := 0) (sk2 := 0) (st2 := [.int (zI 0)]) rfl rfl rfl rfl ?_
    refine J_app (L3 := [(54, .inr (5, [.ref 55, .int (zI ln), .int (zI z35), .int (zI z36), .int (zI z37), .int (zI z38), .int (zI z39), .int (zI z42), .ref 56, .int (zI z40)])), (56, .inl (0, 412, .inl (zA f41))), (54, .inr (5, [.ref 55, .int (zI ln), .int (zI z1), .int (zI z2), .int (zI z3), .int (zI z4), .int (zI 0), .int (zI (-1)), .ref 56, .int (zI 0)]))]) rfl ?_
    refine J_mask (L2 := [(54, .inr (5, [.ref 55, .int (zI ln), .int (zI z35), .int (zI z36), .int (zI z37), .int (zI z38), .int (zI z39), .int (zI z42), .ref 56, .int (zI z40)])), (56, .inl (0, 412, .inl (zA f41)))]) (ks := [54, 56, 54]) [true, true, false] rfl (by decide +kernel) rfl ?_
    refine J_istore_n dX5_compile_28 rfl (Nat.le_of_ble_eq_true rfl) rfl ?_
    refine J_ls (ls2 := [some (.ref 54), some (.int (zI 0)), none]) rfl ?_
    refine Z_iconst (n := 1) dX5_compile_29 ?_
    refine J_istore_n dX5_compile_30 rfl (Nat.le_of_ble_eq_true rfl) rfl ?_
    refine J_ls (ls2 := [some (.ref 54), some (.int (zI 0)), some (.int (zI 1))]) rfl ?_
    have lp31 : ∀ (N31 : Nat) (gd_31 : Int) (i_31 : Int) (tx_31 : Int) (sx_31 : Int) (bx_31 : Int) (vx_31 : Int) (px_31 : Int) (fx_31 : Int) (zx_31 : Int) (cx_31 : Int → Int), (1 ≤ i_31) → (i_31 ≤ 13) → (0 ≤ gd_31) → (gd_31 ≤ 1) → (fx_31 + 1 ≤ 401 * (1 - gd_31)) → (-gd_31 ≤ fx_31) → (zx_31 ≤ sx_31 + 1 + 412 * (1 - gd_31)) → (0 ≤ tx_31) → (tx_31 ≤ 355) → (0 ≤ sx_31) → (sx_31 ≤ bx_31) → (bx_31 ≤ ln) → (0 ≤ vx_31) → (vx_31 ≤ 1001) → (TokL tx_31 sx_31 bx_31) → (Rg cx_31 412 (-2147483648) 2147483647) → (0 ≤ zx_31) → (zx_31 ≤ 412) → (0 ≤ px_31) → (px_31 ≤ 50) → (13 - i_31).toNat < N31 → J l G MX5_compile { frames := 45, cells := 0, slots := 0, locals := 1009 } jE (jMQ G { frames := 45, cells := 0, slots := 0, locals := 1009 } (fun rr h9 => (∃ tk2 : Int, ∃ st2 : Int, ∃ bh2 : Int, ∃ va2 : Int, ∃ pa2 : Int, ∃ sz2 : Int, ∃ cd2 : Int → Int, ∃ fl2 : Int, rr = some (.int (zI (-1))) ∧ h9 = (nh, hc fh [(54, .inr (5, [.ref 55, .int (zI ln), .int (zI tk2), .int (zI st2), .int (zI bh2), .int (zI va2), .int (zI pa2), .int (zI fl2), .ref 56, .int (zI sz2)])), (56, .inl (0, 412, .inl (zA cd2)))]) ∧ (sz2 ≤ 402) ∧ (0 ≤ sz2) ∧ (0 ≤ va2) ∧ (va2 ≤ 1001) ∧ (0 ≤ tk2) ∧ (tk2 ≤ 355) ∧ (Rg cd2 412 (-2147483648) 2147483647) ∧ (fl2 = -1)) ∨ (∃ tk2 : Int, ∃ st2 : Int, ∃ bh2 : Int, ∃ va2 : Int, ∃ pa2 : Int, ∃ sz2 : Int, ∃ cd2 : Int → Int, ∃ fl2 : Int, rr = some (.int (zI fl2)) ∧ h9 = (nh, hc fh [(54, .inr (5, [.ref 55, .int (zI ln), .int (zI tk2), .int (zI st2), .int (zI bh2), .int (zI va2), .int (zI pa2), .int (zI fl2), .ref 56, .int (zI sz2)])), (56, .inl (0, 412, .inl (zA cd2)))]) ∧ (0 ≤ fl2) ∧ (fl2 ≤ 400) ∧ (0 ≤ sz2) ∧ (sz2 ≤ 412) ∧ (0 ≤ va2) ∧ (va2 ≤ 1001) ∧ (0 ≤ tk2) ∧ (tk2 ≤ 355) ∧ (Rg cd2 412 (-2147483648) 2147483647)))) (nh, hc fh [(54, .inr (5, [.ref 55, .int (zI ln), .int (zI tx_31), .int (zI sx_31), .int (zI bx_31), .int (zI vx_31), .int (zI px_31), .int (zI fx_31), .ref 56, .int (zI zx_31)])), (56, .inl (0, 412, .inl (zA cx_31)))]) 0 0 31 [some (.ref 54), some (.int (zI gd_31)), some (.int (zI i_31))] [] := by
      intro N31
      induction N31 with
      | zero => intro gd_31 i_31 tx_31 sx_31 bx_31 vx_31 px_31 fx_31 zx_31 cx_31 i31_0 i31_1 i31_2 i31_3 i31_4 i31_5 i31_6 i31_7 i31_8 i31_9 i31_10 i31_11 i31_12 i31_13 i31_14 i31_15 i31_16 i31_17 i31_18 i31_19 hm; exact absurd hm (Nat.not_lt_zero _)
      | succ N31 ih31 =>
        intro gd_31 i_31 tx_31 sx_31 bx_31 vx_31 px_31 fx_31 zx_31 cx_31 i31_0 i31_1 i31_2 i31_3 i31_4 i31_5 i31_6 i31_7 i31_8 i31_9 i31_10 i31_11 i31_12 i31_13 i31_14 i31_15 i31_16 i31_17 i31_18 i31_19 hm31
        refine J_iload_n dX5_compile_31 rfl rfl ?_
        refine Z_bipush (n := 12) dX5_compile_32 (by decide +kernel) ?_
        refine Z_icmp_gt (tgt := 78) dX5_compile_34 (by decide) (v_a34c27d11e i31_0 i31_1) v_1288359c70 (fun h128 => ?_) (fun h128 => ?_)
        · refine J_iload_n dX5_compile_78 rfl rfl ?_
          refine Z_if_eq (tgt := 96) dX5_compile_79 (by decide) (v_5f10a759cd i31_2 i31_3) (fun h129 => ?_) (fun h129 => ?_)
          · refine J_aload_n dX5_compile_96 rfl rfl ?_
            refine J_get (v := .int (zI fx_31)) dX5_compile_97 fl_X5_34 rfl rfl ?_
            exact J_iret dX5_compile_100 rfl rfl (Nat.le_of_ble_eq_true rfl) (Nat.le_of_ble_eq_true rfl) (Or.inr ⟨tx_31, sx_31, bx_31, vx_31, px_31, zx_31, cx_31, fx_31, rfl, rfl, (v_0305cee7fe i31_5 h129), (v_5d2348a0fa i31_2 i31_4), i31_16, i31_17, i31_12, i31_13, i31_7, i31_8, i31_15⟩)
          · refine J_aload_n dX5_compile_82 rfl rfl ?_
            refine J_get (v := .int (zI tx_31)) dX5_compile_83 fl_X5_19 rfl rfl ?_
            refine Z_bipush (n := 17) dX5_compile_86 (by decide +kernel) ?_
            refine Z_icmp_eq (tgt := 96) dX5_compile_88 (by decide) (v_96bf6f782e i31_7 i31_8) v_55f4e57ae7 (fun h130 => ?_) (fun h130 => ?_)
            · refine J_aload_n dX5_compile_96 rfl rfl ?_
              refine J_get (v := .int (zI fx_31)) dX5_compile_97 fl_X5_34 rfl rfl ?_
              refine Z_top (b := -1) (v_2204f4773d i31_2 i31_4 i31_5 h129) ?_
              exact J_iret dX5_compile_100 rfl rfl (Nat.le_of_ble_eq_true rfl) (Nat.le_of_ble_eq_true rfl) (Or.inl ⟨tx_31, sx_31, bx_31, vx_31, px_31, zx_31, cx_31, fx_31, rfl, rfl, (v_f0d9d901dd q1 i31_2 i31_6 i31_10 i31_11 h129), i31_16, i31_12, i31_13, i31_7, i31_8, i31_15, (v_2204f4773d i31_2 i31_4 i31_5 h129)⟩)
            · refine J_aload_n dX5_compile_91 rfl rfl ?_
              refine J_callV (st := []) dX5_compile_92 cv_X5_54 (d_wrong ln tx_31 sx_31 bx_31 vx_31 px_31 fx_31 zx_31 i31_9 (v_1adcfdfee5 q1 i31_10 i31_11) rfl) rfl rfl rfl (Nat.le_of_ble_eq_true rfl) ⟨(Nat.le_of_ble_eq_true rfl), (Nat.le_of_ble_eq_true rfl)⟩ ⟨(Nat.le_of_ble_eq_true rfl), (Nat.le_of_ble_eq_true rfl)⟩ (fun r h9 hp => ?_)
              obtain ⟨rfl, rfl⟩ := hp
              refine J_nf (nh2 := nh) (ck2 := 0) (sk2 := 0) (st2 := [.int (zI 0)]) rfl rfl rfl rfl ?_
              refine J_app (L3 := [(54, .inr (5, [.ref 55, .int (zI ln), .int (zI tx_31), .int (zI sx_31), .int (zI bx_31), .int (zI vx_31), .int (zI px_31), .int (zI sx_31), .ref 56, .int (zI zx_31)])), (54, .inr (5, [.ref 55, .int (zI ln), .int (zI tx_31), .int (zI sx_31), .int (zI bx_31), .int (zI vx_31), .int (zI px_31), .int (zI fx_31), .ref 56, .int (zI zx_31)])), (56, .inl (0, 412, .inl (zA cx_31)))]) rfl ?_
              refine J_mask (L2 := [(54, .inr (5, [.ref 55, .int (zI ln), .int (zI tx_31), .int (zI sx_31), .int (zI bx_31), .int (zI vx_31), .int (zI px_31), .int (zI sx_31), .ref 56, .int (zI zx_31)])), (56, .inl (0, 412, .inl (zA cx_31)))]) (ks := [54, 54, 56]) [true, false, true] rfl (by decide +kernel) rfl ?_
              refine J_pop dX5_compile_95 rfl ?_
              refine J_aload_n dX5_compile_96 rfl rfl ?_
              refine J_get (v := .int (zI sx_31)) dX5_compile_97 fl_X5_34 rfl rfl ?_
              exact J_iret dX5_compile_100 rfl rfl (Nat.le_of_ble_eq_true rfl) (Nat.le_of_ble_eq_true rfl) (Or.inr ⟨tx_31, sx_31, bx_31, vx_31, px_31, zx_31, cx_31, sx_31, rfl, rfl, i31_9, (v_1adcfdfee5 q1 i31_10 i31_11), i31_16, i31_17, i31_12, i31_13, i31_7, i31_8, i31_15⟩)
        · refine J_iload_n dX5_compile_37 rfl rfl ?_
          refine Z_if_eq (tgt := 78) dX5_compile_38 (by decide) (v_5f10a759cd i31_2 i31_3) (fun h131 => ?_) (fun h131 => ?_)
          · refine J_iload_n dX5_compile_78 rfl rfl ?_
            refine Z_if_eq (tgt := 96) dX5_compile_79 (by decide) (v_1bb2bfd6ba i31_2 h131) (fun h132 => ?_) (fun h132 => absurd h132 (fun q => q (v_bd6c74a791 i31_2 h131)))
            refine J_aload_n dX5_compile_96 rfl rfl ?_
            refine J_get (v := .int (zI fx_31)) dX5_compile_97 fl_X5_34 rfl rfl ?_
            exact J_iret dX5_compile_100 rfl rfl (Nat.le_of_ble_eq_true rfl) (Nat.le_of_ble_eq_true rfl) (Or.inr ⟨tx_31, sx_31, bx_31, vx_31, px_31, zx_31, cx_31, fx_31, rfl, rfl, (v_0305cee7fe i31_5 h131), (v_5d2348a0fa i31_2 i31_4), i31_16, i31_17, i31_12, i31_13, i31_7, i31_8, i31_15⟩)
          · refine J_aload_n dX5_compile_41 rfl rfl ?_
            refine Z_bipush (n := 59) dX5_compile_42 (by decide +kernel) ?_
            refine J_callV (st := []) dX5_compile_44 cv_X5_50 (d_isSign 59 ln tx_31 sx_31 bx_31 vx_31 px_31 fx_31 zx_31 v_891b05d1c3 v_a8513e8773 i31_7 i31_8 rfl) rfl rfl rfl (Nat.le_of_ble_eq_true rfl) ⟨(Nat.le_of_ble_eq_true rfl), (Nat.le_of_ble_eq_true rfl)⟩ ⟨(Nat.le_of_ble_eq_true rfl), (Nat.le_of_ble_eq_true rfl)⟩ (fun r h9 hp => ?_)
            rcases hp with ⟨rfl, rfl, h133⟩ | ⟨rfl, rfl, h134⟩
            · refine J_nf (nh2 := nh) (ck2 := 0) (sk2 := 0) (st2 := [.int (zI 1)]) rfl rfl rfl rfl ?_
              refine Z_if_eq (tgt := 78) dX5_compile_47 (by decide) v_4dcc24baa7 (fun h135 => absurd h135 v_3a47bfd896) (fun h135 => ?_)
              refine J_aload_n dX5_compile_50 rfl rfl ?_
              have g136 := TokL.lt i31_14 (v_ab9b015ba3 h133)
              refine J_callV (st := []) dX5_compile_51 cv_X5_43 (d_advance ln tx_31 sx_31 bx_31 vx_31 px_31 fx_31 zx_31 tp q0 q1 (v_d253cb2c59 i31_9 g136) i31_11 i31_12 i31_13 q6 rfl hk55) rfl rfl rfl (Nat.le_of_ble_eq_true rfl) ⟨(Nat.le_of_ble_eq_true rfl), (Nat.le_of_ble_eq_true rfl)⟩ ⟨(Nat.le_of_ble_eq_true rfl), (Nat.le_of_ble_eq_true rfl)⟩ (fun r h9 hp => ?_)
              obtain ⟨z137, z138, z139, z140, rfl, rfl, h141, h142, h143, h144, h145, h146, h147, h148⟩ := hp
              refine J_nf (nh2 := nh) (ck2 := 0) (sk2 := 0) (st2 := []) rfl rfl rfl rfl ?_
              refine J_app (L3 := [(54, .inr (5, [.ref 55, .int (zI ln), .int (zI z137), .int (zI z138), .int (zI z139), .int (zI z140), .int (zI px_31), .int (zI fx_31), .ref 56, .int (zI zx_31)])), (54, .inr (5, [.ref 55, .int (zI ln), .int (zI tx_31), .int (zI sx_31), .int (zI bx_31), .int (zI vx_31), .int (zI px_31), .int (zI fx_31), .ref 56, .int (zI zx_31)])), (56, .inl (0, 412, .inl (zA cx_31)))]) rfl ?_
              refine J_mask (L2 := [(54, .inr (5, [.ref 55, .int (zI ln), .int (zI z137), .int (zI z138), .int (zI z139), .int (zI z140), .int (zI px_31), .int (zI fx_31), .ref 56, .int (zI zx_31)])), (56, .inl (0, 412, .inl (zA cx_31)))]) (ks := [54, 54, 56]) [true, false, true] rfl (by decide +kernel) rfl ?_
              refine J_iload_n dX5_compile_54 rfl rfl ?_
              refine Z_bipush (n := 12) dX5_compile_55 (by decide +kernel) ?_
              refine Z_icmp_ge (tgt := 67) dX5_compile_57 (by decide) (v_136dea8776 i31_0 h128) v_1288359c70 (fun h149 => ?_) (fun h149 => ?_)
              · refine J_aload_n dX5_compile_67 rfl rfl ?_
                refine J_callV (st := []) dX5_compile_68 cv_X5_54 (d_wrong ln z137 z138 z139 z140 px_31 fx_31 zx_31 (v_9b2e2070a2 i31_9 g136 h143) (v_1adcfdfee5 q1 h144 h145) rfl) rfl rfl rfl (Nat.le_of_ble_eq_true rfl) ⟨(Nat.le_of_ble_eq_true rfl), (Nat.le_of_ble_eq_true rfl)⟩ ⟨(Nat.le_of_ble_eq_true rfl), (Nat.le_of_ble_eq_true rfl)⟩ (fun r h9 hp => ?_)
                obtain ⟨rfl, rfl⟩ := hp
                refine J_nf (nh2 := nh) (ck2 := 0) (sk2 := 0) (st2 := [.int (zI 0)]) rfl rfl rfl rfl ?_
                refine J_app (L3 := [(54, .inr (5, [.ref 55, .int (zI ln), .int (zI z137), .int (zI z138), .int (zI z139), .int (zI z140), .int (zI px_31), .int (zI z138), .ref 56, .int (zI zx_31)])), (54, .inr (5, [.ref 55, .int (zI ln), .int (zI z137), .int (zI z138), .int (zI z139), .int (zI z140), .int (zI px_31), .int (zI fx_31), .ref 56, .int (zI zx_31)])), (56, .inl (0, 412, .inl (zA cx_31)))]) rfl ?_
                refine J_mask (L2 := [(54, .inr (5, [.ref 55, .int (zI ln), .int (zI z137), .int (zI z138), .int (zI z139), .int (zI z140), .int (zI px_31), .int (zI z138), .ref 56, .int (zI zx_31)])), (56, .inl (0, 412, .inl (zA cx_31)))]) (ks := [54, 54, 56]) [true, false, true] rfl (by decide +kernel) rfl ?_
                refine J_istore_n dX5_compile_71 rfl (Nat.le_of_ble_eq_true rfl) rfl ?_
                refine J_ls (ls2 := [some (.ref 54), some (.int (zI 0)), some (.int (zI i_31))]) rfl ?_
                refine Z_iinc (c := i_31 + 1) (ls2 := [some (.ref 54), some (.int (zI 0)), some (.int (zI (i_31 + 1)))]) dX5_compile_72 rfl (Nat.le_of_ble_eq_true rfl) rfl rfl rfl ?_
                refine J_goto (tgt := 31) dX5_compile_75 (by decide) ?_
                exact ih31 0 (i_31 + 1) z137 z138 z139 z140 px_31 z138 zx_31 cx_31 (v_d5c0b6f86d h149) (v_88b14b6dbe h128) v_939070ca3f v_316afd7d0b (v_9e5bb7733d q1 h144 h145) (v_01585510fa i31_9 g136 h143) (v_e28c14db79 i31_2 i31_6 g136 h143) h141 h142 (v_9b2e2070a2 i31_9 g136 h143) h144 h145 h146 h147 h148 i31_15 i31_16 i31_17 i31_18 i31_19 (meas_lt v_bcd0abe930 (v_c2e07689da h128) hm31)
              · refine J_aload_n dX5_compile_60 rfl rfl ?_
                refine J_callV (st := []) dX5_compile_61 cv_X5_46 (d_clause ln z137 z138 z139 z140 px_31 fx_31 zx_31 tp cx_31 q0 q1 h141 h142 (v_9b2e2070a2 i31_9 g136 h143) h144 h145 h146 h147 i31_18 i31_19 (v_5d41d20438 i31_2 i31_4 i31_5) i31_16 i31_17 h148 q6 i31_15 rfl hk55 rfl) rfl rfl rfl (Nat.le_of_ble_eq_true rfl) ⟨(Nat.le_of_ble_eq_true rfl), (Nat.le_of_ble_eq_true rfl)⟩ ⟨(Nat.le_of_ble_eq_true rfl), (Nat.le_of_ble_eq_true rfl)⟩ (fun r h9 hp => ?_)
                rcases hp with ⟨z150, z151, z152, z153, z154, z155, f156, rfl, rfl, h157, h158, h159, h160, h161, h162, h163, h164, h165, h166, h167, h168, h169, h170, h171⟩ | ⟨z172, z173, z174, z175, z176, z177, f178, z179, rfl, rfl, h180, h181, h182, h183, h184, h185, h186, h187, h188, h189, h190, h191, h192, h193, h194⟩
                · refine J_nf (nh2 := nh) (ck2 := 0) (sk2 := 0) (st2 := [.int (zI 1)]) rfl rfl rfl rfl ?_
                  refine J_app (L3 := [(54, .inr (5, [.ref 55, .int (zI ln), .int (zI z150), .int (zI z151), .int (zI z152), .int (zI z153), .int (zI z154), .int (zI fx_31), .ref 56, .int (zI z155)])), (56, .inl (0, 412, .inl (zA f156))), (54, .inr (5, [.ref 55, .int (zI ln), .int (zI z137), .int (zI z138), .int (zI z139), .int (zI z140), .int (zI px_31), .int (zI fx_31), .ref 56, .int (zI zx_31)])), (56, .inl (0, 412, .inl (zA cx_31)))]) rfl ?_
                  refine J_mask (L2 := [(54, .inr (5, [.ref 55, .int (zI ln), .int (zI z150), .int (zI z151), .int (zI z152), .int (zI z153), .int (zI z154), .int (zI fx_31), .ref 56, .int (zI z155)])), (56, .inl (0, 412, .inl (zA f156)))]) (ks := [54, 56, 54, 56]) [true, true, false, false] rfl (by decide +kernel) rfl ?_
                  refine J_goto (tgt := 71) dX5_compile_64 (by decide) ?_
                  refine J_istore_n dX5_compile_71 rfl (Nat.le_of_ble_eq_true rfl) rfl ?_
                  refine J_ls (ls2 := [some (.ref 54), some (.int (zI 1)), some (.int (zI i_31))]) rfl ?_
                  refine Z_iinc (c := i_31 + 1) (ls2 := [some (.ref 54), some (.int (zI 1)), some (.int (zI (i_31 + 1)))]) dX5_compile_72 rfl (Nat.le_of_ble_eq_true rfl) rfl rfl rfl ?_
                  refine J_goto (tgt := 31) dX5_compile_75 (by decide) ?_
                  exact ih31 1 (i_31 + 1) z150 z151 z152 z153 z154 fx_31 z155 f156 (v_f86fa765f0 i31_0) (v_57473e1536 h149) v_316afd7d0b v_bbcfac9b7d (v_838545eb26 i31_2 i31_4 h131) (v_1e02a2c5cb i31_4 i31_5) (v_b38bc9c89f i31_2 i31_6 h131 g136 h143 h170) h157 h158 h159 h160 h161 h162 h163 h168 h169 h166 h167 h164 h165 (meas_lt v_bcd0abe930 (v_03a236858c h149) hm31)
                · refine J_nf (nh2 := nh) (ck2 := 0) (sk2 := 0) (st2 := [.int (zI 0)]) rfl rfl rfl rfl ?_
                  refine J_app (L3 := [(54, .inr (5, [.ref 55, .int (zI ln), .int (zI z172), .int (zI z173), .int (zI z174), .int (zI z175), .int (zI z176), .int (zI z179), .ref 56, .int (zI z177)])), (56, .inl (0, 412, .inl (zA f178))), (54, .inr (5, [.ref 55, .int (zI ln), .int (zI z137), .int (zI z138), .int (zI z139), .int (zI z140), .int (zI px_31), .int (zI fx_31), .ref 56, .int (zI zx_31)])), (56, .inl (0, 412, .inl (zA cx_31)))]) rfl ?_
                  refine J_mask (L2 := [(54, .inr (5, [.ref 55, .int (zI ln), .int (zI z172), .int (zI z173), .int (zI z174), .int (zI z175), .int (zI z176), .int (zI z179), .ref 56, .int (zI z177)])), (56, .inl (0, 412, .inl (zA f178)))]) (ks := [54, 56, 54, 56]) [true, true, false, false] rfl (by decide +kernel) rfl ?_
                  refine J_goto (tgt := 71) dX5_compile_64 (by decide) ?_
                  refine J_istore_n dX5_compile_71 rfl (Nat.le_of_ble_eq_true rfl) rfl ?_
                  refine J_ls (ls2 := [some (.ref 54), some (.int (zI 0)), some (.int (zI i_31))]) rfl ?_
                  refine Z_iinc (c := i_31 + 1) (ls2 := [some (.ref 54), some (.int (zI 0)), some (.int (zI (i_31 + 1)))]) dX5_compile_72 rfl (Nat.le_of_ble_eq_true rfl) rfl rfl rfl ?_
                  refine J_goto (tgt := 31) dX5_compile_75 (by decide) ?_
                  exact ih31 0 (i_31 + 1) z172 z173 z174 z175 z176 z179 z177 f178 (v_f86fa765f0 i31_0) (v_57473e1536 h149) v_939070ca3f v_316afd7d0b (v_1ab801cc12 h194) (v_c6d35956d5 h193) (v_d2556409d8 h182 h190) h180 h181 h182 h183 h184 h185 h186 h191 h192 h189 h190 h187 h188 (meas_lt v_bcd0abe930 (v_03a236858c h149) hm31)
            · refine J_nf (nh2 := nh) (ck2 := 0) (sk2 := 0) (st2 := [.int (zI 0)]) rfl rfl rfl rfl ?_
              refine Z_if_eq (tgt := 78) dX5_compile_47 (by decide) v_b17331891f (fun h195 => ?_) (fun h195 => absurd h195 (fun q => q v_2ca2bbca1f))
              refine J_iload_n dX5_compile_78 rfl rfl ?_
              refine Z_if_eq (tgt := 96) dX5_compile_79 (by decide) (v_5f10a759cd i31_2 i31_3) (fun h196 => absurd h196 (v_d47f715d39 i31_2 h131)) (fun h196 => ?_)
              refine J_aload_n dX5_compile_82 rfl rfl ?_
              refine J_get (v := .int (zI tx_31)) dX5_compile_83 fl_X5_19 rfl rfl ?_
              refine Z_bipush (n := 17) dX5_compile_86 (by decide +kernel) ?_
              refine Z_icmp_eq (tgt := 96) dX5_compile_88 (by decide) (v_96bf6f782e i31_7 i31_8) v_55f4e57ae7 (fun h197 => ?_) (fun h197 => ?_)
              · refine J_aload_n dX5_compile_96 rfl rfl ?_
                refine J_get (v := .int (zI fx_31)) dX5_compile_97 fl_X5_34 rfl rfl ?_
                refine Z_top (b := -1) (v_2204f4773d i31_2 i31_4 i31_5 h131) ?_
                exact J_iret dX5_compile_100 rfl rfl (Nat.le_of_ble_eq_true rfl) (Nat.le_of_ble_eq_true rfl) (Or.inl ⟨tx_31, sx_31, bx_31, vx_31, px_31, zx_31, cx_31, fx_31, rfl, rfl, (v_f0d9d901dd q1 i31_2 i31_6 i31_10 i31_11 h131), i31_16, i31_12, i31_13, i31_7, i31_8, i31_15, (v_2204f4773d i31_2 i31_4 i31_5 h131)⟩)
              · refine J_aload_n dX5_compile_91 rfl rfl ?_
                refine J_callV (st := []) dX5_compile_92 cv_X5_54 (d_wrong ln tx_31 sx_31 bx_31 vx_31 px_31 fx_31 zx_31 i31_9 (v_1adcfdfee5 q1 i31_10 i31_11) rfl) rfl rfl rfl (Nat.le_of_ble_eq_true rfl) ⟨(Nat.le_of_ble_eq_true rfl), (Nat.le_of_ble_eq_true rfl)⟩ ⟨(Nat.le_of_ble_eq_true rfl), (Nat.le_of_ble_eq_true rfl)⟩ (fun r h9 hp => ?_)
                obtain ⟨rfl, rfl⟩ := hp
                refine J_nf (nh2 := nh) (ck2 := 0) (sk2 := 0) (st2 := [.int (zI 0)]) rfl rfl rfl rfl ?_
                refine J_app (L3 := [(54, .inr (5, [.ref 55, .int (zI ln), .int (zI tx_31), .int (zI sx_31), .int (zI bx_31), .int (zI vx_31), .int (zI px_31), .int (zI sx_31), .ref 56, .int (zI zx_31)])), (54, .inr (5, [.ref 55, .int (zI ln), .int (zI tx_31), .int (zI sx_31), .int (zI bx_31), .int (zI vx_31), .int (zI px_31), .int (zI fx_31), .ref 56, .int (zI zx_31)])), (56, .inl (0, 412, .inl (zA cx_31)))]) rfl ?_
                refine J_mask (L2 := [(54, .inr (5, [.ref 55, .int (zI ln), .int (zI tx_31), .int (zI sx_31), .int (zI bx_31), .int (zI vx_31), .int (zI px_31), .int (zI sx_31), .ref 56, .int (zI zx_31)])), (56, .inl (0, 412, .inl (zA cx_31)))]) (ks := [54, 54, 56]) [true, false, true] rfl (by decide +kernel) rfl ?_
                refine J_pop dX5_compile_95 rfl ?_
                refine J_aload_n dX5_compile_96 rfl rfl ?_
                refine J_get (v := .int (zI sx_31)) dX5_compile_97 fl_X5_34 rfl rfl ?_
                exact J_iret dX5_compile_100 rfl rfl (Nat.le_of_ble_eq_true rfl) (Nat.le_of_ble_eq_true rfl) (Or.inr ⟨tx_31, sx_31, bx_31, vx_31, px_31, zx_31, cx_31, sx_31, rfl, rfl, i31_9, (v_1adcfdfee5 q1 i31_10 i31_11), i31_16, i31_17, i31_12, i31_13, i31_7, i31_8, i31_15⟩)
    exact lp31 _ 0 1 z35 z36 z37 z38 z39 z42 z40 f41 v_bbcfac9b7d v_128fe8cba7 v_939070ca3f v_316afd7d0b (v_1ab801cc12 h57) (v_c6d35956d5 h56) (v_d2556409d8 h45 h53) h43 h44 h45 h46 h47 h48 h49 h54 h55 h52 h53 h50 h51 (Nat.lt_succ_self _)
