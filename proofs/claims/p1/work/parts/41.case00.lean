/-! the law's cases -/
set_option maxHeartbeats 4000000 in
set_option maxRecDepth 100000 in
theorem law_case_0 {l : Launch} {G : jG} {b : Nat} {xs : Nat → Int32} (x1 : Int32) (hx1 : xs 1 = x1) (x2 : Int32) (hx2 : xs 2 = x2) : J l G ML_law room_1 (lE b 6 xs G) lQ (135, H0) 135 415506 192 [some (.retAddr 0), some (.ref 0), some (.ref 98), some (.int 0)] [] := by
  have r1 := i32_rng x1
  have r2 := i32_rng x2
  rcases i_cut x1.toInt 0 with h_0 | h_0
  · have b1 : (-2147483648) ≤ x1.toInt ∧ x1.toInt ≤ (-1) := ⟨by omega, by omega⟩
    have b2 : (-2147483648) ≤ x2.toInt ∧ x2.toInt ≤ 2147483647 := ⟨by omega, by omega⟩
    refine J_hc0 ?_
    refine J_aload_n dL_law_192 rfl rfl ?_
    refine J_sload_n dL_law_193 rfl rfl ?_
    refine J_iload_n dL_law_194 rfl rfl ?_
    refine J_iconst (v := 1) dL_law_195 (by decide) ?_
    refine J_iadd (z := 1) dL_law_196 (by decide +kernel) ?_
    refine L_sld (i2 := 1) (v := x1) dL_law_197 (jin (by decide +kernel)) (by decide +kernel) hx1 ?_
    refine J_sload_n dL_law_198 rfl rfl ?_
    refine J_iload_n dL_law_199 rfl rfl ?_
    refine J_iconst (v := 2) dL_law_200 (by decide) ?_
    refine J_iadd (z := 2) dL_law_201 (by decide +kernel) ?_
    refine L_sld (i2 := 2) (v := x2) dL_law_202 (jin (by decide +kernel)) (by decide +kernel) hx2 ?_
    refine J_callV (st := []) dL_law_203 cv_L_13 (c_X11_beans_1 (x1) b1 (x2) b2 H0_0 H0_96) H0_0 rfl rfl (Nat.le_of_ble_eq_true rfl) ⟨(Nat.le_of_ble_eq_true rfl), (Nat.le_of_ble_eq_true rfl)⟩ ⟨(Nat.le_of_ble_eq_true rfl), (Nat.le_of_ble_eq_true rfl)⟩ (fun r h9 hp => ?_)
    obtain ⟨rfl, rfl⟩ := hp
    refine J_nf (nh2 := 135) (ck2 := 135) (sk2 := 415506) (st2 := [.int (-1)]) rfl rfl rfl rfl ?_
    refine J_app (L3 := [(96, .inl (0, 5, .inl (upd (fun _ => 0) 0 1))), (0, .inr (11, [.ref 1, .ref 17, .ref 50, .ref 51, .ref 54, .ref 57, .ref 65, .ref 75, .ref 81, .ref 85, .ref 88, .ref 93, .ref 96, .int (-1), .int (-1), .ref 97, .int 0]))]) rfl ?_
    refine J_aload_n dL_law_206 rfl rfl ?_
    refine J_sload_n dL_law_207 rfl rfl ?_
    refine J_iload_n dL_law_208 rfl rfl ?_
    refine J_iconst (v := 1) dL_law_209 (by decide) ?_
    refine J_iadd (z := 1) dL_law_210 (by decide +kernel) ?_
    refine L_sld (i2 := 1) (v := x1) dL_law_211 (jin (by decide +kernel)) (by decide +kernel) hx1 ?_
    refine J_sload_n dL_law_212 rfl rfl ?_
    refine J_iload_n dL_law_213 rfl rfl ?_
    refine J_iconst (v := 2) dL_law_214 (by decide) ?_
    refine J_iadd (z := 2) dL_law_215 (by decide +kernel) ?_
    refine L_sld (i2 := 2) (v := x2) dL_law_216 (jin (by decide +kernel)) (by decide +kernel) hx2 ?_
    refine J_callV (st := [.int (-1)]) dL_law_217 cv_L_17 (c_X12_beans_1 (x1) b1 (x2) b2 H0_98 H0_99) H0_98 rfl rfl (Nat.le_of_ble_eq_true rfl) ⟨(Nat.le_of_ble_eq_true rfl), (Nat.le_of_ble_eq_true rfl)⟩ ⟨(Nat.le_of_ble_eq_true rfl), (Nat.le_of_ble_eq_true rfl)⟩ (fun r h9 hp => ?_)
    obtain ⟨rfl, rfl⟩ := hp
    refine J_nf (nh2 := 135) (ck2 := 135) (sk2 := 415506) (st2 := [.int (-1), .int (-1)]) rfl rfl rfl rfl ?_
    refine J_app (L3 := [(99, .inl (0, 7, .inl (upd (fun _ => 0) 1 1))), (98, .inr (12, [.int (-1), .int 0, .ref 99, .ref 100, .ref 101, .ref 102, .ref 103, .ref 104, .ref 105, .int 0, .int (-1), .ref 106, .ref 107, .ref 108, .int 0, .int 0, .int 0, .int 0, .int 0, .int 0, .int 0, .ref 109, .int 0, .int 0, .ref 110, .ref 111, .ref 112, .ref 113, .ref 114, .ref 115, .ref 116, .ref 117, .int 0, .int 0, .int (-1), .int (-1), .ref 118, .ref 119, .ref 120, .ref 121, .ref 122, .ref 123, .ref 124, .ref 125, .ref 126, .ref 127, .ref 128, .ref 129, .int 0, .ref 130, .ref 131, .ref 132, .ref 133, .ref 134, .int 0, .int 0])), (96, .inl (0, 5, .inl (upd (fun _ => 0) 0 1))), (0, .inr (11, [.ref 1, .ref 17, .ref 50, .ref 51, .ref 54, .ref 57, .ref 65, .ref 75, .ref 81, .ref 85, .ref 88, .ref 93, .ref 96, .int (-1), .int (-1), .ref 97, .int 0]))]) rfl ?_
    refine J_icmp_eq (tgt := 1221) dL_law_220 (by decide) (fun _ => ?_) (fun q => absurd (by decide +kernel) q)
    exact law_tail (Nat.le_of_ble_eq_true rfl) (Nat.le_of_ble_eq_true rfl)
  · rcases i_cut x1.toInt 5 with h_1 | h_1
    · rcases i_cut x2.toInt 0 with h_2 | h_2
      · have b1 : 0 ≤ x1.toInt ∧ x1.toInt ≤ 4 := ⟨by omega, by omega⟩
        have b2 : (-2147483648) ≤ x2.toInt ∧ x2.toInt ≤ (-1) := ⟨by omega, by omega⟩
        refine J_hc0 ?_
        refine J_aload_n dL_law_192 rfl rfl ?_
        refine J_sload_n dL_law_193 rfl rfl ?_
        refine J_iload_n dL_law_194 rfl rfl ?_
        refine J_iconst (v := 1) dL_law_195 (by decide) ?_
        refine J_iadd (z := 1) dL_law_196 (by decide +kernel) ?_
        refine L_sld (i2 := 1) (v := x1) dL_law_197 (jin (by decide +kernel)) (by decide +kernel) hx1 ?_
        refine J_sload_n dL_law_198 rfl rfl ?_
        refine J_iload_n dL_law_199 rfl rfl ?_
        refine J_iconst (v := 2) dL_law_200 (by decide) ?_
        refine J_iadd (z := 2) dL_law_201 (by decide +kernel) ?_
        refine L_sld (i2 := 2) (v := x2) dL_law_202 (jin (by decide +kernel)) (by decide +kernel) hx2 ?_
        refine J_callV (st := []) dL_law_203 cv_L_13 (c_X11_beans_2 (x1) b1 (x2) b2 H0_0 H0_96) H0_0 rfl rfl (Nat.le_of_ble_eq_true rfl) ⟨(Nat.le_of_ble_eq_true rfl), (Nat.le_of_ble_eq_true rfl)⟩ ⟨(Nat.le_of_ble_eq_true rfl), (Nat.le_of_ble_eq_true rfl)⟩ (fun r h9 hp => ?_)
        obtain ⟨rfl, rfl⟩ := hp
        refine J_nf (nh2 := 135) (ck2 := 135) (sk2 := 415506) (st2 := [.int (-1)]) rfl rfl rfl rfl ?_
        refine J_app (L3 := [(96, .inl (0, 5, .inl (upd (fun _ => 0) 0 1))), (0, .inr (11, [.ref 1, .ref 17, .ref 50, .ref 51, .ref 54, .ref 57, .ref 65, .ref 75, .ref 81, .ref 85, .ref 88, .ref 93, .ref 96, .int (-1), .int (-1), .ref 97, .int 0]))]) rfl ?_
        refine J_aload_n dL_law_206 rfl rfl ?_
        refine J_sload_n dL_law_207 rfl rfl ?_
        refine J_iload_n dL_law_208 rfl rfl ?_
        refine J_iconst (v := 1) dL_law_209 (by decide) ?_
        refine J_iadd (z := 1) dL_law_210 (by decide +kernel) ?_
        refine L_sld (i2 := 1) (v := x1) dL_law_211 (jin (by decide +kernel)) (by decide +kernel) hx1 ?_
        refine J_sload_n dL_law_212 rfl rfl ?_
        refine J_iload_n dL_law_213 rfl rfl ?_
        refine J_iconst (v := 2) dL_law_214 (by decide) ?_
        refine J_iadd (z := 2) dL_law_215 (by decide +kernel) ?_
        refine L_sld (i2 := 2) (v := x2) dL_law_216 (jin (by decide +kernel)) (by decide +kernel) hx2 ?_
        refine J_callV (st := [.int (-1)]) dL_law_217 cv_L_17 (c_X12_beans_2 (x1) b1 (x2) b2 H0_98 H0_99) H0_98 rfl rfl (Nat.le_of_ble_eq_true rfl) ⟨(Nat.le_of_ble_eq_true rfl), (Nat.le_of_ble_eq_true rfl)⟩ ⟨(Nat.le_of_ble_eq_true rfl), (Nat.le_of_ble_eq_true rfl)⟩ (fun r h9 hp => ?_)
        obtain ⟨rfl, rfl⟩ := hp
        refine J_nf (nh2 := 135) (ck2 := 135) (sk2 := 415506) (st2 := [.int (-1), .int (-1)]) rfl rfl rfl rfl ?_
        refine J_app (L3 := [(99, .inl (0, 7, .inl (upd (fun _ => 0) 1 1))), (98, .inr (12, [.int (-1), .int 0, .ref 99, .ref 100, .ref 101, .ref 102, .ref 103, .ref 104, .ref 105, .int 0, .int (-1), .ref 106, .ref 107, .ref 108, .int 0, .int 0, .int 0, .int 0, .int 0, .int 0, .int 0, .ref 109, .int 0, .int 0, .ref 110, .ref 111, .ref 112, .ref 113, .ref 114, .ref 115, .ref 116, .ref 117, .int 0, .int 0, .int (-1), .int (-1), .ref 118, .ref 119, .ref 120, .ref 121, .ref 122, .ref 123, .ref 124, .ref 125, .ref 126, .ref 127, .ref 128, .ref 129, .int 0, .ref 130, .ref 131, .ref 132, .ref 133, .ref 134, .int 0, .int 0])), (96, .inl (0, 5, .inl (upd (fun _ => 0) 0 1))), (0, .inr (11, [.ref 1, .ref 17, .ref 50, .ref 51, .ref 54, .ref 57, .ref 65, .ref 75, .ref 81, .ref 85, .ref 88, .ref 93, .ref 96, .int (-1), .int (-1), .ref 97, .int 0]))]) rfl ?_
        refine J_icmp_eq (tgt := 1221) dL_law_220 (by decide) (fun _ => ?_) (fun q => absurd (by decide +kernel) q)
        exact law_tail (Nat.le_of_ble_eq_true rfl) (Nat.le_of_ble_eq_true rfl)
      · rcases i_cut x2.toInt 8 with h_3 | h_3
        · rcases i_cut x1.toInt 1 with h_4 | h_4
          · rcases i_cut x2.toInt 1 with h_5 | h_5
            · obtain rfl : x1 = 0 := by rw [fa_eq, kc_0]; omega
              obtain rfl : x2 = 0 := by rw [fa_eq, kc_0]; omega
              refine J_hc0 ?_
              refine J_aload_n dL_law_192 rfl rfl ?_
              refine J_sload_n dL_law_193 rfl rfl ?_
              refine J_iload_n dL_law_194 rfl rfl ?_
              refine J_iconst (v := 1) dL_law_195 (by decide) ?_
              refine J_iadd (z := 1) dL_law_196 (by decide +kernel) ?_
              refine L_sld (i2 := 1) (v := 0) dL_law_197 (jin (by decide +kernel)) (by decide +kernel) hx1 ?_
              refine J_sload_n dL_law_198 rfl rfl ?_
              refine J_iload_n dL_law_199 rfl rfl ?_
              refine J_iconst (v := 2) dL_law_200 (by decide) ?_
              refine J_iadd (z := 2) dL_law_201 (by decide +kernel) ?_
              refine L_sld (i2 := 2) (v := 0) dL_law_202 (jin (by decide +kernel)) (by decide +kernel) hx2 ?_
              refine J_callV (st := []) dL_law_203 cv_L_13 (c_X11_beans_3 H0_0 H0_1 H0_2 H0_51 H0_52 H0_57) H0_0 rfl rfl (Nat.le_of_ble_eq_true rfl) ⟨(Nat.le_of_ble_eq_true rfl), (Nat.le_of_ble_eq_true rfl)⟩ ⟨(Nat.le_of_ble_eq_true rfl), (Nat.le_of_ble_eq_true rfl)⟩ (fun r h9 hp => ?_)
              obtain ⟨rfl, rfl⟩ := hp
              refine J_nf (nh2 := 135) (ck2 := 135) (sk2 := 415506) (st2 := [.int 0]) rfl rfl rfl rfl ?_
              refine J_app (L3 := [(0, .inr (11, [.ref 1, .ref 17, .ref 50, .ref 51, .ref 54, .ref 57, .ref 65, .ref 75, .ref 81, .ref 85, .ref 88, .ref 93, .ref 96, .int 0, .int (-1), .ref 97, .int 0])), (57, .inr (9, [.ref 1, .ref 51, .ref 58, .ref 61, .ref 62, .ref 63, .ref 64, .int 1, .int 1, .int 1])), (1, .inr (8, [.ref 2, .ref 3, .ref 4, .int 0, .int (-1), .ref 11, .ref 12, .int 0, .ref 13, .ref 14, .int 0, .ref 15, .ref 16, .int 0])), (51, .inr (0, [.ref 52, .ref 53, .int 1, .int 0])), (52, .inl (0, 1260, .inl (upd (upd (fun _ => 0) 0 0) 0 0))), (2, .inl (0, 5, .inl (upd (fun _ => 0) 0 0)))]) rfl ?_
              refine J_aload_n dL_law_206 rfl rfl ?_
              refine J_sload_n dL_law_207 rfl rfl ?_
              refine J_iload_n dL_law_208 rfl rfl ?_
              refine J_iconst (v := 1) dL_law_209 (by decide) ?_
              refine J_iadd (z := 1) dL_law_210 (by decide +kernel) ?_
              refine L_sld (i2 := 1) (v := 0) dL_law_211 (jin (by decide +kernel)) (by decide +kernel) hx1 ?_
              refine J_sload_n dL_law_212 rfl rfl ?_
              refine J_iload_n dL_law_213 rfl rfl ?_
              refine J_iconst (v := 2) dL_law_214 (by decide) ?_
              refine J_iadd (z := 2) dL_law_215 (by decide +kernel) ?_
              refine L_sld (i2 := 2) (v := 0) dL_law_216 (jin (by decide +kernel)) (by decide +kernel) hx2 ?_
              refine J_callV (st := [.int 0]) dL_law_217 cv_L_17 (c_X12_beans_3 H0_98 H0_100) H0_98 rfl rfl (Nat.le_of_ble_eq_true rfl) ⟨(Nat.le_of_ble_eq_true rfl), (Nat.le_of_ble_eq_true rfl)⟩ ⟨(Nat.le_of_ble_eq_true rfl), (Nat.le_of_ble_eq_true rfl)⟩ (fun r h9 hp => ?_)
              obtain ⟨rfl, rfl⟩ := hp
              refine J_nf (nh2 := 135) (ck2 := 135) (sk2 := 415506) (st2 := [.int 0, .int 0]) rfl rfl rfl rfl ?_
              refine J_app (L3 := [(98, .inr (12, [.int 0, .int 1, .ref 99, .ref 100, .ref 101, .ref 102, .ref 103, .ref 104, .ref 105, .int 0, .int (-1), .ref 106, .ref 107, .ref 108, .int 0, .int 0, .int 0, .int 0, .int 0, .int 0, .int 0, .ref 109, .int 0, .int 0, .ref 110, .ref 111, .ref 112, .ref 113, .ref 114, .ref 115, .ref 116, .ref 117, .int 0, .int 0, .int (-1), .int (-1), .ref 118, .ref 119, .ref 120, .ref 121, .ref 122, .ref 123, .ref 124, .ref 125, .ref 126, .ref 127, .ref 128, .ref 129, .int 0, .ref 130, .ref 131, .ref 132, .ref 133, .ref 134, .int 0, .int 0])), (100, .inl (0, 4870, .inl (upd (upd (upd (upd (upd (fun _ => 0) 63 (-1)) 0 0) 59 0) 61 0) 60 0))), (0, .inr (11, [.ref 1, .ref 17, .ref 50, .ref 51, .ref 54, .ref 57, .ref 65, .ref 75, .ref 81, .ref 85, .ref 88, .ref 93, .ref 96, .int 0, .int (-1), .ref 97, .int 0])), (57, .inr (9, [.ref 1, .ref 51, .ref 58, .ref 61, .ref 62, .ref 63, .ref 64, .int 1, .int 1, .int 1])), (1, .inr (8, [.ref 2, .ref 3, .ref 4, .int 0, .int (-1), .ref 11, .ref 12, .int 0, .ref 13, .ref 14, .int 0, .ref 15, .ref 16, .int 0])), (51, .inr (0, [.ref 52, .ref 53, .int 1, .int 0])), (52, .inl (0, 1260, .inl (upd (upd (fun _ => 0) 0 0) 0 0))), (2, .inl (0, 5, .inl (upd (fun _ => 0) 0 0)))]) rfl ?_
              refine J_icmp_eq (tgt := 1221) dL_law_220 (by decide) (fun _ => ?_) (fun q => absurd (by decide +kernel) q)
              exact law_tail (Nat.le_of_ble_eq_true rfl) (Nat.le_of_ble_eq_true rfl)
            · rcases i_cut x2.toInt 2 with h_6 | h_6
              · obtain rfl : x1 = 0 := by rw [fa_eq, kc_0]; omega
                obtain rfl : x2 = 1 := by rw [fa_eq, kc_1]; omega
                refine J_hc0 ?_
                refine J_aload_n dL_law_192 rfl rfl ?_
                refine J_sload_n dL_law_193 rfl rfl ?_
                refine J_iload_n dL_law_194 rfl rfl ?_
                refine J_iconst (v := 1) dL_law_195 (by decide) ?_
                refine J_iadd (z := 1) dL_law_196 (by decide +kernel) ?_
                refine L_sld (i2 := 1) (v := 0) dL_law_197 (jin (by decide +kernel)) (by decide +kernel) hx1 ?_
                refine J_sload_n dL_law_198 rfl rfl ?_
                refine J_iload_n dL_law_199 rfl rfl ?_
                refine J_iconst (v := 2) dL_law_200 (by decide) ?_
                refine J_iadd (z := 2) dL_law_201 (by decide +kernel) ?_
                refine L_sld (i2 := 2) (v := 1) dL_law_202 (jin (by decide +kernel)) (by decide +kernel) hx2 ?_
                refine J_callV (st := []) dL_law_203 cv_L_13 (c_X11_beans_4 H0_0 H0_1 H0_2 H0_51 H0_52 H0_53 H0_57) H0_0 rfl rfl (Nat.le_of_ble_eq_true rfl) ⟨(Nat.le_of_ble_eq_true rfl), (Nat.le_of_ble_eq_true rfl)⟩ ⟨(Nat.le_of_ble_eq_true rfl), (Nat.le_of_ble_eq_true rfl)⟩ (fun r h9 hp => ?_)
                obtain ⟨rfl, rfl⟩ := hp
                refine J_nf (nh2 := 135) (ck2 := 135) (sk2 := 415506) (st2 := [.int 0]) rfl rfl rfl rfl ?_
                refine J_app (L3 := [(0, .inr (11, [.ref 1, .ref 17, .ref 50, .ref 51, .ref 54, .ref 57, .ref 65, .ref 75, .ref 81, .ref 85, .ref 88, .ref 93, .ref 96, .int 0, .int (-1), .ref 97, .int 0])), (57, .inr (9, [.ref 1, .ref 51, .ref 58, .ref 61, .ref 62, .ref 63, .ref 64, .int 1, .int 1, .int 1])), (1, .inr (8, [.ref 2, .ref 3, .ref 4, .int 0, .int (-1), .ref 11, .ref 12, .int 0, .ref 13, .ref 14, .int 0, .ref 15, .ref 16, .int 0])), (51, .inr (0, [.ref 52, .ref 53, .int 1, .int 1])), (52, .inl (0, 1260, .inl (upd (upd (fun _ => 0) 0 0) 0 0))), (53, .inl (0, 7, .inl (upd (fun _ => 0) 0 0))), (2, .inl (0, 5, .inl (upd (fun _ => 0) 0 1)))]) rfl ?_
                refine J_aload_n dL_law_206 rfl rfl ?_
                refine J_sload_n dL_law_207 rfl rfl ?_
                refine J_iload_n dL_law_208 rfl rfl ?_
                refine J_iconst (v := 1) dL_law_209 (by decide) ?_
                refine J_iadd (z := 1) dL_law_210 (by decide +kernel) ?_
                refine L_sld (i2 := 1) (v := 0) dL_law_211 (jin (by decide +kernel)) (by decide +kernel) hx1 ?_
                refine J_sload_n dL_law_212 rfl rfl ?_
                refine J_iload_n dL_law_213 rfl rfl ?_
                refine J_iconst (v := 2) dL_law_214 (by decide) ?_
                refine J_iadd (z := 2) dL_law_215 (by decide +kernel) ?_
                refine L_sld (i2 := 2) (v := 1) dL_law_216 (jin (by decide +kernel)) (by decide +kernel) hx2 ?_
                refine J_callV (st := [.int 0]) dL_law_217 cv_L_17 (c_X12_beans_4 H0_98 H0_100) H0_98 rfl rfl (Nat.le_of_ble_eq_true rfl) ⟨(Nat.le_of_ble_eq_true rfl), (Nat.le_of_ble_eq_true rfl)⟩ ⟨(Nat.le_of_ble_eq_true rfl), (Nat.le_of_ble_eq_true rfl)⟩ (fun r h9 hp => ?_)
                obtain ⟨rfl, rfl⟩ := hp
                refine J_nf (nh2 := 135) (ck2 := 135) (sk2 := 415506) (st2 := [.int 0, .int 0]) rfl rfl rfl rfl ?_
                refine J_app (L3 := [(98, .inr (12, [.int 0, .int 1, .ref 99, .ref 100, .ref 101, .ref 102, .ref 103, .ref 104, .ref 105, .int 0, .int (-1), .ref 106, .ref 107, .ref 108, .int 0, .int 0, .int 0, .int 0, .int 0, .int 0, .int 0, .ref 109, .int 0, .int 0, .ref 110, .ref 111, .ref 112, .ref 113, .ref 114, .ref 115, .ref 116, .ref 117, .int 0, .int 0, .int (-1), .int (-1), .ref 118, .ref 119, .ref 120, .ref 121, .ref 122, .ref 123, .ref 124, .ref 125, .ref 126, .ref 127, .ref 128, .ref 129, .int 0, .ref 130, .ref 131, .ref 132, .ref 133, .ref 134, .int 0, .int 0])), (100, .inl (0, 4870, .inl (upd (upd (upd (upd (upd (fun _ => 0) 63 (-1)) 0 1) 59 0) 61 0) 60 0))), (0, .inr (11, [.ref 1, .ref 17, .ref 50, .ref 51, .ref 54, .ref 57, .ref 65, .ref 75, .ref 81, .ref 85, .ref 88, .ref 93, .ref 96, .int 0, .int (-1), .ref 97, .int 0])), (57, .inr (9, [.ref 1, .ref 51, .ref 58, .ref 61, .ref 62, .ref 63, .ref 64, .int 1, .int 1, .int 1])), (1, .inr (8, [.ref 2, .ref 3, .ref 4, .int 0, .int (-1), .ref 11, .ref 12, .int 0, .ref 13, .ref 14, .int 0, .ref 15, .ref 16, .int 0])), (51, .inr (0, [.ref 52, .ref 53, .int 1, .int 1])), (52, .inl (0, 1260, .inl (upd (upd (fun _ => 0) 0 0) 0 0))), (53, .inl (0, 7, .inl (upd (fun _ => 0) 0 0))), (2, .inl (0, 5, .inl (upd (fun _ => 0) 0 1)))]) rfl ?_
                refine J_icmp_eq (tgt := 1221) dL_law_220 (by decide) (fun _ => ?_) (fun q => absurd (by decide +kernel) q)
                exact law_tail (Nat.le_of_ble_eq_true rfl) (Nat.le_of_ble_eq_true rfl)
              · rcases i_cut x2.toInt 3 with h_7 | h_7
                · obtain rfl : x1 = 0 := by rw [fa_eq, kc_0]; omega
                  obtain rfl : x2 = 2 := by rw [fa_eq, kc_2]; omega
                  refine J_hc0 ?_
                  refine J_aload_n dL_law_192 rfl rfl ?_
                  refine J_sload_n dL_law_193 rfl rfl ?_
                  refine J_iload_n dL_law_194 rfl rfl ?_
                  refine J_iconst (v := 1) dL_law_195 (by decide) ?_
                  refine J_iadd (z := 1) dL_law_196 (by decide +kernel) ?_
                  refine L_sld (i2 := 1) (v := 0) dL_law_197 (jin (by decide +kernel)) (by decide +kernel) hx1 ?_
                  refine J_sload_n dL_law_198 rfl rfl ?_
                  refine J_iload_n dL_law_199 rfl rfl ?_
                  refine J_iconst (v := 2) dL_law_200 (by decide) ?_
                  refine J_iadd (z := 2) dL_law_201 (by decide +kernel) ?_
                  refine L_sld (i2 := 2) (v := 2) dL_law_202 (jin (by decide +kernel)) (by decide +kernel) hx2 ?_
                  refine J_callV (st := []) dL_law_203 cv_L_13 (c_X11_beans_5 H0_0 H0_1 H0_2 H0_51 H0_52 H0_53 H0_57) H0_0 rfl rfl (Nat.le_of_ble_eq_true rfl) ⟨(Nat.le_of_ble_eq_true rfl), (Nat.le_of_ble_eq_true rfl)⟩ ⟨(Nat.le_of_ble_eq_true rfl), (Nat.le_of_ble_eq_true rfl)⟩ (fun r h9 hp => ?_)
                  obtain ⟨rfl, rfl⟩ := hp
                  refine J_nf (nh2 := 135) (ck2 := 135) (sk2 := 415506) (st2 := [.int 0]) rfl rfl rfl rfl ?_
                  refine J_app (L3 := [(0, .inr (11, [.ref 1, .ref 17, .ref 50, .ref 51, .ref 54, .ref 57, .ref 65, .ref 75, .ref 81, .ref 85, .ref 88, .ref 93, .ref 96, .int 0, .int (-1), .ref 97, .int 0])), (57, .inr (9, [.ref 1, .ref 51, .ref 58, .ref 61, .ref 62, .ref 63, .ref 64, .int 1, .int 1, .int 1])), (1, .inr (8, [.ref 2, .ref 3, .ref 4, .int 0, .int (-1), .ref 11, .ref 12, .int 0, .ref 13, .ref 14, .int 0, .ref 15, .ref 16, .int 0])), (51, .inr (0, [.ref 52, .ref 53, .int 1, .int 2])), (52, .inl (0, 1260, .inl (upd (upd (fun _ => 0) 0 0) 0 0))), (53, .inl (0, 7, .inl (upd (upd (fun _ => 0) 0 0) 1 0))), (2, .inl (0, 5, .inl (upd (fun _ => 0) 0 2)))]) rfl ?_
                  refine J_aload_n dL_law_206 rfl rfl ?_
                  refine J_sload_n dL_law_207 rfl rfl ?_
                  refine J_iload_n dL_law_208 rfl rfl ?_
                  refine J_iconst (v := 1) dL_law_209 (by decide) ?_
                  refine J_iadd (z := 1) dL_law_210 (by decide +kernel) ?_
                  refine L_sld (i2 := 1) (v := 0) dL_law_211 (jin (by decide +kernel)) (by decide +kernel) hx1 ?_
                  refine J_sload_n dL_law_212 rfl rfl ?_
                  refine J_iload_n dL_law_213 rfl rfl ?_
                  refine J_iconst (v := 2) dL_law_214 (by decide) ?_
                  refine J_iadd (z := 2) dL_law_215 (by decide +kernel) ?_
                  refine L_sld (i2 := 2) (v := 2) dL_law_216 (jin (by decide +kernel)) (by decide +kernel) hx2 ?_
                  refine J_callV (st := [.int 0]) dL_law_217 cv_L_17 (c_X12_beans_5 H0_98 H0_100) H0_98 rfl rfl (Nat.le_of_ble_eq_true rfl) ⟨(Nat.le_of_ble_eq_true rfl), (Nat.le_of_ble_eq_true rfl)⟩ ⟨(Nat.le_of_ble_eq_true rfl), (Nat.le_of_ble_eq_true rfl)⟩ (fun r h9 hp => ?_)
                  obtain ⟨rfl, rfl⟩ := hp
                  refine J_nf (nh2 := 135) (ck2 := 135) (sk2 := 415506) (st2 := [.int 0, .int 0]) rfl rfl rfl rfl ?_
                  refine J_app (L3 := [(98, .inr (12, [.int 0, .int 1, .ref 99, .ref 100, .ref 101, .ref 102, .ref 103, .ref 104, .ref 105, .int 0, .int (-1), .ref 106, .ref 107, .ref 108, .int 0, .int 0, .int 0, .int 0, .int 0, .int 0, .int 0, .ref 109, .int 0, .int 0, .ref 110, .ref 111, .ref 112, .ref 113, .ref 114, .ref 115, .ref 116, .ref 117, .int 0, .int 0, .int (-1), .int (-1), .ref 118, .ref 119, .ref 120, .ref 121, .ref 122, .ref 123, .ref 124, .ref 125, .ref 126, .ref 127, .ref 128, .ref 129, .int 0, .ref 130, .ref 131, .ref 132, .ref 133, .ref 134, .int 0, .int 0])), (100, .inl (0, 4870, .inl (upd (upd (upd (upd (upd (fun _ => 0) 63 (-1)) 0 2) 59 0) 61 0) 60 0))), (0, .inr (11, [.ref 1, .ref 17, .ref 50, .ref 51, .ref 54, .ref 57, .ref 65, .ref 75, .ref 81, .ref 85, .ref 88, .ref 93, .ref 96, .int 0, .int (-1), .ref 97, .int 0])), (57, .inr (9, [.ref 1, .ref 51, .ref 58, .ref 61, .ref 62, .ref 63, .ref 64, .int 1, .int 1, .int 1])), (1, .inr (8, [.ref 2, .ref 3, .ref 4, .int 0, .int (-1), .ref 11, .ref 12, .int 0, .ref 13, .ref 14, .int 0, .ref 15, .ref 16, .int 0])), (51, .inr (0, [.ref 52, .ref 53, .int 1, .int 2])), (52, .inl (0, 1260, .inl (upd (upd (fun _ => 0) 0 0) 0 0))), (53, .inl (0, 7, .inl (upd (upd (fun _ => 0) 0 0) 1 0))), (2, .inl (0, 5, .inl (upd (fun _ => 0) 0 2)))]) rfl ?_
                  refine J_icmp_eq (tgt := 1221) dL_law_220 (by decide) (fun _ => ?_) (fun q => absurd (by decide +kernel) q)
                  exact law_tail (Nat.le_of_ble_eq_true rfl) (Nat.le_of_ble_eq_true rfl)
                · rcases i_cut x2.toInt 4 with h_8 | h_8
                  · obtain rfl : x1 = 0 := by rw [fa_eq, kc_0]; omega
                    obtain rfl : x2 = 3 := by rw [fa_eq, kc_3]; omega
                    refine J_hc0 ?_
                    refine J_aload_n dL_law_192 rfl rfl ?_
                    refine J_sload_n dL_law_193 rfl rfl ?_
                    refine J_iload_n dL_law_194 rfl rfl ?_
                    refine J_iconst (v := 1) dL_law_195 (by decide) ?_
                    refine J_iadd (z := 1) dL_law_196 (by decide +kernel) ?_
                    refine L_sld (i2 := 1) (v := 0) dL_law_197 (jin (by decide +kernel)) (by decide +kernel) hx1 ?_
                    refine J_sload_n dL_law_198 rfl rfl ?_
                    refine J_iload_n dL_law_199 rfl rfl ?_
                    refine J_iconst (v := 2) dL_law_200 (by decide) ?_
                    refine J_iadd (z := 2) dL_law_201 (by decide +kernel) ?_
                    refine L_sld (i2 := 2) (v := 3) dL_law_202 (jin (by decide +kernel)) (by decide +kernel) hx2 ?_
                    refine J_callV (st := []) dL_law_203 cv_L_13 (c_X11_beans_6 H0_0 H0_1 H0_2 H0_51 H0_52 H0_53 H0_57) H0_0 rfl rfl (Nat.le_of_ble_eq_true rfl) ⟨(Nat.le_of_ble_eq_true rfl), (Nat.le_of_ble_eq_true rfl)⟩ ⟨(Nat.le_of_ble_eq_true rfl), (Nat.le_of_ble_eq_true rfl)⟩ (fun r h9 hp => ?_)
                    obtain ⟨rfl, rfl⟩ := hp
                    refine J_nf (nh2 := 135) (ck2 := 135) (sk2 := 415506) (st2 := [.int 0]) rfl rfl rfl rfl ?_
                    refine J_app (L3 := [(0, .inr (11, [.ref 1, .ref 17, .ref 50, .ref 51, .ref 54, .ref 57, .ref 65, .ref 75, .ref 81, .ref 85, .ref 88, .ref 93, .ref 96, .int 0, .int (-1), .ref 97, .int 0])), (57, .inr (9, [.ref 1, .ref 51, .ref 58, .ref 61, .ref 62, .ref 63, .ref 64, .int 1, .int 1, .int 1])), (1, .inr (8, [.ref 2, .ref 3, .ref 4, .int 0, .int (-1), .ref 11, .ref 12, .int 0, .ref 13, .ref 14, .int 0, .ref 15, .ref 16, .int 0])), (51, .inr (0, [.ref 52, .ref 53, .int 1, .int 3])), (52, .inl (0, 1260, .inl (upd (upd (fun _ => 0) 0 0) 0 0))), (53, .inl (0, 7, .inl (upd (upd (upd (fun _ => 0) 0 0) 1 0) 2 0))), (2, .inl (0, 5, .inl (upd (fun _ => 0) 0 3)))]) rfl ?_
                    refine J_aload_n dL_law_206 rfl rfl ?_
                    refine J_sload_n dL_law_207 rfl rfl ?_
                    refine J_iload_n dL_law_208 rfl rfl ?_
                    refine J_iconst (v := 1) dL_law_209 (by decide) ?_
                    refine J_iadd (z := 1) dL_law_210 (by decide +kernel) ?_
                    refine L_sld (i2 := 1) (v := 0) dL_law_211 (jin (by decide +kernel)) (by decide +kernel) hx1 ?_
                    refine J_sload_n dL_law_212 rfl rfl ?_
                    refine J_iload_n dL_law_213 rfl rfl ?_
                    refine J_iconst (v := 2) dL_law_214 (by decide) ?_
                    refine J_iadd (z := 2) dL_law_215 (by decide +kernel) ?_
                    refine L_sld (i2 := 2) (v := 3) dL_law_216 (jin (by decide +kernel)) (by decide +kernel) hx2 ?_
                    refine J_callV (st := [.int 0]) dL_law_217 cv_L_17 (c_X12_beans_6 H0_98 H0_100) H0_98 rfl rfl (Nat.le_of_ble_eq_true rfl) ⟨(Nat.le_of_ble_eq_true rfl), (Nat.le_of_ble_eq_true rfl)⟩ ⟨(Nat.le_of_ble_eq_true rfl), (Nat.le_of_ble_eq_true rfl)⟩ (fun r h9 hp => ?_)
                    obtain ⟨rfl, rfl⟩ := hp
                    refine J_nf (nh2 := 135) (ck2 := 135) (sk2 := 415506) (st2 := [.int 0, .int 0]) rfl rfl rfl rfl ?_
                    refine J_app (L3 := [(98, .inr (12, [.int 0, .int 1, .ref 99, .ref 100, .ref 101, .ref 102, .ref 103, .ref 104, .ref 105, .int 0, .int (-1), .ref 106, .ref 107, .ref 108, .int 0, .int 0, .int 0, .int 0, .int 0, .int 0, .int 0, .ref 109, .int 0, .int 0, .ref 110, .ref 111, .ref 112, .ref 113, .ref 114, .ref 115, .ref 116, .ref 117, .int 0, .int 0, .int (-1), .int (-1), .ref 118, .ref 119, .ref 120, .ref 121, .ref 122, .ref 123, .ref 124, .ref 125, .ref 126, .ref 127, .ref 128, .ref 129, .int 0, .ref 130, .ref 131, .ref 132, .ref 133, .ref 134, .int 0, .int 0])), (100, .inl (0, 4870, .inl (upd (upd (upd (upd (upd (fun _ => 0) 63 (-1)) 0 3) 59 0) 61 0) 60 0))), (0, .inr (11, [.ref 1, .ref 17, .ref 50, .ref 51, .ref 54, .ref 57, .ref 65, .ref 75, .ref 81, .ref 85, .ref 88, .ref 93, .ref 96, .int 0, .int (-1), .ref 97, .int 0])), (57, .inr (9, [.ref 1, .ref 51, .ref 58, .ref 61, .ref 62, .ref 63, .ref 64, .int 1, .int 1, .int 1])), (1, .inr (8, [.ref 2, .ref 3, .ref 4, .int 0, .int (-1), .ref 11, .ref 12, .int 0, .ref 13, .ref 14, .int 0, .ref 15, .ref 16, .int 0])), (51, .inr (0, [.ref 52, .ref 53, .int 1, .int 3])), (52, .inl (0, 1260, .inl (upd (upd (fun _ => 0) 0 0) 0 0))), (53, .inl (0, 7, .inl (upd (upd (upd (fun _ => 0) 0 0) 1 0) 2 0))), (2, .inl (0, 5, .inl (upd (fun _ => 0) 0 3)))]) rfl ?_
                    refine J_icmp_eq (tgt := 1221) dL_law_220 (by decide) (fun _ => ?_) (fun q => absurd (by decide +kernel) q)
                    exact law_tail (Nat.le_of_ble_eq_true rfl) (Nat.le_of_ble_eq_true rfl)
                  · rcases i_cut x2.toInt 5 with h_9 | h_9
                    · obtain rfl : x1 = 0 := by rw [fa_eq, kc_0]; omega
                      obtain rfl : x2 = 4 := by rw [fa_eq, kc_4]; omega
                      refine J_hc0 ?_
                      refine J_aload_n dL_law_192 rfl rfl ?_
                      refine J_sload_n dL_law_193 rfl rfl ?_
                      refine J_iload_n dL_law_194 rfl rfl ?_
                      refine J_iconst (v := 1) dL_law_195 (by decide) ?_
                      refine J_iadd (z := 1) dL_law_196 (by decide +kernel) ?_
                      refine L_sld (i2 := 1) (v := 0) dL_law_197 (jin (by decide +kernel)) (by decide +kernel) hx1 ?_
                      refine J_sload_n dL_law_198 rfl rfl ?_
                      refine J_iload_n dL_law_199 rfl rfl ?_
                      refine J_iconst (v := 2) dL_law_200 (by decide) ?_
                      refine J_iadd (z := 2) dL_law_201 (by decide +kernel) ?_
                      refine L_sld (i2 := 2) (v := 4) dL_law_202 (jin (by decide +kernel)) (by decide +kernel) hx2 ?_
                      refine J_callV (st := []) dL_law_203 cv_L_13 (c_X11_beans_7 H0_0 H0_1 H0_2 H0_51 H0_52 H0_53 H0_57) H0_0 rfl rfl (Nat.le_of_ble_eq_true rfl) ⟨(Nat.le_of_ble_eq_true rfl), (Nat.le_of_ble_eq_true rfl)⟩ ⟨(Nat.le_of_ble_eq_true rfl), (Nat.le_of_ble_eq_true rfl)⟩ (fun r h9 hp => ?_)
                      obtain ⟨rfl, rfl⟩ := hp
                      refine J_nf (nh2 := 135) (ck2 := 135) (sk2 := 415506) (st2 := [.int 0]) rfl rfl rfl rfl ?_
                      refine J_app (L3 := [(0, .inr (11, [.ref 1, .ref 17, .ref 50, .ref 51, .ref 54, .ref 57, .ref 65, .ref 75, .ref 81, .ref 85, .ref 88, .ref 93, .ref 96, .int 0, .int (-1), .ref 97, .int 0])), (57, .inr (9, [.ref 1, .ref 51, .ref 58, .ref 61, .ref 62, .ref 63, .ref 64, .int 1, .int 1, .int 1])), (1, .inr (8, [.ref 2, .ref 3, .ref 4, .int 0, .int (-1), .ref 11, .ref 12, .int 0, .ref 13, .ref 14, .int 0, .ref 15, .ref 16, .int 0])), (51, .inr (0, [.ref 52, .ref 53, .int 1, .int 4])), (52, .inl (0, 1260, .inl (upd (upd (fun _ => 0) 0 0) 0 0))), (53, .inl (0, 7, .inl (upd (upd (upd (upd (fun _ => 0) 0 0) 1 0) 2 0) 3 0))), (2, .inl (0, 5, .inl (upd (fun _ => 0) 0 4)))]) rfl ?_
                      refine J_aload_n dL_law_206 rfl rfl ?_
                      refine J_sload_n dL_law_207 rfl rfl ?_
                      refine J_iload_n dL_law_208 rfl rfl ?_
                      refine J_iconst (v := 1) dL_law_209 (by decide) ?_
                      refine J_iadd (z := 1) dL_law_210 (by decide +kernel) ?_
                      refine L_sld (i2 := 1) (v := 0) dL_law_211 (jin (by decide +kernel)) (by decide +kernel) hx1 ?_
                      refine J_sload_n dL_law_212 rfl rfl ?_
                      refine J_iload_n dL_law_213 rfl rfl ?_
                      refine J_iconst (v := 2) dL_law_214 (by decide) ?_
                      refine J_iadd (z := 2) dL_law_215 (by decide +kernel) ?_
                      refine L_sld (i2 := 2) (v := 4) dL_law_216 (jin (by decide +kernel)) (by decide +kernel) hx2 ?_
                      refine J_callV (st := [.int 0]) dL_law_217 cv_L_17 (c_X12_beans_7 H0_98 H0_100) H0_98 rfl rfl (Nat.le_of_ble_eq_true rfl) ⟨(Nat.le_of_ble_eq_true rfl), (Nat.le_of_ble_eq_true rfl)⟩ ⟨(Nat.le_of_ble_eq_true rfl), (Nat.le_of_ble_eq_true rfl)⟩ (fun r h9 hp => ?_)
                      obtain ⟨rfl, rfl⟩ := hp
                      refine J_nf (nh2 := 135) (ck2 := 135) (sk2 := 415506) (st2 := [.int 0, .int 0]) rfl rfl rfl rfl ?_
                      refine J_app (L3 := [(98, .inr (12, [.int 0, .int 1, .ref 99, .ref 100, .ref 101, .ref 102, .ref 103, .ref 104, .ref 105, .int 0, .int (-1), .ref 106, .ref 107, .ref 108, .int 0, .int 0, .int 0, .int 0, .int 0, .int 0, .int 0, .ref 109, .int 0, .int 0, .ref 110, .ref 111, .ref 112, .ref 113, .ref 114, .ref 115, .ref 116, .ref 117, .int 0, .int 0, .int (-1), .int (-1), .ref 118, .ref 119, .ref 120, .ref 121, .ref 122, .ref 123, .ref 124, .ref 125, .ref 126, .ref 127, .ref 128, .ref 129, .int 0, .ref 130, .ref 131, .ref 132, .ref 133, .ref 134, .int 0, .int 0])), (100, .inl (0, 4870, .inl (upd (upd (upd (upd (upd (fun _ => 0) 63 (-1)) 0 4) 59 0) 61 0) 60 0))), (0, .inr (11, [.ref 1, .ref 17, .ref 50, .ref 51, .ref 54, .ref 57, .ref 65, .ref 75, .ref 81, .ref 85, .ref 88, .ref 93, .ref 96, .int 0, .int (-1), .ref 97, .int 0])), (57, .inr (9, [.ref 1, .ref 51, .ref 58, .ref 61, .ref 62, .ref 63, .ref 64, .int 1, .int 1, .int 1])), (1, .inr (8, [.ref 2, .ref 3, .ref 4, .int 0, .int (-1), .ref 11, .ref 12, .int 0, .ref 13, .ref 14, .int 0, .ref 15, .ref 16, .int 0])), (51, .inr (0, [.ref 52, .ref 53, .int 1, .int 4])), (52, .inl (0, 1260, .inl (upd (upd (fun _ => 0) 0 0) 0 0))), (53, .inl (0, 7, .inl (upd (upd (upd (upd (fun _ => 0) 0 0) 1 0) 2 0) 3 0))), (2, .inl (0, 5, .inl (upd (fun _ => 0) 0 4)))]) rfl ?_
                      refine J_icmp_eq (tgt := 1221) dL_law_220 (by decide) (fun _ => ?_) (fun q => absurd (by decide +kernel) q)
                      exact law_tail (Nat.le_of_ble_eq_true rfl) (Nat.le_of_ble_eq_true rfl)
                    · rcases i_cut x2.toInt 6 with h_10 | h_10
                      · obtain rfl : x1 = 0 := by rw [fa_eq, kc_0]; omega
                        obtain rfl : x2 = 5 := by rw [fa_eq, kc_5]; omega
                        refine J_hc0 ?_
                        refine J_aload_n dL_law_192 rfl rfl ?_
                        refine J_sload_n dL_law_193 rfl rfl ?_
                        refine J_iload_n dL_law_194 rfl rfl ?_
                        refine J_iconst (v := 1) dL_law_195 (by decide) ?_
                        refine J_iadd (z := 1) dL_law_196 (by decide +kernel) ?_
                        refine L_sld (i2 := 1) (v := 0) dL_law_197 (jin (by decide +kernel)) (by decide +kernel) hx1 ?_
                        refine J_sload_n dL_law_198 rfl rfl ?_
                        refine J_iload_n dL_law_199 rfl rfl ?_
                        refine J_iconst (v := 2) dL_law_200 (by decide) ?_
                        refine J_iadd (z := 2) dL_law_201 (by decide +kernel) ?_
                        refine L_sld (i2 := 2) (v := 5) dL_law_202 (jin (by decide +kernel)) (by decide +kernel) hx2 ?_
                        refine J_callV (st := []) dL_law_203 cv_L_13 (c_X11_beans_8 H0_0 H0_1 H0_2 H0_51 H0_52 H0_53 H0_57) H0_0 rfl rfl (Nat.le_of_ble_eq_true rfl) ⟨(Nat.le_of_ble_eq_true rfl), (Nat.le_of_ble_eq_true rfl)⟩ ⟨(Nat.le_of_ble_eq_true rfl), (Nat.le_of_ble_eq_true rfl)⟩ (fun r h9 hp => ?_)
                        obtain ⟨rfl, rfl⟩ := hp
                        refine J_nf (nh2 := 135) (ck2 := 135) (sk2 := 415506) (st2 := [.int 0]) rfl rfl rfl rfl ?_
                        refine J_app (L3 := [(0, .inr (11, [.ref 1, .ref 17, .ref 50, .ref 51, .ref 54, .ref 57, .ref 65, .ref 75, .ref 81, .ref 85, .ref 88, .ref 93, .ref 96, .int 0, .int (-1), .ref 97, .int 0])), (57, .inr (9, [.ref 1, .ref 51, .ref 58, .ref 61, .ref 62, .ref 63, .ref 64, .int 1, .int 1, .int 1])), (1, .inr (8, [.ref 2, .ref 3, .ref 4, .int 0, .int (-1), .ref 11, .ref 12, .int 0, .ref 13, .ref 14, .int 0, .ref 15, .ref 16, .int 0])), (51, .inr (0, [.ref 52, .ref 53, .int 1, .int 5])), (52, .inl (0, 1260, .inl (upd (upd (fun _ => 0) 0 0) 0 0))), (53, .inl (0, 7, .inl (upd (upd (upd (upd (upd (fun _ => 0) 0 0) 1 0) 2 0) 3 0) 4 0))), (2, .inl (0, 5, .inl (upd (fun _ => 0) 0 5)))]) rfl ?_
                        refine J_aload_n dL_law_206 rfl rfl ?_
                        refine J_sload_n dL_law_207 rfl rfl ?_
                        refine J_iload_n dL_law_208 rfl rfl ?_
                        refine J_iconst (v := 1) dL_law_209 (by decide) ?_
                        refine J_iadd (z := 1) dL_law_210 (by decide +kernel) ?_
                        refine L_sld (i2 := 1) (v := 0) dL_law_211 (jin (by decide +kernel)) (by decide +kernel) hx1 ?_
                        refine J_sload_n dL_law_212 rfl rfl ?_
                        refine J_iload_n dL_law_213 rfl rfl ?_
                        refine J_iconst (v := 2) dL_law_214 (by decide) ?_
                        refine J_iadd (z := 2) dL_law_215 (by decide +kernel) ?_
                        refine L_sld (i2 := 2) (v := 5) dL_law_216 (jin (by decide +kernel)) (by decide +kernel) hx2 ?_
                        refine J_callV (st := [.int 0]) dL_law_217 cv_L_17 (c_X12_beans_8 H0_98 H0_100) H0_98 rfl rfl (Nat.le_of_ble_eq_true rfl) ⟨(Nat.le_of_ble_eq_true rfl), (Nat.le_of_ble_eq_true rfl)⟩ ⟨(Nat.le_of_ble_eq_true rfl), (Nat.le_of_ble_eq_true rfl)⟩ (fun r h9 hp => ?_)
                        obtain ⟨rfl, rfl⟩ := hp
                        refine J_nf (nh2 := 135) (ck2 := 135) (sk2 := 415506) (st2 := [.int 0, .int 0]) rfl rfl rfl rfl ?_
                        refine J_app (L3 := [(98, .inr (12, [.int 0, .int 1, .ref 99, .ref 100, .ref 101, .ref 102, .ref 103, .ref 104, .ref 105, .int 0, .int (-1), .ref 106, .ref 107, .ref 108, .int 0, .int 0, .int 0, .int 0, .int 0, .int 0, .int 0, .ref 109, .int 0, .int 0, .ref 110, .ref 111, .ref 112, .ref 113, .ref 114, .ref 115, .ref 116, .ref 117, .int 0, .int 0, .int (-1), .int (-1), .ref 118, .ref 119, .ref 120, .ref 121, .ref 122, .ref 123, .ref 124, .ref 125, .ref 126, .ref 127, .ref 128, .ref 129, .int 0, .ref 130, .ref 131, .ref 132, .ref 133, .ref 134, .int 0, .int 0])), (100, .inl (0, 4870, .inl (upd (upd (upd (upd (upd (fun _ => 0) 63 (-1)) 0 5) 59 0) 61 0) 60 0))), (0, .inr (11, [.ref 1, .ref 17, .ref 50, .ref 51, .ref 54, .ref 57, .ref 65, .ref 75, .ref 81, .ref 85, .ref 88, .ref 93, .ref 96, .int 0, .int (-1), .ref 97, .int 0])), (57, .inr (9, [.ref 1, .ref 51, .ref 58, .ref 61, .ref 62, .ref 63, .ref 64, .int 1, .int 1, .int 1])), (1, .inr (8, [.ref 2, .ref 3, .ref 4, .int 0, .int (-1), .ref 11, .ref 12, .int 0, .ref 13, .ref 14, .int 0, .ref 15, .ref 16, .int 0])), (51, .inr (0, [.ref 52, .ref 53, .int 1, .int 5])), (52, .inl (0, 1260, .inl (upd (upd (fun _ => 0) 0 0) 0 0))), (53, .inl (0, 7, .inl (upd (upd (upd (upd (upd (fun _ => 0) 0 0) 1 0) 2 0) 3 0) 4 0))), (2, .inl (0, 5, .inl (upd (fun _ => 0) 0 5)))]) rfl ?_
                        refine J_icmp_eq (tgt := 1221) dL_law_220 (by decide) (fun _ => ?_) (fun q => absurd (by decide +kernel) q)
                        exact law_tail (Nat.le_of_ble_eq_true rfl) (Nat.le_of_ble_eq_true rfl)
                      · rcases i_cut x2.toInt 7 with h_11 | h_11
                        · obtain rfl : x1 = 0 := by rw [fa_eq, kc_0]; omega
                          obtain rfl : x2 = 6 := by rw [fa_eq, kc_6]; omega
                          refine J_hc0 ?_
                          refine J_aload_n dL_law_192 rfl rfl ?_
                          refine J_sload_n dL_law_193 rfl rfl ?_
                          refine J_iload_n dL_law_194 rfl rfl ?_
                          refine J_iconst (v := 1) dL_law_195 (by decide) ?_
                          refine J_iadd (z := 1) dL_law_196 (by decide +kernel) ?_
                          refine L_sld (i2 := 1) (v := 0) dL_law_197 (jin (by decide +kernel)) (by decide +kernel) hx1 ?_
                          refine J_sload_n dL_law_198 rfl rfl ?_
                          refine J_iload_n dL_law_199 rfl rfl ?_
                          refine J_iconst (v := 2) dL_law_200 (by decide) ?_
                          refine J_iadd (z := 2) dL_law_201 (by decide +kernel) ?_
                          refine L_sld (i2 := 2) (v := 6) dL_law_202 (jin (by decide +kernel)) (by decide +kernel) hx2 ?_
                          refine J_callV (st := []) dL_law_203 cv_L_13 (c_X11_beans_9 H0_0 H0_1 H0_2 H0_51 H0_52 H0_53 H0_57) H0_0 rfl rfl (Nat.le_of_ble_eq_true rfl) ⟨(Nat.le_of_ble_eq_true rfl), (Nat.le_of_ble_eq_true rfl)⟩ ⟨(Nat.le_of_ble_eq_true rfl), (Nat.le_of_ble_eq_true rfl)⟩ (fun r h9 hp => ?_)
                          obtain ⟨rfl, rfl⟩ := hp
                          refine J_nf (nh2 := 135) (ck2 := 135) (sk2 := 415506) (st2 := [.int 0]) rfl rfl rfl rfl ?_
                          refine J_app (L3 := [(0, .inr (11, [.ref 1, .ref 17, .ref 50, .ref 51, .ref 54, .ref 57, .ref 65, .ref 75, .ref 81, .ref 85, .ref 88, .ref 93, .ref 96, .int 0, .int (-1), .ref 97, .int 0])), (57, .inr (9, [.ref 1, .ref 51, .ref 58, .ref 61, .ref 62, .ref 63, .ref 64, .int 1, .int 1, .int 1])), (1, .inr (8, [.ref 2, .ref 3, .ref 4, .int 0, .int (-1), .ref 11, .ref 12, .int 0, .ref 13, .ref 14, .int 0, .ref 15, .ref 16, .int 0])), (51, .inr (0, [.ref 52, .ref 53, .int 1, .int 6])), (52, .inl (0, 1260, .inl (upd (upd (fun _ => 0) 0 0) 0 0))), (53, .inl (0, 7, .inl (upd (upd (upd (upd (upd (upd (fun _ => 0) 0 0) 1 0) 2 0) 3 0) 4 0) 5 0))), (2, .inl (0, 5, .inl (upd (fun _ => 0) 0 6)))]) rfl ?_
                          refine J_aload_n dL_law_206 rfl rfl ?_
                          refine J_sload_n dL_law_207 rfl rfl ?_
                          refine J_iload_n dL_law_208 rfl rfl ?_
                          refine J_iconst (v := 1) dL_law_209 (by decide) ?_
                          refine J_iadd (z := 1) dL_law_210 (by decide +kernel) ?_
                          refine L_sld (i2 := 1) (v := 0) dL_law_211 (jin (by decide +kernel)) (by decide +kernel) hx1 ?_
                          refine J_sload_n dL_law_212 rfl rfl ?_
                          refine J_iload_n dL_law_213 rfl rfl ?_
                          refine J_iconst (v := 2) dL_law_214 (by decide) ?_
                          refine J_iadd (z := 2) dL_law_215 (by decide +kernel) ?_
                          refine L_sld (i2 := 2) (v := 6) dL_law_216 (jin (by decide +kernel)) (by decide +kernel) hx2 ?_
                          refine J_callV (st := [.int 0]) dL_law_217 cv_L_17 (c_X12_beans_9 H0_98 H0_100) H0_98 rfl rfl (Nat.le_of_ble_eq_true rfl) ⟨(Nat.le_of_ble_eq_true rfl), (Nat.le_of_ble_eq_true rfl)⟩ ⟨(Nat.le_of_ble_eq_true rfl), (Nat.le_of_ble_eq_true rfl)⟩ (fun r h9 hp => ?_)
                          obtain ⟨rfl, rfl⟩ := hp
                          refine J_nf (nh2 := 135) (ck2 := 135) (sk2 := 415506) (st2 := [.int 0, .int 0]) rfl rfl rfl rfl ?_
                          refine J_app (L3 := [(98, .inr (12, [.int 0, .int 1, .ref 99, .ref 100, .ref 101, .ref 102, .ref 103, .ref 104, .ref 105, .int 0, .int (-1), .ref 106, .ref 107, .ref 108, .int 0, .int 0, .int 0, .int 0, .int 0, .int 0, .int 0, .ref 109, .int 0, .int 0, .ref 110, .ref 111, .ref 112, .ref 113, .ref 114, .ref 115, .ref 116, .ref 117, .int 0, .int 0, .int (-1), .int (-1), .ref 118, .ref 119, .ref 120, .ref 121, .ref 122, .ref 123, .ref 124, .ref 125, .ref 126, .ref 127, .ref 128, .ref 129, .int 0, .ref 130, .ref 131, .ref 132, .ref 133, .ref 134, .int 0, .int 0])), (100, .inl (0, 4870, .inl (upd (upd (upd (upd (upd (fun _ => 0) 63 (-1)) 0 6) 59 0) 61 0) 60 0))), (0, .inr (11, [.ref 1, .ref 17, .ref 50, .ref 51, .ref 54, .ref 57, .ref 65, .ref 75, .ref 81, .ref 85, .ref 88, .ref 93, .ref 96, .int 0, .int (-1), .ref 97, .int 0])), (57, .inr (9, [.ref 1, .ref 51, .ref 58, .ref 61, .ref 62, .ref 63, .ref 64, .int 1, .int 1, .int 1])), (1, .inr (8, [.ref 2, .ref 3, .ref 4, .int 0, .int (-1), .ref 11, .ref 12, .int 0, .ref 13, .ref 14, .int 0, .ref 15, .ref 16, .int 0])), (51, .inr (0, [.ref 52, .ref 53, .int 1, .int 6])), (52, .inl (0, 1260, .inl (upd (upd (fun _ => 0) 0 0) 0 0))), (53, .inl (0, 7, .inl (upd (upd (upd (upd (upd (upd (fun _ => 0) 0 0) 1 0) 2 0) 3 0) 4 0) 5 0))), (2, .inl (0, 5, .inl (upd (fun _ => 0) 0 6)))]) rfl ?_
                          refine J_icmp_eq (tgt := 1221) dL_law_220 (by decide) (fun _ => ?_) (fun q => absurd (by decide +kernel) q)
                          exact law_tail (Nat.le_of_ble_eq_true rfl) (Nat.le_of_ble_eq_true rfl)
                        · obtain rfl : x1 = 0 := by rw [fa_eq, kc_0]; omega
                          obtain rfl : x2 = 7 := by rw [fa_eq, kc_7]; omega
                          refine J_hc0 ?_
                          refine J_aload_n dL_law_192 rfl rfl ?_
                          refine J_sload_n dL_law_193 rfl rfl ?_
                          refine J_iload_n dL_law_194 rfl rfl ?_
                          refine J_iconst (v := 1) dL_law_195 (by decide) ?_
                          refine J_iadd (z := 1) dL_law_196 (by decide +kernel) ?_
                          refine L_sld (i2 := 1) (v := 0) dL_law_197 (jin (by decide +kernel)) (by decide +kernel) hx1 ?_
                          refine J_sload_n dL_law_198 rfl rfl ?_
                          refine J_iload_n dL_law_199 rfl rfl ?_
                          refine J_iconst (v := 2) dL_law_200 (by decide) ?_
                          refine J_iadd (z := 2) dL_law_201 (by decide +kernel) ?_
                          refine L_sld (i2 := 2) (v := 7) dL_law_202 (jin (by decide +kernel)) (by decide +kernel) hx2 ?_
                          refine J_callV (st := []) dL_law_203 cv_L_13 (c_X11_beans_10 H0_0 H0_1 H0_2 H0_51 H0_52 H0_53 H0_57) H0_0 rfl rfl (Nat.le_of_ble_eq_true rfl) ⟨(Nat.le_of_ble_eq_true rfl), (Nat.le_of_ble_eq_true rfl)⟩ ⟨(Nat.le_of_ble_eq_true rfl), (Nat.le_of_ble_eq_true rfl)⟩ (fun r h9 hp => ?_)
                          obtain ⟨rfl, rfl⟩ := hp
                          refine J_nf (nh2 := 135) (ck2 := 135) (sk2 := 415506) (st2 := [.int 0]) rfl rfl rfl rfl ?_
                          refine J_app (L3 := [(0, .inr (11, [.ref 1, .ref 17, .ref 50, .ref 51, .ref 54, .ref 57, .ref 65, .ref 75, .ref 81, .ref 85, .ref 88, .ref 93, .ref 96, .int 0, .int (-1), .ref 97, .int 0])), (57, .inr (9, [.ref 1, .ref 51, .ref 58, .ref 61, .ref 62, .ref 63, .ref 64, .int 1, .int 1, .int 1])), (1, .inr (8, [.ref 2, .ref 3, .ref 4, .int 0, .int (-1), .ref 11, .ref 12, .int 0, .ref 13, .ref 14, .int 0, .ref 15, .ref 16, .int 0])), (51, .inr (0, [.ref 52, .ref 53, .int 1, .int 7])), (52, .inl (0, 1260, .inl (upd (upd (fun _ => 0) 0 0) 0 0))), (53, .inl (0, 7, .inl (upd (upd (upd (upd (upd (upd (upd (fun _ => 0) 0 0) 1 0) 2 0) 3 0) 4 0) 5 0) 6 0))), (2, .inl (0, 5, .inl (upd (fun _ => 0) 0 7)))]) rfl ?_
                          refine J_aload_n dL_law_206 rfl rfl ?_
                          refine J_sload_n dL_law_207 rfl rfl ?_
                          refine J_iload_n dL_law_208 rfl rfl ?_
                          refine J_iconst (v := 1) dL_law_209 (by decide) ?_
                          refine J_iadd (z := 1) dL_law_210 (by decide +kernel) ?_
                          refine L_sld (i2 := 1) (v := 0) dL_law_211 (jin (by decide +kernel)) (by decide +kernel) hx1 ?_
                          refine J_sload_n dL_law_212 rfl rfl ?_
                          refine J_iload_n dL_law_213 rfl rfl ?_
                          refine J_iconst (v := 2) dL_law_214 (by decide) ?_
                          refine J_iadd (z := 2) dL_law_215 (by decide +kernel) ?_
                          refine L_sld (i2 := 2) (v := 7) dL_law_216 (jin (by decide +kernel)) (by decide +kernel) hx2 ?_
                          refine J_callV (st := [.int 0]) dL_law_217 cv_L_17 (c_X12_beans_10 H0_98 H0_100) H0_98 rfl rfl (Nat.le_of_ble_eq_true rfl) ⟨(Nat.le_of_ble_eq_true rfl), (Nat.le_of_ble_eq_true rfl)⟩ ⟨(Nat.le_of_ble_eq_true rfl), (Nat.le_of_ble_eq_true rfl)⟩ (fun r h9 hp => ?_)
                          obtain ⟨rfl, rfl⟩ := hp
                          refine J_nf (nh2 := 135) (ck2 := 135) (sk2 := 415506) (st2 := [.int 0, .int 0]) rfl rfl rfl rfl ?_
                          refine J_app (L3 := [(98, .inr (12, [.int 0, .int 1, .ref 99, .ref 100, .ref 101, .ref 102, .ref 103, .ref 104, .ref 105, .int 0, .int (-1), .ref 106, .ref 107, .ref 108, .int 0, .int 0, .int 0, .int 0, .int 0, .int 0, .int 0, .ref 109, .int 0, .int 0, .ref 110, .ref 111, .ref 112, .ref 113, .ref 114, .ref 115, .ref 116, .ref 117, .int 0, .int 0, .int (-1), .int (-1), .ref 118, .ref 119, .ref 120, .ref 121, .ref 122, .ref 123, .ref 124, .ref 125, .ref 126, .ref 127, .ref 128, .ref 129, .int 0, .ref 130, .ref 131, .ref 132, .ref 133, .ref 134, .int 0, .int 0])), (100, .inl (0, 4870, .inl (upd (upd (upd (upd (upd (fun _ => 0) 63 (-1)) 0 7) 59 0) 61 0) 60 0))), (0, .inr (11, [.ref 1, .ref 17, .ref 50, .ref 51, .ref 54, .ref 57, .ref 65, .ref 75, .ref 81, .ref 85, .ref 88, .ref 93, .ref 96, .int 0, .int (-1), .ref 97, .int 0])), (57, .inr (9, [.ref 1, .ref 51, .ref 58, .ref 61, .ref 62, .ref 63, .ref 64, .int 1, .int 1, .int 1])), (1, .inr (8, [.ref 2, .ref 3, .ref 4, .int 0, .int (-1), .ref 11, .ref 12, .int 0, .ref 13, .ref 14, .int 0, .ref 15, .ref 16, .int 0])), (51, .inr (0, [.ref 52, .ref 53, .int 1, .int 7])), (52, .inl (0, 1260, .inl (upd (upd (fun _ => 0) 0 0) 0 0))), (53, .inl (0, 7, .inl (upd (upd (upd (upd (upd (upd (upd (fun _ => 0) 0 0) 1 0) 2 0) 3 0) 4 0) 5 0) 6 0))), (2, .inl (0, 5, .inl (upd (fun _ => 0) 0 7)))]) rfl ?_
                          refine J_icmp_eq (tgt := 1221) dL_law_220 (by decide) (fun _ => ?_) (fun q => absurd (by decide +kernel) q)
                          exact law_tail (Nat.le_of_ble_eq_true rfl) (Nat.le_of_ble_eq_true rfl)
          · rcases i_cut x1.toInt 2 with h_5 | h_5
            · rcases i_cut x2.toInt 1 with h_6 | h_6
              · obtain rfl : x1 = 1 := by rw [fa_eq, kc_1]; omega
                obtain rfl : x2 = 0 := by rw [fa_eq, kc_0]; omega
                refine J_hc0 ?_
                refine J_aload_n dL_law_192 rfl rfl ?_
                refine J_sload_n dL_law_193 rfl rfl ?_
                refine J_iload_n dL_law_194 rfl rfl ?_
                refine J_iconst (v := 1) dL_law_195 (by decide) ?_
                refine J_iadd (z := 1) dL_law_196 (by decide +kernel) ?_
                refine L_sld (i2 := 1) (v := 1) dL_law_197 (jin (by decide +kernel)) (by decide +kernel) hx1 ?_
                refine J_sload_n dL_law_198 rfl rfl ?_
                refine J_iload_n dL_law_199 rfl rfl ?_
                refine J_iconst (v := 2) dL_law_200 (by decide) ?_
                refine J_iadd (z := 2) dL_law_201 (by decide +kernel) ?_
                refine L_sld (i2 := 2) (v := 0) dL_law_202 (jin (by decide +kernel)) (by decide +kernel) hx2 ?_
                refine J_callV (st := []) dL_law_203 cv_L_13 (c_X11_beans_11 H0_0 H0_1 H0_2 H0_51 H0_52 H0_57) H0_0 rfl rfl (Nat.le_of_ble_eq_true rfl) ⟨(Nat.le_of_ble_eq_true rfl), (Nat.le_of_ble_eq_true rfl)⟩ ⟨(Nat.le_of_ble_eq_true rfl), (Nat.le_of_ble_eq_true rfl)⟩ (fun r h9 hp => ?_)
                obtain ⟨rfl, rfl⟩ := hp
                refine J_nf (nh2 := 135) (ck2 := 135) (sk2 := 415506) (st2 := [.int 0]) rfl rfl rfl rfl ?_
                refine J_app (L3 := [(0, .inr (11, [.ref 1, .ref 17, .ref 50, .ref 51, .ref 54, .ref 57, .ref 65, .ref 75, .ref 81, .ref 85, .ref 88, .ref 93, .ref 96, .int 0, .int (-1), .ref 97, .int 0])), (57, .inr (9, [.ref 1, .ref 51, .ref 58, .ref 61, .ref 62, .ref 63, .ref 64, .int 1, .int 1, .int 1])), (1, .inr (8, [.ref 2, .ref 3, .ref 4, .int 0, .int (-1), .ref 11, .ref 12, .int 0, .ref 13, .ref 14, .int 0, .ref 15, .ref 16, .int 0])), (51, .inr (0, [.ref 52, .ref 53, .int 1, .int 0])), (52, .inl (0, 1260, .inl (upd (upd (fun _ => 0) 0 0) 0 0))), (2, .inl (0, 5, .inl (upd (fun _ => 0) 1 0)))]) rfl ?_
                refine J_aload_n dL_law_206 rfl rfl ?_
                refine J_sload_n dL_law_207 rfl rfl ?_
                refine J_iload_n dL_law_208 rfl rfl ?_
                refine J_iconst (v := 1) dL_law_209 (by decide) ?_
                refine J_iadd (z := 1) dL_law_210 (by decide +kernel) ?_
                refine L_sld (i2 := 1) (v := 1) dL_law_211 (jin (by decide +kernel)) (by decide +kernel) hx1 ?_
                refine J_sload_n dL_law_212 rfl rfl ?_
                refine J_iload_n dL_law_213 rfl rfl ?_
                refine J_iconst (v := 2) dL_law_214 (by decide) ?_
                refine J_iadd (z := 2) dL_law_215 (by decide +kernel) ?_
                refine L_sld (i2 := 2) (v := 0) dL_law_216 (jin (by decide +kernel)) (by decide +kernel) hx2 ?_
                refine J_callV (st := [.int 0]) dL_law_217 cv_L_17 (c_X12_beans_11 H0_98 H0_100) H0_98 rfl rfl (Nat.le_of_ble_eq_true rfl) ⟨(Nat.le_of_ble_eq_true rfl), (Nat.le_of_ble_eq_true rfl)⟩ ⟨(Nat.le_of_ble_eq_true rfl), (Nat.le_of_ble_eq_true rfl)⟩ (fun r h9 hp => ?_)
                obtain ⟨rfl, rfl⟩ := hp
                refine J_nf (nh2 := 135) (ck2 := 135) (sk2 := 415506) (st2 := [.int 0, .int 0]) rfl rfl rfl rfl ?_
                refine J_app (L3 := [(98, .inr (12, [.int 0, .int 1, .ref 99, .ref 100, .ref 101, .ref 102, .ref 103, .ref 104, .ref 105, .int 0, .int (-1), .ref 106, .ref 107, .ref 108, .int 0, .int 0, .int 0, .int 0, .int 0, .int 0, .int 0, .ref 109, .int 0, .int 0, .ref 110, .ref 111, .ref 112, .ref 113, .ref 114, .ref 115, .ref 116, .ref 117, .int 0, .int 0, .int (-1), .int (-1), .ref 118, .ref 119, .ref 120, .ref 121, .ref 122, .ref 123, .ref 124, .ref 125, .ref 126, .ref 127, .ref 128, .ref 129, .int 0, .ref 130, .ref 131, .ref 132, .ref 133, .ref 134, .int 0, .int 0])), (100, .inl (0, 4870, .inl (upd (upd (upd (upd (upd (fun _ => 0) 63 (-1)) 1 0) 59 0) 61 0) 60 0))), (0, .inr (11, [.ref 1, .ref 17, .ref 50, .ref 51, .ref 54, .ref 57, .ref 65, .ref 75, .ref 81, .ref 85, .ref 88, .ref 93, .ref 96, .int 0, .int (-1), .ref 97, .int 0])), (57, .inr (9, [.ref 1, .ref 51, .ref 58, .ref 61, .ref 62, .ref 63, .ref 64, .int 1, .int 1, .int 1])), (1, .inr (8, [.ref 2, .ref 3, .ref 4, .int 0, .int (-1), .ref 11, .ref 12, .int 0, .ref 13, .ref 14, .int 0, .ref 15, .ref 16, .int 0])), (51, .inr (0, [.ref 52, .ref 53, .int 1, .int 0])), (52, .inl (0, 1260, .inl (upd (upd (fun _ => 0) 0 0) 0 0))), (2, .inl (0, 5, .inl (upd (fun _ => 0) 1 0)))]) rfl ?_
                refine J_icmp_eq (tgt := 1221) dL_law_220 (by decide) (fun _ => ?_) (fun q => absurd (by decide +kernel) q)
                exact law_tail (Nat.le_of_ble_eq_true rfl) (Nat.le_of_ble_eq_true rfl)
              · rcases i_cut x2.toInt 2 with h_7 | h_7
                · obtain rfl : x1 = 1 := by rw [fa_eq, kc_1]; omega
                  obtain rfl : x2 = 1 := by rw [fa_eq, kc_1]; omega
                  refine J_hc0 ?_
                  refine J_aload_n dL_law_192 rfl rfl ?_
                  refine J_sload_n dL_law_193 rfl rfl ?_
                  refine J_iload_n dL_law_194 rfl rfl ?_
                  refine J_iconst (v := 1) dL_law_195 (by decide) ?_
                  refine J_iadd (z := 1) dL_law_196 (by decide +kernel) ?_
                  refine L_sld (i2 := 1) (v := 1) dL_law_197 (jin (by decide +kernel)) (by decide +kernel) hx1 ?_
                  refine J_sload_n dL_law_198 rfl rfl ?_
                  refine J_iload_n dL_law_199 rfl rfl ?_
                  refine J_iconst (v := 2) dL_law_200 (by decide) ?_
                  refine J_iadd (z := 2) dL_law_201 (by decide +kernel) ?_
                  refine L_sld (i2 := 2) (v := 1) dL_law_202 (jin (by decide +kernel)) (by decide +kernel) hx2 ?_
                  refine J_callV (st := []) dL_law_203 cv_L_13 (c_X11_beans_12 H0_0 H0_1 H0_2 H0_51 H0_52 H0_53 H0_57) H0_0 rfl rfl (Nat.le_of_ble_eq_true rfl) ⟨(Nat.le_of_ble_eq_true rfl), (Nat.le_of_ble_eq_true rfl)⟩ ⟨(Nat.le_of_ble_eq_true rfl), (Nat.le_of_ble_eq_true rfl)⟩ (fun r h9 hp => ?_)
                  obtain ⟨rfl, rfl⟩ := hp
                  refine J_nf (nh2 := 135) (ck2 := 135) (sk2 := 415506) (st2 := [.int 0]) rfl rfl rfl rfl ?_
                  refine J_app (L3 := [(0, .inr (11, [.ref 1, .ref 17, .ref 50, .ref 51, .ref 54, .ref 57, .ref 65, .ref 75, .ref 81, .ref 85, .ref 88, .ref 93, .ref 96, .int 0, .int (-1), .ref 97, .int 0])), (57, .inr (9, [.ref 1, .ref 51, .ref 58, .ref 61, .ref 62, .ref 63, .ref 64, .int 1, .int 1, .int 1])), (1, .inr (8, [.ref 2, .ref 3, .ref 4, .int 0, .int (-1), .ref 11, .ref 12, .int 0, .ref 13, .ref 14, .int 0, .ref 15, .ref 16, .int 0])), (51, .inr (0, [.ref 52, .ref 53, .int 1, .int 1])), (52, .inl (0, 1260, .inl (upd (upd (fun _ => 0) 0 0) 0 1))), (53, .inl (0, 7, .inl (upd (fun _ => 0) 0 1))), (2, .inl (0, 5, .inl (upd (fun _ => 0) 1 1)))]) rfl ?_
                  refine J_aload_n dL_law_206 rfl rfl ?_
                  refine J_sload_n dL_law_207 rfl rfl ?_
                  refine J_iload_n dL_law_208 rfl rfl ?_
                  refine J_iconst (v := 1) dL_law_209 (by decide) ?_
                  refine J_iadd (z := 1) dL_law_210 (by decide +kernel) ?_
                  refine L_sld (i2 := 1) (v := 1) dL_law_211 (jin (by decide +kernel)) (by decide +kernel) hx1 ?_
                  refine J_sload_n dL_law_212 rfl rfl ?_
                  refine J_iload_n dL_law_213 rfl rfl ?_
                  refine J_iconst (v := 2) dL_law_214 (by decide) ?_
                  refine J_iadd (z := 2) dL_law_215 (by decide +kernel) ?_
                  refine L_sld (i2 := 2) (v := 1) dL_law_216 (jin (by decide +kernel)) (by decide +kernel) hx2 ?_
                  refine J_callV (st := [.int 0]) dL_law_217 cv_L_17 (c_X12_beans_12 H0_98 H0_100) H0_98 rfl rfl (Nat.le_of_ble_eq_true rfl) ⟨(Nat.le_of_ble_eq_true rfl), (Nat.le_of_ble_eq_true rfl)⟩ ⟨(Nat.le_of_ble_eq_true rfl), (Nat.le_of_ble_eq_true rfl)⟩ (fun r h9 hp => ?_)
                  obtain ⟨rfl, rfl⟩ := hp
                  refine J_nf (nh2 := 135) (ck2 := 135) (sk2 := 415506) (st2 := [.int 0, .int 0]) rfl rfl rfl rfl ?_
                  refine J_app (L3 := [(98, .inr (12, [.int 0, .int 1, .ref 99, .ref 100, .ref 101, .ref 102, .ref 103, .ref 104, .ref 105, .int 0, .int (-1), .ref 106, .ref 107, .ref 108, .int 0, .int 0, .int 0, .int 0, .int 0, .int 0, .int 0, .ref 109, .int 0, .int 0, .ref 110, .ref 111, .ref 112, .ref 113, .ref 114, .ref 115, .ref 116, .ref 117, .int 0, .int 0, .int (-1), .int (-1), .ref 118, .ref 119, .ref 120, .ref 121, .ref 122, .ref 123, .ref 124, .ref 125, .ref 126, .ref 127, .ref 128, .ref 129, .int 0, .ref 130, .ref 131, .ref 132, .ref 133, .ref 134, .int 0, .int 0])), (100, .inl (0, 4870, .inl (upd (upd (upd (upd (upd (fun _ => 0) 63 (-1)) 1 1) 59 0) 61 0) 60 0))), (0, .inr (11, [.ref 1, .ref 17, .ref 50, .ref 51, .ref 54, .ref 57, .ref 65, .ref 75, .ref 81, .ref 85, .ref 88, .ref 93, .ref 96, .int 0, .int (-1), .ref 97, .int 0])), (57, .inr (9, [.ref 1, .ref 51, .ref 58, .ref 61, .ref 62, .ref 63, .ref 64, .int 1, .int 1, .int 1])), (1, .inr (8, [.ref 2, .ref 3, .ref 4, .int 0, .int (-1), .ref 11, .ref 12, .int 0, .ref 13, .ref 14, .int 0, .ref 15, .ref 16, .int 0])), (51, .inr (0, [.ref 52, .ref 53, .int 1, .int 1])), (52, .inl (0, 1260, .inl (upd (upd (fun _ => 0) 0 0) 0 1))), (53, .inl (0, 7, .inl (upd (fun _ => 0) 0 1))), (2, .inl (0, 5, .inl (upd (fun _ => 0) 1 1)))]) rfl ?_
                  refine J_icmp_eq (tgt := 1221) dL_law_220 (by decide) (fun _ => ?_) (fun q => absurd (by decide +kernel) q)
                  exact law_tail (Nat.le_of_ble_eq_true rfl) (Nat.le_of_ble_eq_true rfl)
                · rcases i_cut x2.toInt 3 with h_8 | h_8
                  · obtain rfl : x1 = 1 := by rw [fa_eq, kc_1]; omega
                    obtain rfl : x2 = 2 := by rw [fa_eq, kc_2]; omega
                    refine J_hc0 ?_
                    refine J_aload_n dL_law_192 rfl rfl ?_
                    refine J_sload_n dL_law_193 rfl rfl ?_
                    refine J_iload_n dL_law_194 rfl rfl ?_
                    refine J_iconst (v := 1) dL_law_195 (by decide) ?_
                    refine J_iadd (z := 1) dL_law_196 (by decide +kernel) ?_
                    refine L_sld (i2 := 1) (v := 1) dL_law_197 (jin (by decide +kernel)) (by decide +kernel) hx1 ?_
                    refine J_sload_n dL_law_198 rfl rfl ?_
                    refine J_iload_n dL_law_199 rfl rfl ?_
                    refine J_iconst (v := 2) dL_law_200 (by decide) ?_
                    refine J_iadd (z := 2) dL_law_201 (by decide +kernel) ?_
                    refine L_sld (i2 := 2) (v := 2) dL_law_202 (jin (by decide +kernel)) (by decide +kernel) hx2 ?_
                    refine J_callV (st := []) dL_law_203 cv_L_13 (c_X11_beans_13 H0_0 H0_1 H0_2 H0_51 H0_52 H0_53 H0_57) H0_0 rfl rfl (Nat.le_of_ble_eq_true rfl) ⟨(Nat.le_of_ble_eq_true rfl), (Nat.le_of_ble_eq_true rfl)⟩ ⟨(Nat.le_of_ble_eq_true rfl), (Nat.le_of_ble_eq_true rfl)⟩ (fun r h9 hp => ?_)
                    obtain ⟨rfl, rfl⟩ := hp
                    refine J_nf (nh2 := 135) (ck2 := 135) (sk2 := 415506) (st2 := [.int 0]) rfl rfl rfl rfl ?_
                    refine J_app (L3 := [(0, .inr (11, [.ref 1, .ref 17, .ref 50, .ref 51, .ref 54, .ref 57, .ref 65, .ref 75, .ref 81, .ref 85, .ref 88, .ref 93, .ref 96, .int 0, .int (-1), .ref 97, .int 0])), (57, .inr (9, [.ref 1, .ref 51, .ref 58, .ref 61, .ref 62, .ref 63, .ref 64, .int 1, .int 1, .int 1])), (1, .inr (8, [.ref 2, .ref 3, .ref 4, .int 0, .int (-1), .ref 11, .ref 12, .int 0, .ref 13, .ref 14, .int 0, .ref 15, .ref 16, .int 0])), (51, .inr (0, [.ref 52, .ref 53, .int 1, .int 2])), (52, .inl (0, 1260, .inl (upd (upd (fun _ => 0) 0 0) 0 9))), (53, .inl (0, 7, .inl (upd (upd (fun _ => 0) 0 1) 1 1))), (2, .inl (0, 5, .inl (upd (fun _ => 0) 1 2)))]) rfl ?_
                    refine J_aload_n dL_law_206 rfl rfl ?_
                    refine J_sload_n dL_law_207 rfl rfl ?_
                    refine J_iload_n dL_law_208 rfl rfl ?_
                    refine J_iconst (v := 1) dL_law_209 (by decide) ?_
                    refine J_iadd (z := 1) dL_law_210 (by decide +kernel) ?_
                    refine L_sld (i2 := 1) (v := 1) dL_law_211 (jin (by decide +kernel)) (by decide +kernel) hx1 ?_
                    refine J_sload_n dL_law_212 rfl rfl ?_
                    refine J_iload_n dL_law_213 rfl rfl ?_
                    refine J_iconst (v := 2) dL_law_214 (by decide) ?_
                    refine J_iadd (z := 2) dL_law_215 (by decide +kernel) ?_
                    refine L_sld (i2 := 2) (v := 2) dL_law_216 (jin (by decide +kernel)) (by decide +kernel) hx2 ?_
                    refine J_callV (st := [.int 0]) dL_law_217 cv_L_17 (c_X12_beans_13 H0_98 H0_100) H0_98 rfl rfl (Nat.le_of_ble_eq_true rfl) ⟨(Nat.le_of_ble_eq_true rfl), (Nat.le_of_ble_eq_true rfl)⟩ ⟨(Nat.le_of_ble_eq_true rfl), (Nat.le_of_ble_eq_true rfl)⟩ (fun r h9 hp => ?_)
                    obtain ⟨rfl, rfl⟩ := hp
                    refine J_nf (nh2 := 135) (ck2 := 135) (sk2 := 415506) (st2 := [.int 0, .int 0]) rfl rfl rfl rfl ?_
                    refine J_app (L3 := [(98, .inr (12, [.int 0, .int 1, .ref 99, .ref 100, .ref 101, .ref 102, .ref 103, .ref 104, .ref 105, .int 0, .int (-1), .ref 106, .ref 107, .ref 108, .int 0, .int 0, .int 0, .int 0, .int 0, .int 0, .int 0, .ref 109, .int 0, .int 0, .ref 110, .ref 111, .ref 112, .ref 113, .ref 114, .ref 115, .ref 116, .ref 117, .int 0, .int 0, .int (-1), .int (-1), .ref 118, .ref 119, .ref 120, .ref 121, .ref 122, .ref 123, .ref 124, .ref 125, .ref 126, .ref 127, .ref 128, .ref 129, .int 0, .ref 130, .ref 131, .ref 132, .ref 133, .ref 134, .int 0, .int 0])), (100, .inl (0, 4870, .inl (upd (upd (upd (upd (upd (fun _ => 0) 63 (-1)) 1 2) 59 0) 61 0) 60 0))), (0, .inr (11, [.ref 1, .ref 17, .ref 50, .ref 51, .ref 54, .ref 57, .ref 65, .ref 75, .ref 81, .ref 85, .ref 88, .ref 93, .ref 96, .int 0, .int (-1), .ref 97, .int 0])), (57, .inr (9, [.ref 1, .ref 51, .ref 58, .ref 61, .ref 62, .ref 63, .ref 64, .int 1, .int 1, .int 1])), (1, .inr (8, [.ref 2, .ref 3, .ref 4, .int 0, .int (-1), .ref 11, .ref 12, .int 0, .ref 13, .ref 14, .int 0, .ref 15, .ref 16, .int 0])), (51, .inr (0, [.ref 52, .ref 53, .int 1, .int 2])), (52, .inl (0, 1260, .inl (upd (upd (fun _ => 0) 0 0) 0 9))), (53, .inl (0, 7, .inl (upd (upd (fun _ => 0) 0 1) 1 1))), (2, .inl (0, 5, .inl (upd (fun _ => 0) 1 2)))]) rfl ?_
                    refine J_icmp_eq (tgt := 1221) dL_law_220 (by decide) (fun _ => ?_) (fun q => absurd (by decide +kernel) q)
                    exact law_tail (Nat.le_of_ble_eq_true rfl) (Nat.le_of_ble_eq_true rfl)
                  · rcases i_cut x2.toInt 4 with h_9 | h_9
                    · obtain rfl : x1 = 1 := by rw [fa_eq, kc_1]; omega
                      obtain rfl : x2 = 3 := by rw [fa_eq, kc_3]; omega
                      refine J_hc0 ?_
                      refine J_aload_n dL_law_192 rfl rfl ?_
                      refine J_sload_n dL_law_193 rfl rfl ?_
                      refine J_iload_n dL_law_194 rfl rfl ?_
                      refine J_iconst (v := 1) dL_law_195 (by decide) ?_
                      refine J_iadd (z := 1) dL_law_196 (by decide +kernel) ?_
                      refine L_sld (i2 := 1) (v := 1) dL_law_197 (jin (by decide +kernel)) (by decide +kernel) hx1 ?_
                      refine J_sload_n dL_law_198 rfl rfl ?_
                      refine J_iload_n dL_law_199 rfl rfl ?_
                      refine J_iconst (v := 2) dL_law_200 (by decide) ?_
                      refine J_iadd (z := 2) dL_law_201 (by decide +kernel) ?_
                      refine L_sld (i2 := 2) (v := 3) dL_law_202 (jin (by decide +kernel)) (by decide +kernel) hx2 ?_
                      refine J_callV (st := []) dL_law_203 cv_L_13 (c_X11_beans_14 H0_0 H0_1 H0_2 H0_51 H0_52 H0_53 H0_57) H0_0 rfl rfl (Nat.le_of_ble_eq_true rfl) ⟨(Nat.le_of_ble_eq_true rfl), (Nat.le_of_ble_eq_true rfl)⟩ ⟨(Nat.le_of_ble_eq_true rfl), (Nat.le_of_ble_eq_true rfl)⟩ (fun r h9 hp => ?_)
                      obtain ⟨rfl, rfl⟩ := hp
                      refine J_nf (nh2 := 135) (ck2 := 135) (sk2 := 415506) (st2 := [.int 0]) rfl rfl rfl rfl ?_
                      refine J_app (L3 := [(0, .inr (11, [.ref 1, .ref 17, .ref 50, .ref 51, .ref 54, .ref 57, .ref 65, .ref 75, .ref 81, .ref 85, .ref 88, .ref 93, .ref 96, .int 0, .int (-1), .ref 97, .int 0])), (57, .inr (9, [.ref 1, .ref 51, .ref 58, .ref 61, .ref 62, .ref 63, .ref 64, .int 1, .int 1, .int 1])), (1, .inr (8, [.ref 2, .ref 3, .ref 4, .int 0, .int (-1), .ref 11, .ref 12, .int 0, .ref 13, .ref 14, .int 0, .ref 15, .ref 16, .int 0])), (51, .inr (0, [.ref 52, .ref 53, .int 1, .int 3])), (52, .inl (0, 1260, .inl (upd (upd (fun _ => 0) 0 0) 0 73))), (53, .inl (0, 7, .inl (upd (upd (upd (fun _ => 0) 0 1) 1 1) 2 1))), (2, .inl (0, 5, .inl (upd (fun _ => 0) 1 3)))]) rfl ?_
                      refine J_aload_n dL_law_206 rfl rfl ?_
                      refine J_sload_n dL_law_207 rfl rfl ?_
                      refine J_iload_n dL_law_208 rfl rfl ?_
                      refine J_iconst (v := 1) dL_law_209 (by decide) ?_
                      refine J_iadd (z := 1) dL_law_210 (by decide +kernel) ?_
                      refine L_sld (i2 := 1) (v := 1) dL_law_211 (jin (by decide +kernel)) (by decide +kernel) hx1 ?_
                      refine J_sload_n dL_law_212 rfl rfl ?_
                      refine J_iload_n dL_law_213 rfl rfl ?_
                      refine J_iconst (v := 2) dL_law_214 (by decide) ?_
                      refine J_iadd (z := 2) dL_law_215 (by decide +kernel) ?_
                      refine L_sld (i2 := 2) (v := 3) dL_law_216 (jin (by decide +kernel)) (by decide +kernel) hx2 ?_
                      refine J_callV (st := [.int 0]) dL_law_217 cv_L_17 (c_X12_beans_14 H0_98 H0_100) H0_98 rfl rfl (Nat.le_of_ble_eq_true rfl) ⟨(Nat.le_of_ble_eq_true rfl), (Nat.le_of_ble_eq_true rfl)⟩ ⟨(Nat.le_of_ble_eq_true rfl), (Nat.le_of_ble_eq_true rfl)⟩ (fun r h9 hp => ?_)
                      obtain ⟨rfl, rfl⟩ := hp
                      refine J_nf (nh2 := 135) (ck2 := 135) (sk2 := 415506) (st2 := [.int 0, .int 0]) rfl rfl rfl rfl ?_
                      refine J_app (L3 := [(98, .inr (12, [.int 0, .int 1, .ref 99, .ref 100, .ref 101, .ref 102, .ref 103, .ref 104, .ref 105, .int 0, .int (-1), .ref 106, .ref 107, .ref 108, .int 0, .int 0, .int 0, .int 0, .int 0, .int 0, .int 0, .ref 109, .int 0, .int 0, .ref 110, .ref 111, .ref 112, .ref 113, .ref 114, .ref 115, .ref 116, .ref 117, .int 0, .int 0, .int (-1), .int (-1), .ref 118, .ref 119, .ref 120, .ref 121, .ref 122, .ref 123, .ref 124, .ref 125, .ref 126, .ref 127, .ref 128, .ref 129, .int 0, .ref 130, .ref 131, .ref 132, .ref 133, .ref 134, .int 0, .int 0])), (100, .inl (0, 4870, .inl (upd (upd (upd (upd (upd (fun _ => 0) 63 (-1)) 1 3) 59 0) 61 0) 60 0))), (0, .inr (11, [.ref 1, .ref 17, .ref 50, .ref 51, .ref 54, .ref 57, .ref 65, .ref 75, .ref 81, .ref 85, .ref 88, .ref 93, .ref 96, .int 0, .int (-1), .ref 97, .int 0])), (57, .inr (9, [.ref 1, .ref 51, .ref 58, .ref 61, .ref 62, .ref 63, .ref 64, .int 1, .int 1, .int 1])), (1, .inr (8, [.ref 2, .ref 3, .ref 4, .int 0, .int (-1), .ref 11, .ref 12, .int 0, .ref 13, .ref 14, .int 0, .ref 15, .ref 16, .int 0])), (51, .inr (0, [.ref 52, .ref 53, .int 1, .int 3])), (52, .inl (0, 1260, .inl (upd (upd (fun _ => 0) 0 0) 0 73))), (53, .inl (0, 7, .inl (upd (upd (upd (fun _ => 0) 0 1) 1 1) 2 1))), (2, .inl (0, 5, .inl (upd (fun _ => 0) 1 3)))]) rfl ?_
                      refine J_icmp_eq (tgt := 1221) dL_law_220 (by decide) (fun _ => ?_) (fun q => absurd (by decide +kernel) q)
                      exact law_tail (Nat.le_of_ble_eq_true rfl) (Nat.le_of_ble_eq_true rfl)
                    · rcases i_cut x2.toInt 5 with h_10 | h_10
                      · obtain rfl : x1 = 1 := by rw [fa_eq, kc_1]; omega
                        obtain rfl : x2 = 4 := by rw [fa_eq, kc_4]; omega
                        refine J_hc0 ?_
                        refine J_aload_n dL_law_192 rfl rfl ?_
                        refine J_sload_n dL_law_193 rfl rfl ?_
                        refine J_iload_n dL_law_194 rfl rfl ?_
                        refine J_iconst (v := 1) dL_law_195 (by decide) ?_
                        refine J_iadd (z := 1) dL_law_196 (by decide +kernel) ?_
                        refine L_sld (i2 := 1) (v := 1) dL_law_197 (jin (by decide +kernel)) (by decide +kernel) hx1 ?_
                        refine J_sload_n dL_law_198 rfl rfl ?_
                        refine J_iload_n dL_law_199 rfl rfl ?_
                        refine J_iconst (v := 2) dL_law_200 (by decide) ?_
                        refine J_iadd (z := 2) dL_law_201 (by decide +kernel) ?_
                        refine L_sld (i2 := 2) (v := 4) dL_law_202 (jin (by decide +kernel)) (by decide +kernel) hx2 ?_
                        refine J_callV (st := []) dL_law_203 cv_L_13 (c_X11_beans_15 H0_0 H0_1 H0_2 H0_51 H0_52 H0_53 H0_57) H0_0 rfl rfl (Nat.le_of_ble_eq_true rfl) ⟨(Nat.le_of_ble_eq_true rfl), (Nat.le_of_ble_eq_true rfl)⟩ ⟨(Nat.le_of_ble_eq_true rfl), (Nat.le_of_ble_eq_true rfl)⟩ (fun r h9 hp => ?_)
                        obtain ⟨rfl, rfl⟩ := hp
                        refine J_nf (nh2 := 135) (ck2 := 135) (sk2 := 415506) (st2 := [.int 0]) rfl rfl rfl rfl ?_
                        refine J_app (L3 := [(0, .inr (11, [.ref 1, .ref 17, .ref 50, .ref 51, .ref 54, .ref 57, .ref 65, .ref 75, .ref 81, .ref 85, .ref 88, .ref 93, .ref 96, .int 0, .int (-1), .ref 97, .int 0])), (57, .inr (9, [.ref 1, .ref 51, .ref 58, .ref 61, .ref 62, .ref 63, .ref 64, .int 1, .int 1, .int 1])), (1, .inr (8, [.ref 2, .ref 3, .ref 4, .int 0, .int (-1), .ref 11, .ref 12, .int 0, .ref 13, .ref 14, .int 0, .ref 15, .ref 16, .int 0])), (51, .inr (0, [.ref 52, .ref 53, .int 1, .int 4])), (52, .inl (0, 1260, .inl (upd (upd (fun _ => 0) 0 0) 0 585))), (53, .inl (0, 7, .inl (upd (upd (upd (upd (fun _ => 0) 0 1) 1 1) 2 1) 3 1))), (2, .inl (0, 5, .inl (upd (fun _ => 0) 1 4)))]) rfl ?_
                        refine J_aload_n dL_law_206 rfl rfl ?_
                        refine J_sload_n dL_law_207 rfl rfl ?_
                        refine J_iload_n dL_law_208 rfl rfl ?_
                        refine J_iconst (v := 1) dL_law_209 (by decide) ?_
                        refine J_iadd (z := 1) dL_law_210 (by decide +kernel) ?_
                        refine L_sld (i2 := 1) (v := 1) dL_law_211 (jin (by decide +kernel)) (by decide +kernel) hx1 ?_
                        refine J_sload_n dL_law_212 rfl rfl ?_
                        refine J_iload_n dL_law_213 rfl rfl ?_
                        refine J_iconst (v := 2) dL_law_214 (by decide) ?_
                        refine J_iadd (z := 2) dL_law_215 (by decide +kernel) ?_
                        refine L_sld (i2 := 2) (v := 4) dL_law_216 (jin (by decide +kernel)) (by decide +kernel) hx2 ?_
                        refine J_callV (st := [.int 0]) dL_law_217 cv_L_17 (c_X12_beans_15 H0_98 H0_100) H0_98 rfl rfl (Nat.le_of_ble_eq_true rfl) ⟨(Nat.le_of_ble_eq_true rfl), (Nat.le_of_ble_eq_true rfl)⟩ ⟨(Nat.le_of_ble_eq_true rfl), (Nat.le_of_ble_eq_true rfl)⟩ (fun r h9 hp => ?_)
                        obtain ⟨rfl, rfl⟩ := hp
                        refine J_nf (nh2 := 135) (ck2 := 135) (sk2 := 415506) (st2 := [.int 0, .int 0]) rfl rfl rfl rfl ?_
                        refine J_app (L3 := [(98, .inr (12, [.int 0, .int 1, .ref 99, .ref 100, .ref 101, .ref 102, .ref 103, .ref 104, .ref 105, .int 0, .int (-1), .ref 106, .ref 107, .ref 108, .int 0, .int 0, .int 0, .int 0, .int 0, .int 0, .int 0, .ref 109, .int 0, .int 0, .ref 110, .ref 111, .ref 112, .ref 113, .ref 114, .ref 115, .ref 116, .ref 117, .int 0, .int 0, .int (-1), .int (-1), .ref 118, .ref 119, .ref 120, .ref 121, .ref 122, .ref 123, .ref 124, .ref 125, .ref 126, .ref 127, .ref 128, .ref 129, .int 0, .ref 130, .ref 131, .ref 132, .ref 133, .ref 134, .int 0, .int 0])), (100, .inl (0, 4870, .inl (upd (upd (upd (upd (upd (fun _ => 0) 63 (-1)) 1 4) 59 0) 61 0) 60 0))), (0, .inr (11, [.ref 1, .ref 17, .ref 50, .ref 51, .ref 54, .ref 57, .ref 65, .ref 75, .ref 81, .ref 85, .ref 88, .ref 93, .ref 96, .int 0, .int (-1), .ref 97, .int 0])), (57, .inr (9, [.ref 1, .ref 51, .ref 58, .ref 61, .ref 62, .ref 63, .ref 64, .int 1, .int 1, .int 1])), (1, .inr (8, [.ref 2, .ref 3, .ref 4, .int 0, .int (-1), .ref 11, .ref 12, .int 0, .ref 13, .ref 14, .int 0, .ref 15, .ref 16, .int 0])), (51, .inr (0, [.ref 52, .ref 53, .int 1, .int 4])), (52, .inl (0, 1260, .inl (upd (upd (fun _ => 0) 0 0) 0 585))), (53, .inl (0, 7, .inl (upd (upd (upd (upd (fun _ => 0) 0 1) 1 1) 2 1) 3 1))), (2, .inl (0, 5, .inl (upd (fun _ => 0) 1 4)))]) rfl ?_
                        refine J_icmp_eq (tgt := 1221) dL_law_220 (by decide) (fun _ => ?_) (fun q => absurd (by decide +kernel) q)
                        exact law_tail (Nat.le_of_ble_eq_true rfl) (Nat.le_of_ble_eq_true rfl)
                      · rcases i_cut x2.toInt 6 with h_11 | h_11
                        · obtain rfl : x1 = 1 := by rw [fa_eq, kc_1]; omega
                          obtain rfl : x2 = 5 := by rw [fa_eq, kc_5]; omega
                          refine J_hc0 ?_
                          refine J_aload_n dL_law_192 rfl rfl ?_
                          refine J_sload_n dL_law_193 rfl rfl ?_
                          refine J_iload_n dL_law_194 rfl rfl ?_
                          refine J_iconst (v := 1) dL_law_195 (by decide) ?_
                          refine J_iadd (z := 1) dL_law_196 (by decide +kernel) ?_
                          refine L_sld (i2 := 1) (v := 1) dL_law_197 (jin (by decide +kernel)) (by decide +kernel) hx1 ?_
                          refine J_sload_n dL_law_198 rfl rfl ?_
                          refine J_iload_n dL_law_199 rfl rfl ?_
                          refine J_iconst (v := 2) dL_law_200 (by decide) ?_
                          refine J_iadd (z := 2) dL_law_201 (by decide +kernel) ?_
                          refine L_sld (i2 := 2) (v := 5) dL_law_202 (jin (by decide +kernel)) (by decide +kernel) hx2 ?_
                          refine J_callV (st := []) dL_law_203 cv_L_13 (c_X11_beans_16 H0_0 H0_1 H0_2 H0_51 H0_52 H0_53 H0_57) H0_0 rfl rfl (Nat.le_of_ble_eq_true rfl) ⟨(Nat.le_of_ble_eq_true rfl), (Nat.le_of_ble_eq_true rfl)⟩ ⟨(Nat.le_of_ble_eq_true rfl), (Nat.le_of_ble_eq_true rfl)⟩ (fun r h9 hp => ?_)
                          obtain ⟨rfl, rfl⟩ := hp
                          refine J_nf (nh2 := 135) (ck2 := 135) (sk2 := 415506) (st2 := [.int 0]) rfl rfl rfl rfl ?_
                          refine J_app (L3 := [(0, .inr (11, [.ref 1, .ref 17, .ref 50, .ref 51, .ref 54, .ref 57, .ref 65, .ref 75, .ref 81, .ref 85, .ref 88, .ref 93, .ref 96, .int 0, .int (-1), .ref 97, .int 0])), (57, .inr (9, [.ref 1, .ref 51, .ref 58, .ref 61, .ref 62, .ref 63, .ref 64, .int 1, .int 1, .int 1])), (1, .inr (8, [.ref 2, .ref 3, .ref 4, .int 0, .int (-1), .ref 11, .ref 12, .int 0, .ref 13, .ref 14, .int 0, .ref 15, .ref 16, .int 0])), (51, .inr (0, [.ref 52, .ref 53, .int 1, .int 5])), (52, .inl (0, 1260, .inl (upd (upd (fun _ => 0) 0 0) 0 4681))), (53, .inl (0, 7, .inl (upd (upd (upd (upd (upd (fun _ => 0) 0 1) 1 1) 2 1) 3 1) 4 1))), (2, .inl (0, 5, .inl (upd (fun _ => 0) 1 5)))]) rfl ?_
                          refine J_aload_n dL_law_206 rfl rfl ?_
                          refine J_sload_n dL_law_207 rfl rfl ?_
                          refine J_iload_n dL_law_208 rfl rfl ?_
                          refine J_iconst (v := 1) dL_law_209 (by decide) ?_
                          refine J_iadd (z := 1) dL_law_210 (by decide +kernel) ?_
                          refine L_sld (i2 := 1) (v := 1) dL_law_211 (jin (by decide +kernel)) (by decide +kernel) hx1 ?_
                          refine J_sload_n dL_law_212 rfl rfl ?_
                          refine J_iload_n dL_law_213 rfl rfl ?_
                          refine J_iconst (v := 2) dL_law_214 (by decide) ?_
                          refine J_iadd (z := 2) dL_law_215 (by decide +kernel) ?_
                          refine L_sld (i2 := 2) (v := 5) dL_law_216 (jin (by decide +kernel)) (by decide +kernel) hx2 ?_
                          refine J_callV (st := [.int 0]) dL_law_217 cv_L_17 (c_X12_beans_16 H0_98 H0_100) H0_98 rfl rfl (Nat.le_of_ble_eq_true rfl) ⟨(Nat.le_of_ble_eq_true rfl), (Nat.le_of_ble_eq_true rfl)⟩ ⟨(Nat.le_of_ble_eq_true rfl), (Nat.le_of_ble_eq_true rfl)⟩ (fun r h9 hp => ?_)
                          obtain ⟨rfl, rfl⟩ := hp
                          refine J_nf (nh2 := 135) (ck2 := 135) (sk2 := 415506) (st2 := [.int 0, .int 0]) rfl rfl rfl rfl ?_
                          refine J_app (L3 := [(98, .inr (12, [.int 0, .int 1, .ref 99, .ref 100, .ref 101, .ref 102, .ref 103, .ref 104, .ref 105, .int 0, .int (-1), .ref 106, .ref 107, .ref 108, .int 0, .int 0, .int 0, .int 0, .int 0, .int 0, .int 0, .ref 109, .int 0, .int 0, .ref 110, .ref 111, .ref 112, .ref 113, .ref 114, .ref 115, .ref 116, .ref 117, .int 0, .int 0, .int (-1), .int (-1), .ref 118, .ref 119, .ref 120, .ref 121, .ref 122, .ref 123, .ref 124, .ref 125, .ref 126, .ref 127, .ref 128, .ref 129, .int 0, .ref 130, .ref 131, .ref 132, .ref 133, .ref 134, .int 0, .int 0])), (100, .inl (0, 4870, .inl (upd (upd (upd (upd (upd (fun _ => 0) 63 (-1)) 1 5) 59 0) 61 0) 60 0))), (0, .inr (11, [.ref 1, .ref 17, .ref 50, .ref 51, .ref 54, .ref 57, .ref 65, .ref 75, .ref 81, .ref 85, .ref 88, .ref 93, .ref 96, .int 0, .int (-1), .ref 97, .int 0])), (57, .inr (9, [.ref 1, .ref 51, .ref 58, .ref 61, .ref 62, .ref 63, .ref 64, .int 1, .int 1, .int 1])), (1, .inr (8, [.ref 2, .ref 3, .ref 4, .int 0, .int (-1), .ref 11, .ref 12, .int 0, .ref 13, .ref 14, .int 0, .ref 15, .ref 16, .int 0])), (51, .inr (0, [.ref 52, .ref 53, .int 1, .int 5])), (52, .inl (0, 1260, .inl (upd (upd (fun _ => 0) 0 0) 0 4681))), (53, .inl (0, 7, .inl (upd (upd (upd (upd (upd (fun _ => 0) 0 1) 1 1) 2 1) 3 1) 4 1))), (2, .inl (0, 5, .inl (upd (fun _ => 0) 1 5)))]) rfl ?_
                          refine J_icmp_eq (tgt := 1221) dL_law_220 (by decide) (fun _ => ?_) (fun q => absurd (by decide +kernel) q)
                          exact law_tail (Nat.le_of_ble_eq_true rfl) (Nat.le_of_ble_eq_true rfl)
                        · rcases i_cut x2.toInt 7 with h_12 | h_12
                          · obtain rfl : x1 = 1 := by rw [fa_eq, kc_1]; omega
                            obtain rfl : x2 = 6 := by rw [fa_eq, kc_6]; omega
                            refine J_hc0 ?_
                            refine J_aload_n dL_law_192 rfl rfl ?_
                            refine J_sload_n dL_law_193 rfl rfl ?_
                            refine J_iload_n dL_law_194 rfl rfl ?_
                            refine J_iconst (v := 1) dL_law_195 (by decide) ?_
                            refine J_iadd (z := 1) dL_law_196 (by decide +kernel) ?_
                            refine L_sld (i2 := 1) (v := 1) dL_law_197 (jin (by decide +kernel)) (by decide +kernel) hx1 ?_
                            refine J_sload_n dL_law_198 rfl rfl ?_
                            refine J_iload_n dL_law_199 rfl rfl ?_
                            refine J_iconst (v := 2) dL_law_200 (by decide) ?_
                            refine J_iadd (z := 2) dL_law_201 (by decide +kernel) ?_
                            refine L_sld (i2 := 2) (v := 6) dL_law_202 (jin (by decide +kernel)) (by decide +kernel) hx2 ?_
                            refine J_callV (st := []) dL_law_203 cv_L_13 (c_X11_beans_17 H0_0 H0_1 H0_2 H0_51 H0_52 H0_53 H0_57) H0_0 rfl rfl (Nat.le_of_ble_eq_true rfl) ⟨(Nat.le_of_ble_eq_true rfl), (Nat.le_of_ble_eq_true rfl)⟩ ⟨(Nat.le_of_ble_eq_true rfl), (Nat.le_of_ble_eq_true rfl)⟩ (fun r h9 hp => ?_)
                            obtain ⟨rfl, rfl⟩ := hp
                            refine J_nf (nh2 := 135) (ck2 := 135) (sk2 := 415506) (st2 := [.int 0]) rfl rfl rfl rfl ?_
                            refine J_app (L3 := [(0, .inr (11, [.ref 1, .ref 17, .ref 50, .ref 51, .ref 54, .ref 57, .ref 65, .ref 75, .ref 81, .ref 85, .ref 88, .ref 93, .ref 96, .int 0, .int (-1), .ref 97, .int 0])), (57, .inr (9, [.ref 1, .ref 51, .ref 58, .ref 61, .ref 62, .ref 63, .ref 64, .int 1, .int 1, .int 1])), (1, .inr (8, [.ref 2, .ref 3, .ref 4, .int 0, .int (-1), .ref 11, .ref 12, .int 0, .ref 13, .ref 14, .int 0, .ref 15, .ref 16, .int 0])), (51, .inr (0, [.ref 52, .ref 53, .int 1, .int 6])), (52, .inl (0, 1260, .inl (upd (upd (fun _ => 0) 0 0) 0 37449))), (53, .inl (0, 7, .inl (upd (upd (upd (upd (upd (upd (fun _ => 0) 0 1) 1 1) 2 1) 3 1) 4 1) 5 1))), (2, .inl (0, 5, .inl (upd (fun _ => 0) 1 6)))]) rfl ?_
                            refine J_aload_n dL_law_206 rfl rfl ?_
                            refine J_sload_n dL_law_207 rfl rfl ?_
                            refine J_iload_n dL_law_208 rfl rfl ?_
                            refine J_iconst (v := 1) dL_law_209 (by decide) ?_
                            refine J_iadd (z := 1) dL_law_210 (by decide +kernel) ?_
                            refine L_sld (i2 := 1) (v := 1) dL_law_211 (jin (by decide +kernel)) (by decide +kernel) hx1 ?_
                            refine J_sload_n dL_law_212 rfl rfl ?_
                            refine J_iload_n dL_law_213 rfl rfl ?_
                            refine J_iconst (v := 2) dL_law_214 (by decide) ?_
                            refine J_iadd (z := 2) dL_law_215 (by decide +kernel) ?_
                            refine L_sld (i2 := 2) (v := 6) dL_law_216 (jin (by decide +kernel)) (by decide +kernel) hx2 ?_
                            refine J_callV (st := [.int 0]) dL_law_217 cv_L_17 (c_X12_beans_17 H0_98 H0_100) H0_98 rfl rfl (Nat.le_of_ble_eq_true rfl) ⟨(Nat.le_of_ble_eq_true rfl), (Nat.le_of_ble_eq_true rfl)⟩ ⟨(Nat.le_of_ble_eq_true rfl), (Nat.le_of_ble_eq_true rfl)⟩ (fun r h9 hp => ?_)
                            obtain ⟨rfl, rfl⟩ := hp
                            refine J_nf (nh2 := 135) (ck2 := 135) (sk2 := 415506) (st2 := [.int 0, .int 0]) rfl rfl rfl rfl ?_
                            refine J_app (L3 := [(98, .inr (12, [.int 0, .int 1, .ref 99, .ref 100, .ref 101, .ref 102, .ref 103, .ref 104, .ref 105, .int 0, .int (-1), .ref 106, .ref 107, .ref 108, .int 0, .int 0, .int 0, .int 0, .int 0, .int 0, .int 0, .ref 109, .int 0, .int 0, .ref 110, .ref 111, .ref 112, .ref 113, .ref 114, .ref 115, .ref 116, .ref 117, .int 0, .int 0, .int (-1), .int (-1), .ref 118, .ref 119, .ref 120, .ref 121, .ref 122, .ref 123, .ref 124, .ref 125, .ref 126, .ref 127, .ref 128, .ref 129, .int 0, .ref 130, .ref 131, .ref 132, .ref 133, .ref 134, .int 0, .int 0])), (100, .inl (0, 4870, .inl (upd (upd (upd (upd (upd (fun _ => 0) 63 (-1)) 1 6) 59 0) 61 0) 60 0))), (0, .inr (11, [.ref 1, .ref 17, .ref 50, .ref 51, .ref 54, .ref 57, .ref 65, .ref 75, .ref 81, .ref 85, .ref 88, .ref 93, .ref 96, .int 0, .int (-1), .ref 97, .int 0])), (57, .inr (9, [.ref 1, .ref 51, .ref 58, .ref 61, .ref 62, .ref 63, .ref 64, .int 1, .int 1, .int 1])), (1, .inr (8, [.ref 2, .ref 3, .ref 4, .int 0, .int (-1), .ref 11, .ref 12, .int 0, .ref 13, .ref 14, .int 0, .ref 15, .ref 16, .int 0])), (51, .inr (0, [.ref 52, .ref 53, .int 1, .int 6])), (52, .inl (0, 1260, .inl (upd (upd (fun _ => 0) 0 0) 0 37449))), (53, .inl (0, 7, .inl (upd (upd (upd (upd (upd (upd (fun _ => 0) 0 1) 1 1) 2 1) 3 1) 4 1) 5 1))), (2, .inl (0, 5, .inl (upd (fun _ => 0) 1 6)))]) rfl ?_
                            refine J_icmp_eq (tgt := 1221) dL_law_220 (by decide) (fun _ => ?_) (fun q => absurd (by decide +kernel) q)
                            exact law_tail (Nat.le_of_ble_eq_true rfl) (Nat.le_of_ble_eq_true rfl)
                          · obtain rfl : x1 = 1 := by rw [fa_eq, kc_1]; omega
                            obtain rfl : x2 = 7 := by rw [fa_eq, kc_7]; omega
                            refine J_hc0 ?_
                            refine J_aload_n dL_law_192 rfl rfl ?_
                            refine J_sload_n dL_law_193 rfl rfl ?_
                            refine J_iload_n dL_law_194 rfl rfl ?_
                            refine J_iconst (v := 1) dL_law_195 (by decide) ?_
                            refine J_iadd (z := 1) dL_law_196 (by decide +kernel) ?_
                            refine L_sld (i2 := 1) (v := 1) dL_law_197 (jin (by decide +kernel)) (by decide +kernel) hx1 ?_
                            refine J_sload_n dL_law_198 rfl rfl ?_
                            refine J_iload_n dL_law_199 rfl rfl ?_
                            refine J_iconst (v := 2) dL_law_200 (by decide) ?_
                            refine J_iadd (z := 2) dL_law_201 (by decide +kernel) ?_
                            refine L_sld (i2 := 2) (v := 7) dL_law_202 (jin (by decide +kernel)) (by decide +kernel) hx2 ?_
                            refine J_callV (st := []) dL_law_203 cv_L_13 (c_X11_beans_18 H0_0 H0_1 H0_2 H0_51 H0_52 H0_53 H0_57) H0_0 rfl rfl (Nat.le_of_ble_eq_true rfl) ⟨(Nat.le_of_ble_eq_true rfl), (Nat.le_of_ble_eq_true rfl)⟩ ⟨(Nat.le_of_ble_eq_true rfl), (Nat.le_of_ble_eq_true rfl)⟩ (fun r h9 hp => ?_)
                            obtain ⟨rfl, rfl⟩ := hp
                            refine J_nf (nh2 := 135) (ck2 := 135) (sk2 := 415506) (st2 := [.int 0]) rfl rfl rfl rfl ?_
                            refine J_app (L3 := [(0, .inr (11, [.ref 1, .ref 17, .ref 50, .ref 51, .ref 54, .ref 57, .ref 65, .ref 75, .ref 81, .ref 85, .ref 88, .ref 93, .ref 96, .int 0, .int (-1), .ref 97, .int 0])), (57, .inr (9, [.ref 1, .ref 51, .ref 58, .ref 61, .ref 62, .ref 63, .ref 64, .int 1, .int 1, .int 1])), (1, .inr (8, [.ref 2, .ref 3, .ref 4, .int 0, .int (-1), .ref 11, .ref 12, .int 0, .ref 13, .ref 14, .int 0, .ref 15, .ref 16, .int 0])), (51, .inr (0, [.ref 52, .ref 53, .int 1, .int 7])), (52, .inl (0, 1260, .inl (upd (upd (fun _ => 0) 0 0) 0 299593))), (53, .inl (0, 7, .inl (upd (upd (upd (upd (upd (upd (upd (fun _ => 0) 0 1) 1 1) 2 1) 3 1) 4 1) 5 1) 6 1))), (2, .inl (0, 5, .inl (upd (fun _ => 0) 1 7)))]) rfl ?_
                            refine J_aload_n dL_law_206 rfl rfl ?_
                            refine J_sload_n dL_law_207 rfl rfl ?_
                            refine J_iload_n dL_law_208 rfl rfl ?_
                            refine J_iconst (v := 1) dL_law_209 (by decide) ?_
                            refine J_iadd (z := 1) dL_law_210 (by decide +kernel) ?_
                            refine L_sld (i2 := 1) (v := 1) dL_law_211 (jin (by decide +kernel)) (by decide +kernel) hx1 ?_
                            refine J_sload_n dL_law_212 rfl rfl ?_
                            refine J_iload_n dL_law_213 rfl rfl ?_
                            refine J_iconst (v := 2) dL_law_214 (by decide) ?_
                            refine J_iadd (z := 2) dL_law_215 (by decide +kernel) ?_
                            refine L_sld (i2 := 2) (v := 7) dL_law_216 (jin (by decide +kernel)) (by decide +kernel) hx2 ?_
                            refine J_callV (st := [.int 0]) dL_law_217 cv_L_17 (c_X12_beans_18 H0_98 H0_100) H0_98 rfl rfl (Nat.le_of_ble_eq_true rfl) ⟨(Nat.le_of_ble_eq_true rfl), (Nat.le_of_ble_eq_true rfl)⟩ ⟨(Nat.le_of_ble_eq_true rfl), (Nat.le_of_ble_eq_true rfl)⟩ (fun r h9 hp => ?_)
                            obtain ⟨rfl, rfl⟩ := hp
                            refine J_nf (nh2 := 135) (ck2 := 135) (sk2 := 415506) (st2 := [.int 0, .int 0]) rfl rfl rfl rfl ?_
                            refine J_app (L3 := [(98, .inr (12, [.int 0, .int 1, .ref 99, .ref 100, .ref 101, .ref 102, .ref 103, .ref 104, .ref 105, .int 0, .int (-1), .ref 106, .ref 107, .ref 108, .int 0, .int 0, .int 0, .int 0, .int 0, .int 0, .int 0, .ref 109, .int 0, .int 0, .ref 110, .ref 111, .ref 112, .ref 113, .ref 114, .ref 115, .ref 116, .ref 117, .int 0, .int 0, .int (-1), .int (-1), .ref 118, .ref 119, .ref 120, .ref 121, .ref 122, .ref 123, .ref 124, .ref 125, .ref 126, .ref 127, .ref 128, .ref 129, .int 0, .ref 130, .ref 131, .ref 132, .ref 133, .ref 134, .int 0, .int 0])), (100, .inl (0, 4870, .inl (upd (upd (upd (upd (upd (fun _ => 0) 63 (-1)) 1 7) 59 0) 61 0) 60 0))), (0, .inr (11, [.ref 1, .ref 17, .ref 50, .ref 51, .ref 54, .ref 57, .ref 65, .ref 75, .ref 81, .ref 85, .ref 88, .ref 93, .ref 96, .int 0, .int (-1), .ref 97, .int 0])), (57, .inr (9, [.ref 1, .ref 51, .ref 58, .ref 61, .ref 62, .ref 63, .ref 64, .int 1, .int 1, .int 1])), (1, .inr (8, [.ref 2, .ref 3, .ref 4, .int 0, .int (-1), .ref 11, .ref 12, .int 0, .ref 13, .ref 14, .int 0, .ref 15, .ref 16, .int 0])), (51, .inr (0, [.ref 52, .ref 53, .int 1, .int 7])), (52, .inl (0, 1260, .inl (upd (upd (fun _ => 0) 0 0) 0 299593))), (53, .inl (0, 7, .inl (upd (upd (upd (upd (upd (upd (upd (fun _ => 0) 0 1) 1 1) 2 1) 3 1) 4 1) 5 1) 6 1))), (2, .inl (0, 5, .inl (upd (fun _ => 0) 1 7)))]) rfl ?_
                            refine J_icmp_eq (tgt := 1221) dL_law_220 (by decide) (fun _ => ?_) (fun q => absurd (by decide +kernel) q)
                            exact law_tail (Nat.le_of_ble_eq_true rfl) (Nat.le_of_ble_eq_true rfl)
            · rcases i_cut x1.toInt 3 with h_6 | h_6
              · rcases i_cut x2.toInt 1 with h_7 | h_7
                · obtain rfl : x1 = 2 := by rw [fa_eq, kc_2]; omega
                  obtain rfl : x2 = 0 := by rw [fa_eq, kc_0]; omega
                  refine J_hc0 ?_
                  refine J_aload_n dL_law_192 rfl rfl ?_
                  refine J_sload_n dL_law_193 rfl rfl ?_
                  refine J_iload_n dL_law_194 rfl rfl ?_
                  refine J_iconst (v := 1) dL_law_195 (by decide) ?_
                  refine J_iadd (z := 1) dL_law_196 (by decide +kernel) ?_
                  refine L_sld (i2 := 1) (v := 2) dL_law_197 (jin (by decide +kernel)) (by decide +kernel) hx1 ?_
                  refine J_sload_n dL_law_198 rfl rfl ?_
                  refine J_iload_n dL_law_199 rfl rfl ?_
                  refine J_iconst (v := 2) dL_law_200 (by decide) ?_
                  refine J_iadd (z := 2) dL_law_201 (by decide +kernel) ?_
                  refine L_sld (i2 := 2) (v := 0) dL_law_202 (jin (by decide +kernel)) (by decide +kernel) hx2 ?_
                  refine J_callV (st := []) dL_law_203 cv_L_13 (c_X11_beans_19 H0_0 H0_1 H0_2 H0_51 H0_52 H0_57) H0_0 rfl rfl (Nat.le_of_ble_eq_true rfl) ⟨(Nat.le_of_ble_eq_true rfl), (Nat.le_of_ble_eq_true rfl)⟩ ⟨(Nat.le_of_ble_eq_true rfl), (Nat.le_of_ble_eq_true rfl)⟩ (fun r h9 hp => ?_)
                  obtain ⟨rfl, rfl⟩ := hp
                  refine J_nf (nh2 := 135) (ck2 := 135) (sk2 := 415506) (st2 := [.int 0]) rfl rfl rfl rfl ?_
                  refine J_app (L3 := [(0, .inr (11, [.ref 1, .ref 17, .ref 50, .ref 51, .ref 54, .ref 57, .ref 65, .ref 75, .ref 81, .ref 85, .ref 88, .ref 93, .ref 96, .int 0, .int (-1), .ref 97, .int 0])), (57, .inr (9, [.ref 1, .ref 51, .ref 58, .ref 61, .ref 62, .ref 63, .ref 64, .int 1, .int 1, .int 1])), (1, .inr (8, [.ref 2, .ref 3, .ref 4, .int 0, .int (-1), .ref 11, .ref 12, .int 0, .ref 13, .ref 14, .int 0, .ref 15, .ref 16, .int 0])), (51, .inr (0, [.ref 52, .ref 53, .int 1, .int 0])), (52, .inl (0, 1260, .inl (upd (upd (fun _ => 0) 0 0) 0 0))), (2, .inl (0, 5, .inl (upd (fun _ => 0) 2 0)))]) rfl ?_
                  refine J_aload_n dL_law_206 rfl rfl ?_
                  refine J_sload_n dL_law_207 rfl rfl ?_
                  refine J_iload_n dL_law_208 rfl rfl ?_
                  refine J_iconst (v := 1) dL_law_209 (by decide) ?_
                  refine J_iadd (z := 1) dL_law_210 (by decide +kernel) ?_
                  refine L_sld (i2 := 1) (v := 2) dL_law_211 (jin (by decide +kernel)) (by decide +kernel) hx1 ?_
                  refine J_sload_n dL_law_212 rfl rfl ?_
                  refine J_iload_n dL_law_213 rfl rfl ?_
                  refine J_iconst (v := 2) dL_law_214 (by decide) ?_
                  refine J_iadd (z := 2) dL_law_215 (by decide +kernel) ?_
                  refine L_sld (i2 := 2) (v := 0) dL_law_216 (jin (by decide +kernel)) (by decide +kernel) hx2 ?_
                  refine J_callV (st := [.int 0]) dL_law_217 cv_L_17 (c_X12_beans_19 H0_98 H0_100) H0_98 rfl rfl (Nat.le_of_ble_eq_true rfl) ⟨(Nat.le_of_ble_eq_true rfl), (Nat.le_of_ble_eq_true rfl)⟩ ⟨(Nat.le_of_ble_eq_true rfl), (Nat.le_of_ble_eq_true rfl)⟩ (fun r h9 hp => ?_)
                  obtain ⟨rfl, rfl⟩ := hp
                  refine J_nf (nh2 := 135) (ck2 := 135) (sk2 := 415506) (st2 := [.int 0, .int 0]) rfl rfl rfl rfl ?_
                  refine J_app (L3 := [(98, .inr (12, [.int 0, .int 1, .ref 99, .ref 100, .ref 101, .ref 102, .ref 103, .ref 104, .ref 105, .int 0, .int (-1), .ref 106, .ref 107, .ref 108, .int 0, .int 0, .int 0, .int 0, .int 0, .int 0, .int 0, .ref 109, .int 0, .int 0, .ref 110, .ref 111, .ref 112, .ref 113, .ref 114, .ref 115, .ref 116, .ref 117, .int 0, .int 0, .int (-1), .int (-1), .ref 118, .ref 119, .ref 120, .ref 121, .ref 122, .ref 123, .ref 124, .ref 125, .ref 126, .ref 127, .ref 128, .ref 129, .int 0, .ref 130, .ref 131, .ref 132, .ref 133, .ref 134, .int 0, .int 0])), (100, .inl (0, 4870, .inl (upd (upd (upd (upd (upd (fun _ => 0) 63 (-1)) 2 0) 59 0) 61 0) 60 0))), (0, .inr (11, [.ref 1, .ref 17, .ref 50, .ref 51, .ref 54, .ref 57, .ref 65, .ref 75, .ref 81, .ref 85, .ref 88, .ref 93, .ref 96, .int 0, .int (-1), .ref 97, .int 0])), (57, .inr (9, [.ref 1, .ref 51, .ref 58, .ref 61, .ref 62, .ref 63, .ref 64, .int 1, .int 1, .int 1])), (1, .inr (8, [.ref 2, .ref 3, .ref 4, .int 0, .int (-1), .ref 11, .ref 12, .int 0, .ref 13, .ref 14, .int 0, .ref 15, .ref 16, .int 0])), (51, .inr (0, [.ref 52, .ref 53, .int 1, .int 0])), (52, .inl (0, 1260, .inl (upd (upd (fun _ => 0) 0 0) 0 0))), (2, .inl (0, 5, .inl (upd (fun _ => 0) 2 0)))]) rfl ?_
                  refine J_icmp_eq (tgt := 1221) dL_law_220 (by decide) (fun _ => ?_) (fun q => absurd (by decide +kernel) q)
                  exact law_tail (Nat.le_of_ble_eq_true rfl) (Nat.le_of_ble_eq_true rfl)
                · rcases i_cut x2.toInt 2 with h_8 | h_8
                  · obtain rfl : x1 = 2 := by rw [fa_eq, kc_2]; omega
                    obtain rfl : x2 = 1 := by rw [fa_eq, kc_1]; omega
                    refine J_hc0 ?_
                    refine J_aload_n dL_law_192 rfl rfl ?_
                    refine J_sload_n dL_law_193 rfl rfl ?_
                    refine J_iload_n dL_law_194 rfl rfl ?_
                    refine J_iconst (v := 1) dL_law_195 (by decide) ?_
                    refine J_iadd (z := 1) dL_law_196 (by decide +kernel) ?_
                    refine L_sld (i2 := 1) (v := 2) dL_law_197 (jin (by decide +kernel)) (by decide +kernel) hx1 ?_
                    refine J_sload_n dL_law_198 rfl rfl ?_
                    refine J_iload_n dL_law_199 rfl rfl ?_
                    refine J_iconst (v := 2) dL_law_200 (by decide) ?_
                    refine J_iadd (z := 2) dL_law_201 (by decide +kernel) ?_
                    refine L_sld (i2 := 2) (v := 1) dL_law_202 (jin (by decide +kernel)) (by decide +kernel) hx2 ?_
                    refine J_callV (st := []) dL_law_203 cv_L_13 (c_X11_beans_20 H0_0 H0_1 H0_2 H0_51 H0_52 H0_53 H0_57) H0_0 rfl rfl (Nat.le_of_ble_eq_true rfl) ⟨(Nat.le_of_ble_eq_true rfl), (Nat.le_of_ble_eq_true rfl)⟩ ⟨(Nat.le_of_ble_eq_true rfl), (Nat.le_of_ble_eq_true rfl)⟩ (fun r h9 hp => ?_)
                    obtain ⟨rfl, rfl⟩ := hp
                    refine J_nf (nh2 := 135) (ck2 := 135) (sk2 := 415506) (st2 := [.int 0]) rfl rfl rfl rfl ?_
                    refine J_app (L3 := [(0, .inr (11, [.ref 1, .ref 17, .ref 50, .ref 51, .ref 54, .ref 57, .ref 65, .ref 75, .ref 81, .ref 85, .ref 88, .ref 93, .ref 96, .int 0, .int (-1), .ref 97, .int 0])), (57, .inr (9, [.ref 1, .ref 51, .ref 58, .ref 61, .ref 62, .ref 63, .ref 64, .int 1, .int 1, .int 1])), (1, .inr (8, [.ref 2, .ref 3, .ref 4, .int 0, .int (-1), .ref 11, .ref 12, .int 0, .ref 13, .ref 14, .int 0, .ref 15, .ref 16, .int 0])), (51, .inr (0, [.ref 52, .ref 53, .int 1, .int 1])), (52, .inl (0, 1260, .inl (upd (upd (fun _ => 0) 0 0) 0 2))), (53, .inl (0, 7, .inl (upd (fun _ => 0) 0 2))), (2, .inl (0, 5, .inl (upd (fun _ => 0) 2 1)))]) rfl ?_
                    refine J_aload_n dL_law_206 rfl rfl ?_
                    refine J_sload_n dL_law_207 rfl rfl ?_
                    refine J_iload_n dL_law_208 rfl rfl ?_
                    refine J_iconst (v := 1) dL_law_209 (by decide) ?_
                    refine J_iadd (z := 1) dL_law_210 (by decide +kernel) ?_
                    refine L_sld (i2 := 1) (v := 2) dL_law_211 (jin (by decide +kernel)) (by decide +kernel) hx1 ?_
                    refine J_sload_n dL_law_212 rfl rfl ?_
                    refine J_iload_n dL_law_213 rfl rfl ?_
                    refine J_iconst (v := 2) dL_law_214 (by decide) ?_
                    refine J_iadd (z := 2) dL_law_215 (by decide +kernel) ?_
                    refine L_sld (i2 := 2) (v := 1) dL_law_216 (jin (by decide +kernel)) (by decide +kernel) hx2 ?_
                    refine J_callV (st := [.int 0]) dL_law_217 cv_L_17 (c_X12_beans_20 H0_98 H0_100) H0_98 rfl rfl (Nat.le_of_ble_eq_true rfl) ⟨(Nat.le_of_ble_eq_true rfl), (Nat.le_of_ble_eq_true rfl)⟩ ⟨(Nat.le_of_ble_eq_true rfl), (Nat.le_of_ble_eq_true rfl)⟩ (fun r h9 hp => ?_)
                    obtain ⟨rfl, rfl⟩ := hp
                    refine J_nf (nh2 := 135) (ck2 := 135) (sk2 := 415506) (st2 := [.int 0, .int 0]) rfl rfl rfl rfl ?_
                    refine J_app (L3 := [(98, .inr (12, [.int 0, .int 1, .ref 99, .ref 100, .ref 101, .ref 102, .ref 103, .ref 104, .ref 105, .int 0, .int (-1), .ref 106, .ref 107, .ref 108, .int 0, .int 0, .int 0, .int 0, .int 0, .int 0, .int 0, .ref 109, .int 0, .int 0, .ref 110, .ref 111, .ref 112, .ref 113, .ref 114, .ref 115, .ref 116, .ref 117, .int 0, .int 0, .int (-1), .int (-1), .ref 118, .ref 119, .ref 120, .ref 121, .ref 122, .ref 123, .ref 124, .ref 125, .ref 126, .ref 127, .ref 128, .ref 129, .int 0, .ref 130, .ref 131, .ref 132, .ref 133, .ref 134, .int 0, .int 0])), (100, .inl (0, 4870, .inl (upd (upd (upd (upd (upd (fun _ => 0) 63 (-1)) 2 1) 59 0) 61 0) 60 0))), (0, .inr (11, [.ref 1, .ref 17, .ref 50, .ref 51, .ref 54, .ref 57, .ref 65, .ref 75, .ref 81, .ref 85, .ref 88, .ref 93, .ref 96, .int 0, .int (-1), .ref 97, .int 0])), (57, .inr (9, [.ref 1, .ref 51, .ref 58, .ref 61, .ref 62, .ref 63, .ref 64, .int 1, .int 1, .int 1])), (1, .inr (8, [.ref 2, .ref 3, .ref 4, .int 0, .int (-1), .ref 11, .ref 12, .int 0, .ref 13, .ref 14, .int 0, .ref 15, .ref 16, .int 0])), (51, .inr (0, [.ref 52, .ref 53, .int 1, .int 1])), (52, .inl (0, 1260, .inl (upd (upd (fun _ => 0) 0 0) 0 2))), (53, .inl (0, 7, .inl (upd (fun _ => 0) 0 2))), (2, .inl (0, 5, .inl (upd (fun _ => 0) 2 1)))]) rfl ?_
                    refine J_icmp_eq (tgt := 1221) dL_law_220 (by decide) (fun _ => ?_) (fun q => absurd (by decide +kernel) q)
                    exact law_tail (Nat.le_of_ble_eq_true rfl) (Nat.le_of_ble_eq_true rfl)
                  · rcases i_cut x2.toInt 3 with h_9 | h_9
                    · obtain rfl : x1 = 2 := by rw [fa_eq, kc_2]; omega
                      obtain rfl : x2 = 2 := by rw [fa_eq, kc_2]; omega
                      refine J_hc0 ?_
                      refine J_aload_n dL_law_192 rfl rfl ?_
                      refine J_sload_n dL_law_193 rfl rfl ?_
                      refine J_iload_n dL_law_194 rfl rfl ?_
                      refine J_iconst (v := 1) dL_law_195 (by decide) ?_
                      refine J_iadd (z := 1) dL_law_196 (by decide +kernel) ?_
                      refine L_sld (i2 := 1) (v := 2) dL_law_197 (jin (by decide +kernel)) (by decide +kernel) hx1 ?_
                      refine J_sload_n dL_law_198 rfl rfl ?_
                      refine J_iload_n dL_law_199 rfl rfl ?_
                      refine J_iconst (v := 2) dL_law_200 (by decide) ?_
                      refine J_iadd (z := 2) dL_law_201 (by decide +kernel) ?_
                      refine L_sld (i2 := 2) (v := 2) dL_law_202 (jin (by decide +kernel)) (by decide +kernel) hx2 ?_
                      refine J_callV (st := []) dL_law_203 cv_L_13 (c_X11_beans_21 H0_0 H0_1 H0_2 H0_51 H0_52 H0_53 H0_57) H0_0 rfl rfl (Nat.le_of_ble_eq_true rfl) ⟨(Nat.le_of_ble_eq_true rfl), (Nat.le_of_ble_eq_true rfl)⟩ ⟨(Nat.le_of_ble_eq_true rfl), (Nat.le_of_ble_eq_true rfl)⟩ (fun r h9 hp => ?_)
                      obtain ⟨rfl, rfl⟩ := hp
                      refine J_nf (nh2 := 135) (ck2 := 135) (sk2 := 415506) (st2 := [.int 0]) rfl rfl rfl rfl ?_
                      refine J_app (L3 := [(0, .inr (11, [.ref 1, .ref 17, .ref 50, .ref 51, .ref 54, .ref 57, .ref 65, .ref 75, .ref 81, .ref 85, .ref 88, .ref 93, .ref 96, .int 0, .int (-1), .ref 97, .int 0])), (57, .inr (9, [.ref 1, .ref 51, .ref 58, .ref 61, .ref 62, .ref 63, .ref 64, .int 1, .int 1, .int 1])), (1, .inr (8, [.ref 2, .ref 3, .ref 4, .int 0, .int (-1), .ref 11, .ref 12, .int 0, .ref 13, .ref 14, .int 0, .ref 15, .ref 16, .int 0])), (51, .inr (0, [.ref 52, .ref 53, .int 1, .int 2])), (52, .inl (0, 1260, .inl (upd (upd (fun _ => 0) 0 0) 0 18))), (53, .inl (0, 7, .inl (upd (upd (fun _ => 0) 0 2) 1 2))), (2, .inl (0, 5, .inl (upd (fun _ => 0) 2 2)))]) rfl ?_
                      refine J_aload_n dL_law_206 rfl rfl ?_
                      refine J_sload_n dL_law_207 rfl rfl ?_
                      refine J_iload_n dL_law_208 rfl rfl ?_
                      refine J_iconst (v := 1) dL_law_209 (by decide) ?_
                      refine J_iadd (z := 1) dL_law_210 (by decide +kernel) ?_
                      refine L_sld (i2 := 1) (v := 2) dL_law_211 (jin (by decide +kernel)) (by decide +kernel) hx1 ?_
                      refine J_sload_n dL_law_212 rfl rfl ?_
                      refine J_iload_n dL_law_213 rfl rfl ?_
                      refine J_iconst (v := 2) dL_law_214 (by decide) ?_
                      refine J_iadd (z := 2) dL_law_215 (by decide +kernel) ?_
                      refine L_sld (i2 := 2) (v := 2) dL_law_216 (jin (by decide +kernel)) (by decide +kernel) hx2 ?_
                      refine J_callV (st := [.int 0]) dL_law_217 cv_L_17 (c_X12_beans_21 H0_98 H0_100) H0_98 rfl rfl (Nat.le_of_ble_eq_true rfl) ⟨(Nat.le_of_ble_eq_true rfl), (Nat.le_of_ble_eq_true rfl)⟩ ⟨(Nat.le_of_ble_eq_true rfl), (Nat.le_of_ble_eq_true rfl)⟩ (fun r h9 hp => ?_)
                      obtain ⟨rfl, rfl⟩ := hp
                      refine J_nf (nh2 := 135) (ck2 := 135) (sk2 := 415506) (st2 := [.int 0, .int 0]) rfl rfl rfl rfl ?_
                      refine J_app (L3 := [(98, .inr (12, [.int 0, .int 1, .ref 99, .ref 100, .ref 101, .ref 102, .ref 103, .ref 104, .ref 105, .int 0, .int (-1), .ref 106, .ref 107, .ref 108, .int 0, .int 0, .int 0, .int 0, .int 0, .int 0, .int 0, .ref 109, .int 0, .int 0, .ref 110, .ref 111, .ref 112, .ref 113, .ref 114, .ref 115, .ref 116, .ref 117, .int 0, .int 0, .int (-1), .int (-1), .ref 118, .ref 119, .ref 120, .ref 121, .ref 122, .ref 123, .ref 124, .ref 125, .ref 126, .ref 127, .ref 128, .ref 129, .int 0, .ref 130, .ref 131, .ref 132, .ref 133, .ref 134, .int 0, .int 0])), (100, .inl (0, 4870, .inl (upd (upd (upd (upd (upd (fun _ => 0) 63 (-1)) 2 2) 59 0) 61 0) 60 0))), (0, .inr (11, [.ref 1, .ref 17, .ref 50, .ref 51, .ref 54, .ref 57, .ref 65, .ref 75, .ref 81, .ref 85, .ref 88, .ref 93, .ref 96, .int 0, .int (-1), .ref 97, .int 0])), (57, .inr (9, [.ref 1, .ref 51, .ref 58, .ref 61, .ref 62, .ref 63, .ref 64, .int 1, .int 1, .int 1])), (1, .inr (8, [.ref 2, .ref 3, .ref 4, .int 0, .int (-1), .ref 11, .ref 12, .int 0, .ref 13, .ref 14, .int 0, .ref 15, .ref 16, .int 0])), (51, .inr (0, [.ref 52, .ref 53, .int 1, .int 2])), (52, .inl (0, 1260, .inl (upd (upd (fun _ => 0) 0 0) 0 18))), (53, .inl (0, 7, .inl (upd (upd (fun _ => 0) 0 2) 1 2))), (2, .inl (0, 5, .inl (upd (fun _ => 0) 2 2)))]) rfl ?_
                      refine J_icmp_eq (tgt := 1221) dL_law_220 (by decide) (fun _ => ?_) (fun q => absurd (by decide +kernel) q)
                      exact law_tail (Nat.le_of_ble_eq_true rfl) (Nat.le_of_ble_eq_true rfl)
                    · rcases i_cut x2.toInt 4 with h_10 | h_10
                      · obtain rfl : x1 = 2 := by rw [fa_eq, kc_2]; omega
                        obtain rfl : x2 = 3 := by rw [fa_eq, kc_3]; omega
                        refine J_hc0 ?_
                        refine J_aload_n dL_law_192 rfl rfl ?_
                        refine J_sload_n dL_law_193 rfl rfl ?_
                        refine J_iload_n dL_law_194 rfl rfl ?_
                        refine J_iconst (v := 1) dL_law_195 (by decide) ?_
                        refine J_iadd (z := 1) dL_law_196 (by decide +kernel) ?_
                        refine L_sld (i2 := 1) (v := 2) dL_law_197 (jin (by decide +kernel)) (by decide +kernel) hx1 ?_
                        refine J_sload_n dL_law_198 rfl rfl ?_
                        refine J_iload_n dL_law_199 rfl rfl ?_
                        refine J_iconst (v := 2) dL_law_200 (by decide) ?_
                        refine J_iadd (z := 2) dL_law_201 (by decide +kernel) ?_
                        refine L_sld (i2 := 2) (v := 3) dL_law_202 (jin (by decide +kernel)) (by decide +kernel) hx2 ?_
                        refine J_callV (st := []) dL_law_203 cv_L_13 (c_X11_beans_22 H0_0 H0_1 H0_2 H0_51 H0_52 H0_53 H0_57) H0_0 rfl rfl (Nat.le_of_ble_eq_true rfl) ⟨(Nat.le_of_ble_eq_true rfl), (Nat.le_of_ble_eq_true rfl)⟩ ⟨(Nat.le_of_ble_eq_true rfl), (Nat.le_of_ble_eq_true rfl)⟩ (fun r h9 hp => ?_)
                        obtain ⟨rfl, rfl⟩ := hp
                        refine J_nf (nh2 := 135) (ck2 := 135) (sk2 := 415506) (st2 := [.int 0]) rfl rfl rfl rfl ?_
                        refine J_app (L3 := [(0, .inr (11, [.ref 1, .ref 17, .ref 50, .ref 51, .ref 54, .ref 57, .ref 65, .ref 75, .ref 81, .ref 85, .ref 88, .ref 93, .ref 96, .int 0, .int (-1), .ref 97, .int 0])), (57, .inr (9, [.ref 1, .ref 51, .ref 58, .ref 61, .ref 62, .ref 63, .ref 64, .int 1, .int 1, .int 1])), (1, .inr (8, [.ref 2, .ref 3, .ref 4, .int 0, .int (-1), .ref 11, .ref 12, .int 0, .ref 13, .ref 14, .int 0, .ref 15, .ref 16, .int 0])), (51, .inr (0, [.ref 52, .ref 53, .int 1, .int 3])), (52, .inl (0, 1260, .inl (upd (upd (fun _ => 0) 0 0) 0 146))), (53, .inl (0, 7, .inl (upd (upd (upd (fun _ => 0) 0 2) 1 2) 2 2))), (2, .inl (0, 5, .inl (upd (fun _ => 0) 2 3)))]) rfl ?_
                        refine J_aload_n dL_law_206 rfl rfl ?_
                        refine J_sload_n dL_law_207 rfl rfl ?_
                        refine J_iload_n dL_law_208 rfl rfl ?_
                        refine J_iconst (v := 1) dL_law_209 (by decide) ?_
                        refine J_iadd (z := 1) dL_law_210 (by decide +kernel) ?_
                        refine L_sld (i2 := 1) (v := 2) dL_law_211 (jin (by decide +kernel)) (by decide +kernel) hx1 ?_
                        refine J_sload_n dL_law_212 rfl rfl ?_
                        refine J_iload_n dL_law_213 rfl rfl ?_
                        refine J_iconst (v := 2) dL_law_214 (by decide) ?_
                        refine J_iadd (z := 2) dL_law_215 (by decide +kernel) ?_
                        refine L_sld (i2 := 2) (v := 3) dL_law_216 (jin (by decide +kernel)) (by decide +kernel) hx2 ?_
                        refine J_callV (st := [.int 0]) dL_law_217 cv_L_17 (c_X12_beans_22 H0_98 H0_100) H0_98 rfl rfl (Nat.le_of_ble_eq_true rfl) ⟨(Nat.le_of_ble_eq_true rfl), (Nat.le_of_ble_eq_true rfl)⟩ ⟨(Nat.le_of_ble_eq_true rfl), (Nat.le_of_ble_eq_true rfl)⟩ (fun r h9 hp => ?_)
                        obtain ⟨rfl, rfl⟩ := hp
                        refine J_nf (nh2 := 135) (ck2 := 135) (sk2 := 415506) (st2 := [.int 0, .int 0]) rfl rfl rfl rfl ?_
                        refine J_app (L3 := [(98, .inr (12, [.int 0, .int 1, .ref 99, .ref 100, .ref 101, .ref 102, .ref 103, .ref 104, .ref 105, .int 0, .int (-1), .ref 106, .ref 107, .ref 108, .int 0, .int 0, .int 0, .int 0, .int 0, .int 0, .int 0, .ref 109, .int 0, .int 0, .ref 110, .ref 111, .ref 112, .ref 113, .ref 114, .ref 115, .ref 116, .ref 117, .int 0, .int 0, .int (-1), .int (-1), .ref 118, .ref 119, .ref 120, .ref 121, .ref 122, .ref 123, .ref 124, .ref 125, .ref 126, .ref 127, .ref 128, .ref 129, .int 0, .ref 130, .ref 131, .ref 132, .ref 133, .ref 134, .int 0, .int 0])), (100, .inl (0, 4870, .inl (upd (upd (upd (upd (upd (fun _ => 0) 63 (-1)) 2 3) 59 0) 61 0) 60 0))), (0, .inr (11, [.ref 1, .ref 17, .ref 50, .ref 51, .ref 54, .ref 57, .ref 65, .ref 75, .ref 81, .ref 85, .ref 88, .ref 93, .ref 96, .int 0, .int (-1), .ref 97, .int 0])), (57, .inr (9, [.ref 1, .ref 51, .ref 58, .ref 61, .ref 62, .ref 63, .ref 64, .int 1, .int 1, .int 1])), (1, .inr (8, [.ref 2, .ref 3, .ref 4, .int 0, .int (-1), .ref 11, .ref 12, .int 0, .ref 13, .ref 14, .int 0, .ref 15, .ref 16, .int 0])), (51, .inr (0, [.ref 52, .ref 53, .int 1, .int 3])), (52, .inl (0, 1260, .inl (upd (upd (fun _ => 0) 0 0) 0 146))), (53, .inl (0, 7, .inl (upd (upd (upd (fun _ => 0) 0 2) 1 2) 2 2))), (2, .inl (0, 5, .inl (upd (fun _ => 0) 2 3)))]) rfl ?_
                        refine J_icmp_eq (tgt := 1221) dL_law_220 (by decide) (fun _ => ?_) (fun q => absurd (by decide +kernel) q)
                        exact law_tail (Nat.le_of_ble_eq_true rfl) (Nat.le_of_ble_eq_true rfl)
                      · rcases i_cut x2.toInt 5 with h_11 | h_11
                        · obtain rfl : x1 = 2 := by rw [fa_eq, kc_2]; omega
                          obtain rfl : x2 = 4 := by rw [fa_eq, kc_4]; omega
                          refine J_hc0 ?_
                          refine J_aload_n dL_law_192 rfl rfl ?_
                          refine J_sload_n dL_law_193 rfl rfl ?_
                          refine J_iload_n dL_law_194 rfl rfl ?_
                          refine J_iconst (v := 1) dL_law_195 (by decide) ?_
                          refine J_iadd (z := 1) dL_law_196 (by decide +kernel) ?_
                          refine L_sld (i2 := 1) (v := 2) dL_law_197 (jin (by decide +kernel)) (by decide +kernel) hx1 ?_
                          refine J_sload_n dL_law_198 rfl rfl ?_
                          refine J_iload_n dL_law_199 rfl rfl ?_
                          refine J_iconst (v := 2) dL_law_200 (by decide) ?_
                          refine J_iadd (z := 2) dL_law_201 (by decide +kernel) ?_
                          refine L_sld (i2 := 2) (v := 4) dL_law_202 (jin (by decide +kernel)) (by decide +kernel) hx2 ?_
                          refine J_callV (st := []) dL_law_203 cv_L_13 (c_X11_beans_23 H0_0 H0_1 H0_2 H0_51 H0_52 H0_53 H0_57) H0_0 rfl rfl (Nat.le_of_ble_eq_true rfl) ⟨(Nat.le_of_ble_eq_true rfl), (Nat.le_of_ble_eq_true rfl)⟩ ⟨(Nat.le_of_ble_eq_true rfl), (Nat.le_of_ble_eq_true rfl)⟩ (fun r h9 hp => ?_)
                          obtain ⟨rfl, rfl⟩ := hp
                          refine J_nf (nh2 := 135) (ck2 := 135) (sk2 := 415506) (st2 := [.int 0]) rfl rfl rfl rfl ?_
                          refine J_app (L3 := [(0, .inr (11, [.ref 1, .ref 17, .ref 50, .ref 51, .ref 54, .ref 57, .ref 65, .ref 75, .ref 81, .ref 85, .ref 88, .ref 93, .ref 96, .int 0, .int (-1), .ref 97, .int 0])), (57, .inr (9, [.ref 1, .ref 51, .ref 58, .ref 61, .ref 62, .ref 63, .ref 64, .int 1, .int 1, .int 1])), (1, .inr (8, [.ref 2, .ref 3, .ref 4, .int 0, .int (-1), .ref 11, .ref 12, .int 0, .ref 13, .ref 14, .int 0, .ref 15, .ref 16, .int 0])), (51, .inr (0, [.ref 52, .ref 53, .int 1, .int 4])), (52, .inl (0, 1260, .inl (upd (upd (fun _ => 0) 0 0) 0 1170))), (53, .inl (0, 7, .inl (upd (upd (upd (upd (fun _ => 0) 0 2) 1 2) 2 2) 3 2))), (2, .inl (0, 5, .inl (upd (fun _ => 0) 2 4)))]) rfl ?_
                          refine J_aload_n dL_law_206 rfl rfl ?_
                          refine J_sload_n dL_law_207 rfl rfl ?_
                          refine J_iload_n dL_law_208 rfl rfl ?_
                          refine J_iconst (v := 1) dL_law_209 (by decide) ?_
                          refine J_iadd (z := 1) dL_law_210 (by decide +kernel) ?_
                          refine L_sld (i2 := 1) (v := 2) dL_law_211 (jin (by decide +kernel)) (by decide +kernel) hx1 ?_
                          refine J_sload_n dL_law_212 rfl rfl ?_
                          refine J_iload_n dL_law_213 rfl rfl ?_
                          refine J_iconst (v := 2) dL_law_214 (by decide) ?_
                          refine J_iadd (z := 2) dL_law_215 (by decide +kernel) ?_
                          refine L_sld (i2 := 2) (v := 4) dL_law_216 (jin (by decide +kernel)) (by decide +kernel) hx2 ?_
                          refine J_callV (st := [.int 0]) dL_law_217 cv_L_17 (c_X12_beans_23 H0_98 H0_100) H0_98 rfl rfl (Nat.le_of_ble_eq_true rfl) ⟨(Nat.le_of_ble_eq_true rfl), (Nat.le_of_ble_eq_true rfl)⟩ ⟨(Nat.le_of_ble_eq_true rfl), (Nat.le_of_ble_eq_true rfl)⟩ (fun r h9 hp => ?_)
                          obtain ⟨rfl, rfl⟩ := hp
                          refine J_nf (nh2 := 135) (ck2 := 135) (sk2 := 415506) (st2 := [.int 0, .int 0]) rfl rfl rfl rfl ?_
                          refine J_app (L3 := [(98, .inr (12, [.int 0, .int 1, .ref 99, .ref 100, .ref 101, .ref 102, .ref 103, .ref 104, .ref 105, .int 0, .int (-1), .ref 106, .ref 107, .ref 108, .int 0, .int 0, .int 0, .int 0, .int 0, .int 0, .int 0, .ref 109, .int 0, .int 0, .ref 110, .ref 111, .ref 112, .ref 113, .ref 114, .ref 115, .ref 116, .ref 117, .int 0, .int 0, .int (-1), .int (-1), .ref 118, .ref 119, .ref 120, .ref 121, .ref 122, .ref 123, .ref 124, .ref 125, .ref 126, .ref 127, .ref 128, .ref 129, .int 0, .ref 130, .ref 131, .ref 132, .ref 133, .ref 134, .int 0, .int 0])), (100, .inl (0, 4870, .inl (upd (upd (upd (upd (upd (fun _ => 0) 63 (-1)) 2 4) 59 0) 61 0) 60 0))), (0, .inr (11, [.ref 1, .ref 17, .ref 50, .ref 51, .ref 54, .ref 57, .ref 65, .ref 75, .ref 81, .ref 85, .ref 88, .ref 93, .ref 96, .int 0, .int (-1), .ref 97, .int 0])), (57, .inr (9, [.ref 1, .ref 51, .ref 58, .ref 61, .ref 62, .ref 63, .ref 64, .int 1, .int 1, .int 1])), (1, .inr (8, [.ref 2, .ref 3, .ref 4, .int 0, .int (-1), .ref 11, .ref 12, .int 0, .ref 13, .ref 14, .int 0, .ref 15, .ref 16, .int 0])), (51, .inr (0, [.ref 52, .ref 53, .int 1, .int 4])), (52, .inl (0, 1260, .inl (upd (upd (fun _ => 0) 0 0) 0 1170))), (53, .inl (0, 7, .inl (upd (upd (upd (upd (fun _ => 0) 0 2) 1 2) 2 2) 3 2))), (2, .inl (0, 5, .inl (upd (fun _ => 0) 2 4)))]) rfl ?_
                          refine J_icmp_eq (tgt := 1221) dL_law_220 (by decide) (fun _ => ?_) (fun q => absurd (by decide +kernel) q)
                          exact law_tail (Nat.le_of_ble_eq_true rfl) (Nat.le_of_ble_eq_true rfl)
                        · rcases i_cut x2.toInt 6 with h_12 | h_12
                          · obtain rfl : x1 = 2 := by rw [fa_eq, kc_2]; omega
                            obtain rfl : x2 = 5 := by rw [fa_eq, kc_5]; omega
                            refine J_hc0 ?_
                            refine J_aload_n dL_law_192 rfl rfl ?_
                            refine J_sload_n dL_law_193 rfl rfl ?_
                            refine J_iload_n dL_law_194 rfl rfl ?_
                            refine J_iconst (v := 1) dL_law_195 (by decide) ?_
                            refine J_iadd (z := 1) dL_law_196 (by decide +kernel) ?_
                            refine L_sld (i2 := 1) (v := 2) dL_law_197 (jin (by decide +kernel)) (by decide +kernel) hx1 ?_
                            refine J_sload_n dL_law_198 rfl rfl ?_
                            refine J_iload_n dL_law_199 rfl rfl ?_
                            refine J_iconst (v := 2) dL_law_200 (by decide) ?_
                            refine J_iadd (z := 2) dL_law_201 (by decide +kernel) ?_
                            refine L_sld (i2 := 2) (v := 5) dL_law_202 (jin (by decide +kernel)) (by decide +kernel) hx2 ?_
                            refine J_callV (st := []) dL_law_203 cv_L_13 (c_X11_beans_24 H0_0 H0_1 H0_2 H0_51 H0_52 H0_53 H0_57) H0_0 rfl rfl (Nat.le_of_ble_eq_true rfl) ⟨(Nat.le_of_ble_eq_true rfl), (Nat.le_of_ble_eq_true rfl)⟩ ⟨(Nat.le_of_ble_eq_true rfl), (Nat.le_of_ble_eq_true rfl)⟩ (fun r h9 hp => ?_)
                            obtain ⟨rfl, rfl⟩ := hp
                            refine J_nf (nh2 := 135) (ck2 := 135) (sk2 := 415506) (st2 := [.int 0]) rfl rfl rfl rfl ?_
                            refine J_app (L3 := [(0, .inr (11, [.ref 1, .ref 17, .ref 50, .ref 51, .ref 54, .ref 57, .ref 65, .ref 75, .ref 81, .ref 85, .ref 88, .ref 93, .ref 96, .int 0, .int (-1), .ref 97, .int 0])), (57, .inr (9, [.ref 1, .ref 51, .ref 58, .ref 61, .ref 62, .ref 63, .ref 64, .int 1, .int 1, .int 1])), (1, .inr (8, [.ref 2, .ref 3, .ref 4, .int 0, .int (-1), .ref 11, .ref 12, .int 0, .ref 13, .ref 14, .int 0, .ref 15, .ref 16, .int 0])), (51, .inr (0, [.ref 52, .ref 53, .int 1, .int 5])), (52, .inl (0, 1260, .inl (upd (upd (fun _ => 0) 0 0) 0 9362))), (53, .inl (0, 7, .inl (upd (upd (upd (upd (upd (fun _ => 0) 0 2) 1 2) 2 2) 3 2) 4 2))), (2, .inl (0, 5, .inl (upd (fun _ => 0) 2 5)))]) rfl ?_
                            refine J_aload_n dL_law_206 rfl rfl ?_
                            refine J_sload_n dL_law_207 rfl rfl ?_
                            refine J_iload_n dL_law_208 rfl rfl ?_
                            refine J_iconst (v := 1) dL_law_209 (by decide) ?_
                            refine J_iadd (z := 1) dL_law_210 (by decide +kernel) ?_
                            refine L_sld (i2 := 1) (v := 2) dL_law_211 (jin (by decide +kernel)) (by decide +kernel) hx1 ?_
                            refine J_sload_n dL_law_212 rfl rfl ?_
                            refine J_iload_n dL_law_213 rfl rfl ?_
                            refine J_iconst (v := 2) dL_law_214 (by decide) ?_
                            refine J_iadd (z := 2) dL_law_215 (by decide +kernel) ?_
                            refine L_sld (i2 := 2) (v := 5) dL_law_216 (jin (by decide +kernel)) (by decide +kernel) hx2 ?_
                            refine J_callV (st := [.int 0]) dL_law_217 cv_L_17 (c_X12_beans_24 H0_98 H0_100) H0_98 rfl rfl (Nat.le_of_ble_eq_true rfl) ⟨(Nat.le_of_ble_eq_true rfl), (Nat.le_of_ble_eq_true rfl)⟩ ⟨(Nat.le_of_ble_eq_true rfl), (Nat.le_of_ble_eq_true rfl)⟩ (fun r h9 hp => ?_)
                            obtain ⟨rfl, rfl⟩ := hp
                            refine J_nf (nh2 := 135) (ck2 := 135) (sk2 := 415506) (st2 := [.int 0, .int 0]) rfl rfl rfl rfl ?_
                            refine J_app (L3 := [(98, .inr (12, [.int 0, .int 1, .ref 99, .ref 100, .ref 101, .ref 102, .ref 103, .ref 104, .ref 105, .int 0, .int (-1), .ref 106, .ref 107, .ref 108, .int 0, .int 0, .int 0, .int 0, .int 0, .int 0, .int 0, .ref 109, .int 0, .int 0, .ref 110, .ref 111, .ref 112, .ref 113, .ref 114, .ref 115, .ref 116, .ref 117, .int 0, .int 0, .int (-1), .int (-1), .ref 118, .ref 119, .ref 120, .ref 121, .ref 122, .ref 123, .ref 124, .ref 125, .ref 126, .ref 127, .ref 128, .ref 129, .int 0, .ref 130, .ref 131, .ref 132, .ref 133, .ref 134, .int 0, .int 0])), (100, .inl (0, 4870, .inl (upd (upd (upd (upd (upd (fun _ => 0) 63 (-1)) 2 5) 59 0) 61 0) 60 0))), (0, .inr (11, [.ref 1, .ref 17, .ref 50, .ref 51, .ref 54, .ref 57, .ref 65, .ref 75, .ref 81, .ref 85, .ref 88, .ref 93, .ref 96, .int 0, .int (-1), .ref 97, .int 0])), (57, .inr (9, [.ref 1, .ref 51, .ref 58, .ref 61, .ref 62, .ref 63, .ref 64, .int 1, .int 1, .int 1])), (1, .inr (8, [.ref 2, .ref 3, .ref 4, .int 0, .int (-1), .ref 11, .ref 12, .int 0, .ref 13, .ref 14, .int 0, .ref 15, .ref 16, .int 0])), (51, .inr (0, [.ref 52, .ref 53, .int 1, .int 5])), (52, .inl (0, 1260, .inl (upd (upd (fun _ => 0) 0 0) 0 9362))), (53, .inl (0, 7, .inl (upd (upd (upd (upd (upd (fun _ => 0) 0 2) 1 2) 2 2) 3 2) 4 2))), (2, .inl (0, 5, .inl (upd (fun _ => 0) 2 5)))]) rfl ?_
                            refine J_icmp_eq (tgt := 1221) dL_law_220 (by decide) (fun _ => ?_) (fun q => absurd (by decide +kernel) q)
                            exact law_tail (Nat.le_of_ble_eq_true rfl) (Nat.le_of_ble_eq_true rfl)
                          · rcases i_cut x2.toInt 7 with h_13 | h_13
                            · obtain rfl : x1 = 2 := by rw [fa_eq, kc_2]; omega
                              obtain rfl : x2 = 6 := by rw [fa_eq, kc_6]; omega
                              refine J_hc0 ?_
                              refine J_aload_n dL_law_192 rfl rfl ?_
                              refine J_sload_n dL_law_193 rfl rfl ?_
                              refine J_iload_n dL_law_194 rfl rfl ?_
                              refine J_iconst (v := 1) dL_law_195 (by decide) ?_
                              refine J_iadd (z := 1) dL_law_196 (by decide +kernel) ?_
                              refine L_sld (i2 := 1) (v := 2) dL_law_197 (jin (by decide +kernel)) (by decide +kernel) hx1 ?_
                              refine J_sload_n dL_law_198 rfl rfl ?_
                              refine J_iload_n dL_law_199 rfl rfl ?_
                              refine J_iconst (v := 2) dL_law_200 (by decide) ?_
                              refine J_iadd (z := 2) dL_law_201 (by decide +kernel) ?_
                              refine L_sld (i2 := 2) (v := 6) dL_law_202 (jin (by decide +kernel)) (by decide +kernel) hx2 ?_
                              refine J_callV (st := []) dL_law_203 cv_L_13 (c_X11_beans_25 H0_0 H0_1 H0_2 H0_51 H0_52 H0_53 H0_57) H0_0 rfl rfl (Nat.le_of_ble_eq_true rfl) ⟨(Nat.le_of_ble_eq_true rfl), (Nat.le_of_ble_eq_true rfl)⟩ ⟨(Nat.le_of_ble_eq_true rfl), (Nat.le_of_ble_eq_true rfl)⟩ (fun r h9 hp => ?_)
                              obtain ⟨rfl, rfl⟩ := hp
                              refine J_nf (nh2 := 135) (ck2 := 135) (sk2 := 415506) (st2 := [.int 0]) rfl rfl rfl rfl ?_
                              refine J_app (L3 := [(0, .inr (11, [.ref 1, .ref 17, .ref 50, .ref 51, .ref 54, .ref 57, .ref 65, .ref 75, .ref 81, .ref 85, .ref 88, .ref 93, .ref 96, .int 0, .int (-1), .ref 97, .int 0])), (57, .inr (9, [.ref 1, .ref 51, .ref 58, .ref 61, .ref 62, .ref 63, .ref 64, .int 1, .int 1, .int 1])), (1, .inr (8, [.ref 2, .ref 3, .ref 4, .int 0, .int (-1), .ref 11, .ref 12, .int 0, .ref 13, .ref 14, .int 0, .ref 15, .ref 16, .int 0])), (51, .inr (0, [.ref 52, .ref 53, .int 1, .int 6])), (52, .inl (0, 1260, .inl (upd (upd (fun _ => 0) 0 0) 0 74898))), (53, .inl (0, 7, .inl (upd (upd (upd (upd (upd (upd (fun _ => 0) 0 2) 1 2) 2 2) 3 2) 4 2) 5 2))), (2, .inl (0, 5, .inl (upd (fun _ => 0) 2 6)))]) rfl ?_
                              refine J_aload_n dL_law_206 rfl rfl ?_
                              refine J_sload_n dL_law_207 rfl rfl ?_
                              refine J_iload_n dL_law_208 rfl rfl ?_
                              refine J_iconst (v := 1) dL_law_209 (by decide) ?_
                              refine J_iadd (z := 1) dL_law_210 (by decide +kernel) ?_
                              refine L_sld (i2 := 1) (v := 2) dL_law_211 (jin (by decide +kernel)) (by decide +kernel) hx1 ?_
                              refine J_sload_n dL_law_212 rfl rfl ?_
                              refine J_iload_n dL_law_213 rfl rfl ?_
                              refine J_iconst (v := 2) dL_law_214 (by decide) ?_
                              refine J_iadd (z := 2) dL_law_215 (by decide +kernel) ?_
                              refine L_sld (i2 := 2) (v := 6) dL_law_216 (jin (by decide +kernel)) (by decide +kernel) hx2 ?_
                              refine J_callV (st := [.int 0]) dL_law_217 cv_L_17 (c_X12_beans_25 H0_98 H0_100) H0_98 rfl rfl (Nat.le_of_ble_eq_true rfl) ⟨(Nat.le_of_ble_eq_true rfl), (Nat.le_of_ble_eq_true rfl)⟩ ⟨(Nat.le_of_ble_eq_true rfl), (Nat.le_of_ble_eq_true rfl)⟩ (fun r h9 hp => ?_)
                              obtain ⟨rfl, rfl⟩ := hp
                              refine J_nf (nh2 := 135) (ck2 := 135) (sk2 := 415506) (st2 := [.int 0, .int 0]) rfl rfl rfl rfl ?_
                              refine J_app (L3 := [(98, .inr (12, [.int 0, .int 1, .ref 99, .ref 100, .ref 101, .ref 102, .ref 103, .ref 104, .ref 105, .int 0, .int (-1), .ref 106, .ref 107, .ref 108, .int 0, .int 0, .int 0, .int 0, .int 0, .int 0, .int 0, .ref 109, .int 0, .int 0, .ref 110, .ref 111, .ref 112, .ref 113, .ref 114, .ref 115, .ref 116, .ref 117, .int 0, .int 0, .int (-1), .int (-1), .ref 118, .ref 119, .ref 120, .ref 121, .ref 122, .ref 123, .ref 124, .ref 125, .ref 126, .ref 127, .ref 128, .ref 129, .int 0, .ref 130, .ref 131, .ref 132, .ref 133, .ref 134, .int 0, .int 0])), (100, .inl (0, 4870, .inl (upd (upd (upd (upd (upd (fun _ => 0) 63 (-1)) 2 6) 59 0) 61 0) 60 0))), (0, .inr (11, [.ref 1, .ref 17, .ref 50, .ref 51, .ref 54, .ref 57, .ref 65, .ref 75, .ref 81, .ref 85, .ref 88, .ref 93, .ref 96, .int 0, .int (-1), .ref 97, .int 0])), (57, .inr (9, [.ref 1, .ref 51, .ref 58, .ref 61, .ref 62, .ref 63, .ref 64, .int 1, .int 1, .int 1])), (1, .inr (8, [.ref 2, .ref 3, .ref 4, .int 0, .int (-1), .ref 11, .ref 12, .int 0, .ref 13, .ref 14, .int 0, .ref 15, .ref 16, .int 0])), (51, .inr (0, [.ref 52, .ref 53, .int 1, .int 6])), (52, .inl (0, 1260, .inl (upd (upd (fun _ => 0) 0 0) 0 74898))), (53, .inl (0, 7, .inl (upd (upd (upd (upd (upd (upd (fun _ => 0) 0 2) 1 2) 2 2) 3 2) 4 2) 5 2))), (2, .inl (0, 5, .inl (upd (fun _ => 0) 2 6)))]) rfl ?_
                              refine J_icmp_eq (tgt := 1221) dL_law_220 (by decide) (fun _ => ?_) (fun q => absurd (by decide +kernel) q)
                              exact law_tail (Nat.le_of_ble_eq_true rfl) (Nat.le_of_ble_eq_true rfl)
                            · obtain rfl : x1 = 2 := by rw [fa_eq, kc_2]; omega
                              obtain rfl : x2 = 7 := by rw [fa_eq, kc_7]; omega
                              refine J_hc0 ?_
                              refine J_aload_n dL_law_192 rfl rfl ?_
                              refine J_sload_n dL_law_193 rfl rfl ?_
                              refine J_iload_n dL_law_194 rfl rfl ?_
                              refine J_iconst (v := 1) dL_law_195 (by decide) ?_
                              refine J_iadd (z := 1) dL_law_196 (by decide +kernel) ?_
                              refine L_sld (i2 := 1) (v := 2) dL_law_197 (jin (by decide +kernel)) (by decide +kernel) hx1 ?_
                              refine J_sload_n dL_law_198 rfl rfl ?_
                              refine J_iload_n dL_law_199 rfl rfl ?_
                              refine J_iconst (v := 2) dL_law_200 (by decide) ?_
                              refine J_iadd (z := 2) dL_law_201 (by decide +kernel) ?_
                              refine L_sld (i2 := 2) (v := 7) dL_law_202 (jin (by decide +kernel)) (by decide +kernel) hx2 ?_
                              refine J_callV (st := []) dL_law_203 cv_L_13 (c_X11_beans_26 H0_0 H0_1 H0_2 H0_51 H0_52 H0_53 H0_57) H0_0 rfl rfl (Nat.le_of_ble_eq_true rfl) ⟨(Nat.le_of_ble_eq_true rfl), (Nat.le_of_ble_eq_true rfl)⟩ ⟨(Nat.le_of_ble_eq_true rfl), (Nat.le_of_ble_eq_true rfl)⟩ (fun r h9 hp => ?_)
                              obtain ⟨rfl, rfl⟩ := hp
                              refine J_nf (nh2 := 135) (ck2 := 135) (sk2 := 415506) (st2 := [.int 0]) rfl rfl rfl rfl ?_
                              refine J_app (L3 := [(0, .inr (11, [.ref 1, .ref 17, .ref 50, .ref 51, .ref 54, .ref 57, .ref 65, .ref 75, .ref 81, .ref 85, .ref 88, .ref 93, .ref 96, .int 0, .int (-1), .ref 97, .int 0])), (57, .inr (9, [.ref 1, .ref 51, .ref 58, .ref 61, .ref 62, .ref 63, .ref 64, .int 1, .int 1, .int 1])), (1, .inr (8, [.ref 2, .ref 3, .ref 4, .int 0, .int (-1), .ref 11, .ref 12, .int 0, .ref 13, .ref 14, .int 0, .ref 15, .ref 16, .int 0])), (51, .inr (0, [.ref 52, .ref 53, .int 1, .int 7])), (52, .inl (0, 1260, .inl (upd (upd (fun _ => 0) 0 0) 0 599186))), (53, .inl (0, 7, .inl (upd (upd (upd (upd (upd (upd (upd (fun _ => 0) 0 2) 1 2) 2 2) 3 2) 4 2) 5 2) 6 2))), (2, .inl (0, 5, .inl (upd (fun _ => 0) 2 7)))]) rfl ?_
                              refine J_aload_n dL_law_206 rfl rfl ?_
                              refine J_sload_n dL_law_207 rfl rfl ?_
                              refine J_iload_n dL_law_208 rfl rfl ?_
                              refine J_iconst (v := 1) dL_law_209 (by decide) ?_
                              refine J_iadd (z := 1) dL_law_210 (by decide +kernel) ?_
                              refine L_sld (i2 := 1) (v := 2) dL_law_211 (jin (by decide +kernel)) (by decide +kernel) hx1 ?_
                              refine J_sload_n dL_law_212 rfl rfl ?_
                              refine J_iload_n dL_law_213 rfl rfl ?_
                              refine J_iconst (v := 2) dL_law_214 (by decide) ?_
                              refine J_iadd (z := 2) dL_law_215 (by decide +kernel) ?_
                              refine L_sld (i2 := 2) (v := 7) dL_law_216 (jin (by decide +kernel)) (by decide +kernel) hx2 ?_
                              refine J_callV (st := [.int 0]) dL_law_217 cv_L_17 (c_X12_beans_26 H0_98 H0_100) H0_98 rfl rfl (Nat.le_of_ble_eq_true rfl) ⟨(Nat.le_of_ble_eq_true rfl), (Nat.le_of_ble_eq_true rfl)⟩ ⟨(Nat.le_of_ble_eq_true rfl), (Nat.le_of_ble_eq_true rfl)⟩ (fun r h9 hp => ?_)
                              obtain ⟨rfl, rfl⟩ := hp
                              refine J_nf (nh2 := 135) (ck2 := 135) (sk2 := 415506) (st2 := [.int 0, .int 0]) rfl rfl rfl rfl ?_
                              refine J_app (L3 := [(98, .inr (12, [.int 0, .int 1, .ref 99, .ref 100, .ref 101, .ref 102, .ref 103, .ref 104, .ref 105, .int 0, .int (-1), .ref 106, .ref 107, .ref 108, .int 0, .int 0, .int 0, .int 0, .int 0, .int 0, .int 0, .ref 109, .int 0, .int 0, .ref 110, .ref 111, .ref 112, .ref 113, .ref 114, .ref 115, .ref 116, .ref 117, .int 0, .int 0, .int (-1), .int (-1), .ref 118, .ref 119, .ref 120, .ref 121, .ref 122, .ref 123, .ref 124, .ref 125, .ref 126, .ref 127, .ref 128, .ref 129, .int 0, .ref 130, .ref 131, .ref 132, .ref 133, .ref 134, .int 0, .int 0])), (100, .inl (0, 4870, .inl (upd (upd (upd (upd (upd (fun _ => 0) 63 (-1)) 2 7) 59 0) 61 0) 60 0))), (0, .inr (11, [.ref 1, .ref 17, .ref 50, .ref 51, .ref 54, .ref 57, .ref 65, .ref 75, .ref 81, .ref 85, .ref 88, .ref 93, .ref 96, .int 0, .int (-1), .ref 97, .int 0])), (57, .inr (9, [.ref 1, .ref 51, .ref 58, .ref 61, .ref 62, .ref 63, .ref 64, .int 1, .int 1, .int 1])), (1, .inr (8, [.ref 2, .ref 3, .ref 4, .int 0, .int (-1), .ref 11, .ref 12, .int 0, .ref 13, .ref 14, .int 0, .ref 15, .ref 16, .int 0])), (51, .inr (0, [.ref 52, .ref 53, .int 1, .int 7])), (52, .inl (0, 1260, .inl (upd (upd (fun _ => 0) 0 0) 0 599186))), (53, .inl (0, 7, .inl (upd (upd (upd (upd (upd (upd (upd (fun _ => 0) 0 2) 1 2) 2 2) 3 2) 4 2) 5 2) 6 2))), (2, .inl (0, 5, .inl (upd (fun _ => 0) 2 7)))]) rfl ?_
                              refine J_icmp_eq (tgt := 1221) dL_law_220 (by decide) (fun _ => ?_) (fun q => absurd (by decide +kernel) q)
                              exact law_tail (Nat.le_of_ble_eq_true rfl) (Nat.le_of_ble_eq_true rfl)
              · rcases i_cut x1.toInt 4 with h_7 | h_7
                · rcases i_cut x2.toInt 1 with h_8 | h_8
                  · obtain rfl : x1 = 3 := by rw [fa_eq, kc_3]; omega
                    obtain rfl : x2 = 0 := by rw [fa_eq, kc_0]; omega
                    refine J_hc0 ?_
                    refine J_aload_n dL_law_192 rfl rfl ?_
                    refine J_sload_n dL_law_193 rfl rfl ?_
                    refine J_iload_n dL_law_194 rfl rfl ?_
                    refine J_iconst (v := 1) dL_law_195 (by decide) ?_
                    refine J_iadd (z := 1) dL_law_196 (by decide +kernel) ?_
                    refine L_sld (i2 := 1) (v := 3) dL_law_197 (jin (by decide +kernel)) (by decide +kernel) hx1 ?_
                    refine J_sload_n dL_law_198 rfl rfl ?_
                    refine J_iload_n dL_law_199 rfl rfl ?_
                    refine J_iconst (v := 2) dL_law_200 (by decide) ?_
                    refine J_iadd (z := 2) dL_law_201 (by decide +kernel) ?_
                    refine L_sld (i2 := 2) (v := 0) dL_law_202 (jin (by decide +kernel)) (by decide +kernel) hx2 ?_
                    refine J_callV (st := []) dL_law_203 cv_L_13 (c_X11_beans_27 H0_0 H0_1 H0_2 H0_51 H0_52 H0_57) H0_0 rfl rfl (Nat.le_of_ble_eq_true rfl) ⟨(Nat.le_of_ble_eq_true rfl), (Nat.le_of_ble_eq_true rfl)⟩ ⟨(Nat.le_of_ble_eq_true rfl), (Nat.le_of_ble_eq_true rfl)⟩ (fun r h9 hp => ?_)
                    obtain ⟨rfl, rfl⟩ := hp
                    refine J_nf (nh2 := 135) (ck2 := 135) (sk2 := 415506) (st2 := [.int 0]) rfl rfl rfl rfl ?_
                    refine J_app (L3 := [(0, .inr (11, [.ref 1, .ref 17, .ref 50, .ref 51, .ref 54, .ref 57, .ref 65, .ref 75, .ref 81, .ref 85, .ref 88, .ref 93, .ref 96, .int 0, .int (-1), .ref 97, .int 0])), (57, .inr (9, [.ref 1, .ref 51, .ref 58, .ref 61, .ref 62, .ref 63, .ref 64, .int 1, .int 1, .int 1])), (1, .inr (8, [.ref 2, .ref 3, .ref 4, .int 0, .int (-1), .ref 11, .ref 12, .int 0, .ref 13, .ref 14, .int 0, .ref 15, .ref 16, .int 0])), (51, .inr (0, [.ref 52, .ref 53, .int 1, .int 0])), (52, .inl (0, 1260, .inl (upd (upd (fun _ => 0) 0 0) 0 0))), (2, .inl (0, 5, .inl (upd (fun _ => 0) 3 0)))]) rfl ?_
                    refine J_aload_n dL_law_206 rfl rfl ?_
                    refine J_sload_n dL_law_207 rfl rfl ?_
                    refine J_iload_n dL_law_208 rfl rfl ?_
                    refine J_iconst (v := 1) dL_law_209 (by decide) ?_
                    refine J_iadd (z := 1) dL_law_210 (by decide +kernel) ?_
                    refine L_sld (i2 := 1) (v := 3) dL_law_211 (jin (by decide +kernel)) (by decide +kernel) hx1 ?_
                    refine J_sload_n dL_law_212 rfl rfl ?_
                    refine J_iload_n dL_law_213 rfl rfl ?_
                    refine J_iconst (v := 2) dL_law_214 (by decide) ?_
                    refine J_iadd (z := 2) dL_law_215 (by decide +kernel) ?_
                    refine L_sld (i2 := 2) (v := 0) dL_law_216 (jin (by decide +kernel)) (by decide +kernel) hx2 ?_
                    refine J_callV (st := [.int 0]) dL_law_217 cv_L_17 (c_X12_beans_27 H0_98 H0_100) H0_98 rfl rfl (Nat.le_of_ble_eq_true rfl) ⟨(Nat.le_of_ble_eq_true rfl), (Nat.le_of_ble_eq_true rfl)⟩ ⟨(Nat.le_of_ble_eq_true rfl), (Nat.le_of_ble_eq_true rfl)⟩ (fun r h9 hp => ?_)
                    obtain ⟨rfl, rfl⟩ := hp
                    refine J_nf (nh2 := 135) (ck2 := 135) (sk2 := 415506) (st2 := [.int 0, .int 0]) rfl rfl rfl rfl ?_
                    refine J_app (L3 := [(98, .inr (12, [.int 0, .int 1, .ref 99, .ref 100, .ref 101, .ref 102, .ref 103, .ref 104, .ref 105, .int 0, .int (-1), .ref 106, .ref 107, .ref 108, .int 0, .int 0, .int 0, .int 0, .int 0, .int 0, .int 0, .ref 109, .int 0, .int 0, .ref 110, .ref 111, .ref 112, .ref 113, .ref 114, .ref 115, .ref 116, .ref 117, .int 0, .int 0, .int (-1), .int (-1), .ref 118, .ref 119, .ref 120, .ref 121, .ref 122, .ref 123, .ref 124, .ref 125, .ref 126, .ref 127, .ref 128, .ref 129, .int 0, .ref 130, .ref 131, .ref 132, .ref 133, .ref 134, .int 0, .int 0])), (100, .inl (0, 4870, .inl (upd (upd (upd (upd (upd (fun _ => 0) 63 (-1)) 3 0) 59 0) 61 0) 60 0))), (0, .inr (11, [.ref 1, .ref 17, .ref 50, .ref 51, .ref 54, .ref 57, .ref 65, .ref 75, .ref 81, .ref 85, .ref 88, .ref 93, .ref 96, .int 0, .int (-1), .ref 97, .int 0])), (57, .inr (9, [.ref 1, .ref 51, .ref 58, .ref 61, .ref 62, .ref 63, .ref 64, .int 1, .int 1, .int 1])), (1, .inr (8, [.ref 2, .ref 3, .ref 4, .int 0, .int (-1), .ref 11, .ref 12, .int 0, .ref 13, .ref 14, .int 0, .ref 15, .ref 16, .int 0])), (51, .inr (0, [.ref 52, .ref 53, .int 1, .int 0])), (52, .inl (0, 1260, .inl (upd (upd (fun _ => 0) 0 0) 0 0))), (2, .inl (0, 5, .inl (upd (fun _ => 0) 3 0)))]) rfl ?_
                    refine J_icmp_eq (tgt := 1221) dL_law_220 (by decide) (fun _ => ?_) (fun q => absurd (by decide +kernel) q)
                    exact law_tail (Nat.le_of_ble_eq_true rfl) (Nat.le_of_ble_eq_true rfl)
                  · rcases i_cut x2.toInt 2 with h_9 | h_9
                    · obtain rfl : x1 = 3 := by rw [fa_eq, kc_3]; omega
                      obtain rfl : x2 = 1 := by rw [fa_eq, kc_1]; omega
                      refine J_hc0 ?_
                      refine J_aload_n dL_law_192 rfl rfl ?_
                      refine J_sload_n dL_law_193 rfl rfl ?_
                      refine J_iload_n dL_law_194 rfl rfl ?_
                      refine J_iconst (v := 1) dL_law_195 (by decide) ?_
                      refine J_iadd (z := 1) dL_law_196 (by decide +kernel) ?_
                      refine L_sld (i2 := 1) (v := 3) dL_law_197 (jin (by decide +kernel)) (by decide +kernel) hx1 ?_
                      refine J_sload_n dL_law_198 rfl rfl ?_
                      refine J_iload_n dL_law_199 rfl rfl ?_
                      refine J_iconst (v := 2) dL_law_200 (by decide) ?_
                      refine J_iadd (z := 2) dL_law_201 (by decide +kernel) ?_
                      refine L_sld (i2 := 2) (v := 1) dL_law_202 (jin (by decide +kernel)) (by decide +kernel) hx2 ?_
                      refine J_callV (st := []) dL_law_203 cv_L_13 (c_X11_beans_28 H0_0 H0_1 H0_2 H0_51 H0_52 H0_53 H0_57) H0_0 rfl rfl (Nat.le_of_ble_eq_true rfl) ⟨(Nat.le_of_ble_eq_true rfl), (Nat.le_of_ble_eq_true rfl)⟩ ⟨(Nat.le_of_ble_eq_true rfl), (Nat.le_of_ble_eq_true rfl)⟩ (fun r h9 hp => ?_)
                      obtain ⟨rfl, rfl⟩ := hp
                      refine J_nf (nh2 := 135) (ck2 := 135) (sk2 := 415506) (st2 := [.int 0]) rfl rfl rfl rfl ?_
                      refine J_app (L3 := [(0, .inr (11, [.ref 1, .ref 17, .ref 50, .ref 51, .ref 54, .ref 57, .ref 65, .ref 75, .ref 81, .ref 85, .ref 88, .ref 93, .ref 96, .int 0, .int (-1), .ref 97, .int 0])), (57, .inr (9, [.ref 1, .ref 51, .ref 58, .ref 61, .ref 62, .ref 63, .ref 64, .int 1, .int 1, .int 1])), (1, .inr (8, [.ref 2, .ref 3, .ref 4, .int 0, .int (-1), .ref 11, .ref 12, .int 0, .ref 13, .ref 14, .int 0, .ref 15, .ref 16, .int 0])), (51, .inr (0, [.ref 52, .ref 53, .int 1, .int 1])), (52, .inl (0, 1260, .inl (upd (upd (fun _ => 0) 0 0) 0 3))), (53, .inl (0, 7, .inl (upd (fun _ => 0) 0 3))), (2, .inl (0, 5, .inl (upd (fun _ => 0) 3 1)))]) rfl ?_
                      refine J_aload_n dL_law_206 rfl rfl ?_
                      refine J_sload_n dL_law_207 rfl rfl ?_
                      refine J_iload_n dL_law_208 rfl rfl ?_
                      refine J_iconst (v := 1) dL_law_209 (by decide) ?_
                      refine J_iadd (z := 1) dL_law_210 (by decide +kernel) ?_
                      refine L_sld (i2 := 1) (v := 3) dL_law_211 (jin (by decide +kernel)) (by decide +kernel) hx1 ?_
                      refine J_sload_n dL_law_212 rfl rfl ?_
                      refine J_iload_n dL_law_213 rfl rfl ?_
                      refine J_iconst (v := 2) dL_law_214 (by decide) ?_
                      refine J_iadd (z := 2) dL_law_215 (by decide +kernel) ?_
                      refine L_sld (i2 := 2) (v := 1) dL_law_216 (jin (by decide +kernel)) (by decide +kernel) hx2 ?_
                      refine J_callV (st := [.int 0]) dL_law_217 cv_L_17 (c_X12_beans_28 H0_98 H0_100) H0_98 rfl rfl (Nat.le_of_ble_eq_true rfl) ⟨(Nat.le_of_ble_eq_true rfl), (Nat.le_of_ble_eq_true rfl)⟩ ⟨(Nat.le_of_ble_eq_true rfl), (Nat.le_of_ble_eq_true rfl)⟩ (fun r h9 hp => ?_)
                      obtain ⟨rfl, rfl⟩ := hp
                      refine J_nf (nh2 := 135) (ck2 := 135) (sk2 := 415506) (st2 := [.int 0, .int 0]) rfl rfl rfl rfl ?_
                      refine J_app (L3 := [(98, .inr (12, [.int 0, .int 1, .ref 99, .ref 100, .ref 101, .ref 102, .ref 103, .ref 104, .ref 105, .int 0, .int (-1), .ref 106, .ref 107, .ref 108, .int 0, .int 0, .int 0, .int 0, .int 0, .int 0, .int 0, .ref 109, .int 0, .int 0, .ref 110, .ref 111, .ref 112, .ref 113, .ref 114, .ref 115, .ref 116, .ref 117, .int 0, .int 0, .int (-1), .int (-1), .ref 118, .ref 119, .ref 120, .ref 121, .ref 122, .ref 123, .ref 124, .ref 125, .ref 126, .ref 127, .ref 128, .ref 129, .int 0, .ref 130, .ref 131, .ref 132, .ref 133, .ref 134, .int 0, .int 0])), (100, .inl (0, 4870, .inl (upd (upd (upd (upd (upd (fun _ => 0) 63 (-1)) 3 1) 59 0) 61 0) 60 0))), (0, .inr (11, [.ref 1, .ref 17, .ref 50, .ref 51, .ref 54, .ref 57, .ref 65, .ref 75, .ref 81, .ref 85, .ref 88, .ref 93, .ref 96, .int 0, .int (-1), .ref 97, .int 0])), (57, .inr (9, [.ref 1, .ref 51, .ref 58, .ref 61, .ref 62, .ref 63, .ref 64, .int 1, .int 1, .int 1])), (1, .inr (8, [.ref 2, .ref 3, .ref 4, .int 0, .int (-1), .ref 11, .ref 12, .int 0, .ref 13, .ref 14, .int 0, .ref 15, .ref 16, .int 0])), (51, .inr (0, [.ref 52, .ref 53, .int 1, .int 1])), (52, .inl (0, 1260, .inl (upd (upd (fun _ => 0) 0 0) 0 3))), (53, .inl (0, 7, .inl (upd (fun _ => 0) 0 3))), (2, .inl (0, 5, .inl (upd (fun _ => 0) 3 1)))]) rfl ?_
                      refine J_icmp_eq (tgt := 1221) dL_law_220 (by decide) (fun _ => ?_) (fun q => absurd (by decide +kernel) q)
                      exact law_tail (Nat.le_of_ble_eq_true rfl) (Nat.le_of_ble_eq_true rfl)
                    · rcases i_cut x2.toInt 3 with h_10 | h_10
                      · obtain rfl : x1 = 3 := by rw [fa_eq, kc_3]; omega
                        obtain rfl : x2 = 2 := by rw [fa_eq, kc_2]; omega
                        refine J_hc0 ?_
                        refine J_aload_n dL_law_192 rfl rfl ?_
                        refine J_sload_n dL_law_193 rfl rfl ?_
                        refine J_iload_n dL_law_194 rfl rfl ?_
                        refine J_iconst (v := 1) dL_law_195 (by decide) ?_
                        refine J_iadd (z := 1) dL_law_196 (by decide +kernel) ?_
                        refine L_sld (i2 := 1) (v := 3) dL_law_197 (jin (by decide +kernel)) (by decide +kernel) hx1 ?_
                        refine J_sload_n dL_law_198 rfl rfl ?_
                        refine J_iload_n dL_law_199 rfl rfl ?_
                        refine J_iconst (v := 2) dL_law_200 (by decide) ?_
                        refine J_iadd (z := 2) dL_law_201 (by decide +kernel) ?_
                        refine L_sld (i2 := 2) (v := 2) dL_law_202 (jin (by decide +kernel)) (by decide +kernel) hx2 ?_
                        refine J_callV (st := []) dL_law_203 cv_L_13 (c_X11_beans_29 H0_0 H0_1 H0_2 H0_51 H0_52 H0_53 H0_57) H0_0 rfl rfl (Nat.le_of_ble_eq_true rfl) ⟨(Nat.le_of_ble_eq_true rfl), (Nat.le_of_ble_eq_true rfl)⟩ ⟨(Nat.le_of_ble_eq_true rfl), (Nat.le_of_ble_eq_true rfl)⟩ (fun r h9 hp => ?_)
                        obtain ⟨rfl, rfl⟩ := hp
                        refine J_nf (nh2 := 135) (ck2 := 135) (sk2 := 415506) (st2 := [.int 0]) rfl rfl rfl rfl ?_
                        refine J_app (L3 := [(0, .inr (11, [.ref 1, .ref 17, .ref 50, .ref 51, .ref 54, .ref 57, .ref 65, .ref 75, .ref 81, .ref 85, .ref 88, .ref 93, .ref 96, .int 0, .int (-1), .ref 97, .int 0])), (57, .inr (9, [.ref 1, .ref 51, .ref 58, .ref 61, .ref 62, .ref 63, .ref 64, .int 1, .int 1, .int 1])), (1, .inr (8, [.ref 2, .ref 3, .ref 4, .int 0, .int (-1), .ref 11, .ref 12, .int 0, .ref 13, .ref 14, .int 0, .ref 15, .ref 16, .int 0])), (51, .inr (0, [.ref 52, .ref 53, .int 1, .int 2])), (52, .inl (0, 1260, .inl (upd (upd (fun _ => 0) 0 0) 0 27))), (53, .inl (0, 7, .inl (upd (upd (fun _ => 0) 0 3) 1 3))), (2, .inl (0, 5, .inl (upd (fun _ => 0) 3 2)))]) rfl ?_
                        refine J_aload_n dL_law_206 rfl rfl ?_
                        refine J_sload_n dL_law_207 rfl rfl ?_
                        refine J_iload_n dL_law_208 rfl rfl ?_
                        refine J_iconst (v := 1) dL_law_209 (by decide) ?_
                        refine J_iadd (z := 1) dL_law_210 (by decide +kernel) ?_
                        refine L_sld (i2 := 1) (v := 3) dL_law_211 (jin (by decide +kernel)) (by decide +kernel) hx1 ?_
                        refine J_sload_n dL_law_212 rfl rfl ?_
                        refine J_iload_n dL_law_213 rfl rfl ?_
                        refine J_iconst (v := 2) dL_law_214 (by decide) ?_
                        refine J_iadd (z := 2) dL_law_215 (by decide +kernel) ?_
                        refine L_sld (i2 := 2) (v := 2) dL_law_216 (jin (by decide +kernel)) (by decide +kernel) hx2 ?_
                        refine J_callV (st := [.int 0]) dL_law_217 cv_L_17 (c_X12_beans_29 H0_98 H0_100) H0_98 rfl rfl (Nat.le_of_ble_eq_true rfl) ⟨(Nat.le_of_ble_eq_true rfl), (Nat.le_of_ble_eq_true rfl)⟩ ⟨(Nat.le_of_ble_eq_true rfl), (Nat.le_of_ble_eq_true rfl)⟩ (fun r h9 hp => ?_)
                        obtain ⟨rfl, rfl⟩ := hp
                        refine J_nf (nh2 := 135) (ck2 := 135) (sk2 := 415506) (st2 := [.int 0, .int 0]) rfl rfl rfl rfl ?_
                        refine J_app (L3 := [(98, .inr (12, [.int 0, .int 1, .ref 99, .ref 100, .ref 101, .ref 102, .ref 103, .ref 104, .ref 105, .int 0, .int (-1), .ref 106, .ref 107, .ref 108, .int 0, .int 0, .int 0, .int 0, .int 0, .int 0, .int 0, .ref 109, .int 0, .int 0, .ref 110, .ref 111, .ref 112, .ref 113, .ref 114, .ref 115, .ref 116, .ref 117, .int 0, .int 0, .int (-1), .int (-1), .ref 118, .ref 119, .ref 120, .ref 121, .ref 122, .ref 123, .ref 124, .ref 125, .ref 126, .ref 127, .ref 128, .ref 129, .int 0, .ref 130, .ref 131, .ref 132, .ref 133, .ref 134, .int 0, .int 0])), (100, .inl (0, 4870, .inl (upd (upd (upd (upd (upd (fun _ => 0) 63 (-1)) 3 2) 59 0) 61 0) 60 0))), (0, .inr (11, [.ref 1, .ref 17, .ref 50, .ref 51, .ref 54, .ref 57, .ref 65, .ref 75, .ref 81, .ref 85, .ref 88, .ref 93, .ref 96, .int 0, .int (-1), .ref 97, .int 0])), (57, .inr (9, [.ref 1, .ref 51, .ref 58, .ref 61, .ref 62, .ref 63, .ref 64, .int 1, .int 1, .int 1])), (1, .inr (8, [.ref 2, .ref 3, .ref 4, .int 0, .int (-1), .ref 11, .ref 12, .int 0, .ref 13, .ref 14, .int 0, .ref 15, .ref 16, .int 0])), (51, .inr (0, [.ref 52, .ref 53, .int 1, .int 2])), (52, .inl (0, 1260, .inl (upd (upd (fun _ => 0) 0 0) 0 27))), (53, .inl (0, 7, .inl (upd (upd (fun _ => 0) 0 3) 1 3))), (2, .inl (0, 5, .inl (upd (fun _ => 0) 3 2)))]) rfl ?_
                        refine J_icmp_eq (tgt := 1221) dL_law_220 (by decide) (fun _ => ?_) (fun q => absurd (by decide +kernel) q)
                        exact law_tail (Nat.le_of_ble_eq_true rfl) (Nat.le_of_ble_eq_true rfl)
                      · rcases i_cut x2.toInt 4 with h_11 | h_11
                        · obtain rfl : x1 = 3 := by rw [fa_eq, kc_3]; omega
                          obtain rfl : x2 = 3 := by rw [fa_eq, kc_3]; omega
                          refine J_hc0 ?_
                          refine J_aload_n dL_law_192 rfl rfl ?_
                          refine J_sload_n dL_law_193 rfl rfl ?_
                          refine J_iload_n dL_law_194 rfl rfl ?_
                          refine J_iconst (v := 1) dL_law_195 (by decide) ?_
                          refine J_iadd (z := 1) dL_law_196 (by decide +kernel) ?_
                          refine L_sld (i2 := 1) (v := 3) dL_law_197 (jin (by decide +kernel)) (by decide +kernel) hx1 ?_
                          refine J_sload_n dL_law_198 rfl rfl ?_
                          refine J_iload_n dL_law_199 rfl rfl ?_
                          refine J_iconst (v := 2) dL_law_200 (by decide) ?_
                          refine J_iadd (z := 2) dL_law_201 (by decide +kernel) ?_
                          refine L_sld (i2 := 2) (v := 3) dL_law_202 (jin (by decide +kernel)) (by decide +kernel) hx2 ?_
                          refine J_callV (st := []) dL_law_203 cv_L_13 (c_X11_beans_30 H0_0 H0_1 H0_2 H0_51 H0_52 H0_53 H0_57) H0_0 rfl rfl (Nat.le_of_ble_eq_true rfl) ⟨(Nat.le_of_ble_eq_true rfl), (Nat.le_of_ble_eq_true rfl)⟩ ⟨(Nat.le_of_ble_eq_true rfl), (Nat.le_of_ble_eq_true rfl)⟩ (fun r h9 hp => ?_)
                          obtain ⟨rfl, rfl⟩ := hp
                          refine J_nf (nh2 := 135) (ck2 := 135) (sk2 := 415506) (st2 := [.int 0]) rfl rfl rfl rfl ?_
                          refine J_app (L3 := [(0, .inr (11, [.ref 1, .ref 17, .ref 50, .ref 51, .ref 54, .ref 57, .ref 65, .ref 75, .ref 81, .ref 85, .ref 88, .ref 93, .ref 96, .int 0, .int (-1), .ref 97, .int 0])), (57, .inr (9, [.ref 1, .ref 51, .ref 58, .ref 61, .ref 62, .ref 63, .ref 64, .int 1, .int 1, .int 1])), (1, .inr (8, [.ref 2, .ref 3, .ref 4, .int 0, .int (-1), .ref 11, .ref 12, .int 0, .ref 13, .ref 14, .int 0, .ref 15, .ref 16, .int 0])), (51, .inr (0, [.ref 52, .ref 53, .int 1, .int 3])), (52, .inl (0, 1260, .inl (upd (upd (fun _ => 0) 0 0) 0 219))), (53, .inl (0, 7, .inl (upd (upd (upd (fun _ => 0) 0 3) 1 3) 2 3))), (2, .inl (0, 5, .inl (upd (fun _ => 0) 3 3)))]) rfl ?_
                          refine J_aload_n dL_law_206 rfl rfl ?_
                          refine J_sload_n dL_law_207 rfl rfl ?_
                          refine J_iload_n dL_law_208 rfl rfl ?_
                          refine J_iconst (v := 1) dL_law_209 (by decide) ?_
                          refine J_iadd (z := 1) dL_law_210 (by decide +kernel) ?_
                          refine L_sld (i2 := 1) (v := 3) dL_law_211 (jin (by decide +kernel)) (by decide +kernel) hx1 ?_
                          refine J_sload_n dL_law_212 rfl rfl ?_
                          refine J_iload_n dL_law_213 rfl rfl ?_
                          refine J_iconst (v := 2) dL_law_214 (by decide) ?_
                          refine J_iadd (z := 2) dL_law_215 (by decide +kernel) ?_
                          refine L_sld (i2 := 2) (v := 3) dL_law_216 (jin (by decide +kernel)) (by decide +kernel) hx2 ?_
                          refine J_callV (st := [.int 0]) dL_law_217 cv_L_17 (c_X12_beans_30 H0_98 H0_100) H0_98 rfl rfl (Nat.le_of_ble_eq_true rfl) ⟨(Nat.le_of_ble_eq_true rfl), (Nat.le_of_ble_eq_true rfl)⟩ ⟨(Nat.le_of_ble_eq_true rfl), (Nat.le_of_ble_eq_true rfl)⟩ (fun r h9 hp => ?_)
                          obtain ⟨rfl, rfl⟩ := hp
                          refine J_nf (nh2 := 135) (ck2 := 135) (sk2 := 415506) (st2 := [.int 0, .int 0]) rfl rfl rfl rfl ?_
                          refine J_app (L3 := [(98, .inr (12, [.int 0, .int 1, .ref 99, .ref 100, .ref 101, .ref 102, .ref 103, .ref 104, .ref 105, .int 0, .int (-1), .ref 106, .ref 107, .ref 108, .int 0, .int 0, .int 0, .int 0, .int 0, .int 0, .int 0, .ref 109, .int 0, .int 0, .ref 110, .ref 111, .ref 112, .ref 113, .ref 114, .ref 115, .ref 116, .ref 117, .int 0, .int 0, .int (-1), .int (-1), .ref 118, .ref 119, .ref 120, .ref 121, .ref 122, .ref 123, .ref 124, .ref 125, .ref 126, .ref 127, .ref 128, .ref 129, .int 0, .ref 130, .ref 131, .ref 132, .ref 133, .ref 134, .int 0, .int 0])), (100, .inl (0, 4870, .inl (upd (upd (upd (upd (upd (fun _ => 0) 63 (-1)) 3 3) 59 0) 61 0) 60 0))), (0, .inr (11, [.ref 1, .ref 17, .ref 50, .ref 51, .ref 54, .ref 57, .ref 65, .ref 75, .ref 81, .ref 85, .ref 88, .ref 93, .ref 96, .int 0, .int (-1), .ref 97, .int 0])), (57, .inr (9, [.ref 1, .ref 51, .ref 58, .ref 61, .ref 62, .ref 63, .ref 64, .int 1, .int 1, .int 1])), (1, .inr (8, [.ref 2, .ref 3, .ref 4, .int 0, .int (-1), .ref 11, .ref 12, .int 0, .ref 13, .ref 14, .int 0, .ref 15, .ref 16, .int 0])), (51, .inr (0, [.ref 52, .ref 53, .int 1, .int 3])), (52, .inl (0, 1260, .inl (upd (upd (fun _ => 0) 0 0) 0 219))), (53, .inl (0, 7, .inl (upd (upd (upd (fun _ => 0) 0 3) 1 3) 2 3))), (2, .inl (0, 5, .inl (upd (fun _ => 0) 3 3)))]) rfl ?_
                          refine J_icmp_eq (tgt := 1221) dL_law_220 (by decide) (fun _ => ?_) (fun q => absurd (by decide +kernel) q)
                          exact law_tail (Nat.le_of_ble_eq_true rfl) (Nat.le_of_ble_eq_true rfl)
                        · rcases i_cut x2.toInt 5 with h_12 | h_12
                          · obtain rfl : x1 = 3 := by rw [fa_eq, kc_3]; omega
                            obtain rfl : x2 = 4 := by rw [fa_eq, kc_4]; omega
                            refine J_hc0 ?_
                            refine J_aload_n dL_law_192 rfl rfl ?_
                            refine J_sload_n dL_law_193 rfl rfl ?_
                            refine J_iload_n dL_law_194 rfl rfl ?_
                            refine J_iconst (v := 1) dL_law_195 (by decide) ?_
                            refine J_iadd (z := 1) dL_law_196 (by decide +kernel) ?_
                            refine L_sld (i2 := 1) (v := 3) dL_law_197 (jin (by decide +kernel)) (by decide +kernel) hx1 ?_
                            refine J_sload_n dL_law_198 rfl rfl ?_
                            refine J_iload_n dL_law_199 rfl rfl ?_
                            refine J_iconst (v := 2) dL_law_200 (by decide) ?_
                            refine J_iadd (z := 2) dL_law_201 (by decide +kernel) ?_
                            refine L_sld (i2 := 2) (v := 4) dL_law_202 (jin (by decide +kernel)) (by decide +kernel) hx2 ?_
                            refine J_callV (st := []) dL_law_203 cv_L_13 (c_X11_beans_31 H0_0 H0_1 H0_2 H0_51 H0_52 H0_53 H0_57) H0_0 rfl rfl (Nat.le_of_ble_eq_true rfl) ⟨(Nat.le_of_ble_eq_true rfl), (Nat.le_of_ble_eq_true rfl)⟩ ⟨(Nat.le_of_ble_eq_true rfl), (Nat.le_of_ble_eq_true rfl)⟩ (fun r h9 hp => ?_)
                            obtain ⟨rfl, rfl⟩ := hp
                            refine J_nf (nh2 := 135) (ck2 := 135) (sk2 := 415506) (st2 := [.int 0]) rfl rfl rfl rfl ?_
                            refine J_app (L3 := [(0, .inr (11, [.ref 1, .ref 17, .ref 50, .ref 51, .ref 54, .ref 57, .ref 65, .ref 75, .ref 81, .ref 85, .ref 88, .ref 93, .ref 96, .int 0, .int (-1), .ref 97, .int 0])), (57, .inr (9, [.ref 1, .ref 51, .ref 58, .ref 61, .ref 62, .ref 63, .ref 64, .int 1, .int 1, .int 1])), (1, .inr (8, [.ref 2, .ref 3, .ref 4, .int 0, .int (-1), .ref 11, .ref 12, .int 0, .ref 13, .ref 14, .int 0, .ref 15, .ref 16, .int 0])), (51, .inr (0, [.ref 52, .ref 53, .int 1, .int 4])), (52, .inl (0, 1260, .inl (upd (upd (fun _ => 0) 0 0) 0 1755))), (53, .inl (0, 7, .inl (upd (upd (upd (upd (fun _ => 0) 0 3) 1 3) 2 3) 3 3))), (2, .inl (0, 5, .inl (upd (fun _ => 0) 3 4)))]) rfl ?_
                            refine J_aload_n dL_law_206 rfl rfl ?_
                            refine J_sload_n dL_law_207 rfl rfl ?_
                            refine J_iload_n dL_law_208 rfl rfl ?_
                            refine J_iconst (v := 1) dL_law_209 (by decide) ?_
                            refine J_iadd (z := 1) dL_law_210 (by decide +kernel) ?_
                            refine L_sld (i2 := 1) (v := 3) dL_law_211 (jin (by decide +kernel)) (by decide +kernel) hx1 ?_
                            refine J_sload_n dL_law_212 rfl rfl ?_
                            refine J_iload_n dL_law_213 rfl rfl ?_
                            refine J_iconst (v := 2) dL_law_214 (by decide) ?_
                            refine J_iadd (z := 2) dL_law_215 (by decide +kernel) ?_
                            refine L_sld (i2 := 2) (v := 4) dL_law_216 (jin (by decide +kernel)) (by decide +kernel) hx2 ?_
                            refine J_callV (st := [.int 0]) dL_law_217 cv_L_17 (c_X12_beans_31 H0_98 H0_100) H0_98 rfl rfl (Nat.le_of_ble_eq_true rfl) ⟨(Nat.le_of_ble_eq_true rfl), (Nat.le_of_ble_eq_true rfl)⟩ ⟨(Nat.le_of_ble_eq_true rfl), (Nat.le_of_ble_eq_true rfl)⟩ (fun r h9 hp => ?_)
                            obtain ⟨rfl, rfl⟩ := hp
                            refine J_nf (nh2 := 135) (ck2 := 135) (sk2 := 415506) (st2 := [.int 0, .int 0]) rfl rfl rfl rfl ?_
                            refine J_app (L3 := [(98, .inr (12, [.int 0, .int 1, .ref 99, .ref 100, .ref 101, .ref 102, .ref 103, .ref 104, .ref 105, .int 0, .int (-1), .ref 106, .ref 107, .ref 108, .int 0, .int 0, .int 0, .int 0, .int 0, .int 0, .int 0, .ref 109, .int 0, .int 0, .ref 110, .ref 111, .ref 112, .ref 113, .ref 114, .ref 115, .ref 116, .ref 117, .int 0, .int 0, .int (-1), .int (-1), .ref 118, .ref 119, .ref 120, .ref 121, .ref 122, .ref 123, .ref 124, .ref 125, .ref 126, .ref 127, .ref 128, .ref 129, .int 0, .ref 130, .ref 131, .ref 132, .ref 133, .ref 134, .int 0, .int 0])), (100, .inl (0, 4870, .inl (upd (upd (upd (upd (upd (fun _ => 0) 63 (-1)) 3 4) 59 0) 61 0) 60 0))), (0, .inr (11, [.ref 1, .ref 17, .ref 50, .ref 51, .ref 54, .ref 57, .ref 65, .ref 75, .ref 81, .ref 85, .ref 88, .ref 93, .ref 96, .int 0, .int (-1), .ref 97, .int 0])), (57, .inr (9, [.ref 1, .ref 51, .ref 58, .ref 61, .ref 62, .ref 63, .ref 64, .int 1, .int 1, .int 1])), (1, .inr (8, [.ref 2, .ref 3, .ref 4, .int 0, .int (-1), .ref 11, .ref 12, .int 0, .ref 13, .ref 14, .int 0, .ref 15, .ref 16, .int 0])), (51, .inr (0, [.ref 52, .ref 53, .int 1, .int 4])), (52, .inl (0, 1260, .inl (upd (upd (fun _ => 0) 0 0) 0 1755))), (53, .inl (0, 7, .inl (upd (upd (upd (upd (fun _ => 0) 0 3) 1 3) 2 3) 3 3))), (2, .inl (0, 5, .inl (upd (fun _ => 0) 3 4)))]) rfl ?_
                            refine J_icmp_eq (tgt := 1221) dL_law_220 (by decide) (fun _ => ?_) (fun q => absurd (by decide +kernel) q)
                            exact law_tail (Nat.le_of_ble_eq_true rfl) (Nat.le_of_ble_eq_true rfl)
                          · rcases i_cut x2.toInt 6 with h_13 | h_13
                            · obtain rfl : x1 = 3 := by rw [fa_eq, kc_3]; omega
                              obtain rfl : x2 = 5 := by rw [fa_eq, kc_5]; omega
                              refine J_hc0 ?_
                              refine J_aload_n dL_law_192 rfl rfl ?_
                              refine J_sload_n dL_law_193 rfl rfl ?_
                              refine J_iload_n dL_law_194 rfl rfl ?_
                              refine J_iconst (v := 1) dL_law_195 (by decide) ?_
                              refine J_iadd (z := 1) dL_law_196 (by decide +kernel) ?_
                              refine L_sld (i2 := 1) (v := 3) dL_law_197 (jin (by decide +kernel)) (by decide +kernel) hx1 ?_
                              refine J_sload_n dL_law_198 rfl rfl ?_
                              refine J_iload_n dL_law_199 rfl rfl ?_
                              refine J_iconst (v := 2) dL_law_200 (by decide) ?_
                              refine J_iadd (z := 2) dL_law_201 (by decide +kernel) ?_
                              refine L_sld (i2 := 2) (v := 5) dL_law_202 (jin (by decide +kernel)) (by decide +kernel) hx2 ?_
                              refine J_callV (st := []) dL_law_203 cv_L_13 (c_X11_beans_32 H0_0 H0_1 H0_2 H0_51 H0_52 H0_53 H0_57) H0_0 rfl rfl (Nat.le_of_ble_eq_true rfl) ⟨(Nat.le_of_ble_eq_true rfl), (Nat.le_of_ble_eq_true rfl)⟩ ⟨(Nat.le_of_ble_eq_true rfl), (Nat.le_of_ble_eq_true rfl)⟩ (fun r h9 hp => ?_)
                              obtain ⟨rfl, rfl⟩ := hp
                              refine J_nf (nh2 := 135) (ck2 := 135) (sk2 := 415506) (st2 := [.int 0]) rfl rfl rfl rfl ?_
                              refine J_app (L3 := [(0, .inr (11, [.ref 1, .ref 17, .ref 50, .ref 51, .ref 54, .ref 57, .ref 65, .ref 75, .ref 81, .ref 85, .ref 88, .ref 93, .ref 96, .int 0, .int (-1), .ref 97, .int 0])), (57, .inr (9, [.ref 1, .ref 51, .ref 58, .ref 61, .ref 62, .ref 63, .ref 64, .int 1, .int 1, .int 1])), (1, .inr (8, [.ref 2, .ref 3, .ref 4, .int 0, .int (-1), .ref 11, .ref 12, .int 0, .ref 13, .ref 14, .int 0, .ref 15, .ref 16, .int 0])), (51, .inr (0, [.ref 52, .ref 53, .int 1, .int 5])), (52, .inl (0, 1260, .inl (upd (upd (fun _ => 0) 0 0) 0 14043))), (53, .inl (0, 7, .inl (upd (upd (upd (upd (upd (fun _ => 0) 0 3) 1 3) 2 3) 3 3) 4 3))), (2, .inl (0, 5, .inl (upd (fun _ => 0) 3 5)))]) rfl ?_
                              refine J_aload_n dL_law_206 rfl rfl ?_
                              refine J_sload_n dL_law_207 rfl rfl ?_
                              refine J_iload_n dL_law_208 rfl rfl ?_
                              refine J_iconst (v := 1) dL_law_209 (by decide) ?_
                              refine J_iadd (z := 1) dL_law_210 (by decide +kernel) ?_
                              refine L_sld (i2 := 1) (v := 3) dL_law_211 (jin (by decide +kernel)) (by decide +kernel) hx1 ?_
                              refine J_sload_n dL_law_212 rfl rfl ?_
                              refine J_iload_n dL_law_213 rfl rfl ?_
                              refine J_iconst (v := 2) dL_law_214 (by decide) ?_
                              refine J_iadd (z := 2) dL_law_215 (by decide +kernel) ?_
                              refine L_sld (i2 := 2) (v := 5) dL_law_216 (jin (by decide +kernel)) (by decide +kernel) hx2 ?_
                              refine J_callV (st := [.int 0]) dL_law_217 cv_L_17 (c_X12_beans_32 H0_98 H0_100) H0_98 rfl rfl (Nat.le_of_ble_eq_true rfl) ⟨(Nat.le_of_ble_eq_true rfl), (Nat.le_of_ble_eq_true rfl)⟩ ⟨(Nat.le_of_ble_eq_true rfl), (Nat.le_of_ble_eq_true rfl)⟩ (fun r h9 hp => ?_)
                              obtain ⟨rfl, rfl⟩ := hp
                              refine J_nf (nh2 := 135) (ck2 := 135) (sk2 := 415506) (st2 := [.int 0, .int 0]) rfl rfl rfl rfl ?_
                              refine J_app (L3 := [(98, .inr (12, [.int 0, .int 1, .ref 99, .ref 100, .ref 101, .ref 102, .ref 103, .ref 104, .ref 105, .int 0, .int (-1), .ref 106, .ref 107, .ref 108, .int 0, .int 0, .int 0, .int 0, .int 0, .int 0, .int 0, .ref 109, .int 0, .int 0, .ref 110, .ref 111, .ref 112, .ref 113, .ref 114, .ref 115, .ref 116, .ref 117, .int 0, .int 0, .int (-1), .int (-1), .ref 118, .ref 119, .ref 120, .ref 121, .ref 122, .ref 123, .ref 124, .ref 125, .ref 126, .ref 127, .ref 128, .ref 129, .int 0, .ref 130, .ref 131, .ref 132, .ref 133, .ref 134, .int 0, .int 0])), (100, .inl (0, 4870, .inl (upd (upd (upd (upd (upd (fun _ => 0) 63 (-1)) 3 5) 59 0) 61 0) 60 0))), (0, .inr (11, [.ref 1, .ref 17, .ref 50, .ref 51, .ref 54, .ref 57, .ref 65, .ref 75, .ref 81, .ref 85, .ref 88, .ref 93, .ref 96, .int 0, .int (-1), .ref 97, .int 0])), (57, .inr (9, [.ref 1, .ref 51, .ref 58, .ref 61, .ref 62, .ref 63, .ref 64, .int 1, .int 1, .int 1])), (1, .inr (8, [.ref 2, .ref 3, .ref 4, .int 0, .int (-1), .ref 11, .ref 12, .int 0, .ref 13, .ref 14, .int 0, .ref 15, .ref 16, .int 0])), (51, .inr (0, [.ref 52, .ref 53, .int 1, .int 5])), (52, .inl (0, 1260, .inl (upd (upd (fun _ => 0) 0 0) 0 14043))), (53, .inl (0, 7, .inl (upd (upd (upd (upd (upd (fun _ => 0) 0 3) 1 3) 2 3) 3 3) 4 3))), (2, .inl (0, 5, .inl (upd (fun _ => 0) 3 5)))]) rfl ?_
                              refine J_icmp_eq (tgt := 1221) dL_law_220 (by decide) (fun _ => ?_) (fun q => absurd (by decide +kernel) q)
                              exact law_tail (Nat.le_of_ble_eq_true rfl) (Nat.le_of_ble_eq_true rfl)
                            · rcases i_cut x2.toInt 7 with h_14 | h_14
                              · obtain rfl : x1 = 3 := by rw [fa_eq, kc_3]; omega
                                obtain rfl : x2 = 6 := by rw [fa_eq, kc_6]; omega
                                refine J_hc0 ?_
                                refine J_aload_n dL_law_192 rfl rfl ?_
                                refine J_sload_n dL_law_193 rfl rfl ?_
                                refine J_iload_n dL_law_194 rfl rfl ?_
                                refine J_iconst (v := 1) dL_law_195 (by decide) ?_
                                refine J_iadd (z := 1) dL_law_196 (by decide +kernel) ?_
                                refine L_sld (i2 := 1) (v := 3) dL_law_197 (jin (by decide +kernel)) (by decide +kernel) hx1 ?_
                                refine J_sload_n dL_law_198 rfl rfl ?_
                                refine J_iload_n dL_law_199 rfl rfl ?_
                                refine J_iconst (v := 2) dL_law_200 (by decide) ?_
                                refine J_iadd (z := 2) dL_law_201 (by decide +kernel) ?_
                                refine L_sld (i2 := 2) (v := 6) dL_law_202 (jin (by decide +kernel)) (by decide +kernel) hx2 ?_
                                refine J_callV (st := []) dL_law_203 cv_L_13 (c_X11_beans_33 H0_0 H0_1 H0_2 H0_51 H0_52 H0_53 H0_57) H0_0 rfl rfl (Nat.le_of_ble_eq_true rfl) ⟨(Nat.le_of_ble_eq_true rfl), (Nat.le_of_ble_eq_true rfl)⟩ ⟨(Nat.le_of_ble_eq_true rfl), (Nat.le_of_ble_eq_true rfl)⟩ (fun r h9 hp => ?_)
                                obtain ⟨rfl, rfl⟩ := hp
                                refine J_nf (nh2 := 135) (ck2 := 135) (sk2 := 415506) (st2 := [.int 0]) rfl rfl rfl rfl ?_
                                refine J_app (L3 := [(0, .inr (11, [.ref 1, .ref 17, .ref 50, .ref 51, .ref 54, .ref 57, .ref 65, .ref 75, .ref 81, .ref 85, .ref 88, .ref 93, .ref 96, .int 0, .int (-1), .ref 97, .int 0])), (57, .inr (9, [.ref 1, .ref 51, .ref 58, .ref 61, .ref 62, .ref 63, .ref 64, .int 1, .int 1, .int 1])), (1, .inr (8, [.ref 2, .ref 3, .ref 4, .int 0, .int (-1), .ref 11, .ref 12, .int 0, .ref 13, .ref 14, .int 0, .ref 15, .ref 16, .int 0])), (51, .inr (0, [.ref 52, .ref 53, .int 1, .int 6])), (52, .inl (0, 1260, .inl (upd (upd (fun _ => 0) 0 0) 0 112347))), (53, .inl (0, 7, .inl (upd (upd (upd (upd (upd (upd (fun _ => 0) 0 3) 1 3) 2 3) 3 3) 4 3) 5 3))), (2, .inl (0, 5, .inl (upd (fun _ => 0) 3 6)))]) rfl ?_
                                refine J_aload_n dL_law_206 rfl rfl ?_
                                refine J_sload_n dL_law_207 rfl rfl ?_
                                refine J_iload_n dL_law_208 rfl rfl ?_
                                refine J_iconst (v := 1) dL_law_209 (by decide) ?_
                                refine J_iadd (z := 1) dL_law_210 (by decide +kernel) ?_
                                refine L_sld (i2 := 1) (v := 3) dL_law_211 (jin (by decide +kernel)) (by decide +kernel) hx1 ?_
                                refine J_sload_n dL_law_212 rfl rfl ?_
                                refine J_iload_n dL_law_213 rfl rfl ?_
                                refine J_iconst (v := 2) dL_law_214 (by decide) ?_
                                refine J_iadd (z := 2) dL_law_215 (by decide +kernel) ?_
                                refine L_sld (i2 := 2) (v := 6) dL_law_216 (jin (by decide +kernel)) (by decide +kernel) hx2 ?_
                                refine J_callV (st := [.int 0]) dL_law_217 cv_L_17 (c_X12_beans_33 H0_98 H0_100) H0_98 rfl rfl (Nat.le_of_ble_eq_true rfl) ⟨(Nat.le_of_ble_eq_true rfl), (Nat.le_of_ble_eq_true rfl)⟩ ⟨(Nat.le_of_ble_eq_true rfl), (Nat.le_of_ble_eq_true rfl)⟩ (fun r h9 hp => ?_)
                                obtain ⟨rfl, rfl⟩ := hp
                                refine J_nf (nh2 := 135) (ck2 := 135) (sk2 := 415506) (st2 := [.int 0, .int 0]) rfl rfl rfl rfl ?_
                                refine J_app (L3 := [(98, .inr (12, [.int 0, .int 1, .ref 99, .ref 100, .ref 101, .ref 102, .ref 103, .ref 104, .ref 105, .int 0, .int (-1), .ref 106, .ref 107, .ref 108, .int 0, .int 0, .int 0, .int 0, .int 0, .int 0, .int 0, .ref 109, .int 0, .int 0, .ref 110, .ref 111, .ref 112, .ref 113, .ref 114, .ref 115, .ref 116, .ref 117, .int 0, .int 0, .int (-1), .int (-1), .ref 118, .ref 119, .ref 120, .ref 121, .ref 122, .ref 123, .ref 124, .ref 125, .ref 126, .ref 127, .ref 128, .ref 129, .int 0, .ref 130, .ref 131, .ref 132, .ref 133, .ref 134, .int 0, .int 0])), (100, .inl (0, 4870, .inl (upd (upd (upd (upd (upd (fun _ => 0) 63 (-1)) 3 6) 59 0) 61 0) 60 0))), (0, .inr (11, [.ref 1, .ref 17, .ref 50, .ref 51, .ref 54, .ref 57, .ref 65, .ref 75, .ref 81, .ref 85, .ref 88, .ref 93, .ref 96, .int 0, .int (-1), .ref 97, .int 0])), (57, .inr (9, [.ref 1, .ref 51, .ref 58, .ref 61, .ref 62, .ref 63, .ref 64, .int 1, .int 1, .int 1])), (1, .inr (8, [.ref 2, .ref 3, .ref 4, .int 0, .int (-1), .ref 11, .ref 12, .int 0, .ref 13, .ref 14, .int 0, .ref 15, .ref 16, .int 0])), (51, .inr (0, [.ref 52, .ref 53, .int 1, .int 6])), (52, .inl (0, 1260, .inl (upd (upd (fun _ => 0) 0 0) 0 112347))), (53, .inl (0, 7, .inl (upd (upd (upd (upd (upd (upd (fun _ => 0) 0 3) 1 3) 2 3) 3 3) 4 3) 5 3))), (2, .inl (0, 5, .inl (upd (fun _ => 0) 3 6)))]) rfl ?_
                                refine J_icmp_eq (tgt := 1221) dL_law_220 (by decide) (fun _ => ?_) (fun q => absurd (by decide +kernel) q)
                                exact law_tail (Nat.le_of_ble_eq_true rfl) (Nat.le_of_ble_eq_true rfl)
                              · obtain rfl : x1 = 3 := by rw [fa_eq, kc_3]; omega
                                obtain rfl : x2 = 7 := by rw [fa_eq, kc_7]; omega
                                refine J_hc0 ?_
                                refine J_aload_n dL_law_192 rfl rfl ?_
                                refine J_sload_n dL_law_193 rfl rfl ?_
                                refine J_iload_n dL_law_194 rfl rfl ?_
                                refine J_iconst (v := 1) dL_law_195 (by decide) ?_
                                refine J_iadd (z := 1) dL_law_196 (by decide +kernel) ?_
                                refine L_sld (i2 := 1) (v := 3) dL_law_197 (jin (by decide +kernel)) (by decide +kernel) hx1 ?_
                                refine J_sload_n dL_law_198 rfl rfl ?_
                                refine J_iload_n dL_law_199 rfl rfl ?_
                                refine J_iconst (v := 2) dL_law_200 (by decide) ?_
                                refine J_iadd (z := 2) dL_law_201 (by decide +kernel) ?_
                                refine L_sld (i2 := 2) (v := 7) dL_law_202 (jin (by decide +kernel)) (by decide +kernel) hx2 ?_
                                refine J_callV (st := []) dL_law_203 cv_L_13 (c_X11_beans_34 H0_0 H0_1 H0_2 H0_51 H0_52 H0_53 H0_57) H0_0 rfl rfl (Nat.le_of_ble_eq_true rfl) ⟨(Nat.le_of_ble_eq_true rfl), (Nat.le_of_ble_eq_true rfl)⟩ ⟨(Nat.le_of_ble_eq_true rfl), (Nat.le_of_ble_eq_true rfl)⟩ (fun r h9 hp => ?_)
                                obtain ⟨rfl, rfl⟩ := hp
                                refine J_nf (nh2 := 135) (ck2 := 135) (sk2 := 415506) (st2 := [.int 0]) rfl rfl rfl rfl ?_
                                refine J_app (L3 := [(0, .inr (11, [.ref 1, .ref 17, .ref 50, .ref 51, .ref 54, .ref 57, .ref 65, .ref 75, .ref 81, .ref 85, .ref 88, .ref 93, .ref 96, .int 0, .int (-1), .ref 97, .int 0])), (57, .inr (9, [.ref 1, .ref 51, .ref 58, .ref 61, .ref 62, .ref 63, .ref 64, .int 1, .int 1, .int 1])), (1, .inr (8, [.ref 2, .ref 3, .ref 4, .int 0, .int (-1), .ref 11, .ref 12, .int 0, .ref 13, .ref 14, .int 0, .ref 15, .ref 16, .int 0])), (51, .inr (0, [.ref 52, .ref 53, .int 1, .int 7])), (52, .inl (0, 1260, .inl (upd (upd (fun _ => 0) 0 0) 0 898779))), (53, .inl (0, 7, .inl (upd (upd (upd (upd (upd (upd (upd (fun _ => 0) 0 3) 1 3) 2 3) 3 3) 4 3) 5 3) 6 3))), (2, .inl (0, 5, .inl (upd (fun _ => 0) 3 7)))]) rfl ?_
                                refine J_aload_n dL_law_206 rfl rfl ?_
                                refine J_sload_n dL_law_207 rfl rfl ?_
                                refine J_iload_n dL_law_208 rfl rfl ?_
                                refine J_iconst (v := 1) dL_law_209 (by decide) ?_
                                refine J_iadd (z := 1) dL_law_210 (by decide +kernel) ?_
                                refine L_sld (i2 := 1) (v := 3) dL_law_211 (jin (by decide +kernel)) (by decide +kernel) hx1 ?_
                                refine J_sload_n dL_law_212 rfl rfl ?_
                                refine J_iload_n dL_law_213 rfl rfl ?_
                                refine J_iconst (v := 2) dL_law_214 (by decide) ?_
                                refine J_iadd (z := 2) dL_law_215 (by decide +kernel) ?_
                                refine L_sld (i2 := 2) (v := 7) dL_law_216 (jin (by decide +kernel)) (by decide +kernel) hx2 ?_
                                refine J_callV (st := [.int 0]) dL_law_217 cv_L_17 (c_X12_beans_34 H0_98 H0_100) H0_98 rfl rfl (Nat.le_of_ble_eq_true rfl) ⟨(Nat.le_of_ble_eq_true rfl), (Nat.le_of_ble_eq_true rfl)⟩ ⟨(Nat.le_of_ble_eq_true rfl), (Nat.le_of_ble_eq_true rfl)⟩ (fun r h9 hp => ?_)
                                obtain ⟨rfl, rfl⟩ := hp
                                refine J_nf (nh2 := 135) (ck2 := 135) (sk2 := 415506) (st2 := [.int 0, .int 0]) rfl rfl rfl rfl ?_
                                refine J_app (L3 := [(98, .inr (12, [.int 0, .int 1, .ref 99, .ref 100, .ref 101, .ref 102, .ref 103, .ref 104, .ref 105, .int 0, .int (-1), .ref 106, .ref 107, .ref 108, .int 0, .int 0, .int 0, .int 0, .int 0, .int 0, .int 0, .ref 109, .int 0, .int 0, .ref 110, .ref 111, .ref 112, .ref 113, .ref 114, .ref 115, .ref 116, .ref 117, .int 0, .int 0, .int (-1), .int (-1), .ref 118, .ref 119, .ref 120, .ref 121, .ref 122, .ref 123, .ref 124, .ref 125, .ref 126, .ref 127, .ref 128, .ref 129, .int 0, .ref 130, .ref 131, .ref 132, .ref 133, .ref 134, .int 0, .int 0])), (100, .inl (0, 4870, .inl (upd (upd (upd (upd (upd (fun _ => 0) 63 (-1)) 3 7) 59 0) 61 0) 60 0))), (0, .inr (11, [.ref 1, .ref 17, .ref 50, .ref 51, .ref 54, .ref 57, .ref 65, .ref 75, .ref 81, .ref 85, .ref 88, .ref 93, .ref 96, .int 0, .int (-1), .ref 97, .int 0])), (57, .inr (9, [.ref 1, .ref 51, .ref 58, .ref 61, .ref 62, .ref 63, .ref 64, .int 1, .int 1, .int 1])), (1, .inr (8, [.ref 2, .ref 3, .ref 4, .int 0, .int (-1), .ref 11, .ref 12, .int 0, .ref 13, .ref 14, .int 0, .ref 15, .ref 16, .int 0])), (51, .inr (0, [.ref 52, .ref 53, .int 1, .int 7])), (52, .inl (0, 1260, .inl (upd (upd (fun _ => 0) 0 0) 0 898779))), (53, .inl (0, 7, .inl (upd (upd (upd (upd (upd (upd (upd (fun _ => 0) 0 3) 1 3) 2 3) 3 3) 4 3) 5 3) 6 3))), (2, .inl (0, 5, .inl (upd (fun _ => 0) 3 7)))]) rfl ?_
                                refine J_icmp_eq (tgt := 1221) dL_law_220 (by decide) (fun _ => ?_) (fun q => absurd (by decide +kernel) q)
                                exact law_tail (Nat.le_of_ble_eq_true rfl) (Nat.le_of_ble_eq_true rfl)
                · rcases i_cut x2.toInt 1 with h_8 | h_8
                  · obtain rfl : x1 = 4 := by rw [fa_eq, kc_4]; omega
                    obtain rfl : x2 = 0 := by rw [fa_eq, kc_0]; omega
                    refine J_hc0 ?_
                    refine J_aload_n dL_law_192 rfl rfl ?_
                    refine J_sload_n dL_law_193 rfl rfl ?_
                    refine J_iload_n dL_law_194 rfl rfl ?_
                    refine J_iconst (v := 1) dL_law_195 (by decide) ?_
                    refine J_iadd (z := 1) dL_law_196 (by decide +kernel) ?_
                    refine L_sld (i2 := 1) (v := 4) dL_law_197 (jin (by decide +kernel)) (by decide +kernel) hx1 ?_
                    refine J_sload_n dL_law_198 rfl rfl ?_
                    refine J_iload_n dL_law_199 rfl rfl ?_
                    refine J_iconst (v := 2) dL_law_200 (by decide) ?_
                    refine J_iadd (z := 2) dL_law_201 (by decide +kernel) ?_
                    refine L_sld (i2 := 2) (v := 0) dL_law_202 (jin (by decide +kernel)) (by decide +kernel) hx2 ?_
                    refine J_callV (st := []) dL_law_203 cv_L_13 (c_X11_beans_35 H0_0 H0_1 H0_2 H0_51 H0_52 H0_57) H0_0 rfl rfl (Nat.le_of_ble_eq_true rfl) ⟨(Nat.le_of_ble_eq_true rfl), (Nat.le_of_ble_eq_true rfl)⟩ ⟨(Nat.le_of_ble_eq_true rfl), (Nat.le_of_ble_eq_true rfl)⟩ (fun r h9 hp => ?_)
                    obtain ⟨rfl, rfl⟩ := hp
                    refine J_nf (nh2 := 135) (ck2 := 135) (sk2 := 415506) (st2 := [.int 0]) rfl rfl rfl rfl ?_
                    refine J_app (L3 := [(0, .inr (11, [.ref 1, .ref 17, .ref 50, .ref 51, .ref 54, .ref 57, .ref 65, .ref 75, .ref 81, .ref 85, .ref 88, .ref 93, .ref 96, .int 0, .int (-1), .ref 97, .int 0])), (57, .inr (9, [.ref 1, .ref 51, .ref 58, .ref 61, .ref 62, .ref 63, .ref 64, .int 1, .int 1, .int 1])), (1, .inr (8, [.ref 2, .ref 3, .ref 4, .int 0, .int (-1), .ref 11, .ref 12, .int 0, .ref 13, .ref 14, .int 0, .ref 15, .ref 16, .int 0])), (51, .inr (0, [.ref 52, .ref 53, .int 1, .int 0])), (52, .inl (0, 1260, .inl (upd (upd (fun _ => 0) 0 0) 0 0))), (2, .inl (0, 5, .inl (upd (fun _ => 0) 4 0)))]) rfl ?_
                    refine J_aload_n dL_law_206 rfl rfl ?_
                    refine J_sload_n dL_law_207 rfl rfl ?_
                    refine J_iload_n dL_law_208 rfl rfl ?_
                    refine J_iconst (v := 1) dL_law_209 (by decide) ?_
                    refine J_iadd (z := 1) dL_law_210 (by decide +kernel) ?_
                    refine L_sld (i2 := 1) (v := 4) dL_law_211 (jin (by decide +kernel)) (by decide +kernel) hx1 ?_
                    refine J_sload_n dL_law_212 rfl rfl ?_
                    refine J_iload_n dL_law_213 rfl rfl ?_
                    refine J_iconst (v := 2) dL_law_214 (by decide) ?_
                    refine J_iadd (z := 2) dL_law_215 (by decide +kernel) ?_
                    refine L_sld (i2 := 2) (v := 0) dL_law_216 (jin (by decide +kernel)) (by decide +kernel) hx2 ?_
                    refine J_callV (st := [.int 0]) dL_law_217 cv_L_17 (c_X12_beans_35 H0_98 H0_100) H0_98 rfl rfl (Nat.le_of_ble_eq_true rfl) ⟨(Nat.le_of_ble_eq_true rfl), (Nat.le_of_ble_eq_true rfl)⟩ ⟨(Nat.le_of_ble_eq_true rfl), (Nat.le_of_ble_eq_true rfl)⟩ (fun r h9 hp => ?_)
                    obtain ⟨rfl, rfl⟩ := hp
                    refine J_nf (nh2 := 135) (ck2 := 135) (sk2 := 415506) (st2 := [.int 0, .int 0]) rfl rfl rfl rfl ?_
                    refine J_app (L3 := [(98, .inr (12, [.int 0, .int 1, .ref 99, .ref 100, .ref 101, .ref 102, .ref 103, .ref 104, .ref 105, .int 0, .int (-1), .ref 106, .ref 107, .ref 108, .int 0, .int 0, .int 0, .int 0, .int 0, .int 0, .int 0, .ref 109, .int 0, .int 0, .ref 110, .ref 111, .ref 112, .ref 113, .ref 114, .ref 115, .ref 116, .ref 117, .int 0, .int 0, .int (-1), .int (-1), .ref 118, .ref 119, .ref 120, .ref 121, .ref 122, .ref 123, .ref 124, .ref 125, .ref 126, .ref 127, .ref 128, .ref 129, .int 0, .ref 130, .ref 131, .ref 132, .ref 133, .ref 134, .int 0, .int 0])), (100, .inl (0, 4870, .inl (upd (upd (upd (upd (upd (fun _ => 0) 63 (-1)) 4 0) 59 0) 61 0) 60 0))), (0, .inr (11, [.ref 1, .ref 17, .ref 50, .ref 51, .ref 54, .ref 57, .ref 65, .ref 75, .ref 81, .ref 85, .ref 88, .ref 93, .ref 96, .int 0, .int (-1), .ref 97, .int 0])), (57, .inr (9, [.ref 1, .ref 51, .ref 58, .ref 61, .ref 62, .ref 63, .ref 64, .int 1, .int 1, .int 1])), (1, .inr (8, [.ref 2, .ref 3, .ref 4, .int 0, .int (-1), .ref 11, .ref 12, .int 0, .ref 13, .ref 14, .int 0, .ref 15, .ref 16, .int 0])), (51, .inr (0, [.ref 52, .ref 53, .int 1, .int 0])), (52, .inl (0, 1260, .inl (upd (upd (fun _ => 0) 0 0) 0 0))), (2, .inl (0, 5, .inl (upd (fun _ => 0) 4 0)))]) rfl ?_
                    refine J_icmp_eq (tgt := 1221) dL_law_220 (by decide) (fun _ => ?_) (fun q => absurd (by decide +kernel) q)
                    exact law_tail (Nat.le_of_ble_eq_true rfl) (Nat.le_of_ble_eq_true rfl)
                  · rcases i_cut x2.toInt 2 with h_9 | h_9
                    · obtain rfl : x1 = 4 := by rw [fa_eq, kc_4]; omega
                      obtain rfl : x2 = 1 := by rw [fa_eq, kc_1]; omega
                      refine J_hc0 ?_
                      refine J_aload_n dL_law_192 rfl rfl ?_
                      refine J_sload_n dL_law_193 rfl rfl ?_
                      refine J_iload_n dL_law_194 rfl rfl ?_
                      refine J_iconst (v := 1) dL_law_195 (by decide) ?_
                      refine J_iadd (z := 1) dL_law_196 (by decide +kernel) ?_
                      refine L_sld (i2 := 1) (v := 4) dL_law_197 (jin (by decide +kernel)) (by decide +kernel) hx1 ?_
                      refine J_sload_n dL_law_198 rfl rfl ?_
                      refine J_iload_n dL_law_199 rfl rfl ?_
                      refine J_iconst (v := 2) dL_law_200 (by decide) ?_
                      refine J_iadd (z := 2) dL_law_201 (by decide +kernel) ?_
                      refine L_sld (i2 := 2) (v := 1) dL_law_202 (jin (by decide +kernel)) (by decide +kernel) hx2 ?_
                      refine J_callV (st := []) dL_law_203 cv_L_13 (c_X11_beans_36 H0_0 H0_1 H0_2 H0_51 H0_52 H0_53 H0_57) H0_0 rfl rfl (Nat.le_of_ble_eq_true rfl) ⟨(Nat.le_of_ble_eq_true rfl), (Nat.le_of_ble_eq_true rfl)⟩ ⟨(Nat.le_of_ble_eq_true rfl), (Nat.le_of_ble_eq_true rfl)⟩ (fun r h9 hp => ?_)
                      obtain ⟨rfl, rfl⟩ := hp
                      refine J_nf (nh2 := 135) (ck2 := 135) (sk2 := 415506) (st2 := [.int 0]) rfl rfl rfl rfl ?_
                      refine J_app (L3 := [(0, .inr (11, [.ref 1, .ref 17, .ref 50, .ref 51, .ref 54, .ref 57, .ref 65, .ref 75, .ref 81, .ref 85, .ref 88, .ref 93, .ref 96, .int 0, .int (-1), .ref 97, .int 0])), (57, .inr (9, [.ref 1, .ref 51, .ref 58, .ref 61, .ref 62, .ref 63, .ref 64, .int 1, .int 1, .int 1])), (1, .inr (8, [.ref 2, .ref 3, .ref 4, .int 0, .int (-1), .ref 11, .ref 12, .int 0, .ref 13, .ref 14, .int 0, .ref 15, .ref 16, .int 0])), (51, .inr (0, [.ref 52, .ref 53, .int 1, .int 1])), (52, .inl (0, 1260, .inl (upd (upd (fun _ => 0) 0 0) 0 4))), (53, .inl (0, 7, .inl (upd (fun _ => 0) 0 4))), (2, .inl (0, 5, .inl (upd (fun _ => 0) 4 1)))]) rfl ?_
                      refine J_aload_n dL_law_206 rfl rfl ?_
                      refine J_sload_n dL_law_207 rfl rfl ?_
                      refine J_iload_n dL_law_208 rfl rfl ?_
                      refine J_iconst (v := 1) dL_law_209 (by decide) ?_
                      refine J_iadd (z := 1) dL_law_210 (by decide +kernel) ?_
                      refine L_sld (i2 := 1) (v := 4) dL_law_211 (jin (by decide +kernel)) (by decide +kernel) hx1 ?_
                      refine J_sload_n dL_law_212 rfl rfl ?_
                      refine J_iload_n dL_law_213 rfl rfl ?_
                      refine J_iconst (v := 2) dL_law_214 (by decide) ?_
                      refine J_iadd (z := 2) dL_law_215 (by decide +kernel) ?_
                      refine L_sld (i2 := 2) (v := 1) dL_law_216 (jin (by decide +kernel)) (by decide +kernel) hx2 ?_
                      refine J_callV (st := [.int 0]) dL_law_217 cv_L_17 (c_X12_beans_36 H0_98 H0_100) H0_98 rfl rfl (Nat.le_of_ble_eq_true rfl) ⟨(Nat.le_of_ble_eq_true rfl), (Nat.le_of_ble_eq_true rfl)⟩ ⟨(Nat.le_of_ble_eq_true rfl), (Nat.le_of_ble_eq_true rfl)⟩ (fun r h9 hp => ?_)
                      obtain ⟨rfl, rfl⟩ := hp
                      refine J_nf (nh2 := 135) (ck2 := 135) (sk2 := 415506) (st2 := [.int 0, .int 0]) rfl rfl rfl rfl ?_
                      refine J_app (L3 := [(98, .inr (12, [.int 0, .int 1, .ref 99, .ref 100, .ref 101, .ref 102, .ref 103, .ref 104, .ref 105, .int 0, .int (-1), .ref 106, .ref 107, .ref 108, .int 0, .int 0, .int 0, .int 0, .int 0, .int 0, .int 0, .ref 109, .int 0, .int 0, .ref 110, .ref 111, .ref 112, .ref 113, .ref 114, .ref 115, .ref 116, .ref 117, .int 0, .int 0, .int (-1), .int (-1), .ref 118, .ref 119, .ref 120, .ref 121, .ref 122, .ref 123, .ref 124, .ref 125, .ref 126, .ref 127, .ref 128, .ref 129, .int 0, .ref 130, .ref 131, .ref 132, .ref 133, .ref 134, .int 0, .int 0])), (100, .inl (0, 4870, .inl (upd (upd (upd (upd (upd (fun _ => 0) 63 (-1)) 4 1) 59 0) 61 0) 60 0))), (0, .inr (11, [.ref 1, .ref 17, .ref 50, .ref 51, .ref 54, .ref 57, .ref 65, .ref 75, .ref 81, .ref 85, .ref 88, .ref 93, .ref 96, .int 0, .int (-1), .ref 97, .int 0])), (57, .inr (9, [.ref 1, .ref 51, .ref 58, .ref 61, .ref 62, .ref 63, .ref 64, .int 1, .int 1, .int 1])), (1, .inr (8, [.ref 2, .ref 3, .ref 4, .int 0, .int (-1), .ref 11, .ref 12, .int 0, .ref 13, .ref 14, .int 0, .ref 15, .ref 16, .int 0])), (51, .inr (0, [.ref 52, .ref 53, .int 1, .int 1])), (52, .inl (0, 1260, .inl (upd (upd (fun _ => 0) 0 0) 0 4))), (53, .inl (0, 7, .inl (upd (fun _ => 0) 0 4))), (2, .inl (0, 5, .inl (upd (fun _ => 0) 4 1)))]) rfl ?_
                      refine J_icmp_eq (tgt := 1221) dL_law_220 (by decide) (fun _ => ?_) (fun q => absurd (by decide +kernel) q)
                      exact law_tail (Nat.le_of_ble_eq_true rfl) (Nat.le_of_ble_eq_true rfl)
                    · rcases i_cut x2.toInt 3 with h_10 | h_10
                      · obtain rfl : x1 = 4 := by rw [fa_eq, kc_4]; omega
                        obtain rfl : x2 = 2 := by rw [fa_eq, kc_2]; omega
                        refine J_hc0 ?_
                        refine J_aload_n dL_law_192 rfl rfl ?_
                        refine J_sload_n dL_law_193 rfl rfl ?_
                        refine J_iload_n dL_law_194 rfl rfl ?_
                        refine J_iconst (v := 1) dL_law_195 (by decide) ?_
                        refine J_iadd (z := 1) dL_law_196 (by decide +kernel) ?_
                        refine L_sld (i2 := 1) (v := 4) dL_law_197 (jin (by decide +kernel)) (by decide +kernel) hx1 ?_
                        refine J_sload_n dL_law_198 rfl rfl ?_
                        refine J_iload_n dL_law_199 rfl rfl ?_
                        refine J_iconst (v := 2) dL_law_200 (by decide) ?_
                        refine J_iadd (z := 2) dL_law_201 (by decide +kernel) ?_
                        refine L_sld (i2 := 2) (v := 2) dL_law_202 (jin (by decide +kernel)) (by decide +kernel) hx2 ?_
                        refine J_callV (st := []) dL_law_203 cv_L_13 (c_X11_beans_37 H0_0 H0_1 H0_2 H0_51 H0_52 H0_53 H0_57) H0_0 rfl rfl (Nat.le_of_ble_eq_true rfl) ⟨(Nat.le_of_ble_eq_true rfl), (Nat.le_of_ble_eq_true rfl)⟩ ⟨(Nat.le_of_ble_eq_true rfl), (Nat.le_of_ble_eq_true rfl)⟩ (fun r h9 hp => ?_)
                        obtain ⟨rfl, rfl⟩ := hp
                        refine J_nf (nh2 := 135) (ck2 := 135) (sk2 := 415506) (st2 := [.int 0]) rfl rfl rfl rfl ?_
                        refine J_app (L3 := [(0, .inr (11, [.ref 1, .ref 17, .ref 50, .ref 51, .ref 54, .ref 57, .ref 65, .ref 75, .ref 81, .ref 85, .ref 88, .ref 93, .ref 96, .int 0, .int (-1), .ref 97, .int 0])), (57, .inr (9, [.ref 1, .ref 51, .ref 58, .ref 61, .ref 62, .ref 63, .ref 64, .int 1, .int 1, .int 1])), (1, .inr (8, [.ref 2, .ref 3, .ref 4, .int 0, .int (-1), .ref 11, .ref 12, .int 0, .ref 13, .ref 14, .int 0, .ref 15, .ref 16, .int 0])), (51, .inr (0, [.ref 52, .ref 53, .int 1, .int 2])), (52, .inl (0, 1260, .inl (upd (upd (fun _ => 0) 0 0) 0 36))), (53, .inl (0, 7, .inl (upd (upd (fun _ => 0) 0 4) 1 4))), (2, .inl (0, 5, .inl (upd (fun _ => 0) 4 2)))]) rfl ?_
                        refine J_aload_n dL_law_206 rfl rfl ?_
                        refine J_sload_n dL_law_207 rfl rfl ?_
                        refine J_iload_n dL_law_208 rfl rfl ?_
                        refine J_iconst (v := 1) dL_law_209 (by decide) ?_
                        refine J_iadd (z := 1) dL_law_210 (by decide +kernel) ?_
                        refine L_sld (i2 := 1) (v := 4) dL_law_211 (jin (by decide +kernel)) (by decide +kernel) hx1 ?_
                        refine J_sload_n dL_law_212 rfl rfl ?_
                        refine J_iload_n dL_law_213 rfl rfl ?_
                        refine J_iconst (v := 2) dL_law_214 (by decide) ?_
                        refine J_iadd (z := 2) dL_law_215 (by decide +kernel) ?_
                        refine L_sld (i2 := 2) (v := 2) dL_law_216 (jin (by decide +kernel)) (by decide +kernel) hx2 ?_
                        refine J_callV (st := [.int 0]) dL_law_217 cv_L_17 (c_X12_beans_37 H0_98 H0_100) H0_98 rfl rfl (Nat.le_of_ble_eq_true rfl) ⟨(Nat.le_of_ble_eq_true rfl), (Nat.le_of_ble_eq_true rfl)⟩ ⟨(Nat.le_of_ble_eq_true rfl), (Nat.le_of_ble_eq_true rfl)⟩ (fun r h9 hp => ?_)
                        obtain ⟨rfl, rfl⟩ := hp
                        refine J_nf (nh2 := 135) (ck2 := 135) (sk2 := 415506) (st2 := [.int 0, .int 0]) rfl rfl rfl rfl ?_
                        refine J_app (L3 := [(98, .inr (12, [.int 0, .int 1, .ref 99, .ref 100, .ref 101, .ref 102, .ref 103, .ref 104, .ref 105, .int 0, .int (-1), .ref 106, .ref 107, .ref 108, .int 0, .int 0, .int 0, .int 0, .int 0, .int 0, .int 0, .ref 109, .int 0, .int 0, .ref 110, .ref 111, .ref 112, .ref 113, .ref 114, .ref 115, .ref 116, .ref 117, .int 0, .int 0, .int (-1), .int (-1), .ref 118, .ref 119, .ref 120, .ref 121, .ref 122, .ref 123, .ref 124, .ref 125, .ref 126, .ref 127, .ref 128, .ref 129, .int 0, .ref 130, .ref 131, .ref 132, .ref 133, .ref 134, .int 0, .int 0])), (100, .inl (0, 4870, .inl (upd (upd (upd (upd (upd (fun _ => 0) 63 (-1)) 4 2) 59 0) 61 0) 60 0))), (0, .inr (11, [.ref 1, .ref 17, .ref 50, .ref 51, .ref 54, .ref 57, .ref 65, .ref 75, .ref 81, .ref 85, .ref 88, .ref 93, .ref 96, .int 0, .int (-1), .ref 97, .int 0])), (57, .inr (9, [.ref 1, .ref 51, .ref 58, .ref 61, .ref 62, .ref 63, .ref 64, .int 1, .int 1, .int 1])), (1, .inr (8, [.ref 2, .ref 3, .ref 4, .int 0, .int (-1), .ref 11, .ref 12, .int 0, .ref 13, .ref 14, .int 0, .ref 15, .ref 16, .int 0])), (51, .inr (0, [.ref 52, .ref 53, .int 1, .int 2])), (52, .inl (0, 1260, .inl (upd (upd (fun _ => 0) 0 0) 0 36))), (53, .inl (0, 7, .inl (upd (upd (fun _ => 0) 0 4) 1 4))), (2, .inl (0, 5, .inl (upd (fun _ => 0) 4 2)))]) rfl ?_
                        refine J_icmp_eq (tgt := 1221) dL_law_220 (by decide) (fun _ => ?_) (fun q => absurd (by decide +kernel) q)
                        exact law_tail (Nat.le_of_ble_eq_true rfl) (Nat.le_of_ble_eq_true rfl)
                      · rcases i_cut x2.toInt 4 with h_11 | h_11
                        · obtain rfl : x1 = 4 := by rw [fa_eq, kc_4]; omega
                          obtain rfl : x2 = 3 := by rw [fa_eq, kc_3]; omega
                          refine J_hc0 ?_
                          refine J_aload_n dL_law_192 rfl rfl ?_
                          refine J_sload_n dL_law_193 rfl rfl ?_
                          refine J_iload_n dL_law_194 rfl rfl ?_
                          refine J_iconst (v := 1) dL_law_195 (by decide) ?_
                          refine J_iadd (z := 1) dL_law_196 (by decide +kernel) ?_
                          refine L_sld (i2 := 1) (v := 4) dL_law_197 (jin (by decide +kernel)) (by decide +kernel) hx1 ?_
                          refine J_sload_n dL_law_198 rfl rfl ?_
                          refine J_iload_n dL_law_199 rfl rfl ?_
                          refine J_iconst (v := 2) dL_law_200 (by decide) ?_
                          refine J_iadd (z := 2) dL_law_201 (by decide +kernel) ?_
                          refine L_sld (i2 := 2) (v := 3) dL_law_202 (jin (by decide +kernel)) (by decide +kernel) hx2 ?_
                          refine J_callV (st := []) dL_law_203 cv_L_13 (c_X11_beans_38 H0_0 H0_1 H0_2 H0_51 H0_52 H0_53 H0_57) H0_0 rfl rfl (Nat.le_of_ble_eq_true rfl) ⟨(Nat.le_of_ble_eq_true rfl), (Nat.le_of_ble_eq_true rfl)⟩ ⟨(Nat.le_of_ble_eq_true rfl), (Nat.le_of_ble_eq_true rfl)⟩ (fun r h9 hp => ?_)
                          obtain ⟨rfl, rfl⟩ := hp
                          refine J_nf (nh2 := 135) (ck2 := 135) (sk2 := 415506) (st2 := [.int 0]) rfl rfl rfl rfl ?_
                          refine J_app (L3 := [(0, .inr (11, [.ref 1, .ref 17, .ref 50, .ref 51, .ref 54, .ref 57, .ref 65, .ref 75, .ref 81, .ref 85, .ref 88, .ref 93, .ref 96, .int 0, .int (-1), .ref 97, .int 0])), (57, .inr (9, [.ref 1, .ref 51, .ref 58, .ref 61, .ref 62, .ref 63, .ref 64, .int 1, .int 1, .int 1])), (1, .inr (8, [.ref 2, .ref 3, .ref 4, .int 0, .int (-1), .ref 11, .ref 12, .int 0, .ref 13, .ref 14, .int 0, .ref 15, .ref 16, .int 0])), (51, .inr (0, [.ref 52, .ref 53, .int 1, .int 3])), (52, .inl (0, 1260, .inl (upd (upd (fun _ => 0) 0 0) 0 292))), (53, .inl (0, 7, .inl (upd (upd (upd (fun _ => 0) 0 4) 1 4) 2 4))), (2, .inl (0, 5, .inl (upd (fun _ => 0) 4 3)))]) rfl ?_
                          refine J_aload_n dL_law_206 rfl rfl ?_
                          refine J_sload_n dL_law_207 rfl rfl ?_
                          refine J_iload_n dL_law_208 rfl rfl ?_
                          refine J_iconst (v := 1) dL_law_209 (by decide) ?_
                          refine J_iadd (z := 1) dL_law_210 (by decide +kernel) ?_
                          refine L_sld (i2 := 1) (v := 4) dL_law_211 (jin (by decide +kernel)) (by decide +kernel) hx1 ?_
                          refine J_sload_n dL_law_212 rfl rfl ?_
                          refine J_iload_n dL_law_213 rfl rfl ?_
                          refine J_iconst (v := 2) dL_law_214 (by decide) ?_
                          refine J_iadd (z := 2) dL_law_215 (by decide +kernel) ?_
                          refine L_sld (i2 := 2) (v := 3) dL_law_216 (jin (by decide +kernel)) (by decide +kernel) hx2 ?_
                          refine J_callV (st := [.int 0]) dL_law_217 cv_L_17 (c_X12_beans_38 H0_98 H0_100) H0_98 rfl rfl (Nat.le_of_ble_eq_true rfl) ⟨(Nat.le_of_ble_eq_true rfl), (Nat.le_of_ble_eq_true rfl)⟩ ⟨(Nat.le_of_ble_eq_true rfl), (Nat.le_of_ble_eq_true rfl)⟩ (fun r h9 hp => ?_)
                          obtain ⟨rfl, rfl⟩ := hp
                          refine J_nf (nh2 := 135) (ck2 := 135) (sk2 := 415506) (st2 := [.int 0, .int 0]) rfl rfl rfl rfl ?_
                          refine J_app (L3 := [(98, .inr (12, [.int 0, .int 1, .ref 99, .ref 100, .ref 101, .ref 102, .ref 103, .ref 104, .ref 105, .int 0, .int (-1), .ref 106, .ref 107, .ref 108, .int 0, .int 0, .int 0, .int 0, .int 0, .int 0, .int 0, .ref 109, .int 0, .int 0, .ref 110, .ref 111, .ref 112, .ref 113, .ref 114, .ref 115, .ref 116, .ref 117, .int 0, .int 0, .int (-1), .int (-1), .ref 118, .ref 119, .ref 120, .ref 121, .ref 122, .ref 123, .ref 124, .ref 125, .ref 126, .ref 127, .ref 128, .ref 129, .int 0, .ref 130, .ref 131, .ref 132, .ref 133, .ref 134, .int 0, .int 0])), (100, .inl (0, 4870, .inl (upd (upd (upd (upd (upd (fun _ => 0) 63 (-1)) 4 3) 59 0) 61 0) 60 0))), (0, .inr (11, [.ref 1, .ref 17, .ref 50, .ref 51, .ref 54, .ref 57, .ref 65, .ref 75, .ref 81, .ref 85, .ref 88, .ref 93, .ref 96, .int 0, .int (-1), .ref 97, .int 0])), (57, .inr (9, [.ref 1, .ref 51, .ref 58, .ref 61, .ref 62, .ref 63, .ref 64, .int 1, .int 1, .int 1])), (1, .inr (8, [.ref 2, .ref 3, .ref 4, .int 0, .int (-1), .ref 11, .ref 12, .int 0, .ref 13, .ref 14, .int 0, .ref 15, .ref 16, .int 0])), (51, .inr (0, [.ref 52, .ref 53, .int 1, .int 3])), (52, .inl (0, 1260, .inl (upd (upd (fun _ => 0) 0 0) 0 292))), (53, .inl (0, 7, .inl (upd (upd (upd (fun _ => 0) 0 4) 1 4) 2 4))), (2, .inl (0, 5, .inl (upd (fun _ => 0) 4 3)))]) rfl ?_
                          refine J_icmp_eq (tgt := 1221) dL_law_220 (by decide) (fun _ => ?_) (fun q => absurd (by decide +kernel) q)
                          exact law_tail (Nat.le_of_ble_eq_true rfl) (Nat.le_of_ble_eq_true rfl)
                        · rcases i_cut x2.toInt 5 with h_12 | h_12
                          · obtain rfl : x1 = 4 := by rw [fa_eq, kc_4]; omega
                            obtain rfl : x2 = 4 := by rw [fa_eq, kc_4]; omega
                            refine J_hc0 ?_
                            refine J_aload_n dL_law_192 rfl rfl ?_
                            refine J_sload_n dL_law_193 rfl rfl ?_
                            refine J_iload_n dL_law_194 rfl rfl ?_
                            refine J_iconst (v := 1) dL_law_195 (by decide) ?_
                            refine J_iadd (z := 1) dL_law_196 (by decide +kernel) ?_
                            refine L_sld (i2 := 1) (v := 4) dL_law_197 (jin (by decide +kernel)) (by decide +kernel) hx1 ?_
                            refine J_sload_n dL_law_198 rfl rfl ?_
                            refine J_iload_n dL_law_199 rfl rfl ?_
                            refine J_iconst (v := 2) dL_law_200 (by decide) ?_
                            refine J_iadd (z := 2) dL_law_201 (by decide +kernel) ?_
                            refine L_sld (i2 := 2) (v := 4) dL_law_202 (jin (by decide +kernel)) (by decide +kernel) hx2 ?_
                            refine J_callV (st := []) dL_law_203 cv_L_13 (c_X11_beans_39 H0_0 H0_1 H0_2 H0_51 H0_52 H0_53 H0_57) H0_0 rfl rfl (Nat.le_of_ble_eq_true rfl) ⟨(Nat.le_of_ble_eq_true rfl), (Nat.le_of_ble_eq_true rfl)⟩ ⟨(Nat.le_of_ble_eq_true rfl), (Nat.le_of_ble_eq_true rfl)⟩ (fun r h9 hp => ?_)
                            obtain ⟨rfl, rfl⟩ := hp
                            refine J_nf (nh2 := 135) (ck2 := 135) (sk2 := 415506) (st2 := [.int 0]) rfl rfl rfl rfl ?_
                            refine J_app (L3 := [(0, .inr (11, [.ref 1, .ref 17, .ref 50, .ref 51, .ref 54, .ref 57, .ref 65, .ref 75, .ref 81, .ref 85, .ref 88, .ref 93, .ref 96, .int 0, .int (-1), .ref 97, .int 0])), (57, .inr (9, [.ref 1, .ref 51, .ref 58, .ref 61, .ref 62, .ref 63, .ref 64, .int 1, .int 1, .int 1])), (1, .inr (8, [.ref 2, .ref 3, .ref 4, .int 0, .int (-1), .ref 11, .ref 12, .int 0, .ref 13, .ref 14, .int 0, .ref 15, .ref 16, .int 0])), (51, .inr (0, [.ref 52, .ref 53, .int 1, .int 4])), (52, .inl (0, 1260, .inl (upd (upd (fun _ => 0) 0 0) 0 2340))), (53, .inl (0, 7, .inl (upd (upd (upd (upd (fun _ => 0) 0 4) 1 4) 2 4) 3 4))), (2, .inl (0, 5, .inl (upd (fun _ => 0) 4 4)))]) rfl ?_
                            refine J_aload_n dL_law_206 rfl rfl ?_
                            refine J_sload_n dL_law_207 rfl rfl ?_
                            refine J_iload_n dL_law_208 rfl rfl ?_
                            refine J_iconst (v := 1) dL_law_209 (by decide) ?_
                            refine J_iadd (z := 1) dL_law_210 (by decide +kernel) ?_
                            refine L_sld (i2 := 1) (v := 4) dL_law_211 (jin (by decide +kernel)) (by decide +kernel) hx1 ?_
                            refine J_sload_n dL_law_212 rfl rfl ?_
                            refine J_iload_n dL_law_213 rfl rfl ?_
                            refine J_iconst (v := 2) dL_law_214 (by decide) ?_
                            refine J_iadd (z := 2) dL_law_215 (by decide +kernel) ?_
                            refine L_sld (i2 := 2) (v := 4) dL_law_216 (jin (by decide +kernel)) (by decide +kernel) hx2 ?_
                            refine J_callV (st := [.int 0]) dL_law_217 cv_L_17 (c_X12_beans_39 H0_98 H0_100) H0_98 rfl rfl (Nat.le_of_ble_eq_true rfl) ⟨(Nat.le_of_ble_eq_true rfl), (Nat.le_of_ble_eq_true rfl)⟩ ⟨(Nat.le_of_ble_eq_true rfl), (Nat.le_of_ble_eq_true rfl)⟩ (fun r h9 hp => ?_)
                            obtain ⟨rfl, rfl⟩ := hp
                            refine J_nf (nh2 := 135) (ck2 := 135) (sk2 := 415506) (st2 := [.int 0, .int 0]) rfl rfl rfl rfl ?_
                            refine J_app (L3 := [(98, .inr (12, [.int 0, .int 1, .ref 99, .ref 100, .ref 101, .ref 102, .ref 103, .ref 104, .ref 105, .int 0, .int (-1), .ref 106, .ref 107, .ref 108, .int 0, .int 0, .int 0, .int 0, .int 0, .int 0, .int 0, .ref 109, .int 0, .int 0, .ref 110, .ref 111, .ref 112, .ref 113, .ref 114, .ref 115, .ref 116, .ref 117, .int 0, .int 0, .int (-1), .int (-1), .ref 118, .ref 119, .ref 120, .ref 121, .ref 122, .ref 123, .ref 124, .ref 125, .ref 126, .ref 127, .ref 128, .ref 129, .int 0, .ref 130, .ref 131, .ref 132, .ref 133, .ref 134, .int 0, .int 0])), (100, .inl (0, 4870, .inl (upd (upd (upd (upd (upd (fun _ => 0) 63 (-1)) 4 4) 59 0) 61 0) 60 0))), (0, .inr (11, [.ref 1, .ref 17, .ref 50, .ref 51, .ref 54, .ref 57, .ref 65, .ref 75, .ref 81, .ref 85, .ref 88, .ref 93, .ref 96, .int 0, .int (-1), .ref 97, .int 0])), (57, .inr (9, [.ref 1, .ref 51, .ref 58, .ref 61, .ref 62, .ref 63, .ref 64, .int 1, .int 1, .int 1])), (1, .inr (8, [.ref 2, .ref 3, .ref 4, .int 0, .int (-1), .ref 11, .ref 12, .int 0, .ref 13, .ref 14, .int 0, .ref 15, .ref 16, .int 0])), (51, .inr (0, [.ref 52, .ref 53, .int 1, .int 4])), (52, .inl (0, 1260, .inl (upd (upd (fun _ => 0) 0 0) 0 2340))), (53, .inl (0, 7, .inl (upd (upd (upd (upd (fun _ => 0) 0 4) 1 4) 2 4) 3 4))), (2, .inl (0, 5, .inl (upd (fun _ => 0) 4 4)))]) rfl ?_
                            refine J_icmp_eq (tgt := 1221) dL_law_220 (by decide) (fun _ => ?_) (fun q => absurd (by decide +kernel) q)
                            exact law_tail (Nat.le_of_ble_eq_true rfl) (Nat.le_of_ble_eq_true rfl)
                          · rcases i_cut x2.toInt 6 with h_13 | h_13
                            · obtain rfl : x1 = 4 := by rw [fa_eq, kc_4]; omega
                              obtain rfl : x2 = 5 := by rw [fa_eq, kc_5]; omega
                              refine J_hc0 ?_
                              refine J_aload_n dL_law_192 rfl rfl ?_
                              refine J_sload_n dL_law_193 rfl rfl ?_
                              refine J_iload_n dL_law_194 rfl rfl ?_
                              refine J_iconst (v := 1) dL_law_195 (by decide) ?_
                              refine J_iadd (z := 1) dL_law_196 (by decide +kernel) ?_
                              refine L_sld (i2 := 1) (v := 4) dL_law_197 (jin (by decide +kernel)) (by decide +kernel) hx1 ?_
                              refine J_sload_n dL_law_198 rfl rfl ?_
                              refine J_iload_n dL_law_199 rfl rfl ?_
                              refine J_iconst (v := 2) dL_law_200 (by decide) ?_
                              refine J_iadd (z := 2) dL_law_201 (by decide +kernel) ?_
                              refine L_sld (i2 := 2) (v := 5) dL_law_202 (jin (by decide +kernel)) (by decide +kernel) hx2 ?_
                              refine J_callV (st := []) dL_law_203 cv_L_13 (c_X11_beans_40 H0_0 H0_1 H0_2 H0_51 H0_52 H0_53 H0_57) H0_0 rfl rfl (Nat.le_of_ble_eq_true rfl) ⟨(Nat.le_of_ble_eq_true rfl), (Nat.le_of_ble_eq_true rfl)⟩ ⟨(Nat.le_of_ble_eq_true rfl), (Nat.le_of_ble_eq_true rfl)⟩ (fun r h9 hp => ?_)
                              obtain ⟨rfl, rfl⟩ := hp
                              refine J_nf (nh2 := 135) (ck2 := 135) (sk2 := 415506) (st2 := [.int 0]) rfl rfl rfl rfl ?_
                              refine J_app (L3 := [(0, .inr (11, [.ref 1, .ref 17, .ref 50, .ref 51, .ref 54, .ref 57, .ref 65, .ref 75, .ref 81, .ref 85, .ref 88, .ref 93, .ref 96, .int 0, .int (-1), .ref 97, .int 0])), (57, .inr (9, [.ref 1, .ref 51, .ref 58, .ref 61, .ref 62, .ref 63, .ref 64, .int 1, .int 1, .int 1])), (1, .inr (8, [.ref 2, .ref 3, .ref 4, .int 0, .int (-1), .ref 11, .ref 12, .int 0, .ref 13, .ref 14, .int 0, .ref 15, .ref 16, .int 0])), (51, .inr (0, [.ref 52, .ref 53, .int 1, .int 5])), (52, .inl (0, 1260, .inl (upd (upd (fun _ => 0) 0 0) 0 18724))), (53, .inl (0, 7, .inl (upd (upd (upd (upd (upd (fun _ => 0) 0 4) 1 4) 2 4) 3 4) 4 4))), (2, .inl (0, 5, .inl (upd (fun _ => 0) 4 5)))]) rfl ?_
                              refine J_aload_n dL_law_206 rfl rfl ?_
                              refine J_sload_n dL_law_207 rfl rfl ?_
                              refine J_iload_n dL_law_208 rfl rfl ?_
                              refine J_iconst (v := 1) dL_law_209 (by decide) ?_
                              refine J_iadd (z := 1) dL_law_210 (by decide +kernel) ?_
                              refine L_sld (i2 := 1) (v := 4) dL_law_211 (jin (by decide +kernel)) (by decide +kernel) hx1 ?_
                              refine J_sload_n dL_law_212 rfl rfl ?_
                              refine J_iload_n dL_law_213 rfl rfl ?_
                              refine J_iconst (v := 2) dL_law_214 (by decide) ?_
                              refine J_iadd (z := 2) dL_law_215 (by decide +kernel) ?_
                              refine L_sld (i2 := 2) (v := 5) dL_law_216 (jin (by decide +kernel)) (by decide +kernel) hx2 ?_
                              refine J_callV (st := [.int 0]) dL_law_217 cv_L_17 (c_X12_beans_40 H0_98 H0_100) H0_98 rfl rfl (Nat.le_of_ble_eq_true rfl) ⟨(Nat.le_of_ble_eq_true rfl), (Nat.le_of_ble_eq_true rfl)⟩ ⟨(Nat.le_of_ble_eq_true rfl), (Nat.le_of_ble_eq_true rfl)⟩ (fun r h9 hp => ?_)
                              obtain ⟨rfl, rfl⟩ := hp
                              refine J_nf (nh2 := 135) (ck2 := 135) (sk2 := 415506) (st2 := [.int 0, .int 0]) rfl rfl rfl rfl ?_
                              refine J_app (L3 := [(98, .inr (12, [.int 0, .int 1, .ref 99, .ref 100, .ref 101, .ref 102, .ref 103, .ref 104, .ref 105, .int 0, .int (-1), .ref 106, .ref 107, .ref 108, .int 0, .int 0, .int 0, .int 0, .int 0, .int 0, .int 0, .ref 109, .int 0, .int 0, .ref 110, .ref 111, .ref 112, .ref 113, .ref 114, .ref 115, .ref 116, .ref 117, .int 0, .int 0, .int (-1), .int (-1), .ref 118, .ref 119, .ref 120, .ref 121, .ref 122, .ref 123, .ref 124, .ref 125, .ref 126, .ref 127, .ref 128, .ref 129, .int 0, .ref 130, .ref 131, .ref 132, .ref 133, .ref 134, .int 0, .int 0])), (100, .inl (0, 4870, .inl (upd (upd (upd (upd (upd (fun _ => 0) 63 (-1)) 4 5) 59 0) 61 0) 60 0))), (0, .inr (11, [.ref 1, .ref 17, .ref 50, .ref 51, .ref 54, .ref 57, .ref 65, .ref 75, .ref 81, .ref 85, .ref 88, .ref 93, .ref 96, .int 0, .int (-1), .ref 97, .int 0])), (57, .inr (9, [.ref 1, .ref 51, .ref 58, .ref 61, .ref 62, .ref 63, .ref 64, .int 1, .int 1, .int 1])), (1, .inr (8, [.ref 2, .ref 3, .ref 4, .int 0, .int (-1), .ref 11, .ref 12, .int 0, .ref 13, .ref 14, .int 0, .ref 15, .ref 16, .int 0])), (51, .inr (0, [.ref 52, .ref 53, .int 1, .int 5])), (52, .inl (0, 1260, .inl (upd (upd (fun _ => 0) 0 0) 0 18724))), (53, .inl (0, 7, .inl (upd (upd (upd (upd (upd (fun _ => 0) 0 4) 1 4) 2 4) 3 4) 4 4))), (2, .inl (0, 5, .inl (upd (fun _ => 0) 4 5)))]) rfl ?_
                              refine J_icmp_eq (tgt := 1221) dL_law_220 (by decide) (fun _ => ?_) (fun q => absurd (by decide +kernel) q)
                              exact law_tail (Nat.le_of_ble_eq_true rfl) (Nat.le_of_ble_eq_true rfl)
                            · rcases i_cut x2.toInt 7 with h_14 | h_14
                              · obtain rfl : x1 = 4 := by rw [fa_eq, kc_4]; omega
                                obtain rfl : x2 = 6 := by rw [fa_eq, kc_6]; omega
                                refine J_hc0 ?_
                                refine J_aload_n dL_law_192 rfl rfl ?_
                                refine J_sload_n dL_law_193 rfl rfl ?_
                                refine J_iload_n dL_law_194 rfl rfl ?_
                                refine J_iconst (v := 1) dL_law_195 (by decide) ?_
                                refine J_iadd (z := 1) dL_law_196 (by decide +kernel) ?_
                                refine L_sld (i2 := 1) (v := 4) dL_law_197 (jin (by decide +kernel)) (by decide +kernel) hx1 ?_
                                refine J_sload_n dL_law_198 rfl rfl ?_
                                refine J_iload_n dL_law_199 rfl rfl ?_
                                refine J_iconst (v := 2) dL_law_200 (by decide) ?_
                                refine J_iadd (z := 2) dL_law_201 (by decide +kernel) ?_
                                refine L_sld (i2 := 2) (v := 6) dL_law_202 (jin (by decide +kernel)) (by decide +kernel) hx2 ?_
                                refine J_callV (st := []) dL_law_203 cv_L_13 (c_X11_beans_41 H0_0 H0_1 H0_2 H0_51 H0_52 H0_53 H0_57) H0_0 rfl rfl (Nat.le_of_ble_eq_true rfl) ⟨(Nat.le_of_ble_eq_true rfl), (Nat.le_of_ble_eq_true rfl)⟩ ⟨(Nat.le_of_ble_eq_true rfl), (Nat.le_of_ble_eq_true rfl)⟩ (fun r h9 hp => ?_)
                                obtain ⟨rfl, rfl⟩ := hp
                                refine J_nf (nh2 := 135) (ck2 := 135) (sk2 := 415506) (st2 := [.int 0]) rfl rfl rfl rfl ?_
                                refine J_app (L3 := [(0, .inr (11, [.ref 1, .ref 17, .ref 50, .ref 51, .ref 54, .ref 57, .ref 65, .ref 75, .ref 81, .ref 85, .ref 88, .ref 93, .ref 96, .int 0, .int (-1), .ref 97, .int 0])), (57, .inr (9, [.ref 1, .ref 51, .ref 58, .ref 61, .ref 62, .ref 63, .ref 64, .int 1, .int 1, .int 1])), (1, .inr (8, [.ref 2, .ref 3, .ref 4, .int 0, .int (-1), .ref 11, .ref 12, .int 0, .ref 13, .ref 14, .int 0, .ref 15, .ref 16, .int 0])), (51, .inr (0, [.ref 52, .ref 53, .int 1, .int 6])), (52, .inl (0, 1260, .inl (upd (upd (fun _ => 0) 0 0) 0 149796))), (53, .inl (0, 7, .inl (upd (upd (upd (upd (upd (upd (fun _ => 0) 0 4) 1 4) 2 4) 3 4) 4 4) 5 4))), (2, .inl (0, 5, .inl (upd (fun _ => 0) 4 6)))]) rfl ?_
                                refine J_aload_n dL_law_206 rfl rfl ?_
                                refine J_sload_n dL_law_207 rfl rfl ?_
                                refine J_iload_n dL_law_208 rfl rfl ?_
                                refine J_iconst (v := 1) dL_law_209 (by decide) ?_
                                refine J_iadd (z := 1) dL_law_210 (by decide +kernel) ?_
                                refine L_sld (i2 := 1) (v := 4) dL_law_211 (jin (by decide +kernel)) (by decide +kernel) hx1 ?_
                                refine J_sload_n dL_law_212 rfl rfl ?_
                                refine J_iload_n dL_law_213 rfl rfl ?_
                                refine J_iconst (v := 2) dL_law_214 (by decide) ?_
                                refine J_iadd (z := 2) dL_law_215 (by decide +kernel) ?_
                                refine L_sld (i2 := 2) (v := 6) dL_law_216 (jin (by decide +kernel)) (by decide +kernel) hx2 ?_
                                refine J_callV (st := [.int 0]) dL_law_217 cv_L_17 (c_X12_beans_41 H0_98 H0_100) H0_98 rfl rfl (Nat.le_of_ble_eq_true rfl) ⟨(Nat.le_of_ble_eq_true rfl), (Nat.le_of_ble_eq_true rfl)⟩ ⟨(Nat.le_of_ble_eq_true rfl), (Nat.le_of_ble_eq_true rfl)⟩ (fun r h9 hp => ?_)
                                obtain ⟨rfl, rfl⟩ := hp
                                refine J_nf (nh2 := 135) (ck2 := 135) (sk2 := 415506) (st2 := [.int 0, .int 0]) rfl rfl rfl rfl ?_
                                refine J_app (L3 := [(98, .inr (12, [.int 0, .int 1, .ref 99, .ref 100, .ref 101, .ref 102, .ref 103, .ref 104, .ref 105, .int 0, .int (-1), .ref 106, .ref 107, .ref 108, .int 0, .int 0, .int 0, .int 0, .int 0, .int 0, .int 0, .ref 109, .int 0, .int 0, .ref 110, .ref 111, .ref 112, .ref 113, .ref 114, .ref 115, .ref 116, .ref 117, .int 0, .int 0, .int (-1), .int (-1), .ref 118, .ref 119, .ref 120, .ref 121, .ref 122, .ref 123, .ref 124, .ref 125, .ref 126, .ref 127, .ref 128, .ref 129, .int 0, .ref 130, .ref 131, .ref 132, .ref 133, .ref 134, .int 0, .int 0])), (100, .inl (0, 4870, .inl (upd (upd (upd (upd (upd (fun _ => 0) 63 (-1)) 4 6) 59 0) 61 0) 60 0))), (0, .inr (11, [.ref 1, .ref 17, .ref 50, .ref 51, .ref 54, .ref 57, .ref 65, .ref 75, .ref 81, .ref 85, .ref 88, .ref 93, .ref 96, .int 0, .int (-1), .ref 97, .int 0])), (57, .inr (9, [.ref 1, .ref 51, .ref 58, .ref 61, .ref 62, .ref 63, .ref 64, .int 1, .int 1, .int 1])), (1, .inr (8, [.ref 2, .ref 3, .ref 4, .int 0, .int (-1), .ref 11, .ref 12, .int 0, .ref 13, .ref 14, .int 0, .ref 15, .ref 16, .int 0])), (51, .inr (0, [.ref 52, .ref 53, .int 1, .int 6])), (52, .inl (0, 1260, .inl (upd (upd (fun _ => 0) 0 0) 0 149796))), (53, .inl (0, 7, .inl (upd (upd (upd (upd (upd (upd (fun _ => 0) 0 4) 1 4) 2 4) 3 4) 4 4) 5 4))), (2, .inl (0, 5, .inl (upd (fun _ => 0) 4 6)))]) rfl ?_
                                refine J_icmp_eq (tgt := 1221) dL_law_220 (by decide) (fun _ => ?_) (fun q => absurd (by decide +kernel) q)
                                exact law_tail (Nat.le_of_ble_eq_true rfl) (Nat.le_of_ble_eq_true rfl)
                              · obtain rfl : x1 = 4 := by rw [fa_eq, kc_4]; omega
                                obtain rfl : x2 = 7 := by rw [fa_eq, kc_7]; omega
                                refine J_hc0 ?_
                                refine J_aload_n dL_law_192 rfl rfl ?_
                                refine J_sload_n dL_law_193 rfl rfl ?_
                                refine J_iload_n dL_law_194 rfl rfl ?_
                                refine J_iconst (v := 1) dL_law_195 (by decide) ?_
                                refine J_iadd (z := 1) dL_law_196 (by decide +kernel) ?_
                                refine L_sld (i2 := 1) (v := 4) dL_law_197 (jin (by decide +kernel)) (by decide +kernel) hx1 ?_
                                refine J_sload_n dL_law_198 rfl rfl ?_
                                refine J_iload_n dL_law_199 rfl rfl ?_
                                refine J_iconst (v := 2) dL_law_200 (by decide) ?_
                                refine J_iadd (z := 2) dL_law_201 (by decide +kernel) ?_
                                refine L_sld (i2 := 2) (v := 7) dL_law_202 (jin (by decide +kernel)) (by decide +kernel) hx2 ?_
                                refine J_callV (st := []) dL_law_203 cv_L_13 (c_X11_beans_42 H0_0 H0_1 H0_2 H0_51 H0_52 H0_53 H0_57) H0_0 rfl rfl (Nat.le_of_ble_eq_true rfl) ⟨(Nat.le_of_ble_eq_true rfl), (Nat.le_of_ble_eq_true rfl)⟩ ⟨(Nat.le_of_ble_eq_true rfl), (Nat.le_of_ble_eq_true rfl)⟩ (fun r h9 hp => ?_)
                                obtain ⟨rfl, rfl⟩ := hp
                                refine J_nf (nh2 := 135) (ck2 := 135) (sk2 := 415506) (st2 := [.int 0]) rfl rfl rfl rfl ?_
                                refine J_app (L3 := [(0, .inr (11, [.ref 1, .ref 17, .ref 50, .ref 51, .ref 54, .ref 57, .ref 65, .ref 75, .ref 81, .ref 85, .ref 88, .ref 93, .ref 96, .int 0, .int (-1), .ref 97, .int 0])), (57, .inr (9, [.ref 1, .ref 51, .ref 58, .ref 61, .ref 62, .ref 63, .ref 64, .int 1, .int 1, .int 1])), (1, .inr (8, [.ref 2, .ref 3, .ref 4, .int 0, .int (-1), .ref 11, .ref 12, .int 0, .ref 13, .ref 14, .int 0, .ref 15, .ref 16, .int 0])), (51, .inr (0, [.ref 52, .ref 53, .int 1, .int 7])), (52, .inl (0, 1260, .inl (upd (upd (fun _ => 0) 0 0) 0 1198372))), (53, .inl (0, 7, .inl (upd (upd (upd (upd (upd (upd (upd (fun _ => 0) 0 4) 1 4) 2 4) 3 4) 4 4) 5 4) 6 4))), (2, .inl (0, 5, .inl (upd (fun _ => 0) 4 7)))]) rfl ?_
                                refine J_aload_n dL_law_206 rfl rfl ?_
                                refine J_sload_n dL_law_207 rfl rfl ?_
                                refine J_iload_n dL_law_208 rfl rfl ?_
                                refine J_iconst (v := 1) dL_law_209 (by decide) ?_
                                refine J_iadd (z := 1) dL_law_210 (by decide +kernel) ?_
                                refine L_sld (i2 := 1) (v := 4) dL_law_211 (jin (by decide +kernel)) (by decide +kernel) hx1 ?_
                                refine J_sload_n dL_law_212 rfl rfl ?_
                                refine J_iload_n dL_law_213 rfl rfl ?_
                                refine J_iconst (v := 2) dL_law_214 (by decide) ?_
                                refine J_iadd (z := 2) dL_law_215 (by decide +kernel) ?_
                                refine L_sld (i2 := 2) (v := 7) dL_law_216 (jin (by decide +kernel)) (by decide +kernel) hx2 ?_
                                refine J_callV (st := [.int 0]) dL_law_217 cv_L_17 (c_X12_beans_42 H0_98 H0_100) H0_98 rfl rfl (Nat.le_of_ble_eq_true rfl) ⟨(Nat.le_of_ble_eq_true rfl), (Nat.le_of_ble_eq_true rfl)⟩ ⟨(Nat.le_of_ble_eq_true rfl), (Nat.le_of_ble_eq_true rfl)⟩ (fun r h9 hp => ?_)
                                obtain ⟨rfl, rfl⟩ := hp
                                refine J_nf (nh2 := 135) (ck2 := 135) (sk2 := 415506) (st2 := [.int 0, .int 0]) rfl rfl rfl rfl ?_
                                refine J_app (L3 := [(98, .inr (12, [.int 0, .int 1, .ref 99, .ref 100, .ref 101, .ref 102, .ref 103, .ref 104, .ref 105, .int 0, .int (-1), .ref 106, .ref 107, .ref 108, .int 0, .int 0, .int 0, .int 0, .int 0, .int 0, .int 0, .ref 109, .int 0, .int 0, .ref 110, .ref 111, .ref 112, .ref 113, .ref 114, .ref 115, .ref 116, .ref 117, .int 0, .int 0, .int (-1), .int (-1), .ref 118, .ref 119, .ref 120, .ref 121, .ref 122, .ref 123, .ref 124, .ref 125, .ref 126, .ref 127, .ref 128, .ref 129, .int 0, .ref 130, .ref 131, .ref 132, .ref 133, .ref 134, .int 0, .int 0])), (100, .inl (0, 4870, .inl (upd (upd (upd (upd (upd (fun _ => 0) 63 (-1)) 4 7) 59 0) 61 0) 60 0))), (0, .inr (11, [.ref 1, .ref 17, .ref 50, .ref 51, .ref 54, .ref 57, .ref 65, .ref 75, .ref 81, .ref 85, .ref 88, .ref 93, .ref 96, .int 0, .int (-1), .ref 97, .int 0])), (57, .inr (9, [.ref 1, .ref 51, .ref 58, .ref 61, .ref 62, .ref 63, .ref 64, .int 1, .int 1, .int 1])), (1, .inr (8, [.ref 2, .ref 3, .ref 4, .int 0, .int (-1), .ref 11, .ref 12, .int 0, .ref 13, .ref 14, .int 0, .ref 15, .ref 16, .int 0])), (51, .inr (0, [.ref 52, .ref 53, .int 1, .int 7])), (52, .inl (0, 1260, .inl (upd (upd (fun _ => 0) 0 0) 0 1198372))), (53, .inl (0, 7, .inl (upd (upd (upd (upd (upd (upd (upd (fun _ => 0) 0 4) 1 4) 2 4) 3 4) 4 4) 5 4) 6 4))), (2, .inl (0, 5, .inl (upd (fun _ => 0) 4 7)))]) rfl ?_
                                refine J_icmp_eq (tgt := 1221) dL_law_220 (by decide) (fun _ => ?_) (fun q => absurd (by decide +kernel) q)
                                exact law_tail (Nat.le_of_ble_eq_true rfl) (Nat.le_of_ble_eq_true rfl)
        · have b1 : 0 ≤ x1.toInt ∧ x1.toInt ≤ 4 := ⟨by omega, by omega⟩
          have b2 : 8 ≤ x2.toInt ∧ x2.toInt ≤ 2147483647 := ⟨by omega, by omega⟩
          refine J_hc0 ?_
          refine J_aload_n dL_law_192 rfl rfl ?_
          refine J_sload_n dL_law_193 rfl rfl ?_
          refine J_iload_n dL_law_194 rfl rfl ?_
          refine J_iconst (v := 1) dL_law_195 (by decide) ?_
          refine J_iadd (z := 1) dL_law_196 (by decide +kernel) ?_
          refine L_sld (i2 := 1) (v := x1) dL_law_197 (jin (by decide +kernel)) (by decide +kernel) hx1 ?_
          refine J_sload_n dL_law_198 rfl rfl ?_
          refine J_iload_n dL_law_199 rfl rfl ?_
          refine J_iconst (v := 2) dL_law_200 (by decide) ?_
          refine J_iadd (z := 2) dL_law_201 (by decide +kernel) ?_
          refine L_sld (i2 := 2) (v := x2) dL_law_202 (jin (by decide +kernel)) (by decide +kernel) hx2 ?_
          refine J_callV (st := []) dL_law_203 cv_L_13 (c_X11_beans_43 (x1) b1 (x2) b2 H0_0 H0_96) H0_0 rfl rfl (Nat.le_of_ble_eq_true rfl) ⟨(Nat.le_of_ble_eq_true rfl), (Nat.le_of_ble_eq_true rfl)⟩ ⟨(Nat.le_of_ble_eq_true rfl), (Nat.le_of_ble_eq_true rfl)⟩ (fun r h9 hp => ?_)
          obtain ⟨rfl, rfl⟩ := hp
          refine J_nf (nh2 := 135) (ck2 := 135) (sk2 := 415506) (st2 := [.int (-1)]) rfl rfl rfl rfl ?_
          refine J_app (L3 := [(96, .inl (0, 5, .inl (upd (fun _ => 0) 0 1))), (0, .inr (11, [.ref 1, .ref 17, .ref 50, .ref 51, .ref 54, .ref 57, .ref 65, .ref 75, .ref 81, .ref 85, .ref 88, .ref 93, .ref 96, .int (-1), .int (-1), .ref 97, .int 0]))]) rfl ?_
          refine J_aload_n dL_law_206 rfl rfl ?_
          refine J_sload_n dL_law_207 rfl rfl ?_
          refine J_iload_n dL_law_208 rfl rfl ?_
          refine J_iconst (v := 1) dL_law_209 (by decide) ?_
          refine J_iadd (z := 1) dL_law_210 (by decide +kernel) ?_
          refine L_sld (i2 := 1) (v := x1) dL_law_211 (jin (by decide +kernel)) (by decide +kernel) hx1 ?_
          refine J_sload_n dL_law_212 rfl rfl ?_
          refine J_iload_n dL_law_213 rfl rfl ?_
          refine J_iconst (v := 2) dL_law_214 (by decide) ?_
          refine J_iadd (z := 2) dL_law_215 (by decide +kernel) ?_
          refine L_sld (i2 := 2) (v := x2) dL_law_216 (jin (by decide +kernel)) (by decide +kernel) hx2 ?_
          refine J_callV (st := [.int (-1)]) dL_law_217 cv_L_17 (c_X12_beans_43 (x1) b1 (x2) b2 H0_98 H0_99) H0_98 rfl rfl (Nat.le_of_ble_eq_true rfl) ⟨(Nat.le_of_ble_eq_true rfl), (Nat.le_of_ble_eq_true rfl)⟩ ⟨(Nat.le_of_ble_eq_true rfl), (Nat.le_of_ble_eq_true rfl)⟩ (fun r h9 hp => ?_)
          obtain ⟨rfl, rfl⟩ := hp
          refine J_nf (nh2 := 135) (ck2 := 135) (sk2 := 415506) (st2 := [.int (-1), .int (-1)]) rfl rfl rfl rfl ?_
          refine J_app (L3 := [(99, .inl (0, 7, .inl (upd (fun _ => 0) 1 1))), (98, .inr (12, [.int (-1), .int 0, .ref 99, .ref 100, .ref 101, .ref 102, .ref 103, .ref 104, .ref 105, .int 0, .int (-1), .ref 106, .ref 107, .ref 108, .int 0, .int 0, .int 0, .int 0, .int 0, .int 0, .int 0, .ref 109, .int 0, .int 0, .ref 110, .ref 111, .ref 112, .ref 113, .ref 114, .ref 115, .ref 116, .ref 117, .int 0, .int 0, .int (-1), .int (-1), .ref 118, .ref 119, .ref 120, .ref 121, .ref 122, .ref 123, .ref 124, .ref 125, .ref 126, .ref 127, .ref 128, .ref 129, .int 0, .ref 130, .ref 131, .ref 132, .ref 133, .ref 134, .int 0, .int 0])), (96, .inl (0, 5, .inl (upd (fun _ => 0) 0 1))), (0, .inr (11, [.ref 1, .ref 17, .ref 50, .ref 51, .ref 54, .ref 57, .ref 65, .ref 75, .ref 81, .ref 85, .ref 88, .ref 93, .ref 96, .int (-1), .int (-1), .ref 97, .int 0]))]) rfl ?_
          refine J_icmp_eq (tgt := 1221) dL_law_220 (by decide) (fun _ => ?_) (fun q => absurd (by decide +kernel) q)
          exact law_tail (Nat.le_of_ble_eq_true rfl) (Nat.le_of_ble_eq_true rfl)
    · have b1 : 5 ≤ x1.toInt ∧ x1.toInt ≤ 2147483647 := ⟨by omega, by omega⟩
      have b2 : (-2147483648) ≤ x2.toInt ∧ x2.toInt ≤ 2147483647 := ⟨by omega, by omega⟩
      refine J_hc0 ?_
      refine J_aload_n dL_law_192 rfl rfl ?_
      refine J_sload_n dL_law_193 rfl rfl ?_
      refine J_iload_n dL_law_194 rfl rfl ?_
      refine J_iconst (v := 1) dL_law_195 (by decide) ?_
      refine J_iadd (z := 1) dL_law_196 (by decide +kernel) ?_
      refine L_sld (i2 := 1) (v := x1) dL_law_197 (jin (by decide +kernel)) (by decide +kernel) hx1 ?_
      refine J_sload_n dL_law_198 rfl rfl ?_
      refine J_iload_n dL_law_199 rfl rfl ?_
      refine J_iconst (v := 2) dL_law_200 (by decide) ?_
      refine J_iadd (z := 2) dL_law_201 (by decide +kernel) ?_
      refine L_sld (i2 := 2) (v := x2) dL_law_202 (jin (by decide +kernel)) (by decide +kernel) hx2 ?_
      refine J_callV (st := []) dL_law_203 cv_L_13 (c_X11_beans_44 (x1) b1 (x2) b2 H0_0 H0_96) H0_0 rfl rfl (Nat.le_of_ble_eq_true rfl) ⟨(Nat.le_of_ble_eq_true rfl), (Nat.le_of_ble_eq_true rfl)⟩ ⟨(Nat.le_of_ble_eq_true rfl), (Nat.le_of_ble_eq_true rfl)⟩ (fun r h9 hp => ?_)
      obtain ⟨rfl, rfl⟩ := hp
      refine J_nf (nh2 := 135) (ck2 := 135) (sk2 := 415506) (st2 := [.int (-1)]) rfl rfl rfl rfl ?_
      refine J_app (L3 := [(96, .inl (0, 5, .inl (upd (fun _ => 0) 0 1))), (0, .inr (11, [.ref 1, .ref 17, .ref 50, .ref 51, .ref 54, .ref 57, .ref 65, .ref 75, .ref 81, .ref 85, .ref 88, .ref 93, .ref 96, .int (-1), .int (-1), .ref 97, .int 0]))]) rfl ?_
      refine J_aload_n dL_law_206 rfl rfl ?_
      refine J_sload_n dL_law_207 rfl rfl ?_
      refine J_iload_n dL_law_208 rfl rfl ?_
      refine J_iconst (v := 1) dL_law_209 (by decide) ?_
      refine J_iadd (z := 1) dL_law_210 (by decide +kernel) ?_
      refine L_sld (i2 := 1) (v := x1) dL_law_211 (jin (by decide +kernel)) (by decide +kernel) hx1 ?_
      refine J_sload_n dL_law_212 rfl rfl ?_
      refine J_iload_n dL_law_213 rfl rfl ?_
      refine J_iconst (v := 2) dL_law_214 (by decide) ?_
      refine J_iadd (z := 2) dL_law_215 (by decide +kernel) ?_
      refine L_sld (i2 := 2) (v := x2) dL_law_216 (jin (by decide +kernel)) (by decide +kernel) hx2 ?_
      refine J_callV (st := [.int (-1)]) dL_law_217 cv_L_17 (c_X12_beans_44 (x1) b1 (x2) b2 H0_98 H0_99) H0_98 rfl rfl (Nat.le_of_ble_eq_true rfl) ⟨(Nat.le_of_ble_eq_true rfl), (Nat.le_of_ble_eq_true rfl)⟩ ⟨(Nat.le_of_ble_eq_true rfl), (Nat.le_of_ble_eq_true rfl)⟩ (fun r h9 hp => ?_)
      obtain ⟨rfl, rfl⟩ := hp
      refine J_nf (nh2 := 135) (ck2 := 135) (sk2 := 415506) (st2 := [.int (-1), .int (-1)]) rfl rfl rfl rfl ?_
      refine J_app (L3 := [(99, .inl (0, 7, .inl (upd (fun _ => 0) 1 1))), (98, .inr (12, [.int (-1), .int 0, .ref 99, .ref 100, .ref 101, .ref 102, .ref 103, .ref 104, .ref 105, .int 0, .int (-1), .ref 106, .ref 107, .ref 108, .int 0, .int 0, .int 0, .int 0, .int 0, .int 0, .int 0, .ref 109, .int 0, .int 0, .ref 110, .ref 111, .ref 112, .ref 113, .ref 114, .ref 115, .ref 116, .ref 117, .int 0, .int 0, .int (-1), .int (-1), .ref 118, .ref 119, .ref 120, .ref 121, .ref 122, .ref 123, .ref 124, .ref 125, .ref 126, .ref 127, .ref 128, .ref 129, .int 0, .ref 130, .ref 131, .ref 132, .ref 133, .ref 134, .int 0, .int 0])), (96, .inl (0, 5, .inl (upd (fun _ => 0) 0 1))), (0, .inr (11, [.ref 1, .ref 17, .ref 50, .ref 51, .ref 54, .ref 57, .ref 65, .ref 75, .ref 81, .ref 85, .ref 88, .ref 93, .ref 96, .int (-1), .int (-1), .ref 97, .int 0]))]) rfl ?_
      refine J_icmp_eq (tgt := 1221) dL_law_220 (by decide) (fun _ => ?_) (fun q => absurd (by decide +kernel) q)
      exact law_tail (Nat.le_of_ble_eq_true rfl) (Nat.le_of_ble_eq_true rfl)
