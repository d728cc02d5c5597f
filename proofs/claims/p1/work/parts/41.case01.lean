/-! the law's cases -/
set_option maxHeartbeats 4000000 in
set_option maxRecDepth 100000 in
theorem law_case_1 {l : Launch} {G : jG} {b : Nat} {xs : Nat → Int32}  : J l G ML_law room_1 (lE b 6 xs G) lQ (135, H0) 135 415506 225 [some (.retAddr 0), some (.ref 0), some (.ref 98), some (.int 0)] [] := by
  refine J_hc0 ?_
  refine J_aload_n dL_law_225 rfl rfl ?_
  refine J_callV (st := []) dL_law_226 cv_L_18 (c_X11_houses_1 H0_0 H0_51) H0_0 rfl rfl (Nat.le_of_ble_eq_true rfl) ⟨(Nat.le_of_ble_eq_true rfl), (Nat.le_of_ble_eq_true rfl)⟩ ⟨(Nat.le_of_ble_eq_true rfl), (Nat.le_of_ble_eq_true rfl)⟩ (fun r h9 hp => ?_)
  obtain ⟨rfl, rfl⟩ := hp
  refine J_nf (nh2 := 135) (ck2 := 135) (sk2 := 415506) (st2 := [.int 1]) rfl rfl rfl rfl ?_
  refine J_aload_n dL_law_229 rfl rfl ?_
  refine J_callV (st := [.int 1]) dL_law_230 cv_L_22 (c_X12_houses_1 H0_98 H0_100 H0_111) H0_98 rfl rfl (Nat.le_of_ble_eq_true rfl) ⟨(Nat.le_of_ble_eq_true rfl), (Nat.le_of_ble_eq_true rfl)⟩ ⟨(Nat.le_of_ble_eq_true rfl), (Nat.le_of_ble_eq_true rfl)⟩ (fun r h9 hp => ?_)
  obtain ⟨rfl, rfl⟩ := hp
  refine J_nf (nh2 := 135) (ck2 := 135) (sk2 := 415506) (st2 := [.int 1, .int 1]) rfl rfl rfl rfl ?_
  refine J_app (L3 := [(98, .inr (12, [.int 0, .int 0, .ref 99, .ref 100, .ref 101, .ref 102, .ref 103, .ref 104, .ref 105, .int 0, .int (-1), .ref 106, .ref 107, .ref 108, .int 0, .int 0, .int 0, .int 0, .int 0, .int 0, .int 0, .ref 109, .int 0, .int 0, .ref 110, .ref 111, .ref 112, .ref 113, .ref 114, .ref 115, .ref 116, .ref 117, .int 1, .int 0, .int 0, .int (-1), .ref 118, .ref 119, .ref 120, .ref 121, .ref 122, .ref 123, .ref 124, .ref 125, .ref 126, .ref 127, .ref 128, .ref 129, .int 0, .ref 130, .ref 131, .ref 132, .ref 133, .ref 134, .int 0, .int 0])), (111, .inl (0, 1260, .inl (upd (fun _ => 0) 0 0)))]) rfl ?_
  refine J_icmp_eq (tgt := 1221) dL_law_233 (by decide) (fun _ => ?_) (fun q => absurd (by decide +kernel) q)
  exact law_tail (Nat.le_of_ble_eq_true rfl) (Nat.le_of_ble_eq_true rfl)
set_option maxHeartbeats 4000000 in
set_option maxRecDepth 100000 in
theorem law_case_2 {l : Launch} {G : jG} {b : Nat} {xs : Nat → Int32} (x1 : Int32) (hx1 : xs 1 = x1) : J l G ML_law room_1 (lE b 6 xs G) lQ (135, H0) 135 415506 238 [some (.retAddr 0), some (.ref 0), some (.ref 98), some (.int 0)] [] := by
  have r1 := i32_rng x1
  rcases i_cut x1.toInt 0 with h_0 | h_0
  · have b1 : (-2147483648) ≤ x1.toInt ∧ x1.toInt ≤ (-1) := ⟨by omega, by omega⟩
    refine J_hc0 ?_
    refine J_aload_n dL_law_238 rfl rfl ?_
    refine J_sload_n dL_law_239 rfl rfl ?_
    refine J_iload_n dL_law_240 rfl rfl ?_
    refine J_iconst (v := 1) dL_law_241 (by decide) ?_
    refine J_iadd (z := 1) dL_law_242 (by decide +kernel) ?_
    refine L_sld (i2 := 1) (v := x1) dL_law_243 (jin (by decide +kernel)) (by decide +kernel) hx1 ?_
    refine J_callV (st := []) dL_law_244 cv_L_23 (c_X11_code_1 (x1) b1 H0_0 H0_51) H0_0 rfl rfl (Nat.le_of_ble_eq_true rfl) ⟨(Nat.le_of_ble_eq_true rfl), (Nat.le_of_ble_eq_true rfl)⟩ ⟨(Nat.le_of_ble_eq_true rfl), (Nat.le_of_ble_eq_true rfl)⟩ (fun r h9 hp => ?_)
    obtain ⟨rfl, rfl⟩ := hp
    refine J_nf (nh2 := 135) (ck2 := 135) (sk2 := 415506) (st2 := [.int (-1)]) rfl rfl rfl rfl ?_
    refine J_aload_n dL_law_247 rfl rfl ?_
    refine J_sload_n dL_law_248 rfl rfl ?_
    refine J_iload_n dL_law_249 rfl rfl ?_
    refine J_iconst (v := 1) dL_law_250 (by decide) ?_
    refine J_iadd (z := 1) dL_law_251 (by decide +kernel) ?_
    refine L_sld (i2 := 1) (v := x1) dL_law_252 (jin (by decide +kernel)) (by decide +kernel) hx1 ?_
    refine J_callV (st := [.int (-1)]) dL_law_253 cv_L_27 (c_X12_code_1 (x1) b1 H0_98 H0_100 H0_111) H0_98 rfl rfl (Nat.le_of_ble_eq_true rfl) ⟨(Nat.le_of_ble_eq_true rfl), (Nat.le_of_ble_eq_true rfl)⟩ ⟨(Nat.le_of_ble_eq_true rfl), (Nat.le_of_ble_eq_true rfl)⟩ (fun r h9 hp => ?_)
    obtain ⟨rfl, rfl⟩ := hp
    refine J_nf (nh2 := 135) (ck2 := 135) (sk2 := 415506) (st2 := [.int (-1), .int (-1)]) rfl rfl rfl rfl ?_
    refine J_app (L3 := [(98, .inr (12, [.int 0, .int 0, .ref 99, .ref 100, .ref 101, .ref 102, .ref 103, .ref 104, .ref 105, .int 0, .int (-1), .ref 106, .ref 107, .ref 108, .int 0, .int 0, .int 0, .int 0, .int 0, .int 0, .int 0, .ref 109, .int 0, .int 0, .ref 110, .ref 111, .ref 112, .ref 113, .ref 114, .ref 115, .ref 116, .ref 117, .int 1, .int 0, .int 0, .int (-1), .ref 118, .ref 119, .ref 120, .ref 121, .ref 122, .ref 123, .ref 124, .ref 125, .ref 126, .ref 127, .ref 128, .ref 129, .int 0, .ref 130, .ref 131, .ref 132, .ref 133, .ref 134, .int 0, .int 0])), (111, .inl (0, 1260, .inl (upd (fun _ => 0) 0 0)))]) rfl ?_
    refine J_icmp_eq (tgt := 1221) dL_law_256 (by decide) (fun _ => ?_) (fun q => absurd (by decide +kernel) q)
    exact law_tail (Nat.le_of_ble_eq_true rfl) (Nat.le_of_ble_eq_true rfl)
  · rcases i_cut x1.toInt 1 with h_1 | h_1
    · obtain rfl : x1 = 0 := by rw [fa_eq, kc_0]; omega
      refine J_hc0 ?_
      refine J_aload_n dL_law_238 rfl rfl ?_
      refine J_sload_n dL_law_239 rfl rfl ?_
      refine J_iload_n dL_law_240 rfl rfl ?_
      refine J_iconst (v := 1) dL_law_241 (by decide) ?_
      refine J_iadd (z := 1) dL_law_242 (by decide +kernel) ?_
      refine L_sld (i2 := 1) (v := 0) dL_law_243 (jin (by decide +kernel)) (by decide +kernel) hx1 ?_
      refine J_callV (st := []) dL_law_244 cv_L_23 (c_X11_code_2 H0_0 H0_51) H0_0 rfl rfl (Nat.le_of_ble_eq_true rfl) ⟨(Nat.le_of_ble_eq_true rfl), (Nat.le_of_ble_eq_true rfl)⟩ ⟨(Nat.le_of_ble_eq_true rfl), (Nat.le_of_ble_eq_true rfl)⟩ (fun r h9 hp => ?_)
      obtain ⟨rfl, rfl⟩ := hp
      refine J_nf (nh2 := 135) (ck2 := 135) (sk2 := 415506) (st2 := [.int 0]) rfl rfl rfl rfl ?_
      refine J_aload_n dL_law_247 rfl rfl ?_
      refine J_sload_n dL_law_248 rfl rfl ?_
      refine J_iload_n dL_law_249 rfl rfl ?_
      refine J_iconst (v := 1) dL_law_250 (by decide) ?_
      refine J_iadd (z := 1) dL_law_251 (by decide +kernel) ?_
      refine L_sld (i2 := 1) (v := 0) dL_law_252 (jin (by decide +kernel)) (by decide +kernel) hx1 ?_
      refine J_callV (st := [.int 0]) dL_law_253 cv_L_27 (c_X12_code_2 H0_98 H0_100 H0_111) H0_98 rfl rfl (Nat.le_of_ble_eq_true rfl) ⟨(Nat.le_of_ble_eq_true rfl), (Nat.le_of_ble_eq_true rfl)⟩ ⟨(Nat.le_of_ble_eq_true rfl), (Nat.le_of_ble_eq_true rfl)⟩ (fun r h9 hp => ?_)
      obtain ⟨rfl, rfl⟩ := hp
      refine J_nf (nh2 := 135) (ck2 := 135) (sk2 := 415506) (st2 := [.int 0, .int 0]) rfl rfl rfl rfl ?_
      refine J_app (L3 := [(98, .inr (12, [.int 0, .int 0, .ref 99, .ref 100, .ref 101, .ref 102, .ref 103, .ref 104, .ref 105, .int 0, .int (-1), .ref 106, .ref 107, .ref 108, .int 0, .int 0, .int 0, .int 0, .int 0, .int 0, .int 0, .ref 109, .int 0, .int 0, .ref 110, .ref 111, .ref 112, .ref 113, .ref 114, .ref 115, .ref 116, .ref 117, .int 1, .int 0, .int 0, .int (-1), .ref 118, .ref 119, .ref 120, .ref 121, .ref 122, .ref 123, .ref 124, .ref 125, .ref 126, .ref 127, .ref 128, .ref 129, .int 0, .ref 130, .ref 131, .ref 132, .ref 133, .ref 134, .int 0, .int 0])), (111, .inl (0, 1260, .inl (upd (fun _ => 0) 0 0)))]) rfl ?_
      refine J_icmp_eq (tgt := 1221) dL_law_256 (by decide) (fun _ => ?_) (fun q => absurd (by decide +kernel) q)
      exact law_tail (Nat.le_of_ble_eq_true rfl) (Nat.le_of_ble_eq_true rfl)
    · have b1 : 1 ≤ x1.toInt ∧ x1.toInt ≤ 2147483647 := ⟨by omega, by omega⟩
      refine J_hc0 ?_
      refine J_aload_n dL_law_238 rfl rfl ?_
      refine J_sload_n dL_law_239 rfl rfl ?_
      refine J_iload_n dL_law_240 rfl rfl ?_
      refine J_iconst (v := 1) dL_law_241 (by decide) ?_
      refine J_iadd (z := 1) dL_law_242 (by decide +kernel) ?_
      refine L_sld (i2 := 1) (v := x1) dL_law_243 (jin (by decide +kernel)) (by decide +kernel) hx1 ?_
      refine J_callV (st := []) dL_law_244 cv_L_23 (c_X11_code_3 (x1) b1 H0_0 H0_51) H0_0 rfl rfl (Nat.le_of_ble_eq_true rfl) ⟨(Nat.le_of_ble_eq_true rfl), (Nat.le_of_ble_eq_true rfl)⟩ ⟨(Nat.le_of_ble_eq_true rfl), (Nat.le_of_ble_eq_true rfl)⟩ (fun r h9 hp => ?_)
      obtain ⟨rfl, rfl⟩ := hp
      refine J_nf (nh2 := 135) (ck2 := 135) (sk2 := 415506) (st2 := [.int (-1)]) rfl rfl rfl rfl ?_
      refine J_aload_n dL_law_247 rfl rfl ?_
      refine J_sload_n dL_law_248 rfl rfl ?_
      refine J_iload_n dL_law_249 rfl rfl ?_
      refine J_iconst (v := 1) dL_law_250 (by decide) ?_
      refine J_iadd (z := 1) dL_law_251 (by decide +kernel) ?_
      refine L_sld (i2 := 1) (v := x1) dL_law_252 (jin (by decide +kernel)) (by decide +kernel) hx1 ?_
      refine J_callV (st := [.int (-1)]) dL_law_253 cv_L_27 (c_X12_code_3 (x1) b1 H0_98 H0_100 H0_111) H0_98 rfl rfl (Nat.le_of_ble_eq_true rfl) ⟨(Nat.le_of_ble_eq_true rfl), (Nat.le_of_ble_eq_true rfl)⟩ ⟨(Nat.le_of_ble_eq_true rfl), (Nat.le_of_ble_eq_true rfl)⟩ (fun r h9 hp => ?_)
      obtain ⟨rfl, rfl⟩ := hp
      refine J_nf (nh2 := 135) (ck2 := 135) (sk2 := 415506) (st2 := [.int (-1), .int (-1)]) rfl rfl rfl rfl ?_
      refine J_app (L3 := [(98, .inr (12, [.int 0, .int 0, .ref 99, .ref 100, .ref 101, .ref 102, .ref 103, .ref 104, .ref 105, .int 0, .int (-1), .ref 106, .ref 107, .ref 108, .int 0, .int 0, .int 0, .int 0, .int 0, .int 0, .int 0, .ref 109, .int 0, .int 0, .ref 110, .ref 111, .ref 112, .ref 113, .ref 114, .ref 115, .ref 116, .ref 117, .int 1, .int 0, .int 0, .int (-1), .ref 118, .ref 119, .ref 120, .ref 121, .ref 122, .ref 123, .ref 124, .ref 125, .ref 126, .ref 127, .ref 128, .ref 129, .int 0, .ref 130, .ref 131, .ref 132, .ref 133, .ref 134, .int 0, .int 0])), (111, .inl (0, 1260, .inl (upd (fun _ => 0) 0 0)))]) rfl ?_
      refine J_icmp_eq (tgt := 1221) dL_law_256 (by decide) (fun _ => ?_) (fun q => absurd (by decide +kernel) q)
      exact law_tail (Nat.le_of_ble_eq_true rfl) (Nat.le_of_ble_eq_true rfl)
set_option maxHeartbeats 4000000 in
set_option maxRecDepth 100000 in
theorem law_case_3 {l : Launch} {G : jG} {b : Nat} {xs : Nat → Int32} (x1 : Int32) (hx1 : xs 1 = x1) : J l G ML_law room_1 (lE b 6 xs G) lQ (135, H0) 135 415506 261 [some (.retAddr 0), some (.ref 0), some (.ref 98), some (.int 0)] [] := by
  have r1 := i32_rng x1
  rcases i_cut x1.toInt 0 with h_0 | h_0
  · have b1 : (-2147483648) ≤ x1.toInt ∧ x1.toInt ≤ (-1) := ⟨by omega, by omega⟩
    refine J_hc0 ?_
    refine J_aload_n dL_law_261 rfl rfl ?_
    refine J_sload_n dL_law_262 rfl rfl ?_
    refine J_iload_n dL_law_263 rfl rfl ?_
    refine J_iconst (v := 1) dL_law_264 (by decide) ?_
    refine J_iadd (z := 1) dL_law_265 (by decide +kernel) ?_
    refine L_sld (i2 := 1) (v := x1) dL_law_266 (jin (by decide +kernel)) (by decide +kernel) hx1 ?_
    refine J_callV (st := []) dL_law_267 cv_L_28 (c_X11_house_1 (x1) b1 H0_0 H0_51) H0_0 rfl rfl (Nat.le_of_ble_eq_true rfl) ⟨(Nat.le_of_ble_eq_true rfl), (Nat.le_of_ble_eq_true rfl)⟩ ⟨(Nat.le_of_ble_eq_true rfl), (Nat.le_of_ble_eq_true rfl)⟩ (fun r h9 hp => ?_)
    obtain ⟨rfl, rfl⟩ := hp
    refine J_nf (nh2 := 135) (ck2 := 135) (sk2 := 415506) (st2 := [.int (-1)]) rfl rfl rfl rfl ?_
    refine J_aload_n dL_law_270 rfl rfl ?_
    refine J_sload_n dL_law_271 rfl rfl ?_
    refine J_iload_n dL_law_272 rfl rfl ?_
    refine J_iconst (v := 1) dL_law_273 (by decide) ?_
    refine J_iadd (z := 1) dL_law_274 (by decide +kernel) ?_
    refine L_sld (i2 := 1) (v := x1) dL_law_275 (jin (by decide +kernel)) (by decide +kernel) hx1 ?_
    refine J_callV (st := [.int (-1)]) dL_law_276 cv_L_31 (c_X12_house_1 (x1) b1 H0_98 H0_100 H0_111) H0_98 rfl rfl (Nat.le_of_ble_eq_true rfl) ⟨(Nat.le_of_ble_eq_true rfl), (Nat.le_of_ble_eq_true rfl)⟩ ⟨(Nat.le_of_ble_eq_true rfl), (Nat.le_of_ble_eq_true rfl)⟩ (fun r h9 hp => ?_)
    obtain ⟨rfl, rfl⟩ := hp
    refine J_nf (nh2 := 135) (ck2 := 135) (sk2 := 415506) (st2 := [.int (-1), .int (-1)]) rfl rfl rfl rfl ?_
    refine J_app (L3 := [(98, .inr (12, [.int 0, .int 0, .ref 99, .ref 100, .ref 101, .ref 102, .ref 103, .ref 104, .ref 105, .int 0, .int (-1), .ref 106, .ref 107, .ref 108, .int 0, .int 0, .int 0, .int 0, .int 0, .int 0, .int 0, .ref 109, .int 0, .int 0, .ref 110, .ref 111, .ref 112, .ref 113, .ref 114, .ref 115, .ref 116, .ref 117, .int 1, .int 0, .int 0, .int (-1), .ref 118, .ref 119, .ref 120, .ref 121, .ref 122, .ref 123, .ref 124, .ref 125, .ref 126, .ref 127, .ref 128, .ref 129, .int 0, .ref 130, .ref 131, .ref 132, .ref 133, .ref 134, .int 0, .int 0])), (111, .inl (0, 1260, .inl (upd (fun _ => 0) 0 0)))]) rfl ?_
    refine J_icmp_eq (tgt := 1221) dL_law_279 (by decide) (fun _ => ?_) (fun q => absurd (by decide +kernel) q)
    exact law_tail (Nat.le_of_ble_eq_true rfl) (Nat.le_of_ble_eq_true rfl)
  · rcases i_cut x1.toInt 1 with h_1 | h_1
    · obtain rfl : x1 = 0 := by rw [fa_eq, kc_0]; omega
      refine J_hc0 ?_
      refine J_aload_n dL_law_261 rfl rfl ?_
      refine J_sload_n dL_law_262 rfl rfl ?_
      refine J_iload_n dL_law_263 rfl rfl ?_
      refine J_iconst (v := 1) dL_law_264 (by decide) ?_
      refine J_iadd (z := 1) dL_law_265 (by decide +kernel) ?_
      refine L_sld (i2 := 1) (v := 0) dL_law_266 (jin (by decide +kernel)) (by decide +kernel) hx1 ?_
      refine J_callV (st := []) dL_law_267 cv_L_28 (c_X11_house_2 H0_0 H0_51 H0_52) H0_0 rfl rfl (Nat.le_of_ble_eq_true rfl) ⟨(Nat.le_of_ble_eq_true rfl), (Nat.le_of_ble_eq_true rfl)⟩ ⟨(Nat.le_of_ble_eq_true rfl), (Nat.le_of_ble_eq_true rfl)⟩ (fun r h9 hp => ?_)
      obtain ⟨rfl, rfl⟩ := hp
      refine J_nf (nh2 := 135) (ck2 := 135) (sk2 := 415506) (st2 := [.int 0]) rfl rfl rfl rfl ?_
      refine J_aload_n dL_law_270 rfl rfl ?_
      refine J_sload_n dL_law_271 rfl rfl ?_
      refine J_iload_n dL_law_272 rfl rfl ?_
      refine J_iconst (v := 1) dL_law_273 (by decide) ?_
      refine J_iadd (z := 1) dL_law_274 (by decide +kernel) ?_
      refine L_sld (i2 := 1) (v := 0) dL_law_275 (jin (by decide +kernel)) (by decide +kernel) hx1 ?_
      refine J_callV (st := [.int 0]) dL_law_276 cv_L_31 (c_X12_house_2 H0_98 H0_100 H0_111) H0_98 rfl rfl (Nat.le_of_ble_eq_true rfl) ⟨(Nat.le_of_ble_eq_true rfl), (Nat.le_of_ble_eq_true rfl)⟩ ⟨(Nat.le_of_ble_eq_true rfl), (Nat.le_of_ble_eq_true rfl)⟩ (fun r h9 hp => ?_)
      obtain ⟨rfl, rfl⟩ := hp
      refine J_nf (nh2 := 135) (ck2 := 135) (sk2 := 415506) (st2 := [.int 0, .int 0]) rfl rfl rfl rfl ?_
      refine J_app (L3 := [(98, .inr (12, [.int 0, .int 0, .ref 99, .ref 100, .ref 101, .ref 102, .ref 103, .ref 104, .ref 105, .int 0, .int (-1), .ref 106, .ref 107, .ref 108, .int 0, .int 0, .int 0, .int 0, .int 0, .int 0, .int 0, .ref 109, .int 0, .int 0, .ref 110, .ref 111, .ref 112, .ref 113, .ref 114, .ref 115, .ref 116, .ref 117, .int 1, .int 0, .int 0, .int (-1), .ref 118, .ref 119, .ref 120, .ref 121, .ref 122, .ref 123, .ref 124, .ref 125, .ref 126, .ref 127, .ref 128, .ref 129, .int 0, .ref 130, .ref 131, .ref 132, .ref 133, .ref 134, .int 0, .int 0])), (111, .inl (0, 1260, .inl (upd (fun _ => 0) 0 0)))]) rfl ?_
      refine J_icmp_eq (tgt := 1221) dL_law_279 (by decide) (fun _ => ?_) (fun q => absurd (by decide +kernel) q)
      exact law_tail (Nat.le_of_ble_eq_true rfl) (Nat.le_of_ble_eq_true rfl)
    · have b1 : 1 ≤ x1.toInt ∧ x1.toInt ≤ 2147483647 := ⟨by omega, by omega⟩
      refine J_hc0 ?_
      refine J_aload_n dL_law_261 rfl rfl ?_
      refine J_sload_n dL_law_262 rfl rfl ?_
      refine J_iload_n dL_law_263 rfl rfl ?_
      refine J_iconst (v := 1) dL_law_264 (by decide) ?_
      refine J_iadd (z := 1) dL_law_265 (by decide +kernel) ?_
      refine L_sld (i2 := 1) (v := x1) dL_law_266 (jin (by decide +kernel)) (by decide +kernel) hx1 ?_
      refine J_callV (st := []) dL_law_267 cv_L_28 (c_X11_house_3 (x1) b1 H0_0 H0_51) H0_0 rfl rfl (Nat.le_of_ble_eq_true rfl) ⟨(Nat.le_of_ble_eq_true rfl), (Nat.le_of_ble_eq_true rfl)⟩ ⟨(Nat.le_of_ble_eq_true rfl), (Nat.le_of_ble_eq_true rfl)⟩ (fun r h9 hp => ?_)
      obtain ⟨rfl, rfl⟩ := hp
      refine J_nf (nh2 := 135) (ck2 := 135) (sk2 := 415506) (st2 := [.int (-1)]) rfl rfl rfl rfl ?_
      refine J_aload_n dL_law_270 rfl rfl ?_
      refine J_sload_n dL_law_271 rfl rfl ?_
      refine J_iload_n dL_law_272 rfl rfl ?_
      refine J_iconst (v := 1) dL_law_273 (by decide) ?_
      refine J_iadd (z := 1) dL_law_274 (by decide +kernel) ?_
      refine L_sld (i2 := 1) (v := x1) dL_law_275 (jin (by decide +kernel)) (by decide +kernel) hx1 ?_
      refine J_callV (st := [.int (-1)]) dL_law_276 cv_L_31 (c_X12_house_3 (x1) b1 H0_98 H0_100 H0_111) H0_98 rfl rfl (Nat.le_of_ble_eq_true rfl) ⟨(Nat.le_of_ble_eq_true rfl), (Nat.le_of_ble_eq_true rfl)⟩ ⟨(Nat.le_of_ble_eq_true rfl), (Nat.le_of_ble_eq_true rfl)⟩ (fun r h9 hp => ?_)
      obtain ⟨rfl, rfl⟩ := hp
      refine J_nf (nh2 := 135) (ck2 := 135) (sk2 := 415506) (st2 := [.int (-1), .int (-1)]) rfl rfl rfl rfl ?_
      refine J_app (L3 := [(98, .inr (12, [.int 0, .int 0, .ref 99, .ref 100, .ref 101, .ref 102, .ref 103, .ref 104, .ref 105, .int 0, .int (-1), .ref 106, .ref 107, .ref 108, .int 0, .int 0, .int 0, .int 0, .int 0, .int 0, .int 0, .ref 109, .int 0, .int 0, .ref 110, .ref 111, .ref 112, .ref 113, .ref 114, .ref 115, .ref 116, .ref 117, .int 1, .int 0, .int 0, .int (-1), .ref 118, .ref 119, .ref 120, .ref 121, .ref 122, .ref 123, .ref 124, .ref 125, .ref 126, .ref 127, .ref 128, .ref 129, .int 0, .ref 130, .ref 131, .ref 132, .ref 133, .ref 134, .int 0, .int 0])), (111, .inl (0, 1260, .inl (upd (fun _ => 0) 0 0)))]) rfl ?_
      refine J_icmp_eq (tgt := 1221) dL_law_279 (by decide) (fun _ => ?_) (fun q => absurd (by decide +kernel) q)
      exact law_tail (Nat.le_of_ble_eq_true rfl) (Nat.le_of_ble_eq_true rfl)
set_option maxHeartbeats 4000000 in
set_option maxRecDepth 100000 in
theorem law_case_4 {l : Launch} {G : jG} {b : Nat} {xs : Nat → Int32} (x1 : Int32) (hx1 : xs 1 = x1) (x2 : Int32) (hx2 : xs 2 = x2) : J l G ML_law room_1 (lE b 6 xs G) lQ (135, H0) 135 415506 284 [some (.retAddr 0), some (.ref 0), some (.ref 98), some (.int 0)] [] := by
  have r1 := i32_rng x1
  have r2 := i32_rng x2
  rcases i_cut x1.toInt 0 with h_0 | h_0
  · have b1 : (-2147483648) ≤ x1.toInt ∧ x1.toInt ≤ (-1) := ⟨by omega, by omega⟩
    have b2 : (-2147483648) ≤ x2.toInt ∧ x2.toInt ≤ 2147483647 := ⟨by omega, by omega⟩
    refine J_hc0 ?_
    refine J_aload_n dL_law_284 rfl rfl ?_
    refine J_sload_n dL_law_285 rfl rfl ?_
    refine J_iload_n dL_law_286 rfl rfl ?_
    refine J_iconst (v := 1) dL_law_287 (by decide) ?_
    refine J_iadd (z := 1) dL_law_288 (by decide +kernel) ?_
    refine L_sld (i2 := 1) (v := x1) dL_law_289 (jin (by decide +kernel)) (by decide +kernel) hx1 ?_
    refine J_sload_n dL_law_290 rfl rfl ?_
    refine J_iload_n dL_law_291 rfl rfl ?_
    refine J_iconst (v := 2) dL_law_292 (by decide) ?_
    refine J_iadd (z := 2) dL_law_293 (by decide +kernel) ?_
    refine L_sld (i2 := 2) (v := x2) dL_law_294 (jin (by decide +kernel)) (by decide +kernel) hx2 ?_
    refine J_callV (st := []) dL_law_295 cv_L_32 (c_X11_terms_1 (x1) b1 (x2) b2 H0_0 H0_96) H0_0 rfl rfl (Nat.le_of_ble_eq_true rfl) ⟨(Nat.le_of_ble_eq_true rfl), (Nat.le_of_ble_eq_true rfl)⟩ ⟨(Nat.le_of_ble_eq_true rfl), (Nat.le_of_ble_eq_true rfl)⟩ (fun r h9 hp => ?_)
    obtain ⟨rfl, rfl⟩ := hp
    refine J_nf (nh2 := 135) (ck2 := 135) (sk2 := 415506) (st2 := [.int (-1)]) rfl rfl rfl rfl ?_
    refine J_app (L3 := [(96, .inl (0, 5, .inl (upd (fun _ => 0) 0 1))), (0, .inr (11, [.ref 1, .ref 17, .ref 50, .ref 51, .ref 54, .ref 57, .ref 65, .ref 75, .ref 81, .ref 85, .ref 88, .ref 93, .ref 96, .int (-1), .int (-1), .ref 97, .int 0]))]) rfl ?_
    refine J_aload_n dL_law_298 rfl rfl ?_
    refine J_sload_n dL_law_299 rfl rfl ?_
    refine J_iload_n dL_law_300 rfl rfl ?_
    refine J_iconst (v := 1) dL_law_301 (by decide) ?_
    refine J_iadd (z := 1) dL_law_302 (by decide +kernel) ?_
    refine L_sld (i2 := 1) (v := x1) dL_law_303 (jin (by decide +kernel)) (by decide +kernel) hx1 ?_
    refine J_sload_n dL_law_304 rfl rfl ?_
    refine J_iload_n dL_law_305 rfl rfl ?_
    refine J_iconst (v := 2) dL_law_306 (by decide) ?_
    refine J_iadd (z := 2) dL_law_307 (by decide +kernel) ?_
    refine L_sld (i2 := 2) (v := x2) dL_law_308 (jin (by decide +kernel)) (by decide +kernel) hx2 ?_
    refine J_callV (st := [.int (-1)]) dL_law_309 cv_L_35 (c_X12_terms_1 (x1) b1 (x2) b2 H0_98 H0_99) H0_98 rfl rfl (Nat.le_of_ble_eq_true rfl) ⟨(Nat.le_of_ble_eq_true rfl), (Nat.le_of_ble_eq_true rfl)⟩ ⟨(Nat.le_of_ble_eq_true rfl), (Nat.le_of_ble_eq_true rfl)⟩ (fun r h9 hp => ?_)
    obtain ⟨rfl, rfl⟩ := hp
    refine J_nf (nh2 := 135) (ck2 := 135) (sk2 := 415506) (st2 := [.int (-1), .int (-1)]) rfl rfl rfl rfl ?_
    refine J_app (L3 := [(99, .inl (0, 7, .inl (upd (fun _ => 0) 1 1))), (98, .inr (12, [.int (-1), .int 0, .ref 99, .ref 100, .ref 101, .ref 102, .ref 103, .ref 104, .ref 105, .int 0, .int (-1), .ref 106, .ref 107, .ref 108, .int 0, .int 0, .int 0, .int 0, .int 0, .int 0, .int 0, .ref 109, .int 0, .int 0, .ref 110, .ref 111, .ref 112, .ref 113, .ref 114, .ref 115, .ref 116, .ref 117, .int 0, .int 0, .int (-1), .int (-1), .ref 118, .ref 119, .ref 120, .ref 121, .ref 122, .ref 123, .ref 124, .ref 125, .ref 126, .ref 127, .ref 128, .ref 129, .int 0, .ref 130, .ref 131, .ref 132, .ref 133, .ref 134, .int 0, .int 0])), (96, .inl (0, 5, .inl (upd (fun _ => 0) 0 1))), (0, .inr (11, [.ref 1, .ref 17, .ref 50, .ref 51, .ref 54, .ref 57, .ref 65, .ref 75, .ref 81, .ref 85, .ref 88, .ref 93, .ref 96, .int (-1), .int (-1), .ref 97, .int 0]))]) rfl ?_
    refine J_icmp_eq (tgt := 1221) dL_law_312 (by decide) (fun _ => ?_) (fun q => absurd (by decide +kernel) q)
    exact law_tail (Nat.le_of_ble_eq_true rfl) (Nat.le_of_ble_eq_true rfl)
  · rcases i_cut x1.toInt 1 with h_1 | h_1
    · rcases i_cut x2.toInt 0 with h_2 | h_2
      · obtain rfl : x1 = 0 := by rw [fa_eq, kc_0]; omega
        have b2 : (-2147483648) ≤ x2.toInt ∧ x2.toInt ≤ (-1) := ⟨by omega, by omega⟩
        refine J_hc0 ?_
        refine J_aload_n dL_law_284 rfl rfl ?_
        refine J_sload_n dL_law_285 rfl rfl ?_
        refine J_iload_n dL_law_286 rfl rfl ?_
        refine J_iconst (v := 1) dL_law_287 (by decide) ?_
        refine J_iadd (z := 1) dL_law_288 (by decide +kernel) ?_
        refine L_sld (i2 := 1) (v := 0) dL_law_289 (jin (by decide +kernel)) (by decide +kernel) hx1 ?_
        refine J_sload_n dL_law_290 rfl rfl ?_
        refine J_iload_n dL_law_291 rfl rfl ?_
        refine J_iconst (v := 2) dL_law_292 (by decide) ?_
        refine J_iadd (z := 2) dL_law_293 (by decide +kernel) ?_
        refine L_sld (i2 := 2) (v := x2) dL_law_294 (jin (by decide +kernel)) (by decide +kernel) hx2 ?_
        refine J_callV (st := []) dL_law_295 cv_L_32 (c_X11_terms_2 (x2) b2 H0_0 H0_96) H0_0 rfl rfl (Nat.le_of_ble_eq_true rfl) ⟨(Nat.le_of_ble_eq_true rfl), (Nat.le_of_ble_eq_true rfl)⟩ ⟨(Nat.le_of_ble_eq_true rfl), (Nat.le_of_ble_eq_true rfl)⟩ (fun r h9 hp => ?_)
        obtain ⟨rfl, rfl⟩ := hp
        refine J_nf (nh2 := 135) (ck2 := 135) (sk2 := 415506) (st2 := [.int (-1)]) rfl rfl rfl rfl ?_
        refine J_app (L3 := [(96, .inl (0, 5, .inl (upd (fun _ => 0) 0 1))), (0, .inr (11, [.ref 1, .ref 17, .ref 50, .ref 51, .ref 54, .ref 57, .ref 65, .ref 75, .ref 81, .ref 85, .ref 88, .ref 93, .ref 96, .int (-1), .int (-1), .ref 97, .int 0]))]) rfl ?_
        refine J_aload_n dL_law_298 rfl rfl ?_
        refine J_sload_n dL_law_299 rfl rfl ?_
        refine J_iload_n dL_law_300 rfl rfl ?_
        refine J_iconst (v := 1) dL_law_301 (by decide) ?_
        refine J_iadd (z := 1) dL_law_302 (by decide +kernel) ?_
        refine L_sld (i2 := 1) (v := 0) dL_law_303 (jin (by decide +kernel)) (by decide +kernel) hx1 ?_
        refine J_sload_n dL_law_304 rfl rfl ?_
        refine J_iload_n dL_law_305 rfl rfl ?_
        refine J_iconst (v := 2) dL_law_306 (by decide) ?_
        refine J_iadd (z := 2) dL_law_307 (by decide +kernel) ?_
        refine L_sld (i2 := 2) (v := x2) dL_law_308 (jin (by decide +kernel)) (by decide +kernel) hx2 ?_
        refine J_callV (st := [.int (-1)]) dL_law_309 cv_L_35 (c_X12_terms_2 (x2) b2 H0_98 H0_99) H0_98 rfl rfl (Nat.le_of_ble_eq_true rfl) ⟨(Nat.le_of_ble_eq_true rfl), (Nat.le_of_ble_eq_true rfl)⟩ ⟨(Nat.le_of_ble_eq_true rfl), (Nat.le_of_ble_eq_true rfl)⟩ (fun r h9 hp => ?_)
        obtain ⟨rfl, rfl⟩ := hp
        refine J_nf (nh2 := 135) (ck2 := 135) (sk2 := 415506) (st2 := [.int (-1), .int (-1)]) rfl rfl rfl rfl ?_
        refine J_app (L3 := [(99, .inl (0, 7, .inl (upd (fun _ => 0) 1 1))), (98, .inr (12, [.int (-1), .int 0, .ref 99, .ref 100, .ref 101, .ref 102, .ref 103, .ref 104, .ref 105, .int 0, .int (-1), .ref 106, .ref 107, .ref 108, .int 0, .int 0, .int 0, .int 0, .int 0, .int 0, .int 0, .ref 109, .int 0, .int 0, .ref 110, .ref 111, .ref 112, .ref 113, .ref 114, .ref 115, .ref 116, .ref 117, .int 0, .int 0, .int (-1), .int (-1), .ref 118, .ref 119, .ref 120, .ref 121, .ref 122, .ref 123, .ref 124, .ref 125, .ref 126, .ref 127, .ref 128, .ref 129, .int 0, .ref 130, .ref 131, .ref 132, .ref 133, .ref 134, .int 0, .int 0])), (96, .inl (0, 5, .inl (upd (fun _ => 0) 0 1))), (0, .inr (11, [.ref 1, .ref 17, .ref 50, .ref 51, .ref 54, .ref 57, .ref 65, .ref 75, .ref 81, .ref 85, .ref 88, .ref 93, .ref 96, .int (-1), .int (-1), .ref 97, .int 0]))]) rfl ?_
        refine J_icmp_eq (tgt := 1221) dL_law_312 (by decide) (fun _ => ?_) (fun q => absurd (by decide +kernel) q)
        exact law_tail (Nat.le_of_ble_eq_true rfl) (Nat.le_of_ble_eq_true rfl)
      · rcases i_cut x2.toInt 2 with h_3 | h_3
        · obtain rfl : x1 = 0 := by rw [fa_eq, kc_0]; omega
          have b2 : 0 ≤ x2.toInt ∧ x2.toInt ≤ 1 := ⟨by omega, by omega⟩
          refine J_hc0 ?_
          refine J_aload_n dL_law_284 rfl rfl ?_
          refine J_sload_n dL_law_285 rfl rfl ?_
          refine J_iload_n dL_law_286 rfl rfl ?_
          refine J_iconst (v := 1) dL_law_287 (by decide) ?_
          refine J_iadd (z := 1) dL_law_288 (by decide +kernel) ?_
          refine L_sld (i2 := 1) (v := 0) dL_law_289 (jin (by decide +kernel)) (by decide +kernel) hx1 ?_
          refine J_sload_n dL_law_290 rfl rfl ?_
          refine J_iload_n dL_law_291 rfl rfl ?_
          refine J_iconst (v := 2) dL_law_292 (by decide) ?_
          refine J_iadd (z := 2) dL_law_293 (by decide +kernel) ?_
          refine L_sld (i2 := 2) (v := x2) dL_law_294 (jin (by decide +kernel)) (by decide +kernel) hx2 ?_
          refine J_callV (st := []) dL_law_295 cv_L_32 (c_X11_terms_3 (x2) b2 H0_0 H0_1 H0_3 H0_57) H0_0 rfl rfl (Nat.le_of_ble_eq_true rfl) ⟨(Nat.le_of_ble_eq_true rfl), (Nat.le_of_ble_eq_true rfl)⟩ ⟨(Nat.le_of_ble_eq_true rfl), (Nat.le_of_ble_eq_true rfl)⟩ (fun r h9 hp => ?_)
          obtain ⟨rfl, rfl⟩ := hp
          refine J_nf (nh2 := 135) (ck2 := 135) (sk2 := 415506) (st2 := [.int 0]) rfl rfl rfl rfl ?_
          refine J_app (L3 := [(0, .inr (11, [.ref 1, .ref 17, .ref 50, .ref 51, .ref 54, .ref 57, .ref 65, .ref 75, .ref 81, .ref 85, .ref 88, .ref 93, .ref 96, .int 0, .int (-1), .ref 97, .int 0])), (57, .inr (9, [.ref 1, .ref 51, .ref 58, .ref 61, .ref 62, .ref 63, .ref 64, .int 1, .int 1, .int 1])), (3, .inl (0, 2, .inl (upd (fun _ => 0) 0 x2)))]) rfl ?_
          refine J_aload_n dL_law_298 rfl rfl ?_
          refine J_sload_n dL_law_299 rfl rfl ?_
          refine J_iload_n dL_law_300 rfl rfl ?_
          refine J_iconst (v := 1) dL_law_301 (by decide) ?_
          refine J_iadd (z := 1) dL_law_302 (by decide +kernel) ?_
          refine L_sld (i2 := 1) (v := 0) dL_law_303 (jin (by decide +kernel)) (by decide +kernel) hx1 ?_
          refine J_sload_n dL_law_304 rfl rfl ?_
          refine J_iload_n dL_law_305 rfl rfl ?_
          refine J_iconst (v := 2) dL_law_306 (by decide) ?_
          refine J_iadd (z := 2) dL_law_307 (by decide +kernel) ?_
          refine L_sld (i2 := 2) (v := x2) dL_law_308 (jin (by decide +kernel)) (by decide +kernel) hx2 ?_
          refine J_callV (st := [.int 0]) dL_law_309 cv_L_35 (c_X12_terms_3 (x2) b2 H0_98 H0_100) H0_98 rfl rfl (Nat.le_of_ble_eq_true rfl) ⟨(Nat.le_of_ble_eq_true rfl), (Nat.le_of_ble_eq_true rfl)⟩ ⟨(Nat.le_of_ble_eq_true rfl), (Nat.le_of_ble_eq_true rfl)⟩ (fun r h9 hp => ?_)
          obtain ⟨rfl, rfl⟩ := hp
          refine J_nf (nh2 := 135) (ck2 := 135) (sk2 := 415506) (st2 := [.int 0, .int 0]) rfl rfl rfl rfl ?_
          refine J_app (L3 := [(98, .inr (12, [.int 0, .int 1, .ref 99, .ref 100, .ref 101, .ref 102, .ref 103, .ref 104, .ref 105, .int 0, .int (-1), .ref 106, .ref 107, .ref 108, .int 0, .int 0, .int 0, .int 0, .int 0, .int 0, .int 0, .ref 109, .int 0, .int 0, .ref 110, .ref 111, .ref 112, .ref 113, .ref 114, .ref 115, .ref 116, .ref 117, .int 0, .int 0, .int (-1), .int (-1), .ref 118, .ref 119, .ref 120, .ref 121, .ref 122, .ref 123, .ref 124, .ref 125, .ref 126, .ref 127, .ref 128, .ref 129, .int 0, .ref 130, .ref 131, .ref 132, .ref 133, .ref 134, .int 0, .int 0])), (100, .inl (0, 4870, .inl (upd (upd (fun _ => 0) 63 (-1)) 5 x2))), (0, .inr (11, [.ref 1, .ref 17, .ref 50, .ref 51, .ref 54, .ref 57, .ref 65, .ref 75, .ref 81, .ref 85, .ref 88, .ref 93, .ref 96, .int 0, .int (-1), .ref 97, .int 0])), (57, .inr (9, [.ref 1, .ref 51, .ref 58, .ref 61, .ref 62, .ref 63, .ref 64, .int 1, .int 1, .int 1])), (3, .inl (0, 2, .inl (upd (fun _ => 0) 0 x2)))]) rfl ?_
          refine J_icmp_eq (tgt := 1221) dL_law_312 (by decide) (fun _ => ?_) (fun q => absurd (by decide +kernel) q)
          exact law_tail (Nat.le_of_ble_eq_true rfl) (Nat.le_of_ble_eq_true rfl)
        · obtain rfl : x1 = 0 := by rw [fa_eq, kc_0]; omega
          have b2 : 2 ≤ x2.toInt ∧ x2.toInt ≤ 2147483647 := ⟨by omega, by omega⟩
          refine J_hc0 ?_
          refine J_aload_n dL_law_284 rfl rfl ?_
          refine J_sload_n dL_law_285 rfl rfl ?_
          refine J_iload_n dL_law_286 rfl rfl ?_
          refine J_iconst (v := 1) dL_law_287 (by decide) ?_
          refine J_iadd (z := 1) dL_law_288 (by decide +kernel) ?_
          refine L_sld (i2 := 1) (v := 0) dL_law_289 (jin (by decide +kernel)) (by decide +kernel) hx1 ?_
          refine J_sload_n dL_law_290 rfl rfl ?_
          refine J_iload_n dL_law_291 rfl rfl ?_
          refine J_iconst (v := 2) dL_law_292 (by decide) ?_
          refine J_iadd (z := 2) dL_law_293 (by decide +kernel) ?_
          refine L_sld (i2 := 2) (v := x2) dL_law_294 (jin (by decide +kernel)) (by decide +kernel) hx2 ?_
          refine J_callV (st := []) dL_law_295 cv_L_32 (c_X11_terms_4 (x2) b2 H0_0 H0_96) H0_0 rfl rfl (Nat.le_of_ble_eq_true rfl) ⟨(Nat.le_of_ble_eq_true rfl), (Nat.le_of_ble_eq_true rfl)⟩ ⟨(Nat.le_of_ble_eq_true rfl), (Nat.le_of_ble_eq_true rfl)⟩ (fun r h9 hp => ?_)
          obtain ⟨rfl, rfl⟩ := hp
          refine J_nf (nh2 := 135) (ck2 := 135) (sk2 := 415506) (st2 := [.int (-1)]) rfl rfl rfl rfl ?_
          refine J_app (L3 := [(96, .inl (0, 5, .inl (upd (fun _ => 0) 0 1))), (0, .inr (11, [.ref 1, .ref 17, .ref 50, .ref 51, .ref 54, .ref 57, .ref 65, .ref 75, .ref 81, .ref 85, .ref 88, .ref 93, .ref 96, .int (-1), .int (-1), .ref 97, .int 0]))]) rfl ?_
          refine J_aload_n dL_law_298 rfl rfl ?_
          refine J_sload_n dL_law_299 rfl rfl ?_
          refine J_iload_n dL_law_300 rfl rfl ?_
          refine J_iconst (v := 1) dL_law_301 (by decide) ?_
          refine J_iadd (z := 1) dL_law_302 (by decide +kernel) ?_
          refine L_sld (i2 := 1) (v := 0) dL_law_303 (jin (by decide +kernel)) (by decide +kernel) hx1 ?_
          refine J_sload_n dL_law_304 rfl rfl ?_
          refine J_iload_n dL_law_305 rfl rfl ?_
          refine J_iconst (v := 2) dL_law_306 (by decide) ?_
          refine J_iadd (z := 2) dL_law_307 (by decide +kernel) ?_
          refine L_sld (i2 := 2) (v := x2) dL_law_308 (jin (by decide +kernel)) (by decide +kernel) hx2 ?_
          refine J_callV (st := [.int (-1)]) dL_law_309 cv_L_35 (c_X12_terms_4 (x2) b2 H0_98 H0_99) H0_98 rfl rfl (Nat.le_of_ble_eq_true rfl) ⟨(Nat.le_of_ble_eq_true rfl), (Nat.le_of_ble_eq_true rfl)⟩ ⟨(Nat.le_of_ble_eq_true rfl), (Nat.le_of_ble_eq_true rfl)⟩ (fun r h9 hp => ?_)
          obtain ⟨rfl, rfl⟩ := hp
          refine J_nf (nh2 := 135) (ck2 := 135) (sk2 := 415506) (st2 := [.int (-1), .int (-1)]) rfl rfl rfl rfl ?_
          refine J_app (L3 := [(99, .inl (0, 7, .inl (upd (fun _ => 0) 1 1))), (98, .inr (12, [.int (-1), .int 0, .ref 99, .ref 100, .ref 101, .ref 102, .ref 103, .ref 104, .ref 105, .int 0, .int (-1), .ref 106, .ref 107, .ref 108, .int 0, .int 0, .int 0, .int 0, .int 0, .int 0, .int 0, .ref 109, .int 0, .int 0, .ref 110, .ref 111, .ref 112, .ref 113, .ref 114, .ref 115, .ref 116, .ref 117, .int 0, .int 0, .int (-1), .int (-1), .ref 118, .ref 119, .ref 120, .ref 121, .ref 122, .ref 123, .ref 124, .ref 125, .ref 126, .ref 127, .ref 128, .ref 129, .int 0, .ref 130, .ref 131, .ref 132, .ref 133, .ref 134, .int 0, .int 0])), (96, .inl (0, 5, .inl (upd (fun _ => 0) 0 1))), (0, .inr (11, [.ref 1, .ref 17, .ref 50, .ref 51, .ref 54, .ref 57, .ref 65, .ref 75, .ref 81, .ref 85, .ref 88, .ref 93, .ref 96, .int (-1), .int (-1), .ref 97, .int 0]))]) rfl ?_
          refine J_icmp_eq (tgt := 1221) dL_law_312 (by decide) (fun _ => ?_) (fun q => absurd (by decide +kernel) q)
          exact law_tail (Nat.le_of_ble_eq_true rfl) (Nat.le_of_ble_eq_true rfl)
    · rcases i_cut x1.toInt 2 with h_2 | h_2
      · rcases i_cut x2.toInt 0 with h_3 | h_3
        · obtain rfl : x1 = 1 := by rw [fa_eq, kc_1]; omega
          have b2 : (-2147483648) ≤ x2.toInt ∧ x2.toInt ≤ (-1) := ⟨by omega, by omega⟩
          refine J_hc0 ?_
          refine J_aload_n dL_law_284 rfl rfl ?_
          refine J_sload_n dL_law_285 rfl rfl ?_
          refine J_iload_n dL_law_286 rfl rfl ?_
          refine J_iconst (v := 1) dL_law_287 (by decide) ?_
          refine J_iadd (z := 1) dL_law_288 (by decide +kernel) ?_
          refine L_sld (i2 := 1) (v := 1) dL_law_289 (jin (by decide +kernel)) (by decide +kernel) hx1 ?_
          refine J_sload_n dL_law_290 rfl rfl ?_
          refine J_iload_n dL_law_291 rfl rfl ?_
          refine J_iconst (v := 2) dL_law_292 (by decide) ?_
          refine J_iadd (z := 2) dL_law_293 (by decide +kernel) ?_
          refine L_sld (i2 := 2) (v := x2) dL_law_294 (jin (by decide +kernel)) (by decide +kernel) hx2 ?_
          refine J_callV (st := []) dL_law_295 cv_L_32 (c_X11_terms_5 (x2) b2 H0_0 H0_96) H0_0 rfl rfl (Nat.le_of_ble_eq_true rfl) ⟨(Nat.le_of_ble_eq_true rfl), (Nat.le_of_ble_eq_true rfl)⟩ ⟨(Nat.le_of_ble_eq_true rfl), (Nat.le_of_ble_eq_true rfl)⟩ (fun r h9 hp => ?_)
          obtain ⟨rfl, rfl⟩ := hp
          refine J_nf (nh2 := 135) (ck2 := 135) (sk2 := 415506) (st2 := [.int (-1)]) rfl rfl rfl rfl ?_
          refine J_app (L3 := [(96, .inl (0, 5, .inl (upd (fun _ => 0) 0 1))), (0, .inr (11, [.ref 1, .ref 17, .ref 50, .ref 51, .ref 54, .ref 57, .ref 65, .ref 75, .ref 81, .ref 85, .ref 88, .ref 93, .ref 96, .int (-1), .int (-1), .ref 97, .int 0]))]) rfl ?_
          refine J_aload_n dL_law_298 rfl rfl ?_
          refine J_sload_n dL_law_299 rfl rfl ?_
          refine J_iload_n dL_law_300 rfl rfl ?_
          refine J_iconst (v := 1) dL_law_301 (by decide) ?_
          refine J_iadd (z := 1) dL_law_302 (by decide +kernel) ?_
          refine L_sld (i2 := 1) (v := 1) dL_law_303 (jin (by decide +kernel)) (by decide +kernel) hx1 ?_
          refine J_sload_n dL_law_304 rfl rfl ?_
          refine J_iload_n dL_law_305 rfl rfl ?_
          refine J_iconst (v := 2) dL_law_306 (by decide) ?_
          refine J_iadd (z := 2) dL_law_307 (by decide +kernel) ?_
          refine L_sld (i2 := 2) (v := x2) dL_law_308 (jin (by decide +kernel)) (by decide +kernel) hx2 ?_
          refine J_callV (st := [.int (-1)]) dL_law_309 cv_L_35 (c_X12_terms_5 (x2) b2 H0_98 H0_99) H0_98 rfl rfl (Nat.le_of_ble_eq_true rfl) ⟨(Nat.le_of_ble_eq_true rfl), (Nat.le_of_ble_eq_true rfl)⟩ ⟨(Nat.le_of_ble_eq_true rfl), (Nat.le_of_ble_eq_true rfl)⟩ (fun r h9 hp => ?_)
          obtain ⟨rfl, rfl⟩ := hp
          refine J_nf (nh2 := 135) (ck2 := 135) (sk2 := 415506) (st2 := [.int (-1), .int (-1)]) rfl rfl rfl rfl ?_
          refine J_app (L3 := [(99, .inl (0, 7, .inl (upd (fun _ => 0) 1 1))), (98, .inr (12, [.int (-1), .int 0, .ref 99, .ref 100, .ref 101, .ref 102, .ref 103, .ref 104, .ref 105, .int 0, .int (-1), .ref 106, .ref 107, .ref 108, .int 0, .int 0, .int 0, .int 0, .int 0, .int 0, .int 0, .ref 109, .int 0, .int 0, .ref 110, .ref 111, .ref 112, .ref 113, .ref 114, .ref 115, .ref 116, .ref 117, .int 0, .int 0, .int (-1), .int (-1), .ref 118, .ref 119, .ref 120, .ref 121, .ref 122, .ref 123, .ref 124, .ref 125, .ref 126, .ref 127, .ref 128, .ref 129, .int 0, .ref 130, .ref 131, .ref 132, .ref 133, .ref 134, .int 0, .int 0])), (96, .inl (0, 5, .inl (upd (fun _ => 0) 0 1))), (0, .inr (11, [.ref 1, .ref 17, .ref 50, .ref 51, .ref 54, .ref 57, .ref 65, .ref 75, .ref 81, .ref 85, .ref 88, .ref 93, .ref 96, .int (-1), .int (-1), .ref 97, .int 0]))]) rfl ?_
          refine J_icmp_eq (tgt := 1221) dL_law_312 (by decide) (fun _ => ?_) (fun q => absurd (by decide +kernel) q)
          exact law_tail (Nat.le_of_ble_eq_true rfl) (Nat.le_of_ble_eq_true rfl)
        · rcases i_cut x2.toInt 100 with h_4 | h_4
          · obtain rfl : x1 = 1 := by rw [fa_eq, kc_1]; omega
            have b2 : 0 ≤ x2.toInt ∧ x2.toInt ≤ 99 := ⟨by omega, by omega⟩
            refine J_hc0 ?_
            refine J_aload_n dL_law_284 rfl rfl ?_
            refine J_sload_n dL_law_285 rfl rfl ?_
            refine J_iload_n dL_law_286 rfl rfl ?_
            refine J_iconst (v := 1) dL_law_287 (by decide) ?_
            refine J_iadd (z := 1) dL_law_288 (by decide +kernel) ?_
            refine L_sld (i2 := 1) (v := 1) dL_law_289 (jin (by decide +kernel)) (by decide +kernel) hx1 ?_
            refine J_sload_n dL_law_290 rfl rfl ?_
            refine J_iload_n dL_law_291 rfl rfl ?_
            refine J_iconst (v := 2) dL_law_292 (by decide) ?_
            refine J_iadd (z := 2) dL_law_293 (by decide +kernel) ?_
            refine L_sld (i2 := 2) (v := x2) dL_law_294 (jin (by decide +kernel)) (by decide +kernel) hx2 ?_
            refine J_callV (st := []) dL_law_295 cv_L_32 (c_X11_terms_6 (x2) b2 H0_0 H0_1 H0_3 H0_57) H0_0 rfl rfl (Nat.le_of_ble_eq_true rfl) ⟨(Nat.le_of_ble_eq_true rfl), (Nat.le_of_ble_eq_true rfl)⟩ ⟨(Nat.le_of_ble_eq_true rfl), (Nat.le_of_ble_eq_true rfl)⟩ (fun r h9 hp => ?_)
            obtain ⟨rfl, rfl⟩ := hp
            refine J_nf (nh2 := 135) (ck2 := 135) (sk2 := 415506) (st2 := [.int 0]) rfl rfl rfl rfl ?_
            refine J_app (L3 := [(0, .inr (11, [.ref 1, .ref 17, .ref 50, .ref 51, .ref 54, .ref 57, .ref 65, .ref 75, .ref 81, .ref 85, .ref 88, .ref 93, .ref 96, .int 0, .int (-1), .ref 97, .int 0])), (57, .inr (9, [.ref 1, .ref 51, .ref 58, .ref 61, .ref 62, .ref 63, .ref 64, .int 1, .int 1, .int 1])), (3, .inl (0, 2, .inl (upd (fun _ => 0) 1 x2)))]) rfl ?_
            refine J_aload_n dL_law_298 rfl rfl ?_
            refine J_sload_n dL_law_299 rfl rfl ?_
            refine J_iload_n dL_law_300 rfl rfl ?_
            refine J_iconst (v := 1) dL_law_301 (by decide) ?_
            refine J_iadd (z := 1) dL_law_302 (by decide +kernel) ?_
            refine L_sld (i2 := 1) (v := 1) dL_law_303 (jin (by decide +kernel)) (by decide +kernel) hx1 ?_
            refine J_sload_n dL_law_304 rfl rfl ?_
            refine J_iload_n dL_law_305 rfl rfl ?_
            refine J_iconst (v := 2) dL_law_306 (by decide) ?_
            refine J_iadd (z := 2) dL_law_307 (by decide +kernel) ?_
            refine L_sld (i2 := 2) (v := x2) dL_law_308 (jin (by decide +kernel)) (by decide +kernel) hx2 ?_
            refine J_callV (st := [.int 0]) dL_law_309 cv_L_35 (c_X12_terms_6 (x2) b2 H0_98 H0_100) H0_98 rfl rfl (Nat.le_of_ble_eq_true rfl) ⟨(Nat.le_of_ble_eq_true rfl), (Nat.le_of_ble_eq_true rfl)⟩ ⟨(Nat.le_of_ble_eq_true rfl), (Nat.le_of_ble_eq_true rfl)⟩ (fun r h9 hp => ?_)
            obtain ⟨rfl, rfl⟩ := hp
            refine J_nf (nh2 := 135) (ck2 := 135) (sk2 := 415506) (st2 := [.int 0, .int 0]) rfl rfl rfl rfl ?_
            refine J_app (L3 := [(98, .inr (12, [.int 0, .int 1, .ref 99, .ref 100, .ref 101, .ref 102, .ref 103, .ref 104, .ref 105, .int 0, .int (-1), .ref 106, .ref 107, .ref 108, .int 0, .int 0, .int 0, .int 0, .int 0, .int 0, .int 0, .ref 109, .int 0, .int 0, .ref 110, .ref 111, .ref 112, .ref 113, .ref 114, .ref 115, .ref 116, .ref 117, .int 0, .int 0, .int (-1), .int (-1), .ref 118, .ref 119, .ref 120, .ref 121, .ref 122, .ref 123, .ref 124, .ref 125, .ref 126, .ref 127, .ref 128, .ref 129, .int 0, .ref 130, .ref 131, .ref 132, .ref 133, .ref 134, .int 0, .int 0])), (100, .inl (0, 4870, .inl (upd (upd (fun _ => 0) 63 (-1)) 6 x2))), (0, .inr (11, [.ref 1, .ref 17, .ref 50, .ref 51, .ref 54, .ref 57, .ref 65, .ref 75, .ref 81, .ref 85, .ref 88, .ref 93, .ref 96, .int 0, .int (-1), .ref 97, .int 0])), (57, .inr (9, [.ref 1, .ref 51, .ref 58, .ref 61, .ref 62, .ref 63, .ref 64, .int 1, .int 1, .int 1])), (3, .inl (0, 2, .inl (upd (fun _ => 0) 1 x2)))]) rfl ?_
            refine J_icmp_eq (tgt := 1221) dL_law_312 (by decide) (fun _ => ?_) (fun q => absurd (by decide +kernel) q)
            exact law_tail (Nat.le_of_ble_eq_true rfl) (Nat.le_of_ble_eq_true rfl)
          · obtain rfl : x1 = 1 := by rw [fa_eq, kc_1]; omega
            have b2 : 100 ≤ x2.toInt ∧ x2.toInt ≤ 2147483647 := ⟨by omega, by omega⟩
            refine J_hc0 ?_
            refine J_aload_n dL_law_284 rfl rfl ?_
            refine J_sload_n dL_law_285 rfl rfl ?_
            refine J_iload_n dL_law_286 rfl rfl ?_
            refine J_iconst (v := 1) dL_law_287 (by decide) ?_
            refine J_iadd (z := 1) dL_law_288 (by decide +kernel) ?_
            refine L_sld (i2 := 1) (v := 1) dL_law_289 (jin (by decide +kernel)) (by decide +kernel) hx1 ?_
            refine J_sload_n dL_law_290 rfl rfl ?_
            refine J_iload_n dL_law_291 rfl rfl ?_
            refine J_iconst (v := 2) dL_law_292 (by decide) ?_
            refine J_iadd (z := 2) dL_law_293 (by decide +kernel) ?_
            refine L_sld (i2 := 2) (v := x2) dL_law_294 (jin (by decide +kernel)) (by decide +kernel) hx2 ?_
            refine J_callV (st := []) dL_law_295 cv_L_32 (c_X11_terms_7 (x2) b2 H0_0 H0_96) H0_0 rfl rfl (Nat.le_of_ble_eq_true rfl) ⟨(Nat.le_of_ble_eq_true rfl), (Nat.le_of_ble_eq_true rfl)⟩ ⟨(Nat.le_of_ble_eq_true rfl), (Nat.le_of_ble_eq_true rfl)⟩ (fun r h9 hp => ?_)
            obtain ⟨rfl, rfl⟩ := hp
            refine J_nf (nh2 := 135) (ck2 := 135) (sk2 := 415506) (st2 := [.int (-1)]) rfl rfl rfl rfl ?_
            refine J_app (L3 := [(96, .inl (0, 5, .inl (upd (fun _ => 0) 0 1))), (0, .inr (11, [.ref 1, .ref 17, .ref 50, .ref 51, .ref 54, .ref 57, .ref 65, .ref 75, .ref 81, .ref 85, .ref 88, .ref 93, .ref 96, .int (-1), .int (-1), .ref 97, .int 0]))]) rfl ?_
            refine J_aload_n dL_law_298 rfl rfl ?_
            refine J_sload_n dL_law_299 rfl rfl ?_
            refine J_iload_n dL_law_300 rfl rfl ?_
            refine J_iconst (v := 1) dL_law_301 (by decide) ?_
            refine J_iadd (z := 1) dL_law_302 (by decide +kernel) ?_
            refine L_sld (i2 := 1) (v := 1) dL_law_303 (jin (by decide +kernel)) (by decide +kernel) hx1 ?_
            refine J_sload_n dL_law_304 rfl rfl ?_
            refine J_iload_n dL_law_305 rfl rfl ?_
            refine J_iconst (v := 2) dL_law_306 (by decide) ?_
            refine J_iadd (z := 2) dL_law_307 (by decide +kernel) ?_
            refine L_sld (i2 := 2) (v := x2) dL_law_308 (jin (by decide +kernel)) (by decide +kernel) hx2 ?_
            refine J_callV (st := [.int (-1)]) dL_law_309 cv_L_35 (c_X12_terms_7 (x2) b2 H0_98 H0_99) H0_98 rfl rfl (Nat.le_of_ble_eq_true rfl) ⟨(Nat.le_of_ble_eq_true rfl), (Nat.le_of_ble_eq_true rfl)⟩ ⟨(Nat.le_of_ble_eq_true rfl), (Nat.le_of_ble_eq_true rfl)⟩ (fun r h9 hp => ?_)
            obtain ⟨rfl, rfl⟩ := hp
            refine J_nf (nh2 := 135) (ck2 := 135) (sk2 := 415506) (st2 := [.int (-1), .int (-1)]) rfl rfl rfl rfl ?_
            refine J_app (L3 := [(99, .inl (0, 7, .inl (upd (fun _ => 0) 1 1))), (98, .inr (12, [.int (-1), .int 0, .ref 99, .ref 100, .ref 101, .ref 102, .ref 103, .ref 104, .ref 105, .int 0, .int (-1), .ref 106, .ref 107, .ref 108, .int 0, .int 0, .int 0, .int 0, .int 0, .int 0, .int 0, .ref 109, .int 0, .int 0, .ref 110, .ref 111, .ref 112, .ref 113, .ref 114, .ref 115, .ref 116, .ref 117, .int 0, .int 0, .int (-1), .int (-1), .ref 118, .ref 119, .ref 120, .ref 121, .ref 122, .ref 123, .ref 124, .ref 125, .ref 126, .ref 127, .ref 128, .ref 129, .int 0, .ref 130, .ref 131, .ref 132, .ref 133, .ref 134, .int 0, .int 0])), (96, .inl (0, 5, .inl (upd (fun _ => 0) 0 1))), (0, .inr (11, [.ref 1, .ref 17, .ref 50, .ref 51, .ref 54, .ref 57, .ref 65, .ref 75, .ref 81, .ref 85, .ref 88, .ref 93, .ref 96, .int (-1), .int (-1), .ref 97, .int 0]))]) rfl ?_
            refine J_icmp_eq (tgt := 1221) dL_law_312 (by decide) (fun _ => ?_) (fun q => absurd (by decide +kernel) q)
            exact law_tail (Nat.le_of_ble_eq_true rfl) (Nat.le_of_ble_eq_true rfl)
      · have b1 : 2 ≤ x1.toInt ∧ x1.toInt ≤ 2147483647 := ⟨by omega, by omega⟩
        have b2 : (-2147483648) ≤ x2.toInt ∧ x2.toInt ≤ 2147483647 := ⟨by omega, by omega⟩
        refine J_hc0 ?_
        refine J_aload_n dL_law_284 rfl rfl ?_
        refine J_sload_n dL_law_285 rfl rfl ?_
        refine J_iload_n dL_law_286 rfl rfl ?_
        refine J_iconst (v := 1) dL_law_287 (by decide) ?_
        refine J_iadd (z := 1) dL_law_288 (by decide +kernel) ?_
        refine L_sld (i2 := 1) (v := x1) dL_law_289 (jin (by decide +kernel)) (by decide +kernel) hx1 ?_
        refine J_sload_n dL_law_290 rfl rfl ?_
        refine J_iload_n dL_law_291 rfl rfl ?_
        refine J_iconst (v := 2) dL_law_292 (by decide) ?_
        refine J_iadd (z := 2) dL_law_293 (by decide +kernel) ?_
        refine L_sld (i2 := 2) (v := x2) dL_law_294 (jin (by decide +kernel)) (by decide +kernel) hx2 ?_
        refine J_callV (st := []) dL_law_295 cv_L_32 (c_X11_terms_8 (x1) b1 (x2) b2 H0_0 H0_96) H0_0 rfl rfl (Nat.le_of_ble_eq_true rfl) ⟨(Nat.le_of_ble_eq_true rfl), (Nat.le_of_ble_eq_true rfl)⟩ ⟨(Nat.le_of_ble_eq_true rfl), (Nat.le_of_ble_eq_true rfl)⟩ (fun r h9 hp => ?_)
        obtain ⟨rfl, rfl⟩ := hp
        refine J_nf (nh2 := 135) (ck2 := 135) (sk2 := 415506) (st2 := [.int (-1)]) rfl rfl rfl rfl ?_
        refine J_app (L3 := [(96, .inl (0, 5, .inl (upd (fun _ => 0) 0 1))), (0, .inr (11, [.ref 1, .ref 17, .ref 50, .ref 51, .ref 54, .ref 57, .ref 65, .ref 75, .ref 81, .ref 85, .ref 88, .ref 93, .ref 96, .int (-1), .int (-1), .ref 97, .int 0]))]) rfl ?_
        refine J_aload_n dL_law_298 rfl rfl ?_
        refine J_sload_n dL_law_299 rfl rfl ?_
        refine J_iload_n dL_law_300 rfl rfl ?_
        refine J_iconst (v := 1) dL_law_301 (by decide) ?_
        refine J_iadd (z := 1) dL_law_302 (by decide +kernel) ?_
        refine L_sld (i2 := 1) (v := x1) dL_law_303 (jin (by decide +kernel)) (by decide +kernel) hx1 ?_
        refine J_sload_n dL_law_304 rfl rfl ?_
        refine J_iload_n dL_law_305 rfl rfl ?_
        refine J_iconst (v := 2) dL_law_306 (by decide) ?_
        refine J_iadd (z := 2) dL_law_307 (by decide +kernel) ?_
        refine L_sld (i2 := 2) (v := x2) dL_law_308 (jin (by decide +kernel)) (by decide +kernel) hx2 ?_
        refine J_callV (st := [.int (-1)]) dL_law_309 cv_L_35 (c_X12_terms_8 (x1) b1 (x2) b2 H0_98 H0_99) H0_98 rfl rfl (Nat.le_of_ble_eq_true rfl) ⟨(Nat.le_of_ble_eq_true rfl), (Nat.le_of_ble_eq_true rfl)⟩ ⟨(Nat.le_of_ble_eq_true rfl), (Nat.le_of_ble_eq_true rfl)⟩ (fun r h9 hp => ?_)
        obtain ⟨rfl, rfl⟩ := hp
        refine J_nf (nh2 := 135) (ck2 := 135) (sk2 := 415506) (st2 := [.int (-1), .int (-1)]) rfl rfl rfl rfl ?_
        refine J_app (L3 := [(99, .inl (0, 7, .inl (upd (fun _ => 0) 1 1))), (98, .inr (12, [.int (-1), .int 0, .ref 99, .ref 100, .ref 101, .ref 102, .ref 103, .ref 104, .ref 105, .int 0, .int (-1), .ref 106, .ref 107, .ref 108, .int 0, .int 0, .int 0, .int 0, .int 0, .int 0, .int 0, .ref 109, .int 0, .int 0, .ref 110, .ref 111, .ref 112, .ref 113, .ref 114, .ref 115, .ref 116, .ref 117, .int 0, .int 0, .int (-1), .int (-1), .ref 118, .ref 119, .ref 120, .ref 121, .ref 122, .ref 123, .ref 124, .ref 125, .ref 126, .ref 127, .ref 128, .ref 129, .int 0, .ref 130, .ref 131, .ref 132, .ref 133, .ref 134, .int 0, .int 0])), (96, .inl (0, 5, .inl (upd (fun _ => 0) 0 1))), (0, .inr (11, [.ref 1, .ref 17, .ref 50, .ref 51, .ref 54, .ref 57, .ref 65, .ref 75, .ref 81, .ref 85, .ref 88, .ref 93, .ref 96, .int (-1), .int (-1), .ref 97, .int 0]))]) rfl ?_
        refine J_icmp_eq (tgt := 1221) dL_law_312 (by decide) (fun _ => ?_) (fun q => absurd (by decide +kernel) q)
        exact law_tail (Nat.le_of_ble_eq_true rfl) (Nat.le_of_ble_eq_true rfl)
set_option maxHeartbeats 4000000 in
set_option maxRecDepth 100000 in
theorem law_case_5 {l : Launch} {G : jG} {b : Nat} {xs : Nat → Int32} (x1 : Int32) (hx1 : xs 1 = x1) (x2 : Int32) (hx2 : xs 2 = x2) (x3 : Int32) (hx3 : xs 3 = x3) (x4 : Int32) (hx4 : xs 4 = x4) (x5 : Int32) (hx5 : xs 5 = x5) : J l G ML_law room_1 (lE b 6 xs G) lQ (135, H0) 135 415506 317 [some (.retAddr 0), some (.ref 0), some (.ref 98), some (.int 0)] [] := by
  have r1 := i32_rng x1
  have r2 := i32_rng x2
  have r3 := i32_rng x3
  have r4 := i32_rng x4
  have r5 := i32_rng x5
  have b1 : (-2147483648) ≤ x1.toInt ∧ x1.toInt ≤ 2147483647 := ⟨by omega, by omega⟩
  have b2 : (-2147483648) ≤ x2.toInt ∧ x2.toInt ≤ 2147483647 := ⟨by omega, by omega⟩
  have b3 : (-2147483648) ≤ x3.toInt ∧ x3.toInt ≤ 2147483647 := ⟨by omega, by omega⟩
  have b4 : (-2147483648) ≤ x4.toInt ∧ x4.toInt ≤ 2147483647 := ⟨by omega, by omega⟩
  have b5 : (-2147483648) ≤ x5.toInt ∧ x5.toInt ≤ 2147483647 := ⟨by omega, by omega⟩
  refine J_hc0 ?_
  refine J_aload_n dL_law_317 rfl rfl ?_
  refine J_sload_n dL_law_318 rfl rfl ?_
  refine J_iload_n dL_law_319 rfl rfl ?_
  refine J_iconst (v := 1) dL_law_320 (by decide) ?_
  refine J_iadd (z := 1) dL_law_321 (by decide +kernel) ?_
  refine L_sld (i2 := 1) (v := x1) dL_law_322 (jin (by decide +kernel)) (by decide +kernel) hx1 ?_
  refine J_sload_n dL_law_323 rfl rfl ?_
  refine J_iload_n dL_law_324 rfl rfl ?_
  refine J_iconst (v := 2) dL_law_325 (by decide) ?_
  refine J_iadd (z := 2) dL_law_326 (by decide +kernel) ?_
  refine L_sld (i2 := 2) (v := x2) dL_law_327 (jin (by decide +kernel)) (by decide +kernel) hx2 ?_
  refine J_sload_n dL_law_328 rfl rfl ?_
  refine J_iload_n dL_law_329 rfl rfl ?_
  refine J_iconst (v := 3) dL_law_330 (by decide) ?_
  refine J_iadd (z := 3) dL_law_331 (by decide +kernel) ?_
  refine L_sld (i2 := 3) (v := x3) dL_law_332 (jin (by decide +kernel)) (by decide +kernel) hx3 ?_
  refine J_sload_n dL_law_333 rfl rfl ?_
  refine J_iload_n dL_law_334 rfl rfl ?_
  refine J_iconst (v := 4) dL_law_335 (by decide) ?_
  refine J_iadd (z := 4) dL_law_336 (by decide +kernel) ?_
  refine L_sld (i2 := 4) (v := x4) dL_law_337 (jin (by decide +kernel)) (by decide +kernel) hx4 ?_
  refine J_sload_n dL_law_338 rfl rfl ?_
  refine J_iload_n dL_law_339 rfl rfl ?_
  refine J_iconst (v := 5) dL_law_340 (by decide) ?_
  refine J_iadd (z := 5) dL_law_341 (by decide +kernel) ?_
  refine L_sld (i2 := 5) (v := x5) dL_law_342 (jin (by decide +kernel)) (by decide +kernel) hx5 ?_
  refine J_callV (st := []) dL_law_343 cv_L_36 (c_X11_feed_1 (x1) b1 (x2) b2 (x3) b3 (x4) b4 (x5) b5 H0_0 H0_54 H0_55) H0_0 rfl rfl (Nat.le_of_ble_eq_true rfl) ⟨(Nat.le_of_ble_eq_true rfl), (Nat.le_of_ble_eq_true rfl)⟩ ⟨(Nat.le_of_ble_eq_true rfl), (Nat.le_of_ble_eq_true rfl)⟩ (fun r h9 hp => ?_)
  obtain ⟨rfl, rfl⟩ := hp
  refine J_nf (nh2 := 135) (ck2 := 135) (sk2 := 415506) (st2 := [.int 20]) rfl rfl rfl rfl ?_
  refine J_app (L3 := [(54, .inr (5, [.ref 55, .int 20, .int 17, .int 0, .int 0, .int 0, .int 0, .int (-1), .ref 56, .int 0])), (55, .inl (0, 400, .inl (upd (upd (upd (upd (upd (upd (upd (upd (upd (upd (upd (upd (upd (upd (upd (upd (upd (upd (upd (upd (fun _ => 0) 0 ((x1 >>> (24 &&& 31)) &&& 255)) 1 ((x1 >>> (16 &&& 31)) &&& 255)) 2 ((x1 >>> (8 &&& 31)) &&& 255)) 3 ((x1 >>> (0 &&& 31)) &&& 255)) 4 ((x2 >>> (24 &&& 31)) &&& 255)) 5 ((x2 >>> (16 &&& 31)) &&& 255)) 6 ((x2 >>> (8 &&& 31)) &&& 255)) 7 ((x2 >>> (0 &&& 31)) &&& 255)) 8 ((x3 >>> (24 &&& 31)) &&& 255)) 9 ((x3 >>> (16 &&& 31)) &&& 255)) 10 ((x3 >>> (8 &&& 31)) &&& 255)) 11 ((x3 >>> (0 &&& 31)) &&& 255)) 12 ((x4 >>> (24 &&& 31)) &&& 255)) 13 ((x4 >>> (16 &&& 31)) &&& 255)) 14 ((x4 >>> (8 &&& 31)) &&& 255)) 15 ((x4 >>> (0 &&& 31)) &&& 255)) 16 ((x5 >>> (24 &&& 31)) &&& 255)) 17 ((x5 >>> (16 &&& 31)) &&& 255)) 18 ((x5 >>> (8 &&& 31)) &&& 255)) 19 ((x5 >>> (0 &&& 31)) &&& 255))))]) rfl ?_
  refine J_aload_n dL_law_346 rfl rfl ?_
  refine J_sload_n dL_law_347 rfl rfl ?_
  refine J_iload_n dL_law_348 rfl rfl ?_
  refine J_iconst (v := 1) dL_law_349 (by decide) ?_
  refine J_iadd (z := 1) dL_law_350 (by decide +kernel) ?_
  refine L_sld (i2 := 1) (v := x1) dL_law_351 (jin (by decide +kernel)) (by decide +kernel) hx1 ?_
  refine J_sload_n dL_law_352 rfl rfl ?_
  refine J_iload_n dL_law_353 rfl rfl ?_
  refine J_iconst (v := 2) dL_law_354 (by decide) ?_
  refine J_iadd (z := 2) dL_law_355 (by decide +kernel) ?_
  refine L_sld (i2 := 2) (v := x2) dL_law_356 (jin (by decide +kernel)) (by decide +kernel) hx2 ?_
  refine J_sload_n dL_law_357 rfl rfl ?_
  refine J_iload_n dL_law_358 rfl rfl ?_
  refine J_iconst (v := 3) dL_law_359 (by decide) ?_
  refine J_iadd (z := 3) dL_law_360 (by decide +kernel) ?_
  refine L_sld (i2 := 3) (v := x3) dL_law_361 (jin (by decide +kernel)) (by decide +kernel) hx3 ?_
  refine J_sload_n dL_law_362 rfl rfl ?_
  refine J_iload_n dL_law_363 rfl rfl ?_
  refine J_iconst (v := 4) dL_law_364 (by decide) ?_
  refine J_iadd (z := 4) dL_law_365 (by decide +kernel) ?_
  refine L_sld (i2 := 4) (v := x4) dL_law_366 (jin (by decide +kernel)) (by decide +kernel) hx4 ?_
  refine J_sload_n dL_law_367 rfl rfl ?_
  refine J_iload_n dL_law_368 rfl rfl ?_
  refine J_iconst (v := 5) dL_law_369 (by decide) ?_
  refine J_iadd (z := 5) dL_law_370 (by decide +kernel) ?_
  refine L_sld (i2 := 5) (v := x5) dL_law_371 (jin (by decide +kernel)) (by decide +kernel) hx5 ?_
  refine J_callV (st := [.int 20]) dL_law_372 cv_L_40 (c_X12_feed_1 (x1) b1 (x2) b2 (x3) b3 (x4) b4 (x5) b5 H0_98 H0_104 H0_105) H0_98 rfl rfl (Nat.le_of_ble_eq_true rfl) ⟨(Nat.le_of_ble_eq_true rfl), (Nat.le_of_ble_eq_true rfl)⟩ ⟨(Nat.le_of_ble_eq_true rfl), (Nat.le_of_ble_eq_true rfl)⟩ (fun r h9 hp => ?_)
  obtain ⟨rfl, rfl⟩ := hp
  refine J_nf (nh2 := 135) (ck2 := 135) (sk2 := 415506) (st2 := [.int 20, .int 20]) rfl rfl rfl rfl ?_
  refine J_app (L3 := [(98, .inr (12, [.int 0, .int 0, .ref 99, .ref 100, .ref 101, .ref 102, .ref 103, .ref 104, .ref 105, .int 20, .int (-1), .ref 106, .ref 107, .ref 108, .int 0, .int 0, .int 0, .int 0, .int 0, .int 0, .int 0, .ref 109, .int 0, .int 0, .ref 110, .ref 111, .ref 112, .ref 113, .ref 114, .ref 115, .ref 116, .ref 117, .int 0, .int 0, .int (-1), .int (-1), .ref 118, .ref 119, .ref 120, .ref 121, .ref 122, .ref 123, .ref 124, .ref 125, .ref 126, .ref 127, .ref 128, .ref 129, .int 0, .ref 130, .ref 131, .ref 132, .ref 133, .ref 134, .int 0, .int 0])), (104, .inl (3, 400, .inl (upd (upd (upd (upd (upd (upd (upd (upd (upd (upd (upd (upd (upd (upd (upd (upd (upd (upd (upd (upd (fun _ => 0) 0 (x1 >>> (24 &&& 31)).toInt8.toInt32.toInt8.toInt32) 1 (x1 >>> (16 &&& 31)).toInt8.toInt32.toInt8.toInt32) 2 (x1 >>> (8 &&& 31)).toInt8.toInt32.toInt8.toInt32) 3 (x1 >>> (0 &&& 31)).toInt8.toInt32.toInt8.toInt32) 4 (x2 >>> (24 &&& 31)).toInt8.toInt32.toInt8.toInt32) 5 (x2 >>> (16 &&& 31)).toInt8.toInt32.toInt8.toInt32) 6 (x2 >>> (8 &&& 31)).toInt8.toInt32.toInt8.toInt32) 7 (x2 >>> (0 &&& 31)).toInt8.toInt32.toInt8.toInt32) 8 (x3 >>> (24 &&& 31)).toInt8.toInt32.toInt8.toInt32) 9 (x3 >>> (16 &&& 31)).toInt8.toInt32.toInt8.toInt32) 10 (x3 >>> (8 &&& 31)).toInt8.toInt32.toInt8.toInt32) 11 (x3 >>> (0 &&& 31)).toInt8.toInt32.toInt8.toInt32) 12 (x4 >>> (24 &&& 31)).toInt8.toInt32.toInt8.toInt32) 13 (x4 >>> (16 &&& 31)).toInt8.toInt32.toInt8.toInt32) 14 (x4 >>> (8 &&& 31)).toInt8.toInt32.toInt8.toInt32) 15 (x4 >>> (0 &&& 31)).toInt8.toInt32.toInt8.toInt32) 16 (x5 >>> (24 &&& 31)).toInt8.toInt32.toInt8.toInt32) 17 (x5 >>> (16 &&& 31)).toInt8.toInt32.toInt8.toInt32) 18 (x5 >>> (8 &&& 31)).toInt8.toInt32.toInt8.toInt32) 19 (x5 >>> (0 &&& 31)).toInt8.toInt32.toInt8.toInt32))), (105, .inl (0, 5, .inl (upd (upd (upd (upd (upd (fun _ => 0) 0 x1) 1 x2) 2 x3) 3 x4) 4 x5))), (54, .inr (5, [.ref 55, .int 20, .int 17, .int 0, .int 0, .int 0, .int 0, .int (-1), .ref 56, .int 0])), (55, .inl (0, 400, .inl (upd (upd (upd (upd (upd (upd (upd (upd (upd (upd (upd (upd (upd (upd (upd (upd (upd (upd (upd (upd (fun _ => 0) 0 ((x1 >>> (24 &&& 31)) &&& 255)) 1 ((x1 >>> (16 &&& 31)) &&& 255)) 2 ((x1 >>> (8 &&& 31)) &&& 255)) 3 ((x1 >>> (0 &&& 31)) &&& 255)) 4 ((x2 >>> (24 &&& 31)) &&& 255)) 5 ((x2 >>> (16 &&& 31)) &&& 255)) 6 ((x2 >>> (8 &&& 31)) &&& 255)) 7 ((x2 >>> (0 &&& 31)) &&& 255)) 8 ((x3 >>> (24 &&& 31)) &&& 255)) 9 ((x3 >>> (16 &&& 31)) &&& 255)) 10 ((x3 >>> (8 &&& 31)) &&& 255)) 11 ((x3 >>> (0 &&& 31)) &&& 255)) 12 ((x4 >>> (24 &&& 31)) &&& 255)) 13 ((x4 >>> (16 &&& 31)) &&& 255)) 14 ((x4 >>> (8 &&& 31)) &&& 255)) 15 ((x4 >>> (0 &&& 31)) &&& 255)) 16 ((x5 >>> (24 &&& 31)) &&& 255)) 17 ((x5 >>> (16 &&& 31)) &&& 255)) 18 ((x5 >>> (8 &&& 31)) &&& 255)) 19 ((x5 >>> (0 &&& 31)) &&& 255))))]) rfl ?_
  refine J_icmp_eq (tgt := 1221) dL_law_375 (by decide) (fun _ => ?_) (fun q => absurd (by decide +kernel) q)
  exact law_tail (Nat.le_of_ble_eq_true rfl) (Nat.le_of_ble_eq_true rfl)
set_option maxHeartbeats 4000000 in
set_option maxRecDepth 100000 in
theorem law_case_6 {l : Launch} {G : jG} {b : Nat} {xs : Nat → Int32} (x1 : Int32) (hx1 : xs 1 = x1) : J l G ML_law room_1 (lE b 6 xs G) lQ (135, H0) 135 415506 380 [some (.retAddr 0), some (.ref 0), some (.ref 98), some (.int 0)] [] := by
  have r1 := i32_rng x1
  rcases i_cut x1.toInt 0 with h_0 | h_0
  · have b1 : (-2147483648) ≤ x1.toInt ∧ x1.toInt ≤ (-1) := ⟨by omega, by omega⟩
    refine J_hc0 ?_
    refine J_aload_n dL_law_380 rfl rfl ?_
    refine J_sload_n dL_law_381 rfl rfl ?_
    refine J_iload_n dL_law_382 rfl rfl ?_
    refine J_iconst (v := 1) dL_law_383 (by decide) ?_
    refine J_iadd (z := 1) dL_law_384 (by decide +kernel) ?_
    refine L_sld (i2 := 1) (v := x1) dL_law_385 (jin (by decide +kernel)) (by decide +kernel) hx1 ?_
    refine J_callV (st := []) dL_law_386 cv_L_41 (c_X11_end_1 (x1) b1 H0_0 H0_54) H0_0 rfl rfl (Nat.le_of_ble_eq_true rfl) ⟨(Nat.le_of_ble_eq_true rfl), (Nat.le_of_ble_eq_true rfl)⟩ ⟨(Nat.le_of_ble_eq_true rfl), (Nat.le_of_ble_eq_true rfl)⟩ (fun r h9 hp => ?_)
    obtain ⟨rfl, rfl⟩ := hp
    refine J_nf (nh2 := 135) (ck2 := 135) (sk2 := 415506) (st2 := [.int (-1)]) rfl rfl rfl rfl ?_
    refine J_aload_n dL_law_389 rfl rfl ?_
    refine J_sload_n dL_law_390 rfl rfl ?_
    refine J_iload_n dL_law_391 rfl rfl ?_
    refine J_iconst (v := 1) dL_law_392 (by decide) ?_
    refine J_iadd (z := 1) dL_law_393 (by decide +kernel) ?_
    refine L_sld (i2 := 1) (v := x1) dL_law_394 (jin (by decide +kernel)) (by decide +kernel) hx1 ?_
    refine J_callV (st := [.int (-1)]) dL_law_395 cv_L_44 (c_X12_end_1 (x1) b1 H0_98) H0_98 rfl rfl (Nat.le_of_ble_eq_true rfl) ⟨(Nat.le_of_ble_eq_true rfl), (Nat.le_of_ble_eq_true rfl)⟩ ⟨(Nat.le_of_ble_eq_true rfl), (Nat.le_of_ble_eq_true rfl)⟩ (fun r h9 hp => ?_)
    obtain ⟨rfl, rfl⟩ := hp
    refine J_nf (nh2 := 135) (ck2 := 135) (sk2 := 415506) (st2 := [.int (-1), .int (-1)]) rfl rfl rfl rfl ?_
    refine J_icmp_eq (tgt := 1221) dL_law_398 (by decide) (fun _ => ?_) (fun q => absurd (by decide +kernel) q)
    exact law_tail (Nat.le_of_ble_eq_true rfl) (Nat.le_of_ble_eq_true rfl)
  · rcases i_cut x1.toInt 1 with h_1 | h_1
    · obtain rfl : x1 = 0 := by rw [fa_eq, kc_0]; omega
      refine J_hc0 ?_
      refine J_aload_n dL_law_380 rfl rfl ?_
      refine J_sload_n dL_law_381 rfl rfl ?_
      refine J_iload_n dL_law_382 rfl rfl ?_
      refine J_iconst (v := 1) dL_law_383 (by decide) ?_
      refine J_iadd (z := 1) dL_law_384 (by decide +kernel) ?_
      refine L_sld (i2 := 1) (v := 0) dL_law_385 (jin (by decide +kernel)) (by decide +kernel) hx1 ?_
      refine J_callV (st := []) dL_law_386 cv_L_41 (c_X11_end_2 H0_0 H0_54) H0_0 rfl rfl (Nat.le_of_ble_eq_true rfl) ⟨(Nat.le_of_ble_eq_true rfl), (Nat.le_of_ble_eq_true rfl)⟩ ⟨(Nat.le_of_ble_eq_true rfl), (Nat.le_of_ble_eq_true rfl)⟩ (fun r h9 hp => ?_)
      obtain ⟨rfl, rfl⟩ := hp
      refine J_nf (nh2 := 135) (ck2 := 135) (sk2 := 415506) (st2 := [.int 0]) rfl rfl rfl rfl ?_
      refine J_app (L3 := [(54, .inr (5, [.ref 55, .int 0, .int 17, .int 0, .int 0, .int 0, .int 0, .int (-1), .ref 56, .int 0]))]) rfl ?_
      refine J_aload_n dL_law_389 rfl rfl ?_
      refine J_sload_n dL_law_390 rfl rfl ?_
      refine J_iload_n dL_law_391 rfl rfl ?_
      refine J_iconst (v := 1) dL_law_392 (by decide) ?_
      refine J_iadd (z := 1) dL_law_393 (by decide +kernel) ?_
      refine L_sld (i2 := 1) (v := 0) dL_law_394 (jin (by decide +kernel)) (by decide +kernel) hx1 ?_
      refine J_callV (st := [.int 0]) dL_law_395 cv_L_44 (c_X12_end_2 H0_98) H0_98 rfl rfl (Nat.le_of_ble_eq_true rfl) ⟨(Nat.le_of_ble_eq_true rfl), (Nat.le_of_ble_eq_true rfl)⟩ ⟨(Nat.le_of_ble_eq_true rfl), (Nat.le_of_ble_eq_true rfl)⟩ (fun r h9 hp => ?_)
      obtain ⟨rfl, rfl⟩ := hp
      refine J_nf (nh2 := 135) (ck2 := 135) (sk2 := 415506) (st2 := [.int 0, .int 0]) rfl rfl rfl rfl ?_
      refine J_app (L3 := [(98, .inr (12, [.int 0, .int 0, .ref 99, .ref 100, .ref 101, .ref 102, .ref 103, .ref 104, .ref 105, .int 0, .int (-1), .ref 106, .ref 107, .ref 108, .int 0, .int 0, .int 0, .int 0, .int 0, .int 0, .int 0, .ref 109, .int 0, .int 0, .ref 110, .ref 111, .ref 112, .ref 113, .ref 114, .ref 115, .ref 116, .ref 117, .int 0, .int 0, .int (-1), .int (-1), .ref 118, .ref 119, .ref 120, .ref 121, .ref 122, .ref 123, .ref 124, .ref 125, .ref 126, .ref 127, .ref 128, .ref 129, .int 0, .ref 130, .ref 131, .ref 132, .ref 133, .ref 134, .int 0, .int 0])), (54, .inr (5, [.ref 55, .int 0, .int 17, .int 0, .int 0, .int 0, .int 0, .int (-1), .ref 56, .int 0]))]) rfl ?_
      refine J_icmp_eq (tgt := 1221) dL_law_398 (by decide) (fun _ => ?_) (fun q => absurd (by decide +kernel) q)
      exact law_tail (Nat.le_of_ble_eq_true rfl) (Nat.le_of_ble_eq_true rfl)
    · have b1 : 1 ≤ x1.toInt ∧ x1.toInt ≤ 2147483647 := ⟨by omega, by omega⟩
      refine J_hc0 ?_
      refine J_aload_n dL_law_380 rfl rfl ?_
      refine J_sload_n dL_law_381 rfl rfl ?_
      refine J_iload_n dL_law_382 rfl rfl ?_
      refine J_iconst (v := 1) dL_law_383 (by decide) ?_
      refine J_iadd (z := 1) dL_law_384 (by decide +kernel) ?_
      refine L_sld (i2 := 1) (v := x1) dL_law_385 (jin (by decide +kernel)) (by decide +kernel) hx1 ?_
      refine J_callV (st := []) dL_law_386 cv_L_41 (c_X11_end_3 (x1) b1 H0_0 H0_54) H0_0 rfl rfl (Nat.le_of_ble_eq_true rfl) ⟨(Nat.le_of_ble_eq_true rfl), (Nat.le_of_ble_eq_true rfl)⟩ ⟨(Nat.le_of_ble_eq_true rfl), (Nat.le_of_ble_eq_true rfl)⟩ (fun r h9 hp => ?_)
      obtain ⟨rfl, rfl⟩ := hp
      refine J_nf (nh2 := 135) (ck2 := 135) (sk2 := 415506) (st2 := [.int (-1)]) rfl rfl rfl rfl ?_
      refine J_aload_n dL_law_389 rfl rfl ?_
      refine J_sload_n dL_law_390 rfl rfl ?_
      refine J_iload_n dL_law_391 rfl rfl ?_
      refine J_iconst (v := 1) dL_law_392 (by decide) ?_
      refine J_iadd (z := 1) dL_law_393 (by decide +kernel) ?_
      refine L_sld (i2 := 1) (v := x1) dL_law_394 (jin (by decide +kernel)) (by decide +kernel) hx1 ?_
      refine J_callV (st := [.int (-1)]) dL_law_395 cv_L_44 (c_X12_end_3 (x1) b1 H0_98) H0_98 rfl rfl (Nat.le_of_ble_eq_true rfl) ⟨(Nat.le_of_ble_eq_true rfl), (Nat.le_of_ble_eq_true rfl)⟩ ⟨(Nat.le_of_ble_eq_true rfl), (Nat.le_of_ble_eq_true rfl)⟩ (fun r h9 hp => ?_)
      obtain ⟨rfl, rfl⟩ := hp
      refine J_nf (nh2 := 135) (ck2 := 135) (sk2 := 415506) (st2 := [.int (-1), .int (-1)]) rfl rfl rfl rfl ?_
      refine J_icmp_eq (tgt := 1221) dL_law_398 (by decide) (fun _ => ?_) (fun q => absurd (by decide +kernel) q)
      exact law_tail (Nat.le_of_ble_eq_true rfl) (Nat.le_of_ble_eq_true rfl)
set_option maxHeartbeats 4000000 in
set_option maxRecDepth 100000 in
theorem law_case_7 {l : Launch} {G : jG} {b : Nat} {xs : Nat → Int32}  : J l G ML_law room_1 (lE b 6 xs G) lQ (135, H0) 135 415506 403 [some (.retAddr 0), some (.ref 0), some (.ref 98), some (.int 0)] [] := by
  refine J_hc0 ?_
  refine J_aload_n dL_law_403 rfl rfl ?_
  refine J_callV (st := []) dL_law_404 cv_L_45 (c_X11_row_1 H0_0 H0_54 H0_96) H0_0 rfl rfl (Nat.le_of_ble_eq_true rfl) ⟨(Nat.le_of_ble_eq_true rfl), (Nat.le_of_ble_eq_true rfl)⟩ ⟨(Nat.le_of_ble_eq_true rfl), (Nat.le_of_ble_eq_true rfl)⟩ (fun r h9 hp => ?_)
  obtain ⟨rfl, rfl⟩ := hp
  refine J_nf (nh2 := 135) (ck2 := 135) (sk2 := 415506) (st2 := [.int (-6)]) rfl rfl rfl rfl ?_
  refine J_app (L3 := [(96, .inl (0, 5, .inl (upd (fun _ => 0) 4 1))), (0, .inr (11, [.ref 1, .ref 17, .ref 50, .ref 51, .ref 54, .ref 57, .ref 65, .ref 75, .ref 81, .ref 85, .ref 88, .ref 93, .ref 96, .int (-6), .int (-1), .ref 97, .int 0])), (54, .inr (5, [.ref 55, .int 0, .int 17, .int 0, .int 0, .int 0, .int 0, .int (-1), .ref 56, .int 0]))]) rfl ?_
  refine J_aload_n dL_law_407 rfl rfl ?_
  refine J_callV (st := [.int (-6)]) dL_law_408 cv_L_48 (c_X12_row_1 H0_98 H0_99) H0_98 rfl rfl (Nat.le_of_ble_eq_true rfl) ⟨(Nat.le_of_ble_eq_true rfl), (Nat.le_of_ble_eq_true rfl)⟩ ⟨(Nat.le_of_ble_eq_true rfl), (Nat.le_of_ble_eq_true rfl)⟩ (fun r h9 hp => ?_)
  obtain ⟨rfl, rfl⟩ := hp
  refine J_nf (nh2 := 135) (ck2 := 135) (sk2 := 415506) (st2 := [.int (-6), .int (-6)]) rfl rfl rfl rfl ?_
  refine J_app (L3 := [(99, .inl (0, 7, .inl (upd (fun _ => 0) 6 1))), (98, .inr (12, [.int (-6), .int 0, .ref 99, .ref 100, .ref 101, .ref 102, .ref 103, .ref 104, .ref 105, .int 0, .int (-1), .ref 106, .ref 107, .ref 108, .int 0, .int 0, .int 0, .int 0, .int 0, .int 0, .int 0, .ref 109, .int 0, .int 0, .ref 110, .ref 111, .ref 112, .ref 113, .ref 114, .ref 115, .ref 116, .ref 117, .int 0, .int 0, .int (-1), .int (-1), .ref 118, .ref 119, .ref 120, .ref 121, .ref 122, .ref 123, .ref 124, .ref 125, .ref 126, .ref 127, .ref 128, .ref 129, .int 0, .ref 130, .ref 131, .ref 132, .ref 133, .ref 134, .int 0, .int 0])), (96, .inl (0, 5, .inl (upd (fun _ => 0) 4 1))), (0, .inr (11, [.ref 1, .ref 17, .ref 50, .ref 51, .ref 54, .ref 57, .ref 65, .ref 75, .ref 81, .ref 85, .ref 88, .ref 93, .ref 96, .int (-6), .int (-1), .ref 97, .int 0])), (54, .inr (5, [.ref 55, .int 0, .int 17, .int 0, .int 0, .int 0, .int 0, .int (-1), .ref 56, .int 0]))]) rfl ?_
  refine J_icmp_eq (tgt := 1221) dL_law_411 (by decide) (fun _ => ?_) (fun q => absurd (by decide +kernel) q)
  exact law_tail (Nat.le_of_ble_eq_true rfl) (Nat.le_of_ble_eq_true rfl)
set_option maxHeartbeats 4000000 in
set_option maxRecDepth 100000 in
theorem law_case_8 {l : Launch} {G : jG} {b : Nat} {xs : Nat → Int32}  : J l G ML_law room_1 (lE b 6 xs G) lQ (135, H0) 135 415506 416 [some (.retAddr 0), some (.ref 0), some (.ref 98), some (.int 0)] [] := by
  refine J_hc0 ?_
  refine J_aload_n dL_law_416 rfl rfl ?_
  refine J_callV (st := []) dL_law_417 cv_L_49 (c_X11_law_1 H0_0 H0_1 H0_54 H0_96) H0_0 rfl rfl (Nat.le_of_ble_eq_true rfl) ⟨(Nat.le_of_ble_eq_true rfl), (Nat.le_of_ble_eq_true rfl)⟩ ⟨(Nat.le_of_ble_eq_true rfl), (Nat.le_of_ble_eq_true rfl)⟩ (fun r h9 hp => ?_)
  obtain ⟨rfl, rfl⟩ := hp
  refine J_nf (nh2 := 135) (ck2 := 135) (sk2 := 415506) (st2 := [.int (-6)]) rfl rfl rfl rfl ?_
  refine J_app (L3 := [(96, .inl (0, 5, .inl (upd (fun _ => 0) 4 1))), (0, .inr (11, [.ref 1, .ref 17, .ref 50, .ref 51, .ref 54, .ref 57, .ref 65, .ref 75, .ref 81, .ref 85, .ref 88, .ref 93, .ref 96, .int (-6), .int 0, .ref 97, .int 0])), (54, .inr (5, [.ref 55, .int 0, .int 17, .int 0, .int 0, .int 0, .int 0, .int 0, .ref 56, .int 0]))]) rfl ?_
  refine J_aload_n dL_law_420 rfl rfl ?_
  refine J_callV (st := [.int (-6)]) dL_law_421 cv_L_52 (c_X12_law_1 H0_98 H0_99 H0_100 H0_106 H0_107 H0_108) H0_98 rfl rfl (Nat.le_of_ble_eq_true rfl) ⟨(Nat.le_of_ble_eq_true rfl), (Nat.le_of_ble_eq_true rfl)⟩ ⟨(Nat.le_of_ble_eq_true rfl), (Nat.le_of_ble_eq_true rfl)⟩ (fun r h9 hp => ?_)
  obtain ⟨rfl, rfl⟩ := hp
  refine J_nf (nh2 := 135) (ck2 := 135) (sk2 := 415506) (st2 := [.int (-6), .int (-6)]) rfl rfl rfl rfl ?_
  refine J_app (L3 := [(99, .inl (0, 7, .inl (upd (fun _ => 0) 6 1))), (98, .inr (12, [.int (-6), .int 0, .ref 99, .ref 100, .ref 101, .ref 102, .ref 103, .ref 104, .ref 105, .int 0, .int 0, .ref 106, .ref 107, .ref 108, .int 0, .int 0, .int 0, .int 0, .int 0, .int 0, .int 0, .ref 109, .int 0, .int 0, .ref 110, .ref 111, .ref 112, .ref 113, .ref 114, .ref 115, .ref 116, .ref 117, .int 0, .int 0, .int (-1), .int (-1), .ref 118, .ref 119, .ref 120, .ref 121, .ref 122, .ref 123, .ref 124, .ref 125, .ref 126, .ref 127, .ref 128, .ref 129, .int 0, .ref 130, .ref 131, .ref 132, .ref 133, .ref 134, .int 0, .int 0])), (107, .inl (0, 401, .inl (upd (fun _ => 0) 0 0))), (106, .inl (0, 401, .inl (upd (fun _ => 0) 0 0))), (108, .inl (0, 401, .inl (upd (fun _ => 0) 0 0))), (96, .inl (0, 5, .inl (upd (fun _ => 0) 4 1))), (0, .inr (11, [.ref 1, .ref 17, .ref 50, .ref 51, .ref 54, .ref 57, .ref 65, .ref 75, .ref 81, .ref 85, .ref 88, .ref 93, .ref 96, .int (-6), .int 0, .ref 97, .int 0])), (54, .inr (5, [.ref 55, .int 0, .int 17, .int 0, .int 0, .int 0, .int 0, .int 0, .ref 56, .int 0]))]) rfl ?_
  refine J_icmp_eq (tgt := 1221) dL_law_424 (by decide) (fun _ => ?_) (fun q => absurd (by decide +kernel) q)
  exact law_tail (Nat.le_of_ble_eq_true rfl) (Nat.le_of_ble_eq_true rfl)
set_option maxHeartbeats 4000000 in
set_option maxRecDepth 100000 in
theorem law_case_9 {l : Launch} {G : jG} {b : Nat} {xs : Nat → Int32}  : J l G ML_law room_1 (lE b 6 xs G) lQ (135, H0) 135 415506 429 [some (.retAddr 0), some (.ref 0), some (.ref 98), some (.int 0)] [] := by
  refine J_hc0 ?_
  refine J_aload_n dL_law_429 rfl rfl ?_
  refine J_callV (st := []) dL_law_430 cv_L_53 (c_X11_fault_1 H0_0) H0_0 rfl rfl (Nat.le_of_ble_eq_true rfl) ⟨(Nat.le_of_ble_eq_true rfl), (Nat.le_of_ble_eq_true rfl)⟩ ⟨(Nat.le_of_ble_eq_true rfl), (Nat.le_of_ble_eq_true rfl)⟩ (fun r h9 hp => ?_)
  obtain ⟨rfl, rfl⟩ := hp
  refine J_nf (nh2 := 135) (ck2 := 135) (sk2 := 415506) (st2 := [.int (-1)]) rfl rfl rfl rfl ?_
  refine J_aload_n dL_law_433 rfl rfl ?_
  refine J_callV (st := [.int (-1)]) dL_law_434 cv_L_56 (c_X12_fault_1 H0_98) H0_98 rfl rfl (Nat.le_of_ble_eq_true rfl) ⟨(Nat.le_of_ble_eq_true rfl), (Nat.le_of_ble_eq_true rfl)⟩ ⟨(Nat.le_of_ble_eq_true rfl), (Nat.le_of_ble_eq_true rfl)⟩ (fun r h9 hp => ?_)
  obtain ⟨rfl, rfl⟩ := hp
  refine J_nf (nh2 := 135) (ck2 := 135) (sk2 := 415506) (st2 := [.int (-1), .int (-1)]) rfl rfl rfl rfl ?_
  refine J_icmp_eq (tgt := 1221) dL_law_437 (by decide) (fun _ => ?_) (fun q => absurd (by decide +kernel) q)
  exact law_tail (Nat.le_of_ble_eq_true rfl) (Nat.le_of_ble_eq_true rfl)
set_option maxHeartbeats 4000000 in
set_option maxRecDepth 100000 in
theorem law_case_10 {l : Launch} {G : jG} {b : Nat} {xs : Nat → Int32} (x1 : Int32) (hx1 : xs 1 = x1) : J l G ML_law room_1 (lE b 6 xs G) lQ (135, H0) 135 415506 442 [some (.retAddr 0), some (.ref 0), some (.ref 98), some (.int 0)] [] := by
  have r1 := i32_rng x1
  rcases i_cut x1.toInt (-1) with h_0 | h_0
  · have b1 : (-2147483648) ≤ x1.toInt ∧ x1.toInt ≤ (-2) := ⟨by omega, by omega⟩
    refine J_hc0 ?_
    refine J_aload_n dL_law_442 rfl rfl ?_
    refine J_sload_n dL_law_443 rfl rfl ?_
    refine J_iload_n dL_law_444 rfl rfl ?_
    refine J_iconst (v := 1) dL_law_445 (by decide) ?_
    refine J_iadd (z := 1) dL_law_446 (by decide +kernel) ?_
    refine L_sld (i2 := 1) (v := x1) dL_law_447 (jin (by decide +kernel)) (by decide +kernel) hx1 ?_
    refine J_callV (st := []) dL_law_448 cv_L_57 (c_X11_force_1 (x1) b1 H0_0 H0_96) H0_0 rfl rfl (Nat.le_of_ble_eq_true rfl) ⟨(Nat.le_of_ble_eq_true rfl), (Nat.le_of_ble_eq_true rfl)⟩ ⟨(Nat.le_of_ble_eq_true rfl), (Nat.le_of_ble_eq_true rfl)⟩ (fun r h9 hp => ?_)
    obtain ⟨rfl, rfl⟩ := hp
    refine J_nf (nh2 := 135) (ck2 := 135) (sk2 := 415506) (st2 := [.int (-2)]) rfl rfl rfl rfl ?_
    refine J_app (L3 := [(96, .inl (0, 5, .inl (upd (fun _ => 0) 1 1))), (0, .inr (11, [.ref 1, .ref 17, .ref 50, .ref 51, .ref 54, .ref 57, .ref 65, .ref 75, .ref 81, .ref 85, .ref 88, .ref 93, .ref 96, .int (-2), .int (-1), .ref 97, .int 0]))]) rfl ?_
    refine J_aload_n dL_law_451 rfl rfl ?_
    refine J_sload_n dL_law_452 rfl rfl ?_
    refine J_iload_n dL_law_453 rfl rfl ?_
    refine J_iconst (v := 1) dL_law_454 (by decide) ?_
    refine J_iadd (z := 1) dL_law_455 (by decide +kernel) ?_
    refine L_sld (i2 := 1) (v := x1) dL_law_456 (jin (by decide +kernel)) (by decide +kernel) hx1 ?_
    refine J_callV (st := [.int (-2)]) dL_law_457 cv_L_60 (c_X12_force_1 (x1) b1 H0_98 H0_99 H0_100) H0_98 rfl rfl (Nat.le_of_ble_eq_true rfl) ⟨(Nat.le_of_ble_eq_true rfl), (Nat.le_of_ble_eq_true rfl)⟩ ⟨(Nat.le_of_ble_eq_true rfl), (Nat.le_of_ble_eq_true rfl)⟩ (fun r h9 hp => ?_)
    obtain ⟨rfl, rfl⟩ := hp
    refine J_nf (nh2 := 135) (ck2 := 135) (sk2 := 415506) (st2 := [.int (-2), .int (-2)]) rfl rfl rfl rfl ?_
    refine J_app (L3 := [(99, .inl (0, 7, .inl (upd (fun _ => 0) 2 1))), (98, .inr (12, [.int (-2), .int 0, .ref 99, .ref 100, .ref 101, .ref 102, .ref 103, .ref 104, .ref 105, .int 0, .int (-1), .ref 106, .ref 107, .ref 108, .int 0, .int 0, .int 0, .int 0, .int 0, .int 0, .int 0, .ref 109, .int 0, .int 0, .ref 110, .ref 111, .ref 112, .ref 113, .ref 114, .ref 115, .ref 116, .ref 117, .int 0, .int 0, .int (-1), .int (-1), .ref 118, .ref 119, .ref 120, .ref 121, .ref 122, .ref 123, .ref 124, .ref 125, .ref 126, .ref 127, .ref 128, .ref 129, .int 0, .ref 130, .ref 131, .ref 132, .ref 133, .ref 134, .int 0, .int 0])), (96, .inl (0, 5, .inl (upd (fun _ => 0) 1 1))), (0, .inr (11, [.ref 1, .ref 17, .ref 50, .ref 51, .ref 54, .ref 57, .ref 65, .ref 75, .ref 81, .ref 85, .ref 88, .ref 93, .ref 96, .int (-2), .int (-1), .ref 97, .int 0]))]) rfl ?_
    refine J_icmp_eq (tgt := 1221) dL_law_460 (by decide) (fun _ => ?_) (fun q => absurd (by decide +kernel) q)
    exact law_tail (Nat.le_of_ble_eq_true rfl) (Nat.le_of_ble_eq_true rfl)
  · rcases i_cut x1.toInt 0 with h_1 | h_1
    · obtain rfl : x1 = (-1) := by rw [fa_eq, kc_m1]; omega
      refine J_hc0 ?_
      refine J_aload_n dL_law_442 rfl rfl ?_
      refine J_sload_n dL_law_443 rfl rfl ?_
      refine J_iload_n dL_law_444 rfl rfl ?_
      refine J_iconst (v := 1) dL_law_445 (by decide) ?_
      refine J_iadd (z := 1) dL_law_446 (by decide +kernel) ?_
      refine L_sld (i2 := 1) (v := (-1)) dL_law_447 (jin (by decide +kernel)) (by decide +kernel) hx1 ?_
      refine J_callV (st := []) dL_law_448 cv_L_57 (c_X11_force_2 H0_0 H0_1 H0_57) H0_0 rfl rfl (Nat.le_of_ble_eq_true rfl) ⟨(Nat.le_of_ble_eq_true rfl), (Nat.le_of_ble_eq_true rfl)⟩ ⟨(Nat.le_of_ble_eq_true rfl), (Nat.le_of_ble_eq_true rfl)⟩ (fun r h9 hp => ?_)
      obtain ⟨rfl, rfl⟩ := hp
      refine J_nf (nh2 := 135) (ck2 := 135) (sk2 := 415506) (st2 := [.int (-1)]) rfl rfl rfl rfl ?_
      refine J_app (L3 := [(0, .inr (11, [.ref 1, .ref 17, .ref 50, .ref 51, .ref 54, .ref 57, .ref 65, .ref 75, .ref 81, .ref 85, .ref 88, .ref 93, .ref 96, .int 0, .int (-1), .ref 97, .int 0])), (57, .inr (9, [.ref 1, .ref 51, .ref 58, .ref 61, .ref 62, .ref 63, .ref 64, .int 1, .int 1, .int 1])), (1, .inr (8, [.ref 2, .ref 3, .ref 4, .int 0, .int (-1), .ref 11, .ref 12, .int 0, .ref 13, .ref 14, .int 0, .ref 15, .ref 16, .int 0]))]) rfl ?_
      refine J_aload_n dL_law_451 rfl rfl ?_
      refine J_sload_n dL_law_452 rfl rfl ?_
      refine J_iload_n dL_law_453 rfl rfl ?_
      refine J_iconst (v := 1) dL_law_454 (by decide) ?_
      refine J_iadd (z := 1) dL_law_455 (by decide +kernel) ?_
      refine L_sld (i2 := 1) (v := (-1)) dL_law_456 (jin (by decide +kernel)) (by decide +kernel) hx1 ?_
      refine J_callV (st := [.int (-1)]) dL_law_457 cv_L_60 (c_X12_force_2 H0_98 H0_100) H0_98 rfl rfl (Nat.le_of_ble_eq_true rfl) ⟨(Nat.le_of_ble_eq_true rfl), (Nat.le_of_ble_eq_true rfl)⟩ ⟨(Nat.le_of_ble_eq_true rfl), (Nat.le_of_ble_eq_true rfl)⟩ (fun r h9 hp => ?_)
      obtain ⟨rfl, rfl⟩ := hp
      refine J_nf (nh2 := 135) (ck2 := 135) (sk2 := 415506) (st2 := [.int (-1), .int (-1)]) rfl rfl rfl rfl ?_
      refine J_app (L3 := [(98, .inr (12, [.int 0, .int 1, .ref 99, .ref 100, .ref 101, .ref 102, .ref 103, .ref 104, .ref 105, .int 0, .int (-1), .ref 106, .ref 107, .ref 108, .int 0, .int 0, .int 0, .int 0, .int 0, .int 0, .int 0, .ref 109, .int 0, .int 0, .ref 110, .ref 111, .ref 112, .ref 113, .ref 114, .ref 115, .ref 116, .ref 117, .int 0, .int 0, .int (-1), .int (-1), .ref 118, .ref 119, .ref 120, .ref 121, .ref 122, .ref 123, .ref 124, .ref 125, .ref 126, .ref 127, .ref 128, .ref 129, .int 0, .ref 130, .ref 131, .ref 132, .ref 133, .ref 134, .int 0, .int 0])), (100, .inl (0, 4870, .inl (upd (upd (fun _ => 0) 63 (-1)) 63 (-1)))), (0, .inr (11, [.ref 1, .ref 17, .ref 50, .ref 51, .ref 54, .ref 57, .ref 65, .ref 75, .ref 81, .ref 85, .ref 88, .ref 93, .ref 96, .int 0, .int (-1), .ref 97, .int 0])), (57, .inr (9, [.ref 1, .ref 51, .ref 58, .ref 61, .ref 62, .ref 63, .ref 64, .int 1, .int 1, .int 1])), (1, .inr (8, [.ref 2, .ref 3, .ref 4, .int 0, .int (-1), .ref 11, .ref 12, .int 0, .ref 13, .ref 14, .int 0, .ref 15, .ref 16, .int 0]))]) rfl ?_
      refine J_icmp_eq (tgt := 1221) dL_law_460 (by decide) (fun _ => ?_) (fun q => absurd (by decide +kernel) q)
      exact law_tail (Nat.le_of_ble_eq_true rfl) (Nat.le_of_ble_eq_true rfl)
    · have b1 : 0 ≤ x1.toInt ∧ x1.toInt ≤ 2147483647 := ⟨by omega, by omega⟩
      refine J_hc0 ?_
      refine J_aload_n dL_law_442 rfl rfl ?_
      refine J_sload_n dL_law_443 rfl rfl ?_
      refine J_iload_n dL_law_444 rfl rfl ?_
      refine J_iconst (v := 1) dL_law_445 (by decide) ?_
      refine J_iadd (z := 1) dL_law_446 (by decide +kernel) ?_
      refine L_sld (i2 := 1) (v := x1) dL_law_447 (jin (by decide +kernel)) (by decide +kernel) hx1 ?_
      refine J_callV (st := []) dL_law_448 cv_L_57 (c_X11_force_3 (x1) b1 H0_0 H0_1 H0_96) H0_0 rfl rfl (Nat.le_of_ble_eq_true rfl) ⟨(Nat.le_of_ble_eq_true rfl), (Nat.le_of_ble_eq_true rfl)⟩ ⟨(Nat.le_of_ble_eq_true rfl), (Nat.le_of_ble_eq_true rfl)⟩ (fun r h9 hp => ?_)
      obtain ⟨rfl, rfl⟩ := hp
      refine J_nf (nh2 := 135) (ck2 := 135) (sk2 := 415506) (st2 := [.int (-2)]) rfl rfl rfl rfl ?_
      refine J_app (L3 := [(96, .inl (0, 5, .inl (upd (fun _ => 0) 1 1))), (0, .inr (11, [.ref 1, .ref 17, .ref 50, .ref 51, .ref 54, .ref 57, .ref 65, .ref 75, .ref 81, .ref 85, .ref 88, .ref 93, .ref 96, .int (-2), .int (-1), .ref 97, .int 0]))]) rfl ?_
      refine J_aload_n dL_law_451 rfl rfl ?_
      refine J_sload_n dL_law_452 rfl rfl ?_
      refine J_iload_n dL_law_453 rfl rfl ?_
      refine J_iconst (v := 1) dL_law_454 (by decide) ?_
      refine J_iadd (z := 1) dL_law_455 (by decide +kernel) ?_
      refine L_sld (i2 := 1) (v := x1) dL_law_456 (jin (by decide +kernel)) (by decide +kernel) hx1 ?_
      refine J_callV (st := [.int (-2)]) dL_law_457 cv_L_60 (c_X12_force_3 (x1) b1 H0_98 H0_99 H0_100) H0_98 rfl rfl (Nat.le_of_ble_eq_true rfl) ⟨(Nat.le_of_ble_eq_true rfl), (Nat.le_of_ble_eq_true rfl)⟩ ⟨(Nat.le_of_ble_eq_true rfl), (Nat.le_of_ble_eq_true rfl)⟩ (fun r h9 hp => ?_)
      obtain ⟨rfl, rfl⟩ := hp
      refine J_nf (nh2 := 135) (ck2 := 135) (sk2 := 415506) (st2 := [.int (-2), .int (-2)]) rfl rfl rfl rfl ?_
      refine J_app (L3 := [(99, .inl (0, 7, .inl (upd (fun _ => 0) 2 1))), (98, .inr (12, [.int (-2), .int 0, .ref 99, .ref 100, .ref 101, .ref 102, .ref 103, .ref 104, .ref 105, .int 0, .int (-1), .ref 106, .ref 107, .ref 108, .int 0, .int 0, .int 0, .int 0, .int 0, .int 0, .int 0, .ref 109, .int 0, .int 0, .ref 110, .ref 111, .ref 112, .ref 113, .ref 114, .ref 115, .ref 116, .ref 117, .int 0, .int 0, .int (-1), .int (-1), .ref 118, .ref 119, .ref 120, .ref 121, .ref 122, .ref 123, .ref 124, .ref 125, .ref 126, .ref 127, .ref 128, .ref 129, .int 0, .ref 130, .ref 131, .ref 132, .ref 133, .ref 134, .int 0, .int 0])), (96, .inl (0, 5, .inl (upd (fun _ => 0) 1 1))), (0, .inr (11, [.ref 1, .ref 17, .ref 50, .ref 51, .ref 54, .ref 57, .ref 65, .ref 75, .ref 81, .ref 85, .ref 88, .ref 93, .ref 96, .int (-2), .int (-1), .ref 97, .int 0]))]) rfl ?_
      refine J_icmp_eq (tgt := 1221) dL_law_460 (by decide) (fun _ => ?_) (fun q => absurd (by decide +kernel) q)
      exact law_tail (Nat.le_of_ble_eq_true rfl) (Nat.le_of_ble_eq_true rfl)
set_option maxHeartbeats 4000000 in
set_option maxRecDepth 100000 in
theorem law_case_11 {l : Launch} {G : jG} {b : Nat} {xs : Nat → Int32} (x1 : Int32) (hx1 : xs 1 = x1) (x2 : Int32) (hx2 : xs 2 = x2) : J l G ML_law room_1 (lE b 6 xs G) lQ (135, H0) 135 415506 465 [some (.retAddr 0), some (.ref 0), some (.ref 98), some (.int 0)] [] := by
  have r1 := i32_rng x1
  have r2 := i32_rng x2
  rcases i_cut x1.toInt 0 with h_0 | h_0
  · have b1 : (-2147483648) ≤ x1.toInt ∧ x1.toInt ≤ (-1) := ⟨by omega, by omega⟩
    have b2 : (-2147483648) ≤ x2.toInt ∧ x2.toInt ≤ 2147483647 := ⟨by omega, by omega⟩
    refine J_hc0 ?_
    refine J_aload_n dL_law_465 rfl rfl ?_
    refine J_sload_n dL_law_466 rfl rfl ?_
    refine J_iload_n dL_law_467 rfl rfl ?_
    refine J_iconst (v := 1) dL_law_468 (by decide) ?_
    refine J_iadd (z := 1) dL_law_469 (by decide +kernel) ?_
    refine L_sld (i2 := 1) (v := x1) dL_law_470 (jin (by decide +kernel)) (by decide +kernel) hx1 ?_
    refine J_sload_n dL_law_471 rfl rfl ?_
    refine J_iload_n dL_law_472 rfl rfl ?_
    refine J_iconst (v := 2) dL_law_473 (by decide) ?_
    refine J_iadd (z := 2) dL_law_474 (by decide +kernel) ?_
    refine L_sld (i2 := 2) (v := x2) dL_law_475 (jin (by decide +kernel)) (by decide +kernel) hx2 ?_
    refine J_callV (st := []) dL_law_476 cv_L_61 (c_X11_wall_1 (x1) b1 (x2) b2 H0_0 H0_51 H0_96) H0_0 rfl rfl (Nat.le_of_ble_eq_true rfl) ⟨(Nat.le_of_ble_eq_true rfl), (Nat.le_of_ble_eq_true rfl)⟩ ⟨(Nat.le_of_ble_eq_true rfl), (Nat.le_of_ble_eq_true rfl)⟩ (fun r h9 hp => ?_)
    obtain ⟨rfl, rfl⟩ := hp
    refine J_nf (nh2 := 135) (ck2 := 135) (sk2 := 415506) (st2 := [.int (-2)]) rfl rfl rfl rfl ?_
    refine J_app (L3 := [(96, .inl (0, 5, .inl (upd (fun _ => 0) 1 1))), (0, .inr (11, [.ref 1, .ref 17, .ref 50, .ref 51, .ref 54, .ref 57, .ref 65, .ref 75, .ref 81, .ref 85, .ref 88, .ref 93, .ref 96, .int (-2), .int (-1), .ref 97, .int 0]))]) rfl ?_
    refine J_aload_n dL_law_479 rfl rfl ?_
    refine J_sload_n dL_law_480 rfl rfl ?_
    refine J_iload_n dL_law_481 rfl rfl ?_
    refine J_iconst (v := 1) dL_law_482 (by decide) ?_
    refine J_iadd (z := 1) dL_law_483 (by decide +kernel) ?_
    refine L_sld (i2 := 1) (v := x1) dL_law_484 (jin (by decide +kernel)) (by decide +kernel) hx1 ?_
    refine J_sload_n dL_law_485 rfl rfl ?_
    refine J_iload_n dL_law_486 rfl rfl ?_
    refine J_iconst (v := 2) dL_law_487 (by decide) ?_
    refine J_iadd (z := 2) dL_law_488 (by decide +kernel) ?_
    refine L_sld (i2 := 2) (v := x2) dL_law_489 (jin (by decide +kernel)) (by decide +kernel) hx2 ?_
    refine J_callV (st := [.int (-2)]) dL_law_490 cv_L_64 (c_X12_wall_1 (x1) b1 (x2) b2 H0_98 H0_99 H0_100 H0_111) H0_98 rfl rfl (Nat.le_of_ble_eq_true rfl) ⟨(Nat.le_of_ble_eq_true rfl), (Nat.le_of_ble_eq_true rfl)⟩ ⟨(Nat.le_of_ble_eq_true rfl), (Nat.le_of_ble_eq_true rfl)⟩ (fun r h9 hp => ?_)
    obtain ⟨rfl, rfl⟩ := hp
    refine J_nf (nh2 := 135) (ck2 := 135) (sk2 := 415506) (st2 := [.int (-2), .int (-2)]) rfl rfl rfl rfl ?_
    refine J_app (L3 := [(99, .inl (0, 7, .inl (upd (fun _ => 0) 2 1))), (98, .inr (12, [.int (-2), .int 0, .ref 99, .ref 100, .ref 101, .ref 102, .ref 103, .ref 104, .ref 105, .int 0, .int (-1), .ref 106, .ref 107, .ref 108, .int 0, .int 0, .int 0, .int 0, .int 0, .int 0, .int 0, .ref 109, .int 0, .int 0, .ref 110, .ref 111, .ref 112, .ref 113, .ref 114, .ref 115, .ref 116, .ref 117, .int 1, .int 0, .int 0, .int (-1), .ref 118, .ref 119, .ref 120, .ref 121, .ref 122, .ref 123, .ref 124, .ref 125, .ref 126, .ref 127, .ref 128, .ref 129, .int 0, .ref 130, .ref 131, .ref 132, .ref 133, .ref 134, .int 0, .int 0])), (111, .inl (0, 1260, .inl (upd (fun _ => 0) 0 0))), (96, .inl (0, 5, .inl (upd (fun _ => 0) 1 1))), (0, .inr (11, [.ref 1, .ref 17, .ref 50, .ref 51, .ref 54, .ref 57, .ref 65, .ref 75, .ref 81, .ref 85, .ref 88, .ref 93, .ref 96, .int (-2), .int (-1), .ref 97, .int 0]))]) rfl ?_
    refine J_icmp_eq (tgt := 1221) dL_law_493 (by decide) (fun _ => ?_) (fun q => absurd (by decide +kernel) q)
    exact law_tail (Nat.le_of_ble_eq_true rfl) (Nat.le_of_ble_eq_true rfl)
  · rcases i_cut x1.toInt 1 with h_1 | h_1
    · rcases i_cut x2.toInt 0 with h_2 | h_2
      · obtain rfl : x1 = 0 := by rw [fa_eq, kc_0]; omega
        have b2 : (-2147483648) ≤ x2.toInt ∧ x2.toInt ≤ (-1) := ⟨by omega, by omega⟩
        refine J_hc0 ?_
        refine J_aload_n dL_law_465 rfl rfl ?_
        refine J_sload_n dL_law_466 rfl rfl ?_
        refine J_iload_n dL_law_467 rfl rfl ?_
        refine J_iconst (v := 1) dL_law_468 (by decide) ?_
        refine J_iadd (z := 1) dL_law_469 (by decide +kernel) ?_
        refine L_sld (i2 := 1) (v := 0) dL_law_470 (jin (by decide +kernel)) (by decide +kernel) hx1 ?_
        refine J_sload_n dL_law_471 rfl rfl ?_
        refine J_iload_n dL_law_472 rfl rfl ?_
        refine J_iconst (v := 2) dL_law_473 (by decide) ?_
        refine J_iadd (z := 2) dL_law_474 (by decide +kernel) ?_
        refine L_sld (i2 := 2) (v := x2) dL_law_475 (jin (by decide +kernel)) (by decide +kernel) hx2 ?_
        refine J_callV (st := []) dL_law_476 cv_L_61 (c_X11_wall_2 (x2) b2 H0_0 H0_51 H0_96) H0_0 rfl rfl (Nat.le_of_ble_eq_true rfl) ⟨(Nat.le_of_ble_eq_true rfl), (Nat.le_of_ble_eq_true rfl)⟩ ⟨(Nat.le_of_ble_eq_true rfl), (Nat.le_of_ble_eq_true rfl)⟩ (fun r h9 hp => ?_)
        obtain ⟨rfl, rfl⟩ := hp
        refine J_nf (nh2 := 135) (ck2 := 135) (sk2 := 415506) (st2 := [.int (-2)]) rfl rfl rfl rfl ?_
        refine J_app (L3 := [(96, .inl (0, 5, .inl (upd (fun _ => 0) 1 1))), (0, .inr (11, [.ref 1, .ref 17, .ref 50, .ref 51, .ref 54, .ref 57, .ref 65, .ref 75, .ref 81, .ref 85, .ref 88, .ref 93, .ref 96, .int (-2), .int (-1), .ref 97, .int 0]))]) rfl ?_
        refine J_aload_n dL_law_479 rfl rfl ?_
        refine J_sload_n dL_law_480 rfl rfl ?_
        refine J_iload_n dL_law_481 rfl rfl ?_
        refine J_iconst (v := 1) dL_law_482 (by decide) ?_
        refine J_iadd (z := 1) dL_law_483 (by decide +kernel) ?_
        refine L_sld (i2 := 1) (v := 0) dL_law_484 (jin (by decide +kernel)) (by decide +kernel) hx1 ?_
        refine J_sload_n dL_law_485 rfl rfl ?_
        refine J_iload_n dL_law_486 rfl rfl ?_
        refine J_iconst (v := 2) dL_law_487 (by decide) ?_
        refine J_iadd (z := 2) dL_law_488 (by decide +kernel) ?_
        refine L_sld (i2 := 2) (v := x2) dL_law_489 (jin (by decide +kernel)) (by decide +kernel) hx2 ?_
        refine J_callV (st := [.int (-2)]) dL_law_490 cv_L_64 (c_X12_wall_2 (x2) b2 H0_98 H0_99 H0_100 H0_111) H0_98 rfl rfl (Nat.le_of_ble_eq_true rfl) ⟨(Nat.le_of_ble_eq_true rfl), (Nat.le_of_ble_eq_true rfl)⟩ ⟨(Nat.le_of_ble_eq_true rfl), (Nat.le_of_ble_eq_true rfl)⟩ (fun r h9 hp => ?_)
        obtain ⟨rfl, rfl⟩ := hp
        refine J_nf (nh2 := 135) (ck2 := 135) (sk2 := 415506) (st2 := [.int (-2), .int (-2)]) rfl rfl rfl rfl ?_
        refine J_app (L3 := [(99, .inl (0, 7, .inl (upd (fun _ => 0) 2 1))), (98, .inr (12, [.int (-2), .int 0, .ref 99, .ref 100, .ref 101, .ref 102, .ref 103, .ref 104, .ref 105, .int 0, .int (-1), .ref 106, .ref 107, .ref 108, .int 0, .int 0, .int 0, .int 0, .int 0, .int 0, .int 0, .ref 109, .int 0, .int 0, .ref 110, .ref 111, .ref 112, .ref 113, .ref 114, .ref 115, .ref 116, .ref 117, .int 1, .int 0, .int 0, .int (-1), .ref 118, .ref 119, .ref 120, .ref 121, .ref 122, .ref 123, .ref 124, .ref 125, .ref 126, .ref 127, .ref 128, .ref 129, .int 0, .ref 130, .ref 131, .ref 132, .ref 133, .ref 134, .int 0, .int 0])), (111, .inl (0, 1260, .inl (upd (fun _ => 0) 0 0))), (96, .inl (0, 5, .inl (upd (fun _ => 0) 1 1))), (0, .inr (11, [.ref 1, .ref 17, .ref 50, .ref 51, .ref 54, .ref 57, .ref 65, .ref 75, .ref 81, .ref 85, .ref 88, .ref 93, .ref 96, .int (-2), .int (-1), .ref 97, .int 0]))]) rfl ?_
        refine J_icmp_eq (tgt := 1221) dL_law_493 (by decide) (fun _ => ?_) (fun q => absurd (by decide +kernel) q)
        exact law_tail (Nat.le_of_ble_eq_true rfl) (Nat.le_of_ble_eq_true rfl)
      · rcases i_cut x2.toInt 1 with h_3 | h_3
        · obtain rfl : x1 = 0 := by rw [fa_eq, kc_0]; omega
          obtain rfl : x2 = 0 := by rw [fa_eq, kc_0]; omega
          refine J_hc0 ?_
          refine J_aload_n dL_law_465 rfl rfl ?_
          refine J_sload_n dL_law_466 rfl rfl ?_
          refine J_iload_n dL_law_467 rfl rfl ?_
          refine J_iconst (v := 1) dL_law_468 (by decide) ?_
          refine J_iadd (z := 1) dL_law_469 (by decide +kernel) ?_
          refine L_sld (i2 := 1) (v := 0) dL_law_470 (jin (by decide +kernel)) (by decide +kernel) hx1 ?_
          refine J_sload_n dL_law_471 rfl rfl ?_
          refine J_iload_n dL_law_472 rfl rfl ?_
          refine J_iconst (v := 2) dL_law_473 (by decide) ?_
          refine J_iadd (z := 2) dL_law_474 (by decide +kernel) ?_
          refine L_sld (i2 := 2) (v := 0) dL_law_475 (jin (by decide +kernel)) (by decide +kernel) hx2 ?_
          refine J_callV (st := []) dL_law_476 cv_L_61 (c_X11_wall_3 H0_0 H0_51 H0_96) H0_0 rfl rfl (Nat.le_of_ble_eq_true rfl) ⟨(Nat.le_of_ble_eq_true rfl), (Nat.le_of_ble_eq_true rfl)⟩ ⟨(Nat.le_of_ble_eq_true rfl), (Nat.le_of_ble_eq_true rfl)⟩ (fun r h9 hp => ?_)
          obtain ⟨rfl, rfl⟩ := hp
          refine J_nf (nh2 := 135) (ck2 := 135) (sk2 := 415506) (st2 := [.int (-3)]) rfl rfl rfl rfl ?_
          refine J_app (L3 := [(96, .inl (0, 5, .inl (upd (fun _ => 0) 2 1))), (0, .inr (11, [.ref 1, .ref 17, .ref 50, .ref 51, .ref 54, .ref 57, .ref 65, .ref 75, .ref 81, .ref 85, .ref 88, .ref 93, .ref 96, .int (-3), .int (-1), .ref 97, .int 0]))]) rfl ?_
          refine J_aload_n dL_law_479 rfl rfl ?_
          refine J_sload_n dL_law_480 rfl rfl ?_
          refine J_iload_n dL_law_481 rfl rfl ?_
          refine J_iconst (v := 1) dL_law_482 (by decide) ?_
          refine J_iadd (z := 1) dL_law_483 (by decide +kernel) ?_
          refine L_sld (i2 := 1) (v := 0) dL_law_484 (jin (by decide +kernel)) (by decide +kernel) hx1 ?_
          refine J_sload_n dL_law_485 rfl rfl ?_
          refine J_iload_n dL_law_486 rfl rfl ?_
          refine J_iconst (v := 2) dL_law_487 (by decide) ?_
          refine J_iadd (z := 2) dL_law_488 (by decide +kernel) ?_
          refine L_sld (i2 := 2) (v := 0) dL_law_489 (jin (by decide +kernel)) (by decide +kernel) hx2 ?_
          refine J_callV (st := [.int (-3)]) dL_law_490 cv_L_64 (c_X12_wall_3 H0_98 H0_99 H0_100 H0_111) H0_98 rfl rfl (Nat.le_of_ble_eq_true rfl) ⟨(Nat.le_of_ble_eq_true rfl), (Nat.le_of_ble_eq_true rfl)⟩ ⟨(Nat.le_of_ble_eq_true rfl), (Nat.le_of_ble_eq_true rfl)⟩ (fun r h9 hp => ?_)
          obtain ⟨rfl, rfl⟩ := hp
          refine J_nf (nh2 := 135) (ck2 := 135) (sk2 := 415506) (st2 := [.int (-3), .int (-3)]) rfl rfl rfl rfl ?_
          refine J_app (L3 := [(99, .inl (0, 7, .inl (upd (fun _ => 0) 3 1))), (98, .inr (12, [.int (-3), .int 0, .ref 99, .ref 100, .ref 101, .ref 102, .ref 103, .ref 104, .ref 105, .int 0, .int (-1), .ref 106, .ref 107, .ref 108, .int 0, .int 0, .int 0, .int 0, .int 0, .int 0, .int 0, .ref 109, .int 0, .int 0, .ref 110, .ref 111, .ref 112, .ref 113, .ref 114, .ref 115, .ref 116, .ref 117, .int 1, .int 0, .int 0, .int (-1), .ref 118, .ref 119, .ref 120, .ref 121, .ref 122, .ref 123, .ref 124, .ref 125, .ref 126, .ref 127, .ref 128, .ref 129, .int 0, .ref 130, .ref 131, .ref 132, .ref 133, .ref 134, .int 0, .int 0])), (111, .inl (0, 1260, .inl (upd (fun _ => 0) 0 0))), (96, .inl (0, 5, .inl (upd (fun _ => 0) 2 1))), (0, .inr (11, [.ref 1, .ref 17, .ref 50, .ref 51, .ref 54, .ref 57, .ref 65, .ref 75, .ref 81, .ref 85, .ref 88, .ref 93, .ref 96, .int (-3), .int (-1), .ref 97, .int 0]))]) rfl ?_
          refine J_icmp_eq (tgt := 1221) dL_law_493 (by decide) (fun _ => ?_) (fun q => absurd (by decide +kernel) q)
          exact law_tail (Nat.le_of_ble_eq_true rfl) (Nat.le_of_ble_eq_true rfl)
        · obtain rfl : x1 = 0 := by rw [fa_eq, kc_0]; omega
          have b2 : 1 ≤ x2.toInt ∧ x2.toInt ≤ 2147483647 := ⟨by omega, by omega⟩
          refine J_hc0 ?_
          refine J_aload_n dL_law_465 rfl rfl ?_
          refine J_sload_n dL_law_466 rfl rfl ?_
          refine J_iload_n dL_law_467 rfl rfl ?_
          refine J_iconst (v := 1) dL_law_468 (by decide) ?_
          refine J_iadd (z := 1) dL_law_469 (by decide +kernel) ?_
          refine L_sld (i2 := 1) (v := 0) dL_law_470 (jin (by decide +kernel)) (by decide +kernel) hx1 ?_
          refine J_sload_n dL_law_471 rfl rfl ?_
          refine J_iload_n dL_law_472 rfl rfl ?_
          refine J_iconst (v := 2) dL_law_473 (by decide) ?_
          refine J_iadd (z := 2) dL_law_474 (by decide +kernel) ?_
          refine L_sld (i2 := 2) (v := x2) dL_law_475 (jin (by decide +kernel)) (by decide +kernel) hx2 ?_
          refine J_callV (st := []) dL_law_476 cv_L_61 (c_X11_wall_4 (x2) b2 H0_0 H0_51 H0_96) H0_0 rfl rfl (Nat.le_of_ble_eq_true rfl) ⟨(Nat.le_of_ble_eq_true rfl), (Nat.le_of_ble_eq_true rfl)⟩ ⟨(Nat.le_of_ble_eq_true rfl), (Nat.le_of_ble_eq_true rfl)⟩ (fun r h9 hp => ?_)
          obtain ⟨rfl, rfl⟩ := hp
          refine J_nf (nh2 := 135) (ck2 := 135) (sk2 := 415506) (st2 := [.int (-2)]) rfl rfl rfl rfl ?_
          refine J_app (L3 := [(96, .inl (0, 5, .inl (upd (fun _ => 0) 1 1))), (0, .inr (11, [.ref 1, .ref 17, .ref 50, .ref 51, .ref 54, .ref 57, .ref 65, .ref 75, .ref 81, .ref 85, .ref 88, .ref 93, .ref 96, .int (-2), .int (-1), .ref 97, .int 0]))]) rfl ?_
          refine J_aload_n dL_law_479 rfl rfl ?_
          refine J_sload_n dL_law_480 rfl rfl ?_
          refine J_iload_n dL_law_481 rfl rfl ?_
          refine J_iconst (v := 1) dL_law_482 (by decide) ?_
          refine J_iadd (z := 1) dL_law_483 (by decide +kernel) ?_
          refine L_sld (i2 := 1) (v := 0) dL_law_484 (jin (by decide +kernel)) (by decide +kernel) hx1 ?_
          refine J_sload_n dL_law_485 rfl rfl ?_
          refine J_iload_n dL_law_486 rfl rfl ?_
          refine J_iconst (v := 2) dL_law_487 (by decide) ?_
          refine J_iadd (z := 2) dL_law_488 (by decide +kernel) ?_
          refine L_sld (i2 := 2) (v := x2) dL_law_489 (jin (by decide +kernel)) (by decide +kernel) hx2 ?_
          refine J_callV (st := [.int (-2)]) dL_law_490 cv_L_64 (c_X12_wall_4 (x2) b2 H0_98 H0_99 H0_100 H0_111) H0_98 rfl rfl (Nat.le_of_ble_eq_true rfl) ⟨(Nat.le_of_ble_eq_true rfl), (Nat.le_of_ble_eq_true rfl)⟩ ⟨(Nat.le_of_ble_eq_true rfl), (Nat.le_of_ble_eq_true rfl)⟩ (fun r h9 hp => ?_)
          obtain ⟨rfl, rfl⟩ := hp
          refine J_nf (nh2 := 135) (ck2 := 135) (sk2 := 415506) (st2 := [.int (-2), .int (-2)]) rfl rfl rfl rfl ?_
          refine J_app (L3 := [(99, .inl (0, 7, .inl (upd (fun _ => 0) 2 1))), (98, .inr (12, [.int (-2), .int 0, .ref 99, .ref 100, .ref 101, .ref 102, .ref 103, .ref 104, .ref 105, .int 0, .int (-1), .ref 106, .ref 107, .ref 108, .int 0, .int 0, .int 0, .int 0, .int 0, .int 0, .int 0, .ref 109, .int 0, .int 0, .ref 110, .ref 111, .ref 112, .ref 113, .ref 114, .ref 115, .ref 116, .ref 117, .int 1, .int 0, .int 0, .int (-1), .ref 118, .ref 119, .ref 120, .ref 121, .ref 122, .ref 123, .ref 124, .ref 125, .ref 126, .ref 127, .ref 128, .ref 129, .int 0, .ref 130, .ref 131, .ref 132, .ref 133, .ref 134, .int 0, .int 0])), (111, .inl (0, 1260, .inl (upd (fun _ => 0) 0 0))), (96, .inl (0, 5, .inl (upd (fun _ => 0) 1 1))), (0, .inr (11, [.ref 1, .ref 17, .ref 50, .ref 51, .ref 54, .ref 57, .ref 65, .ref 75, .ref 81, .ref 85, .ref 88, .ref 93, .ref 96, .int (-2), .int (-1), .ref 97, .int 0]))]) rfl ?_
          refine J_icmp_eq (tgt := 1221) dL_law_493 (by decide) (fun _ => ?_) (fun q => absurd (by decide +kernel) q)
          exact law_tail (Nat.le_of_ble_eq_true rfl) (Nat.le_of_ble_eq_true rfl)
    · have b1 : 1 ≤ x1.toInt ∧ x1.toInt ≤ 2147483647 := ⟨by omega, by omega⟩
      have b2 : (-2147483648) ≤ x2.toInt ∧ x2.toInt ≤ 2147483647 := ⟨by omega, by omega⟩
      refine J_hc0 ?_
      refine J_aload_n dL_law_465 rfl rfl ?_
      refine J_sload_n dL_law_466 rfl rfl ?_
      refine J_iload_n dL_law_467 rfl rfl ?_
      refine J_iconst (v := 1) dL_law_468 (by decide) ?_
      refine J_iadd (z := 1) dL_law_469 (by decide +kernel) ?_
      refine L_sld (i2 := 1) (v := x1) dL_law_470 (jin (by decide +kernel)) (by decide +kernel) hx1 ?_
      refine J_sload_n dL_law_471 rfl rfl ?_
      refine J_iload_n dL_law_472 rfl rfl ?_
      refine J_iconst (v := 2) dL_law_473 (by decide) ?_
      refine J_iadd (z := 2) dL_law_474 (by decide +kernel) ?_
      refine L_sld (i2 := 2) (v := x2) dL_law_475 (jin (by decide +kernel)) (by decide +kernel) hx2 ?_
      refine J_callV (st := []) dL_law_476 cv_L_61 (c_X11_wall_5 (x1) b1 (x2) b2 H0_0 H0_51 H0_96) H0_0 rfl rfl (Nat.le_of_ble_eq_true rfl) ⟨(Nat.le_of_ble_eq_true rfl), (Nat.le_of_ble_eq_true rfl)⟩ ⟨(Nat.le_of_ble_eq_true rfl), (Nat.le_of_ble_eq_true rfl)⟩ (fun r h9 hp => ?_)
      obtain ⟨rfl, rfl⟩ := hp
      refine J_nf (nh2 := 135) (ck2 := 135) (sk2 := 415506) (st2 := [.int (-2)]) rfl rfl rfl rfl ?_
      refine J_app (L3 := [(96, .inl (0, 5, .inl (upd (fun _ => 0) 1 1))), (0, .inr (11, [.ref 1, .ref 17, .ref 50, .ref 51, .ref 54, .ref 57, .ref 65, .ref 75, .ref 81, .ref 85, .ref 88, .ref 93, .ref 96, .int (-2), .int (-1), .ref 97, .int 0]))]) rfl ?_
      refine J_aload_n dL_law_479 rfl rfl ?_
      refine J_sload_n dL_law_480 rfl rfl ?_
      refine J_iload_n dL_law_481 rfl rfl ?_
      refine J_iconst (v := 1) dL_law_482 (by decide) ?_
      refine J_iadd (z := 1) dL_law_483 (by decide +kernel) ?_
      refine L_sld (i2 := 1) (v := x1) dL_law_484 (jin (by decide +kernel)) (by decide +kernel) hx1 ?_
      refine J_sload_n dL_law_485 rfl rfl ?_
      refine J_iload_n dL_law_486 rfl rfl ?_
      refine J_iconst (v := 2) dL_law_487 (by decide) ?_
      refine J_iadd (z := 2) dL_law_488 (by decide +kernel) ?_
      refine L_sld (i2 := 2) (v := x2) dL_law_489 (jin (by decide +kernel)) (by decide +kernel) hx2 ?_
      refine J_callV (st := [.int (-2)]) dL_law_490 cv_L_64 (c_X12_wall_5 (x1) b1 (x2) b2 H0_98 H0_99 H0_100 H0_111) H0_98 rfl rfl (Nat.le_of_ble_eq_true rfl) ⟨(Nat.le_of_ble_eq_true rfl), (Nat.le_of_ble_eq_true rfl)⟩ ⟨(Nat.le_of_ble_eq_true rfl), (Nat.le_of_ble_eq_true rfl)⟩ (fun r h9 hp => ?_)
      obtain ⟨rfl, rfl⟩ := hp
      refine J_nf (nh2 := 135) (ck2 := 135) (sk2 := 415506) (st2 := [.int (-2), .int (-2)]) rfl rfl rfl rfl ?_
      refine J_app (L3 := [(99, .inl (0, 7, .inl (upd (fun _ => 0) 2 1))), (98, .inr (12, [.int (-2), .int 0, .ref 99, .ref 100, .ref 101, .ref 102, .ref 103, .ref 104, .ref 105, .int 0, .int (-1), .ref 106, .ref 107, .ref 108, .int 0, .int 0, .int 0, .int 0, .int 0, .int 0, .int 0, .ref 109, .int 0, .int 0, .ref 110, .ref 111, .ref 112, .ref 113, .ref 114, .ref 115, .ref 116, .ref 117, .int 1, .int 0, .int 0, .int (-1), .ref 118, .ref 119, .ref 120, .ref 121, .ref 122, .ref 123, .ref 124, .ref 125, .ref 126, .ref 127, .ref 128, .ref 129, .int 0, .ref 130, .ref 131, .ref 132, .ref 133, .ref 134, .int 0, .int 0])), (111, .inl (0, 1260, .inl (upd (fun _ => 0) 0 0))), (96, .inl (0, 5, .inl (upd (fun _ => 0) 1 1))), (0, .inr (11, [.ref 1, .ref 17, .ref 50, .ref 51, .ref 54, .ref 57, .ref 65, .ref 75, .ref 81, .ref 85, .ref 88, .ref 93, .ref 96, .int (-2), .int (-1), .ref 97, .int 0]))]) rfl ?_
      refine J_icmp_eq (tgt := 1221) dL_law_493 (by decide) (fun _ => ?_) (fun q => absurd (by decide +kernel) q)
      exact law_tail (Nat.le_of_ble_eq_true rfl) (Nat.le_of_ble_eq_true rfl)
set_option maxHeartbeats 4000000 in
set_option maxRecDepth 100000 in
theorem law_case_12 {l : Launch} {G : jG} {b : Nat} {xs : Nat → Int32} (x1 : Int32) (hx1 : xs 1 = x1) (x2 : Int32) (hx2 : xs 2 = x2) : J l G ML_law room_1 (lE b 6 xs G) lQ (135, H0) 135 415506 498 [some (.retAddr 0), some (.ref 0), some (.ref 98), some (.int 0)] [] := by
  have r1 := i32_rng x1
  have r2 := i32_rng x2
  rcases i_cut x1.toInt 0 with h_0 | h_0
  · have b1 : (-2147483648) ≤ x1.toInt ∧ x1.toInt ≤ (-1) := ⟨by omega, by omega⟩
    have b2 : (-2147483648) ≤ x2.toInt ∧ x2.toInt ≤ 2147483647 := ⟨by omega, by omega⟩
    refine J_hc0 ?_
    refine J_aload_n dL_law_498 rfl rfl ?_
    refine J_sload_n dL_law_499 rfl rfl ?_
    refine J_iload_n dL_law_500 rfl rfl ?_
    refine J_iconst (v := 1) dL_law_501 (by decide) ?_
    refine J_iadd (z := 1) dL_law_502 (by decide +kernel) ?_
    refine L_sld (i2 := 1) (v := x1) dL_law_503 (jin (by decide +kernel)) (by decide +kernel) hx1 ?_
    refine J_sload_n dL_law_504 rfl rfl ?_
    refine J_iload_n dL_law_505 rfl rfl ?_
    refine J_iconst (v := 2) dL_law_506 (by decide) ?_
    refine J_iadd (z := 2) dL_law_507 (by decide +kernel) ?_
    refine L_sld (i2 := 2) (v := x2) dL_law_508 (jin (by decide +kernel)) (by decide +kernel) hx2 ?_
    refine J_callV (st := []) dL_law_509 cv_L_65 (c_X11_breach_1 (x1) b1 (x2) b2 H0_0 H0_51 H0_96) H0_0 rfl rfl (Nat.le_of_ble_eq_true rfl) ⟨(Nat.le_of_ble_eq_true rfl), (Nat.le_of_ble_eq_true rfl)⟩ ⟨(Nat.le_of_ble_eq_true rfl), (Nat.le_of_ble_eq_true rfl)⟩ (fun r h9 hp => ?_)
    obtain ⟨rfl, rfl⟩ := hp
    refine J_nf (nh2 := 135) (ck2 := 135) (sk2 := 415506) (st2 := [.int (-2)]) rfl rfl rfl rfl ?_
    refine J_app (L3 := [(96, .inl (0, 5, .inl (upd (fun _ => 0) 1 1))), (0, .inr (11, [.ref 1, .ref 17, .ref 50, .ref 51, .ref 54, .ref 57, .ref 65, .ref 75, .ref 81, .ref 85, .ref 88, .ref 93, .ref 96, .int (-2), .int (-1), .ref 97, .int 0]))]) rfl ?_
    refine J_aload_n dL_law_512 rfl rfl ?_
    refine J_sload_n dL_law_513 rfl rfl ?_
    refine J_iload_n dL_law_514 rfl rfl ?_
    refine J_iconst (v := 1) dL_law_515 (by decide) ?_
    refine J_iadd (z := 1) dL_law_516 (by decide +kernel) ?_
    refine L_sld (i2 := 1) (v := x1) dL_law_517 (jin (by decide +kernel)) (by decide +kernel) hx1 ?_
    refine J_sload_n dL_law_518 rfl rfl ?_
    refine J_iload_n dL_law_519 rfl rfl ?_
    refine J_iconst (v := 2) dL_law_520 (by decide) ?_
    refine J_iadd (z := 2) dL_law_521 (by decide +kernel) ?_
    refine L_sld (i2 := 2) (v := x2) dL_law_522 (jin (by decide +kernel)) (by decide +kernel) hx2 ?_
    refine J_callV (st := [.int (-2)]) dL_law_523 cv_L_68 (c_X12_breach_1 (x1) b1 (x2) b2 H0_98 H0_99 H0_100 H0_111) H0_98 rfl rfl (Nat.le_of_ble_eq_true rfl) ⟨(Nat.le_of_ble_eq_true rfl), (Nat.le_of_ble_eq_true rfl)⟩ ⟨(Nat.le_of_ble_eq_true rfl), (Nat.le_of_ble_eq_true rfl)⟩ (fun r h9 hp => ?_)
    obtain ⟨rfl, rfl⟩ := hp
    refine J_nf (nh2 := 135) (ck2 := 135) (sk2 := 415506) (st2 := [.int (-2), .int (-2)]) rfl rfl rfl rfl ?_
    refine J_app (L3 := [(99, .inl (0, 7, .inl (upd (fun _ => 0) 2 1))), (98, .inr (12, [.int (-2), .int 0, .ref 99, .ref 100, .ref 101, .ref 102, .ref 103, .ref 104, .ref 105, .int 0, .int (-1), .ref 106, .ref 107, .ref 108, .int 0, .int 0, .int 0, .int 0, .int 0, .int 0, .int 0, .ref 109, .int 0, .int 0, .ref 110, .ref 111, .ref 112, .ref 113, .ref 114, .ref 115, .ref 116, .ref 117, .int 1, .int 0, .int 0, .int (-1), .ref 118, .ref 119, .ref 120, .ref 121, .ref 122, .ref 123, .ref 124, .ref 125, .ref 126, .ref 127, .ref 128, .ref 129, .int 0, .ref 130, .ref 131, .ref 132, .ref 133, .ref 134, .int 0, .int 0])), (111, .inl (0, 1260, .inl (upd (fun _ => 0) 0 0))), (96, .inl (0, 5, .inl (upd (fun _ => 0) 1 1))), (0, .inr (11, [.ref 1, .ref 17, .ref 50, .ref 51, .ref 54, .ref 57, .ref 65, .ref 75, .ref 81, .ref 85, .ref 88, .ref 93, .ref 96, .int (-2), .int (-1), .ref 97, .int 0]))]) rfl ?_
    refine J_icmp_eq (tgt := 1221) dL_law_526 (by decide) (fun _ => ?_) (fun q => absurd (by decide +kernel) q)
    exact law_tail (Nat.le_of_ble_eq_true rfl) (Nat.le_of_ble_eq_true rfl)
  · rcases i_cut x1.toInt 1 with h_1 | h_1
    · rcases i_cut x2.toInt 0 with h_2 | h_2
      · obtain rfl : x1 = 0 := by rw [fa_eq, kc_0]; omega
        have b2 : (-2147483648) ≤ x2.toInt ∧ x2.toInt ≤ (-1) := ⟨by omega, by omega⟩
        refine J_hc0 ?_
        refine J_aload_n dL_law_498 rfl rfl ?_
        refine J_sload_n dL_law_499 rfl rfl ?_
        refine J_iload_n dL_law_500 rfl rfl ?_
        refine J_iconst (v := 1) dL_law_501 (by decide) ?_
        refine J_iadd (z := 1) dL_law_502 (by decide +kernel) ?_
        refine L_sld (i2 := 1) (v := 0) dL_law_503 (jin (by decide +kernel)) (by decide +kernel) hx1 ?_
        refine J_sload_n dL_law_504 rfl rfl ?_
        refine J_iload_n dL_law_505 rfl rfl ?_
        refine J_iconst (v := 2) dL_law_506 (by decide) ?_
        refine J_iadd (z := 2) dL_law_507 (by decide +kernel) ?_
        refine L_sld (i2 := 2) (v := x2) dL_law_508 (jin (by decide +kernel)) (by decide +kernel) hx2 ?_
        refine J_callV (st := []) dL_law_509 cv_L_65 (c_X11_breach_2 (x2) b2 H0_0 H0_51 H0_96) H0_0 rfl rfl (Nat.le_of_ble_eq_true rfl) ⟨(Nat.le_of_ble_eq_true rfl), (Nat.le_of_ble_eq_true rfl)⟩ ⟨(Nat.le_of_ble_eq_true rfl), (Nat.le_of_ble_eq_true rfl)⟩ (fun r h9 hp => ?_)
        obtain ⟨rfl, rfl⟩ := hp
        refine J_nf (nh2 := 135) (ck2 := 135) (sk2 := 415506) (st2 := [.int (-2)]) rfl rfl rfl rfl ?_
        refine J_app (L3 := [(96, .inl (0, 5, .inl (upd (fun _ => 0) 1 1))), (0, .inr (11, [.ref 1, .ref 17, .ref 50, .ref 51, .ref 54, .ref 57, .ref 65, .ref 75, .ref 81, .ref 85, .ref 88, .ref 93, .ref 96, .int (-2), .int (-1), .ref 97, .int 0]))]) rfl ?_
        refine J_aload_n dL_law_512 rfl rfl ?_
        refine J_sload_n dL_law_513 rfl rfl ?_
        refine J_iload_n dL_law_514 rfl rfl ?_
        refine J_iconst (v := 1) dL_law_515 (by decide) ?_
        refine J_iadd (z := 1) dL_law_516 (by decide +kernel) ?_
        refine L_sld (i2 := 1) (v := 0) dL_law_517 (jin (by decide +kernel)) (by decide +kernel) hx1 ?_
        refine J_sload_n dL_law_518 rfl rfl ?_
        refine J_iload_n dL_law_519 rfl rfl ?_
        refine J_iconst (v := 2) dL_law_520 (by decide) ?_
        refine J_iadd (z := 2) dL_law_521 (by decide +kernel) ?_
        refine L_sld (i2 := 2) (v := x2) dL_law_522 (jin (by decide +kernel)) (by decide +kernel) hx2 ?_
        refine J_callV (st := [.int (-2)]) dL_law_523 cv_L_68 (c_X12_breach_2 (x2) b2 H0_98 H0_99 H0_100 H0_111) H0_98 rfl rfl (Nat.le_of_ble_eq_true rfl) ⟨(Nat.le_of_ble_eq_true rfl), (Nat.le_of_ble_eq_true rfl)⟩ ⟨(Nat.le_of_ble_eq_true rfl), (Nat.le_of_ble_eq_true rfl)⟩ (fun r h9 hp => ?_)
        obtain ⟨rfl, rfl⟩ := hp
        refine J_nf (nh2 := 135) (ck2 := 135) (sk2 := 415506) (st2 := [.int (-2), .int (-2)]) rfl rfl rfl rfl ?_
        refine J_app (L3 := [(99, .inl (0, 7, .inl (upd (fun _ => 0) 2 1))), (98, .inr (12, [.int (-2), .int 0, .ref 99, .ref 100, .ref 101, .ref 102, .ref 103, .ref 104, .ref 105, .int 0, .int (-1), .ref 106, .ref 107, .ref 108, .int 0, .int 0, .int 0, .int 0, .int 0, .int 0, .int 0, .ref 109, .int 0, .int 0, .ref 110, .ref 111, .ref 112, .ref 113, .ref 114, .ref 115, .ref 116, .ref 117, .int 1, .int 0, .int 0, .int (-1), .ref 118, .ref 119, .ref 120, .ref 121, .ref 122, .ref 123, .ref 124, .ref 125, .ref 126, .ref 127, .ref 128, .ref 129, .int 0, .ref 130, .ref 131, .ref 132, .ref 133, .ref 134, .int 0, .int 0])), (111, .inl (0, 1260, .inl (upd (fun _ => 0) 0 0))), (96, .inl (0, 5, .inl (upd (fun _ => 0) 1 1))), (0, .inr (11, [.ref 1, .ref 17, .ref 50, .ref 51, .ref 54, .ref 57, .ref 65, .ref 75, .ref 81, .ref 85, .ref 88, .ref 93, .ref 96, .int (-2), .int (-1), .ref 97, .int 0]))]) rfl ?_
        refine J_icmp_eq (tgt := 1221) dL_law_526 (by decide) (fun _ => ?_) (fun q => absurd (by decide +kernel) q)
        exact law_tail (Nat.le_of_ble_eq_true rfl) (Nat.le_of_ble_eq_true rfl)
      · rcases i_cut x2.toInt 1 with h_3 | h_3
        · obtain rfl : x1 = 0 := by rw [fa_eq, kc_0]; omega
          obtain rfl : x2 = 0 := by rw [fa_eq, kc_0]; omega
          refine J_hc0 ?_
          refine J_aload_n dL_law_498 rfl rfl ?_
          refine J_sload_n dL_law_499 rfl rfl ?_
          refine J_iload_n dL_law_500 rfl rfl ?_
          refine J_iconst (v := 1) dL_law_501 (by decide) ?_
          refine J_iadd (z := 1) dL_law_502 (by decide +kernel) ?_
          refine L_sld (i2 := 1) (v := 0) dL_law_503 (jin (by decide +kernel)) (by decide +kernel) hx1 ?_
          refine J_sload_n dL_law_504 rfl rfl ?_
          refine J_iload_n dL_law_505 rfl rfl ?_
          refine J_iconst (v := 2) dL_law_506 (by decide) ?_
          refine J_iadd (z := 2) dL_law_507 (by decide +kernel) ?_
          refine L_sld (i2 := 2) (v := 0) dL_law_508 (jin (by decide +kernel)) (by decide +kernel) hx2 ?_
          refine J_callV (st := []) dL_law_509 cv_L_65 (c_X11_breach_3 H0_0 H0_1 H0_51 H0_96) H0_0 rfl rfl (Nat.le_of_ble_eq_true rfl) ⟨(Nat.le_of_ble_eq_true rfl), (Nat.le_of_ble_eq_true rfl)⟩ ⟨(Nat.le_of_ble_eq_true rfl), (Nat.le_of_ble_eq_true rfl)⟩ (fun r h9 hp => ?_)
          obtain ⟨rfl, rfl⟩ := hp
          refine J_nf (nh2 := 135) (ck2 := 135) (sk2 := 415506) (st2 := [.int (-3)]) rfl rfl rfl rfl ?_
          refine J_app (L3 := [(96, .inl (0, 5, .inl (upd (fun _ => 0) 2 1))), (0, .inr (11, [.ref 1, .ref 17, .ref 50, .ref 51, .ref 54, .ref 57, .ref 65, .ref 75, .ref 81, .ref 85, .ref 88, .ref 93, .ref 96, .int (-3), .int (-1), .ref 97, .int 0]))]) rfl ?_
          refine J_aload_n dL_law_512 rfl rfl ?_
          refine J_sload_n dL_law_513 rfl rfl ?_
          refine J_iload_n dL_law_514 rfl rfl ?_
          refine J_iconst (v := 1) dL_law_515 (by decide) ?_
          refine J_iadd (z := 1) dL_law_516 (by decide +kernel) ?_
          refine L_sld (i2 := 1) (v := 0) dL_law_517 (jin (by decide +kernel)) (by decide +kernel) hx1 ?_
          refine J_sload_n dL_law_518 rfl rfl ?_
          refine J_iload_n dL_law_519 rfl rfl ?_
          refine J_iconst (v := 2) dL_law_520 (by decide) ?_
          refine J_iadd (z := 2) dL_law_521 (by decide +kernel) ?_
          refine L_sld (i2 := 2) (v := 0) dL_law_522 (jin (by decide +kernel)) (by decide +kernel) hx2 ?_
          refine J_callV (st := [.int (-3)]) dL_law_523 cv_L_68 (c_X12_breach_3 H0_98 H0_99 H0_100 H0_111) H0_98 rfl rfl (Nat.le_of_ble_eq_true rfl) ⟨(Nat.le_of_ble_eq_true rfl), (Nat.le_of_ble_eq_true rfl)⟩ ⟨(Nat.le_of_ble_eq_true rfl), (Nat.le_of_ble_eq_true rfl)⟩ (fun r h9 hp => ?_)
          obtain ⟨rfl, rfl⟩ := hp
          refine J_nf (nh2 := 135) (ck2 := 135) (sk2 := 415506) (st2 := [.int (-3), .int (-3)]) rfl rfl rfl rfl ?_
          refine J_app (L3 := [(99, .inl (0, 7, .inl (upd (fun _ => 0) 3 1))), (98, .inr (12, [.int (-3), .int 0, .ref 99, .ref 100, .ref 101, .ref 102, .ref 103, .ref 104, .ref 105, .int 0, .int (-1), .ref 106, .ref 107, .ref 108, .int 0, .int 0, .int 0, .int 0, .int 0, .int 0, .int 0, .ref 109, .int 0, .int 0, .ref 110, .ref 111, .ref 112, .ref 113, .ref 114, .ref 115, .ref 116, .ref 117, .int 1, .int 0, .int 0, .int (-1), .ref 118, .ref 119, .ref 120, .ref 121, .ref 122, .ref 123, .ref 124, .ref 125, .ref 126, .ref 127, .ref 128, .ref 129, .int 0, .ref 130, .ref 131, .ref 132, .ref 133, .ref 134, .int 0, .int 0])), (111, .inl (0, 1260, .inl (upd (fun _ => 0) 0 0))), (96, .inl (0, 5, .inl (upd (fun _ => 0) 2 1))), (0, .inr (11, [.ref 1, .ref 17, .ref 50, .ref 51, .ref 54, .ref 57, .ref 65, .ref 75, .ref 81, .ref 85, .ref 88, .ref 93, .ref 96, .int (-3), .int (-1), .ref 97, .int 0]))]) rfl ?_
          refine J_icmp_eq (tgt := 1221) dL_law_526 (by decide) (fun _ => ?_) (fun q => absurd (by decide +kernel) q)
          exact law_tail (Nat.le_of_ble_eq_true rfl) (Nat.le_of_ble_eq_true rfl)
        · obtain rfl : x1 = 0 := by rw [fa_eq, kc_0]; omega
          have b2 : 1 ≤ x2.toInt ∧ x2.toInt ≤ 2147483647 := ⟨by omega, by omega⟩
          refine J_hc0 ?_
          refine J_aload_n dL_law_498 rfl rfl ?_
          refine J_sload_n dL_law_499 rfl rfl ?_
          refine J_iload_n dL_law_500 rfl rfl ?_
          refine J_iconst (v := 1) dL_law_501 (by decide) ?_
          refine J_iadd (z := 1) dL_law_502 (by decide +kernel) ?_
          refine L_sld (i2 := 1) (v := 0) dL_law_503 (jin (by decide +kernel)) (by decide +kernel) hx1 ?_
          refine J_sload_n dL_law_504 rfl rfl ?_
          refine J_iload_n dL_law_505 rfl rfl ?_
          refine J_iconst (v := 2) dL_law_506 (by decide) ?_
          refine J_iadd (z := 2) dL_law_507 (by decide +kernel) ?_
          refine L_sld (i2 := 2) (v := x2) dL_law_508 (jin (by decide +kernel)) (by decide +kernel) hx2 ?_
          refine J_callV (st := []) dL_law_509 cv_L_65 (c_X11_breach_4 (x2) b2 H0_0 H0_51 H0_96) H0_0 rfl rfl (Nat.le_of_ble_eq_true rfl) ⟨(Nat.le_of_ble_eq_true rfl), (Nat.le_of_ble_eq_true rfl)⟩ ⟨(Nat.le_of_ble_eq_true rfl), (Nat.le_of_ble_eq_true rfl)⟩ (fun r h9 hp => ?_)
          obtain ⟨rfl, rfl⟩ := hp
          refine J_nf (nh2 := 135) (ck2 := 135) (sk2 := 415506) (st2 := [.int (-2)]) rfl rfl rfl rfl ?_
          refine J_app (L3 := [(96, .inl (0, 5, .inl (upd (fun _ => 0) 1 1))), (0, .inr (11, [.ref 1, .ref 17, .ref 50, .ref 51, .ref 54, .ref 57, .ref 65, .ref 75, .ref 81, .ref 85, .ref 88, .ref 93, .ref 96, .int (-2), .int (-1), .ref 97, .int 0]))]) rfl ?_
          refine J_aload_n dL_law_512 rfl rfl ?_
          refine J_sload_n dL_law_513 rfl rfl ?_
          refine J_iload_n dL_law_514 rfl rfl ?_
          refine J_iconst (v := 1) dL_law_515 (by decide) ?_
          refine J_iadd (z := 1) dL_law_516 (by decide +kernel) ?_
          refine L_sld (i2 := 1) (v := 0) dL_law_517 (jin (by decide +kernel)) (by decide +kernel) hx1 ?_
          refine J_sload_n dL_law_518 rfl rfl ?_
          refine J_iload_n dL_law_519 rfl rfl ?_
          refine J_iconst (v := 2) dL_law_520 (by decide) ?_
          refine J_iadd (z := 2) dL_law_521 (by decide +kernel) ?_
          refine L_sld (i2 := 2) (v := x2) dL_law_522 (jin (by decide +kernel)) (by decide +kernel) hx2 ?_
          refine J_callV (st := [.int (-2)]) dL_law_523 cv_L_68 (c_X12_breach_4 (x2) b2 H0_98 H0_99 H0_100 H0_111) H0_98 rfl rfl (Nat.le_of_ble_eq_true rfl) ⟨(Nat.le_of_ble_eq_true rfl), (Nat.le_of_ble_eq_true rfl)⟩ ⟨(Nat.le_of_ble_eq_true rfl), (Nat.le_of_ble_eq_true rfl)⟩ (fun r h9 hp => ?_)
          obtain ⟨rfl, rfl⟩ := hp
          refine J_nf (nh2 := 135) (ck2 := 135) (sk2 := 415506) (st2 := [.int (-2), .int (-2)]) rfl rfl rfl rfl ?_
          refine J_app (L3 := [(99, .inl (0, 7, .inl (upd (fun _ => 0) 2 1))), (98, .inr (12, [.int (-2), .int 0, .ref 99, .ref 100, .ref 101, .ref 102, .ref 103, .ref 104, .ref 105, .int 0, .int (-1), .ref 106, .ref 107, .ref 108, .int 0, .int 0, .int 0, .int 0, .int 0, .int 0, .int 0, .ref 109, .int 0, .int 0, .ref 110, .ref 111, .ref 112, .ref 113, .ref 114, .ref 115, .ref 116, .ref 117, .int 1, .int 0, .int 0, .int (-1), .ref 118, .ref 119, .ref 120, .ref 121, .ref 122, .ref 123, .ref 124, .ref 125, .ref 126, .ref 127, .ref 128, .ref 129, .int 0, .ref 130, .ref 131, .ref 132, .ref 133, .ref 134, .int 0, .int 0])), (111, .inl (0, 1260, .inl (upd (fun _ => 0) 0 0))), (96, .inl (0, 5, .inl (upd (fun _ => 0) 1 1))), (0, .inr (11, [.ref 1, .ref 17, .ref 50, .ref 51, .ref 54, .ref 57, .ref 65, .ref 75, .ref 81, .ref 85, .ref 88, .ref 93, .ref 96, .int (-2), .int (-1), .ref 97, .int 0]))]) rfl ?_
          refine J_icmp_eq (tgt := 1221) dL_law_526 (by decide) (fun _ => ?_) (fun q => absurd (by decide +kernel) q)
          exact law_tail (Nat.le_of_ble_eq_true rfl) (Nat.le_of_ble_eq_true rfl)
    · have b1 : 1 ≤ x1.toInt ∧ x1.toInt ≤ 2147483647 := ⟨by omega, by omega⟩
      have b2 : (-2147483648) ≤ x2.toInt ∧ x2.toInt ≤ 2147483647 := ⟨by omega, by omega⟩
      refine J_hc0 ?_
      refine J_aload_n dL_law_498 rfl rfl ?_
      refine J_sload_n dL_law_499 rfl rfl ?_
      refine J_iload_n dL_law_500 rfl rfl ?_
      refine J_iconst (v := 1) dL_law_501 (by decide) ?_
      refine J_iadd (z := 1) dL_law_502 (by decide +kernel) ?_
      refine L_sld (i2 := 1) (v := x1) dL_law_503 (jin (by decide +kernel)) (by decide +kernel) hx1 ?_
      refine J_sload_n dL_law_504 rfl rfl ?_
      refine J_iload_n dL_law_505 rfl rfl ?_
      refine J_iconst (v := 2) dL_law_506 (by decide) ?_
      refine J_iadd (z := 2) dL_law_507 (by decide +kernel) ?_
      refine L_sld (i2 := 2) (v := x2) dL_law_508 (jin (by decide +kernel)) (by decide +kernel) hx2 ?_
      refine J_callV (st := []) dL_law_509 cv_L_65 (c_X11_breach_5 (x1) b1 (x2) b2 H0_0 H0_51 H0_96) H0_0 rfl rfl (Nat.le_of_ble_eq_true rfl) ⟨(Nat.le_of_ble_eq_true rfl), (Nat.le_of_ble_eq_true rfl)⟩ ⟨(Nat.le_of_ble_eq_true rfl), (Nat.le_of_ble_eq_true rfl)⟩ (fun r h9 hp => ?_)
      obtain ⟨rfl, rfl⟩ := hp
      refine J_nf (nh2 := 135) (ck2 := 135) (sk2 := 415506) (st2 := [.int (-2)]) rfl rfl rfl rfl ?_
      refine J_app (L3 := [(96, .inl (0, 5, .inl (upd (fun _ => 0) 1 1))), (0, .inr (11, [.ref 1, .ref 17, .ref 50, .ref 51, .ref 54, .ref 57, .ref 65, .ref 75, .ref 81, .ref 85, .ref 88, .ref 93, .ref 96, .int (-2), .int (-1), .ref 97, .int 0]))]) rfl ?_
      refine J_aload_n dL_law_512 rfl rfl ?_
      refine J_sload_n dL_law_513 rfl rfl ?_
      refine J_iload_n dL_law_514 rfl rfl ?_
      refine J_iconst (v := 1) dL_law_515 (by decide) ?_
      refine J_iadd (z := 1) dL_law_516 (by decide +kernel) ?_
      refine L_sld (i2 := 1) (v := x1) dL_law_517 (jin (by decide +kernel)) (by decide +kernel) hx1 ?_
      refine J_sload_n dL_law_518 rfl rfl ?_
      refine J_iload_n dL_law_519 rfl rfl ?_
      refine J_iconst (v := 2) dL_law_520 (by decide) ?_
      refine J_iadd (z := 2) dL_law_521 (by decide +kernel) ?_
      refine L_sld (i2 := 2) (v := x2) dL_law_522 (jin (by decide +kernel)) (by decide +kernel) hx2 ?_
      refine J_callV (st := [.int (-2)]) dL_law_523 cv_L_68 (c_X12_breach_5 (x1) b1 (x2) b2 H0_98 H0_99 H0_100 H0_111) H0_98 rfl rfl (Nat.le_of_ble_eq_true rfl) ⟨(Nat.le_of_ble_eq_true rfl), (Nat.le_of_ble_eq_true rfl)⟩ ⟨(Nat.le_of_ble_eq_true rfl), (Nat.le_of_ble_eq_true rfl)⟩ (fun r h9 hp => ?_)
      obtain ⟨rfl, rfl⟩ := hp
      refine J_nf (nh2 := 135) (ck2 := 135) (sk2 := 415506) (st2 := [.int (-2), .int (-2)]) rfl rfl rfl rfl ?_
      refine J_app (L3 := [(99, .inl (0, 7, .inl (upd (fun _ => 0) 2 1))), (98, .inr (12, [.int (-2), .int 0, .ref 99, .ref 100, .ref 101, .ref 102, .ref 103, .ref 104, .ref 105, .int 0, .int (-1), .ref 106, .ref 107, .ref 108, .int 0, .int 0, .int 0, .int 0, .int 0, .int 0, .int 0, .ref 109, .int 0, .int 0, .ref 110, .ref 111, .ref 112, .ref 113, .ref 114, .ref 115, .ref 116, .ref 117, .int 1, .int 0, .int 0, .int (-1), .ref 118, .ref 119, .ref 120, .ref 121, .ref 122, .ref 123, .ref 124, .ref 125, .ref 126, .ref 127, .ref 128, .ref 129, .int 0, .ref 130, .ref 131, .ref 132, .ref 133, .ref 134, .int 0, .int 0])), (111, .inl (0, 1260, .inl (upd (fun _ => 0) 0 0))), (96, .inl (0, 5, .inl (upd (fun _ => 0) 1 1))), (0, .inr (11, [.ref 1, .ref 17, .ref 50, .ref 51, .ref 54, .ref 57, .ref 65, .ref 75, .ref 81, .ref 85, .ref 88, .ref 93, .ref 96, .int (-2), .int (-1), .ref 97, .int 0]))]) rfl ?_
      refine J_icmp_eq (tgt := 1221) dL_law_526 (by decide) (fun _ => ?_) (fun q => absurd (by decide +kernel) q)
      exact law_tail (Nat.le_of_ble_eq_true rfl) (Nat.le_of_ble_eq_true rfl)
set_option maxHeartbeats 4000000 in
set_option maxRecDepth 100000 in
theorem law_case_13 {l : Launch} {G : jG} {b : Nat} {xs : Nat → Int32} (x1 : Int32) (hx1 : xs 1 = x1) (x2 : Int32) (hx2 : xs 2 = x2) (x3 : Int32) (hx3 : xs 3 = x3) : J l G ML_law room_1 (lE b 6 xs G) lQ (135, H0) 135 415506 531 [some (.retAddr 0), some (.ref 0), some (.ref 98), some (.int 0)] [] := by
  have r1 := i32_rng x1
  have r2 := i32_rng x2
  have r3 := i32_rng x3
  rcases i_cut x1.toInt 0 with h_0 | h_0
  · have b1 : (-2147483648) ≤ x1.toInt ∧ x1.toInt ≤ (-1) := ⟨by omega, by omega⟩
    have b2 : (-2147483648) ≤ x2.toInt ∧ x2.toInt ≤ 2147483647 := ⟨by omega, by omega⟩
    have b3 : (-2147483648) ≤ x3.toInt ∧ x3.toInt ≤ 2147483647 := ⟨by omega, by omega⟩
    refine J_hc0 ?_
    refine J_aload_n dL_law_531 rfl rfl ?_
    refine J_sload_n dL_law_532 rfl rfl ?_
    refine J_iload_n dL_law_533 rfl rfl ?_
    refine J_iconst (v := 1) dL_law_534 (by decide) ?_
    refine J_iadd (z := 1) dL_law_535 (by decide +kernel) ?_
    refine L_sld (i2 := 1) (v := x1) dL_law_536 (jin (by decide +kernel)) (by decide +kernel) hx1 ?_
    refine J_sload_n dL_law_537 rfl rfl ?_
    refine J_iload_n dL_law_538 rfl rfl ?_
    refine J_iconst (v := 2) dL_law_539 (by decide) ?_
    refine J_iadd (z := 2) dL_law_540 (by decide +kernel) ?_
    refine L_sld (i2 := 2) (v := x2) dL_law_541 (jin (by decide +kernel)) (by decide +kernel) hx2 ?_
    refine J_sload_n dL_law_542 rfl rfl ?_
    refine J_iload_n dL_law_543 rfl rfl ?_
    refine J_iconst (v := 3) dL_law_544 (by decide) ?_
    refine J_iadd (z := 3) dL_law_545 (by decide +kernel) ?_
    refine L_sld (i2 := 3) (v := x3) dL_law_546 (jin (by decide +kernel)) (by decide +kernel) hx3 ?_
    refine J_callV (st := []) dL_law_547 cv_L_69 (c_X11_step_1 (x1) b1 (x2) b2 (x3) b3 H0_0 H0_51) H0_0 rfl rfl (Nat.le_of_ble_eq_true rfl) ⟨(Nat.le_of_ble_eq_true rfl), (Nat.le_of_ble_eq_true rfl)⟩ ⟨(Nat.le_of_ble_eq_true rfl), (Nat.le_of_ble_eq_true rfl)⟩ (fun r h9 hp => ?_)
    obtain ⟨rfl, rfl⟩ := hp
    refine J_nf (nh2 := 135) (ck2 := 135) (sk2 := 415506) (st2 := [.int (-1)]) rfl rfl rfl rfl ?_
    refine J_aload_n dL_law_550 rfl rfl ?_
    refine J_sload_n dL_law_551 rfl rfl ?_
    refine J_iload_n dL_law_552 rfl rfl ?_
    refine J_iconst (v := 1) dL_law_553 (by decide) ?_
    refine J_iadd (z := 1) dL_law_554 (by decide +kernel) ?_
    refine L_sld (i2 := 1) (v := x1) dL_law_555 (jin (by decide +kernel)) (by decide +kernel) hx1 ?_
    refine J_sload_n dL_law_556 rfl rfl ?_
    refine J_iload_n dL_law_557 rfl rfl ?_
    refine J_iconst (v := 2) dL_law_558 (by decide) ?_
    refine J_iadd (z := 2) dL_law_559 (by decide +kernel) ?_
    refine L_sld (i2 := 2) (v := x2) dL_law_560 (jin (by decide +kernel)) (by decide +kernel) hx2 ?_
    refine J_sload_n dL_law_561 rfl rfl ?_
    refine J_iload_n dL_law_562 rfl rfl ?_
    refine J_iconst (v := 3) dL_law_563 (by decide) ?_
    refine J_iadd (z := 3) dL_law_564 (by decide +kernel) ?_
    refine L_sld (i2 := 3) (v := x3) dL_law_565 (jin (by decide +kernel)) (by decide +kernel) hx3 ?_
    refine J_callV (st := [.int (-1)]) dL_law_566 cv_L_73 (c_X12_step_1 (x1) b1 (x2) b2 (x3) b3 H0_98 H0_100 H0_111) H0_98 rfl rfl (Nat.le_of_ble_eq_true rfl) ⟨(Nat.le_of_ble_eq_true rfl), (Nat.le_of_ble_eq_true rfl)⟩ ⟨(Nat.le_of_ble_eq_true rfl), (Nat.le_of_ble_eq_true rfl)⟩ (fun r h9 hp => ?_)
    obtain ⟨rfl, rfl⟩ := hp
    refine J_nf (nh2 := 135) (ck2 := 135) (sk2 := 415506) (st2 := [.int (-1), .int (-1)]) rfl rfl rfl rfl ?_
    refine J_app (L3 := [(98, .inr (12, [.int 0, .int 0, .ref 99, .ref 100, .ref 101, .ref 102, .ref 103, .ref 104, .ref 105, .int 0, .int (-1), .ref 106, .ref 107, .ref 108, .int 0, .int 0, .int 0, .int 0, .int 0, .int 0, .int 0, .ref 109, .int 0, .int 0, .ref 110, .ref 111, .ref 112, .ref 113, .ref 114, .ref 115, .ref 116, .ref 117, .int 1, .int 0, .int 0, .int (-1), .ref 118, .ref 119, .ref 120, .ref 121, .ref 122, .ref 123, .ref 124, .ref 125, .ref 126, .ref 127, .ref 128, .ref 129, .int 0, .ref 130, .ref 131, .ref 132, .ref 133, .ref 134, .int 0, .int 0])), (111, .inl (0, 1260, .inl (upd (fun _ => 0) 0 0)))]) rfl ?_
    refine J_icmp_eq (tgt := 1221) dL_law_569 (by decide) (fun _ => ?_) (fun q => absurd (by decide +kernel) q)
    exact law_tail (Nat.le_of_ble_eq_true rfl) (Nat.le_of_ble_eq_true rfl)
  · rcases i_cut x1.toInt 1 with h_1 | h_1
    · rcases i_cut x2.toInt (-1) with h_2 | h_2
      · obtain rfl : x1 = 0 := by rw [fa_eq, kc_0]; omega
        have b2 : (-2147483648) ≤ x2.toInt ∧ x2.toInt ≤ (-2) := ⟨by omega, by omega⟩
        have b3 : (-2147483648) ≤ x3.toInt ∧ x3.toInt ≤ 2147483647 := ⟨by omega, by omega⟩
        refine J_hc0 ?_
        refine J_aload_n dL_law_531 rfl rfl ?_
        refine J_sload_n dL_law_532 rfl rfl ?_
        refine J_iload_n dL_law_533 rfl rfl ?_
        refine J_iconst (v := 1) dL_law_534 (by decide) ?_
        refine J_iadd (z := 1) dL_law_535 (by decide +kernel) ?_
        refine L_sld (i2 := 1) (v := 0) dL_law_536 (jin (by decide +kernel)) (by decide +kernel) hx1 ?_
        refine J_sload_n dL_law_537 rfl rfl ?_
        refine J_iload_n dL_law_538 rfl rfl ?_
        refine J_iconst (v := 2) dL_law_539 (by decide) ?_
        refine J_iadd (z := 2) dL_law_540 (by decide +kernel) ?_
        refine L_sld (i2 := 2) (v := x2) dL_law_541 (jin (by decide +kernel)) (by decide +kernel) hx2 ?_
        refine J_sload_n dL_law_542 rfl rfl ?_
        refine J_iload_n dL_law_543 rfl rfl ?_
        refine J_iconst (v := 3) dL_law_544 (by decide) ?_
        refine J_iadd (z := 3) dL_law_545 (by decide +kernel) ?_
        refine L_sld (i2 := 3) (v := x3) dL_law_546 (jin (by decide +kernel)) (by decide +kernel) hx3 ?_
        refine J_callV (st := []) dL_law_547 cv_L_69 (c_X11_step_2 (x2) b2 (x3) b3 H0_0 H0_1 H0_3 H0_51 H0_52 H0_57 H0_58 H0_59 H0_62 H0_63) H0_0 rfl rfl (Nat.le_of_ble_eq_true rfl) ⟨(Nat.le_of_ble_eq_true rfl), (Nat.le_of_ble_eq_true rfl)⟩ ⟨(Nat.le_of_ble_eq_true rfl), (Nat.le_of_ble_eq_true rfl)⟩ (fun r h9 hp => ?_)
        obtain ⟨rfl, rfl⟩ := hp
        refine J_nf (nh2 := 136) (ck2 := 136) (sk2 := 415528) (st2 := [.int (-1)]) rfl rfl rfl rfl ?_
        refine J_app (L3 := [(62, .inl (0, 1260, .inl (upd (upd (fun _ => 0) 0 (-1)) 0 0))), (57, .inr (9, [.ref 1, .ref 51, .ref 58, .ref 61, .ref 62, .ref 135, .ref 64, .int 0, .int 0, .int 0])), (135, .inl (0, 22, .inl (fun _ => 0))), (59, .inl (0, 8, .inl (upd (upd (fun _ => 0) 6 0) 7 0)))]) rfl ?_
        refine J_aload_n dL_law_550 rfl rfl ?_
        refine J_sload_n dL_law_551 rfl rfl ?_
        refine J_iload_n dL_law_552 rfl rfl ?_
        refine J_iconst (v := 1) dL_law_553 (by decide) ?_
        refine J_iadd (z := 1) dL_law_554 (by decide +kernel) ?_
        refine L_sld (i2 := 1) (v := 0) dL_law_555 (jin (by decide +kernel)) (by decide +kernel) hx1 ?_
        refine J_sload_n dL_law_556 rfl rfl ?_
        refine J_iload_n dL_law_557 rfl rfl ?_
        refine J_iconst (v := 2) dL_law_558 (by decide) ?_
        refine J_iadd (z := 2) dL_law_559 (by decide +kernel) ?_
        refine L_sld (i2 := 2) (v := x2) dL_law_560 (jin (by decide +kernel)) (by decide +kernel) hx2 ?_
        refine J_sload_n dL_law_561 rfl rfl ?_
        refine J_iload_n dL_law_562 rfl rfl ?_
        refine J_iconst (v := 3) dL_law_563 (by decide) ?_
        refine J_iadd (z := 3) dL_law_564 (by decide +kernel) ?_
        refine L_sld (i2 := 3) (v := x3) dL_law_565 (jin (by decide +kernel)) (by decide +kernel) hx3 ?_
        refine J_callV (st := [.int (-1)]) dL_law_566 cv_L_73 (c_X12_step_2 (x2) b2 (x3) b3 H0_98 H0_100 H0_111 H0_114 H0_116) H0_98 rfl rfl (Nat.le_of_ble_eq_true rfl) ⟨(Nat.le_of_ble_eq_true rfl), (Nat.le_of_ble_eq_true rfl)⟩ ⟨(Nat.le_of_ble_eq_true rfl), (Nat.le_of_ble_eq_true rfl)⟩ (fun r h9 hp => ?_)
        obtain ⟨rfl, rfl⟩ := hp
        refine J_nf (nh2 := 136) (ck2 := 136) (sk2 := 415528) (st2 := [.int (-1), .int (-1)]) rfl rfl rfl rfl ?_
        refine J_app (L3 := [(114, .inl (0, 1260, .inl (upd (fun _ => 0) 0 0))), (116, .inl (0, 1260, .inl (upd (fun _ => 0) 0 0))), (98, .inr (12, [.int 0, .int 0, .ref 99, .ref 100, .ref 101, .ref 102, .ref 103, .ref 104, .ref 105, .int 0, .int (-1), .ref 106, .ref 107, .ref 108, .int 0, .int 0, .int 0, .int 0, .int 0, .int 0, .int 0, .ref 109, .int 0, .int 0, .ref 110, .ref 111, .ref 112, .ref 113, .ref 114, .ref 115, .ref 116, .ref 117, .int 1, .int 0, .int 0, .int 0, .ref 118, .ref 119, .ref 120, .ref 121, .ref 122, .ref 123, .ref 124, .ref 125, .ref 126, .ref 127, .ref 128, .ref 129, .int 0, .ref 130, .ref 131, .ref 132, .ref 133, .ref 134, .int 0, .int 0])), (111, .inl (0, 1260, .inl (upd (fun _ => 0) 0 0))), (62, .inl (0, 1260, .inl (upd (upd (fun _ => 0) 0 (-1)) 0 0))), (57, .inr (9, [.ref 1, .ref 51, .ref 58, .ref 61, .ref 62, .ref 135, .ref 64, .int 0, .int 0, .int 0])), (135, .inl (0, 22, .inl (fun _ => 0))), (59, .inl (0, 8, .inl (upd (upd (fun _ => 0) 6 0) 7 0)))]) rfl ?_
        refine J_icmp_eq (tgt := 1221) dL_law_569 (by decide) (fun _ => ?_) (fun q => absurd (by decide +kernel) q)
        exact law_tail (Nat.le_of_ble_eq_true rfl) (Nat.le_of_ble_eq_true rfl)
      · rcases i_cut x2.toInt 0 with h_3 | h_3
        · obtain rfl : x1 = 0 := by rw [fa_eq, kc_0]; omega
          obtain rfl : x2 = (-1) := by rw [fa_eq, kc_m1]; omega
          have b3 : (-2147483648) ≤ x3.toInt ∧ x3.toInt ≤ 2147483647 := ⟨by omega, by omega⟩
          refine J_hc0 ?_
          refine J_aload_n dL_law_531 rfl rfl ?_
          refine J_sload_n dL_law_532 rfl rfl ?_
          refine J_iload_n dL_law_533 rfl rfl ?_
          refine J_iconst (v := 1) dL_law_534 (by decide) ?_
          refine J_iadd (z := 1) dL_law_535 (by decide +kernel) ?_
          refine L_sld (i2 := 1) (v := 0) dL_law_536 (jin (by decide +kernel)) (by decide +kernel) hx1 ?_
          refine J_sload_n dL_law_537 rfl rfl ?_
          refine J_iload_n dL_law_538 rfl rfl ?_
          refine J_iconst (v := 2) dL_law_539 (by decide) ?_
          refine J_iadd (z := 2) dL_law_540 (by decide +kernel) ?_
          refine L_sld (i2 := 2) (v := (-1)) dL_law_541 (jin (by decide +kernel)) (by decide +kernel) hx2 ?_
          refine J_sload_n dL_law_542 rfl rfl ?_
          refine J_iload_n dL_law_543 rfl rfl ?_
          refine J_iconst (v := 3) dL_law_544 (by decide) ?_
          refine J_iadd (z := 3) dL_law_545 (by decide +kernel) ?_
          refine L_sld (i2 := 3) (v := x3) dL_law_546 (jin (by decide +kernel)) (by decide +kernel) hx3 ?_
          refine J_callV (st := []) dL_law_547 cv_L_69 (c_X11_step_3 (x3) b3 H0_0 H0_1 H0_3 H0_51 H0_52 H0_57 H0_58 H0_59 H0_62 H0_63) H0_0 rfl rfl (Nat.le_of_ble_eq_true rfl) ⟨(Nat.le_of_ble_eq_true rfl), (Nat.le_of_ble_eq_true rfl)⟩ ⟨(Nat.le_of_ble_eq_true rfl), (Nat.le_of_ble_eq_true rfl)⟩ (fun r h9 hp => ?_)
          obtain ⟨rfl, rfl⟩ := hp
          refine J_nf (nh2 := 136) (ck2 := 136) (sk2 := 415528) (st2 := [.int 0]) rfl rfl rfl rfl ?_
          refine J_app (L3 := [(62, .inl (0, 1260, .inl (upd (upd (fun _ => 0) 0 (-1)) 0 0))), (57, .inr (9, [.ref 1, .ref 51, .ref 58, .ref 61, .ref 62, .ref 135, .ref 64, .int 0, .int 0, .int 0])), (135, .inl (0, 22, .inl (fun _ => 0))), (59, .inl (0, 8, .inl (upd (upd (fun _ => 0) 6 0) 7 0)))]) rfl ?_
          refine J_aload_n dL_law_550 rfl rfl ?_
          refine J_sload_n dL_law_551 rfl rfl ?_
          refine J_iload_n dL_law_552 rfl rfl ?_
          refine J_iconst (v := 1) dL_law_553 (by decide) ?_
          refine J_iadd (z := 1) dL_law_554 (by decide +kernel) ?_
          refine L_sld (i2 := 1) (v := 0) dL_law_555 (jin (by decide +kernel)) (by decide +kernel) hx1 ?_
          refine J_sload_n dL_law_556 rfl rfl ?_
          refine J_iload_n dL_law_557 rfl rfl ?_
          refine J_iconst (v := 2) dL_law_558 (by decide) ?_
          refine J_iadd (z := 2) dL_law_559 (by decide +kernel) ?_
          refine L_sld (i2 := 2) (v := (-1)) dL_law_560 (jin (by decide +kernel)) (by decide +kernel) hx2 ?_
          refine J_sload_n dL_law_561 rfl rfl ?_
          refine J_iload_n dL_law_562 rfl rfl ?_
          refine J_iconst (v := 3) dL_law_563 (by decide) ?_
          refine J_iadd (z := 3) dL_law_564 (by decide +kernel) ?_
          refine L_sld (i2 := 3) (v := x3) dL_law_565 (jin (by decide +kernel)) (by decide +kernel) hx3 ?_
          refine J_callV (st := [.int 0]) dL_law_566 cv_L_73 (c_X12_step_3 (x3) b3 H0_98 H0_100 H0_111 H0_114 H0_116) H0_98 rfl rfl (Nat.le_of_ble_eq_true rfl) ⟨(Nat.le_of_ble_eq_true rfl), (Nat.le_of_ble_eq_true rfl)⟩ ⟨(Nat.le_of_ble_eq_true rfl), (Nat.le_of_ble_eq_true rfl)⟩ (fun r h9 hp => ?_)
          obtain ⟨rfl, rfl⟩ := hp
          refine J_nf (nh2 := 136) (ck2 := 136) (sk2 := 415528) (st2 := [.int 0, .int 0]) rfl rfl rfl rfl ?_
          refine J_app (L3 := [(114, .inl (0, 1260, .inl (upd (fun _ => 0) 0 0))), (116, .inl (0, 1260, .inl (upd (fun _ => 0) 0 0))), (98, .inr (12, [.int 0, .int 0, .ref 99, .ref 100, .ref 101, .ref 102, .ref 103, .ref 104, .ref 105, .int 0, .int (-1), .ref 106, .ref 107, .ref 108, .int 0, .int 0, .int 0, .int 0, .int 0, .int 0, .int 0, .ref 109, .int 0, .int 0, .ref 110, .ref 111, .ref 112, .ref 113, .ref 114, .ref 115, .ref 116, .ref 117, .int 1, .int 0, .int 0, .int 0, .ref 118, .ref 119, .ref 120, .ref 121, .ref 122, .ref 123, .ref 124, .ref 125, .ref 126, .ref 127, .ref 128, .ref 129, .int 0, .ref 130, .ref 131, .ref 132, .ref 133, .ref 134, .int 0, .int 0])), (111, .inl (0, 1260, .inl (upd (fun _ => 0) 0 0))), (62, .inl (0, 1260, .inl (upd (upd (fun _ => 0) 0 (-1)) 0 0))), (57, .inr (9, [.ref 1, .ref 51, .ref 58, .ref 61, .ref 62, .ref 135, .ref 64, .int 0, .int 0, .int 0])), (135, .inl (0, 22, .inl (fun _ => 0))), (59, .inl (0, 8, .inl (upd (upd (fun _ => 0) 6 0) 7 0)))]) rfl ?_
          refine J_icmp_eq (tgt := 1221) dL_law_569 (by decide) (fun _ => ?_) (fun q => absurd (by decide +kernel) q)
          exact law_tail (Nat.le_of_ble_eq_true rfl) (Nat.le_of_ble_eq_true rfl)
        · obtain rfl : x1 = 0 := by rw [fa_eq, kc_0]; omega
          have b2 : 0 ≤ x2.toInt ∧ x2.toInt ≤ 2147483647 := ⟨by omega, by omega⟩
          have b3 : (-2147483648) ≤ x3.toInt ∧ x3.toInt ≤ 2147483647 := ⟨by omega, by omega⟩
          refine J_hc0 ?_
          refine J_aload_n dL_law_531 rfl rfl ?_
          refine J_sload_n dL_law_532 rfl rfl ?_
          refine J_iload_n dL_law_533 rfl rfl ?_
          refine J_iconst (v := 1) dL_law_534 (by decide) ?_
          refine J_iadd (z := 1) dL_law_535 (by decide +kernel) ?_
          refine L_sld (i2 := 1) (v := 0) dL_law_536 (jin (by decide +kernel)) (by decide +kernel) hx1 ?_
          refine J_sload_n dL_law_537 rfl rfl ?_
          refine J_iload_n dL_law_538 rfl rfl ?_
          refine J_iconst (v := 2) dL_law_539 (by decide) ?_
          refine J_iadd (z := 2) dL_law_540 (by decide +kernel) ?_
          refine L_sld (i2 := 2) (v := x2) dL_law_541 (jin (by decide +kernel)) (by decide +kernel) hx2 ?_
          refine J_sload_n dL_law_542 rfl rfl ?_
          refine J_iload_n dL_law_543 rfl rfl ?_
          refine J_iconst (v := 3) dL_law_544 (by decide) ?_
          refine J_iadd (z := 3) dL_law_545 (by decide +kernel) ?_
          refine L_sld (i2 := 3) (v := x3) dL_law_546 (jin (by decide +kernel)) (by decide +kernel) hx3 ?_
          refine J_callV (st := []) dL_law_547 cv_L_69 (c_X11_step_4 (x2) b2 (x3) b3 H0_0 H0_1 H0_3 H0_51 H0_52 H0_57 H0_58 H0_59 H0_62 H0_63) H0_0 rfl rfl (Nat.le_of_ble_eq_true rfl) ⟨(Nat.le_of_ble_eq_true rfl), (Nat.le_of_ble_eq_true rfl)⟩ ⟨(Nat.le_of_ble_eq_true rfl), (Nat.le_of_ble_eq_true rfl)⟩ (fun r h9 hp => ?_)
          obtain ⟨rfl, rfl⟩ := hp
          refine J_nf (nh2 := 136) (ck2 := 136) (sk2 := 415528) (st2 := [.int (-1)]) rfl rfl rfl rfl ?_
          refine J_app (L3 := [(62, .inl (0, 1260, .inl (upd (upd (fun _ => 0) 0 (-1)) 0 0))), (57, .inr (9, [.ref 1, .ref 51, .ref 58, .ref 61, .ref 62, .ref 135, .ref 64, .int 0, .int 0, .int 0])), (135, .inl (0, 22, .inl (fun _ => 0))), (59, .inl (0, 8, .inl (upd (upd (fun _ => 0) 6 0) 7 0)))]) rfl ?_
          refine J_aload_n dL_law_550 rfl rfl ?_
          refine J_sload_n dL_law_551 rfl rfl ?_
          refine J_iload_n dL_law_552 rfl rfl ?_
          refine J_iconst (v := 1) dL_law_553 (by decide) ?_
          refine J_iadd (z := 1) dL_law_554 (by decide +kernel) ?_
          refine L_sld (i2 := 1) (v := 0) dL_law_555 (jin (by decide +kernel)) (by decide +kernel) hx1 ?_
          refine J_sload_n dL_law_556 rfl rfl ?_
          refine J_iload_n dL_law_557 rfl rfl ?_
          refine J_iconst (v := 2) dL_law_558 (by decide) ?_
          refine J_iadd (z := 2) dL_law_559 (by decide +kernel) ?_
          refine L_sld (i2 := 2) (v := x2) dL_law_560 (jin (by decide +kernel)) (by decide +kernel) hx2 ?_
          refine J_sload_n dL_law_561 rfl rfl ?_
          refine J_iload_n dL_law_562 rfl rfl ?_
          refine J_iconst (v := 3) dL_law_563 (by decide) ?_
          refine J_iadd (z := 3) dL_law_564 (by decide +kernel) ?_
          refine L_sld (i2 := 3) (v := x3) dL_law_565 (jin (by decide +kernel)) (by decide +kernel) hx3 ?_
          refine J_callV (st := [.int (-1)]) dL_law_566 cv_L_73 (c_X12_step_4 (x2) b2 (x3) b3 H0_98 H0_100 H0_111 H0_114 H0_116) H0_98 rfl rfl (Nat.le_of_ble_eq_true rfl) ⟨(Nat.le_of_ble_eq_true rfl), (Nat.le_of_ble_eq_true rfl)⟩ ⟨(Nat.le_of_ble_eq_true rfl), (Nat.le_of_ble_eq_true rfl)⟩ (fun r h9 hp => ?_)
          obtain ⟨rfl, rfl⟩ := hp
          refine J_nf (nh2 := 136) (ck2 := 136) (sk2 := 415528) (st2 := [.int (-1), .int (-1)]) rfl rfl rfl rfl ?_
          refine J_app (L3 := [(114, .inl (0, 1260, .inl (upd (fun _ => 0) 0 0))), (116, .inl (0, 1260, .inl (upd (fun _ => 0) 0 0))), (98, .inr (12, [.int 0, .int 0, .ref 99, .ref 100, .ref 101, .ref 102, .ref 103, .ref 104, .ref 105, .int 0, .int (-1), .ref 106, .ref 107, .ref 108, .int 0, .int 0, .int 0, .int 0, .int 0, .int 0, .int 0, .ref 109, .int 0, .int 0, .ref 110, .ref 111, .ref 112, .ref 113, .ref 114, .ref 115, .ref 116, .ref 117, .int 1, .int 0, .int 0, .int 0, .ref 118, .ref 119, .ref 120, .ref 121, .ref 122, .ref 123, .ref 124, .ref 125, .ref 126, .ref 127, .ref 128, .ref 129, .int 0, .ref 130, .ref 131, .ref 132, .ref 133, .ref 134, .int 0, .int 0])), (111, .inl (0, 1260, .inl (upd (fun _ => 0) 0 0))), (62, .inl (0, 1260, .inl (upd (upd (fun _ => 0) 0 (-1)) 0 0))), (57, .inr (9, [.ref 1, .ref 51, .ref 58, .ref 61, .ref 62, .ref 135, .ref 64, .int 0, .int 0, .int 0])), (135, .inl (0, 22, .inl (fun _ => 0))), (59, .inl (0, 8, .inl (upd (upd (fun _ => 0) 6 0) 7 0)))]) rfl ?_
          refine J_icmp_eq (tgt := 1221) dL_law_569 (by decide) (fun _ => ?_) (fun q => absurd (by decide +kernel) q)
          exact law_tail (Nat.le_of_ble_eq_true rfl) (Nat.le_of_ble_eq_true rfl)
    · have b1 : 1 ≤ x1.toInt ∧ x1.toInt ≤ 2147483647 := ⟨by omega, by omega⟩
      have b2 : (-2147483648) ≤ x2.toInt ∧ x2.toInt ≤ 2147483647 := ⟨by omega, by omega⟩
      have b3 : (-2147483648) ≤ x3.toInt ∧ x3.toInt ≤ 2147483647 := ⟨by omega, by omega⟩
      refine J_hc0 ?_
      refine J_aload_n dL_law_531 rfl rfl ?_
      refine J_sload_n dL_law_532 rfl rfl ?_
      refine J_iload_n dL_law_533 rfl rfl ?_
      refine J_iconst (v := 1) dL_law_534 (by decide) ?_
      refine J_iadd (z := 1) dL_law_535 (by decide +kernel) ?_
      refine L_sld (i2 := 1) (v := x1) dL_law_536 (jin (by decide +kernel)) (by decide +kernel) hx1 ?_
      refine J_sload_n dL_law_537 rfl rfl ?_
      refine J_iload_n dL_law_538 rfl rfl ?_
      refine J_iconst (v := 2) dL_law_539 (by decide) ?_
      refine J_iadd (z := 2) dL_law_540 (by decide +kernel) ?_
      refine L_sld (i2 := 2) (v := x2) dL_law_541 (jin (by decide +kernel)) (by decide +kernel) hx2 ?_
      refine J_sload_n dL_law_542 rfl rfl ?_
      refine J_iload_n dL_law_543 rfl rfl ?_
      refine J_iconst (v := 3) dL_law_544 (by decide) ?_
      refine J_iadd (z := 3) dL_law_545 (by decide +kernel) ?_
      refine L_sld (i2 := 3) (v := x3) dL_law_546 (jin (by decide +kernel)) (by decide +kernel) hx3 ?_
      refine J_callV (st := []) dL_law_547 cv_L_69 (c_X11_step_5 (x1) b1 (x2) b2 (x3) b3 H0_0 H0_51) H0_0 rfl rfl (Nat.le_of_ble_eq_true rfl) ⟨(Nat.le_of_ble_eq_true rfl), (Nat.le_of_ble_eq_true rfl)⟩ ⟨(Nat.le_of_ble_eq_true rfl), (Nat.le_of_ble_eq_true rfl)⟩ (fun r h9 hp => ?_)
      obtain ⟨rfl, rfl⟩ := hp
      refine J_nf (nh2 := 135) (ck2 := 135) (sk2 := 415506) (st2 := [.int (-1)]) rfl rfl rfl rfl ?_
      refine J_aload_n dL_law_550 rfl rfl ?_
      refine J_sload_n dL_law_551 rfl rfl ?_
      refine J_iload_n dL_law_552 rfl rfl ?_
      refine J_iconst (v := 1) dL_law_553 (by decide) ?_
      refine J_iadd (z := 1) dL_law_554 (by decide +kernel) ?_
      refine L_sld (i2 := 1) (v := x1) dL_law_555 (jin (by decide +kernel)) (by decide +kernel) hx1 ?_
      refine J_sload_n dL_law_556 rfl rfl ?_
      refine J_iload_n dL_law_557 rfl rfl ?_
      refine J_iconst (v := 2) dL_law_558 (by decide) ?_
      refine J_iadd (z := 2) dL_law_559 (by decide +kernel) ?_
      refine L_sld (i2 := 2) (v := x2) dL_law_560 (jin (by decide +kernel)) (by decide +kernel) hx2 ?_
      refine J_sload_n dL_law_561 rfl rfl ?_
      refine J_iload_n dL_law_562 rfl rfl ?_
      refine J_iconst (v := 3) dL_law_563 (by decide) ?_
      refine J_iadd (z := 3) dL_law_564 (by decide +kernel) ?_
      refine L_sld (i2 := 3) (v := x3) dL_law_565 (jin (by decide +kernel)) (by decide +kernel) hx3 ?_
      refine J_callV (st := [.int (-1)]) dL_law_566 cv_L_73 (c_X12_step_5 (x1) b1 (x2) b2 (x3) b3 H0_98 H0_100 H0_111) H0_98 rfl rfl (Nat.le_of_ble_eq_true rfl) ⟨(Nat.le_of_ble_eq_true rfl), (Nat.le_of_ble_eq_true rfl)⟩ ⟨(Nat.le_of_ble_eq_true rfl), (Nat.le_of_ble_eq_true rfl)⟩ (fun r h9 hp => ?_)
      obtain ⟨rfl, rfl⟩ := hp
      refine J_nf (nh2 := 135) (ck2 := 135) (sk2 := 415506) (st2 := [.int (-1), .int (-1)]) rfl rfl rfl rfl ?_
      refine J_app (L3 := [(98, .inr (12, [.int 0, .int 0, .ref 99, .ref 100, .ref 101, .ref 102, .ref 103, .ref 104, .ref 105, .int 0, .int (-1), .ref 106, .ref 107, .ref 108, .int 0, .int 0, .int 0, .int 0, .int 0, .int 0, .int 0, .ref 109, .int 0, .int 0, .ref 110, .ref 111, .ref 112, .ref 113, .ref 114, .ref 115, .ref 116, .ref 117, .int 1, .int 0, .int 0, .int (-1), .ref 118, .ref 119, .ref 120, .ref 121, .ref 122, .ref 123, .ref 124, .ref 125, .ref 126, .ref 127, .ref 128, .ref 129, .int 0, .ref 130, .ref 131, .ref 132, .ref 133, .ref 134, .int 0, .int 0])), (111, .inl (0, 1260, .inl (upd (fun _ => 0) 0 0)))]) rfl ?_
      refine J_icmp_eq (tgt := 1221) dL_law_569 (by decide) (fun _ => ?_) (fun q => absurd (by decide +kernel) q)
      exact law_tail (Nat.le_of_ble_eq_true rfl) (Nat.le_of_ble_eq_true rfl)
set_option maxHeartbeats 4000000 in
set_option maxRecDepth 100000 in
theorem law_case_14 {l : Launch} {G : jG} {b : Nat} {xs : Nat → Int32} (x1 : Int32) (hx1 : xs 1 = x1) (x2 : Int32) (hx2 : xs 2 = x2) (x3 : Int32) (hx3 : xs 3 = x3) : J l G ML_law room_1 (lE b 6 xs G) lQ (135, H0) 135 415506 574 [some (.retAddr 0), some (.ref 0), some (.ref 98), some (.int 0)] [] := by
  have r1 := i32_rng x1
  have r2 := i32_rng x2
  have r3 := i32_rng x3
  rcases i_cut x1.toInt 0 with h_0 | h_0
  · have b1 : (-2147483648) ≤ x1.toInt ∧ x1.toInt ≤ (-1) := ⟨by omega, by omega⟩
    have b2 : (-2147483648) ≤ x2.toInt ∧ x2.toInt ≤ 2147483647 := ⟨by omega, by omega⟩
    have b3 : (-2147483648) ≤ x3.toInt ∧ x3.toInt ≤ 2147483647 := ⟨by omega, by omega⟩
    refine J_hc0 ?_
    refine J_aload_n dL_law_574 rfl rfl ?_
    refine J_sload_n dL_law_575 rfl rfl ?_
    refine J_iload_n dL_law_576 rfl rfl ?_
    refine J_iconst (v := 1) dL_law_577 (by decide) ?_
    refine J_iadd (z := 1) dL_law_578 (by decide +kernel) ?_
    refine L_sld (i2 := 1) (v := x1) dL_law_579 (jin (by decide +kernel)) (by decide +kernel) hx1 ?_
    refine J_sload_n dL_law_580 rfl rfl ?_
    refine J_iload_n dL_law_581 rfl rfl ?_
    refine J_iconst (v := 2) dL_law_582 (by decide) ?_
    refine J_iadd (z := 2) dL_law_583 (by decide +kernel) ?_
    refine L_sld (i2 := 2) (v := x2) dL_law_584 (jin (by decide +kernel)) (by decide +kernel) hx2 ?_
    refine J_sload_n dL_law_585 rfl rfl ?_
    refine J_iload_n dL_law_586 rfl rfl ?_
    refine J_iconst (v := 3) dL_law_587 (by decide) ?_
    refine J_iadd (z := 3) dL_law_588 (by decide +kernel) ?_
    refine L_sld (i2 := 3) (v := x3) dL_law_589 (jin (by decide +kernel)) (by decide +kernel) hx3 ?_
    refine J_callV (st := []) dL_law_590 cv_L_74 (c_X11_far_1 (x1) b1 (x2) b2 (x3) b3 H0_0 H0_51) H0_0 rfl rfl (Nat.le_of_ble_eq_true rfl) ⟨(Nat.le_of_ble_eq_true rfl), (Nat.le_of_ble_eq_true rfl)⟩ ⟨(Nat.le_of_ble_eq_true rfl), (Nat.le_of_ble_eq_true rfl)⟩ (fun r h9 hp => ?_)
    obtain ⟨rfl, rfl⟩ := hp
    refine J_nf (nh2 := 135) (ck2 := 135) (sk2 := 415506) (st2 := [.int (-1)]) rfl rfl rfl rfl ?_
    refine J_aload_n dL_law_593 rfl rfl ?_
    refine J_sload_n dL_law_594 rfl rfl ?_
    refine J_iload_n dL_law_595 rfl rfl ?_
    refine J_iconst (v := 1) dL_law_596 (by decide) ?_
    refine J_iadd (z := 1) dL_law_597 (by decide +kernel) ?_
    refine L_sld (i2 := 1) (v := x1) dL_law_598 (jin (by decide +kernel)) (by decide +kernel) hx1 ?_
    refine J_sload_n dL_law_599 rfl rfl ?_
    refine J_iload_n dL_law_600 rfl rfl ?_
    refine J_iconst (v := 2) dL_law_601 (by decide) ?_
    refine J_iadd (z := 2) dL_law_602 (by decide +kernel) ?_
    refine L_sld (i2 := 2) (v := x2) dL_law_603 (jin (by decide +kernel)) (by decide +kernel) hx2 ?_
    refine J_sload_n dL_law_604 rfl rfl ?_
    refine J_iload_n dL_law_605 rfl rfl ?_
    refine J_iconst (v := 3) dL_law_606 (by decide) ?_
    refine J_iadd (z := 3) dL_law_607 (by decide +kernel) ?_
    refine L_sld (i2 := 3) (v := x3) dL_law_608 (jin (by decide +kernel)) (by decide +kernel) hx3 ?_
    refine J_callV (st := [.int (-1)]) dL_law_609 cv_L_77 (c_X12_far_1 (x1) b1 (x2) b2 (x3) b3 H0_98 H0_100 H0_111) H0_98 rfl rfl (Nat.le_of_ble_eq_true rfl) ⟨(Nat.le_of_ble_eq_true rfl), (Nat.le_of_ble_eq_true rfl)⟩ ⟨(Nat.le_of_ble_eq_true rfl), (Nat.le_of_ble_eq_true rfl)⟩ (fun r h9 hp => ?_)
    obtain ⟨rfl, rfl⟩ := hp
    refine J_nf (nh2 := 135) (ck2 := 135) (sk2 := 415506) (st2 := [.int (-1), .int (-1)]) rfl rfl rfl rfl ?_
    refine J_app (L3 := [(98, .inr (12, [.int 0, .int 0, .ref 99, .ref 100, .ref 101, .ref 102, .ref 103, .ref 104, .ref 105, .int 0, .int (-1), .ref 106, .ref 107, .ref 108, .int 0, .int 0, .int 0, .int 0, .int 0, .int 0, .int 0, .ref 109, .int 0, .int 0, .ref 110, .ref 111, .ref 112, .ref 113, .ref 114, .ref 115, .ref 116, .ref 117, .int 1, .int 0, .int 0, .int (-1), .ref 118, .ref 119, .ref 120, .ref 121, .ref 122, .ref 123, .ref 124, .ref 125, .ref 126, .ref 127, .ref 128, .ref 129, .int 0, .ref 130, .ref 131, .ref 132, .ref 133, .ref 134, .int 0, .int 0])), (111, .inl (0, 1260, .inl (upd (fun _ => 0) 0 0)))]) rfl ?_
    refine J_icmp_eq (tgt := 1221) dL_law_612 (by decide) (fun _ => ?_) (fun q => absurd (by decide +kernel) q)
    exact law_tail (Nat.le_of_ble_eq_true rfl) (Nat.le_of_ble_eq_true rfl)
  · rcases i_cut x1.toInt 1 with h_1 | h_1
    · rcases i_cut x2.toInt 0 with h_2 | h_2
      · obtain rfl : x1 = 0 := by rw [fa_eq, kc_0]; omega
        have b2 : (-2147483648) ≤ x2.toInt ∧ x2.toInt ≤ (-1) := ⟨by omega, by omega⟩
        have b3 : (-2147483648) ≤ x3.toInt ∧ x3.toInt ≤ 2147483647 := ⟨by omega, by omega⟩
        refine J_hc0 ?_
        refine J_aload_n dL_law_574 rfl rfl ?_
        refine J_sload_n dL_law_575 rfl rfl ?_
        refine J_iload_n dL_law_576 rfl rfl ?_
        refine J_iconst (v := 1) dL_law_577 (by decide) ?_
        refine J_iadd (z := 1) dL_law_578 (by decide +kernel) ?_
        refine L_sld (i2 := 1) (v := 0) dL_law_579 (jin (by decide +kernel)) (by decide +kernel) hx1 ?_
        refine J_sload_n dL_law_580 rfl rfl ?_
        refine J_iload_n dL_law_581 rfl rfl ?_
        refine J_iconst (v := 2) dL_law_582 (by decide) ?_
        refine J_iadd (z := 2) dL_law_583 (by decide +kernel) ?_
        refine L_sld (i2 := 2) (v := x2) dL_law_584 (jin (by decide +kernel)) (by decide +kernel) hx2 ?_
        refine J_sload_n dL_law_585 rfl rfl ?_
        refine J_iload_n dL_law_586 rfl rfl ?_
        refine J_iconst (v := 3) dL_law_587 (by decide) ?_
        refine J_iadd (z := 3) dL_law_588 (by decide +kernel) ?_
        refine L_sld (i2 := 3) (v := x3) dL_law_589 (jin (by decide +kernel)) (by decide +kernel) hx3 ?_
        refine J_callV (st := []) dL_law_590 cv_L_74 (c_X11_far_2 (x2) b2 (x3) b3 H0_0 H0_51) H0_0 rfl rfl (Nat.le_of_ble_eq_true rfl) ⟨(Nat.le_of_ble_eq_true rfl), (Nat.le_of_ble_eq_true rfl)⟩ ⟨(Nat.le_of_ble_eq_true rfl), (Nat.le_of_ble_eq_true rfl)⟩ (fun r h9 hp => ?_)
        obtain ⟨rfl, rfl⟩ := hp
        refine J_nf (nh2 := 135) (ck2 := 135) (sk2 := 415506) (st2 := [.int (-1)]) rfl rfl rfl rfl ?_
        refine J_aload_n dL_law_593 rfl rfl ?_
        refine J_sload_n dL_law_594 rfl rfl ?_
        refine J_iload_n dL_law_595 rfl rfl ?_
        refine J_iconst (v := 1) dL_law_596 (by decide) ?_
        refine J_iadd (z := 1) dL_law_597 (by decide +kernel) ?_
        refine L_sld (i2 := 1) (v := 0) dL_law_598 (jin (by decide +kernel)) (by decide +kernel) hx1 ?_
        refine J_sload_n dL_law_599 rfl rfl ?_
        refine J_iload_n dL_law_600 rfl rfl ?_
        refine J_iconst (v := 2) dL_law_601 (by decide) ?_
        refine J_iadd (z := 2) dL_law_602 (by decide +kernel) ?_
        refine L_sld (i2 := 2) (v := x2) dL_law_603 (jin (by decide +kernel)) (by decide +kernel) hx2 ?_
        refine J_sload_n dL_law_604 rfl rfl ?_
        refine J_iload_n dL_law_605 rfl rfl ?_
        refine J_iconst (v := 3) dL_law_606 (by decide) ?_
        refine J_iadd (z := 3) dL_law_607 (by decide +kernel) ?_
        refine L_sld (i2 := 3) (v := x3) dL_law_608 (jin (by decide +kernel)) (by decide +kernel) hx3 ?_
        refine J_callV (st := [.int (-1)]) dL_law_609 cv_L_77 (c_X12_far_2 (x2) b2 (x3) b3 H0_98 H0_100 H0_111) H0_98 rfl rfl (Nat.le_of_ble_eq_true rfl) ⟨(Nat.le_of_ble_eq_true rfl), (Nat.le_of_ble_eq_true rfl)⟩ ⟨(Nat.le_of_ble_eq_true rfl), (Nat.le_of_ble_eq_true rfl)⟩ (fun r h9 hp => ?_)
        obtain ⟨rfl, rfl⟩ := hp
        refine J_nf (nh2 := 135) (ck2 := 135) (sk2 := 415506) (st2 := [.int (-1), .int (-1)]) rfl rfl rfl rfl ?_
        refine J_app (L3 := [(98, .inr (12, [.int 0, .int 0, .ref 99, .ref 100, .ref 101, .ref 102, .ref 103, .ref 104, .ref 105, .int 0, .int (-1), .ref 106, .ref 107, .ref 108, .int 0, .int 0, .int 0, .int 0, .int 0, .int 0, .int 0, .ref 109, .int 0, .int 0, .ref 110, .ref 111, .ref 112, .ref 113, .ref 114, .ref 115, .ref 116, .ref 117, .int 1, .int 0, .int 0, .int (-1), .ref 118, .ref 119, .ref 120, .ref 121, .ref 122, .ref 123, .ref 124, .ref 125, .ref 126, .ref 127, .ref 128, .ref 129, .int 0, .ref 130, .ref 131, .ref 132, .ref 133, .ref 134, .int 0, .int 0])), (111, .inl (0, 1260, .inl (upd (fun _ => 0) 0 0)))]) rfl ?_
        refine J_icmp_eq (tgt := 1221) dL_law_612 (by decide) (fun _ => ?_) (fun q => absurd (by decide +kernel) q)
        exact law_tail (Nat.le_of_ble_eq_true rfl) (Nat.le_of_ble_eq_true rfl)
      · rcases i_cut x2.toInt 1 with h_3 | h_3
        · rcases i_cut x3.toInt 0 with h_4 | h_4
          · obtain rfl : x1 = 0 := by rw [fa_eq, kc_0]; omega
            obtain rfl : x2 = 0 := by rw [fa_eq, kc_0]; omega
            have b3 : (-2147483648) ≤ x3.toInt ∧ x3.toInt ≤ (-1) := ⟨by omega, by omega⟩
            refine J_hc0 ?_
            refine J_aload_n dL_law_574 rfl rfl ?_
            refine J_sload_n dL_law_575 rfl rfl ?_
            refine J_iload_n dL_law_576 rfl rfl ?_
            refine J_iconst (v := 1) dL_law_577 (by decide) ?_
            refine J_iadd (z := 1) dL_law_578 (by decide +kernel) ?_
            refine L_sld (i2 := 1) (v := 0) dL_law_579 (jin (by decide +kernel)) (by decide +kernel) hx1 ?_
            refine J_sload_n dL_law_580 rfl rfl ?_
            refine J_iload_n dL_law_581 rfl rfl ?_
            refine J_iconst (v := 2) dL_law_582 (by decide) ?_
            refine J_iadd (z := 2) dL_law_583 (by decide +kernel) ?_
            refine L_sld (i2 := 2) (v := 0) dL_law_584 (jin (by decide +kernel)) (by decide +kernel) hx2 ?_
            refine J_sload_n dL_law_585 rfl rfl ?_
            refine J_iload_n dL_law_586 rfl rfl ?_
            refine J_iconst (v := 3) dL_law_587 (by decide) ?_
            refine J_iadd (z := 3) dL_law_588 (by decide +kernel) ?_
            refine L_sld (i2 := 3) (v := x3) dL_law_589 (jin (by decide +kernel)) (by decide +kernel) hx3 ?_
            refine J_callV (st := []) dL_law_590 cv_L_74 (c_X11_far_3 (x3) b3 H0_0 H0_1 H0_3 H0_51 H0_57 H0_58 H0_59 H0_62 H0_63) H0_0 rfl rfl (Nat.le_of_ble_eq_true rfl) ⟨(Nat.le_of_ble_eq_true rfl), (Nat.le_of_ble_eq_true rfl)⟩ ⟨(Nat.le_of_ble_eq_true rfl), (Nat.le_of_ble_eq_true rfl)⟩ (fun r h9 hp => ?_)
            obtain ⟨rfl, rfl⟩ := hp
            refine J_nf (nh2 := 136) (ck2 := 136) (sk2 := 415528) (st2 := [.int (-1)]) rfl rfl rfl rfl ?_
            refine J_app (L3 := [(57, .inr (9, [.ref 1, .ref 51, .ref 58, .ref 61, .ref 62, .ref 135, .ref 64, .int 0, .int 0, .int 0])), (62, .inl (0, 1260, .inl (upd (fun _ => 0) 0 (-1)))), (135, .inl (0, 22, .inl (fun _ => 0))), (59, .inl (0, 8, .inl (upd (upd (fun _ => 0) 6 0) 7 0)))]) rfl ?_
            refine J_aload_n dL_law_593 rfl rfl ?_
            refine J_sload_n dL_law_594 rfl rfl ?_
            refine J_iload_n dL_law_595 rfl rfl ?_
            refine J_iconst (v := 1) dL_law_596 (by decide) ?_
            refine J_iadd (z := 1) dL_law_597 (by decide +kernel) ?_
            refine L_sld (i2 := 1) (v := 0) dL_law_598 (jin (by decide +kernel)) (by decide +kernel) hx1 ?_
            refine J_sload_n dL_law_599 rfl rfl ?_
            refine J_iload_n dL_law_600 rfl rfl ?_
            refine J_iconst (v := 2) dL_law_601 (by decide) ?_
            refine J_iadd (z := 2) dL_law_602 (by decide +kernel) ?_
            refine L_sld (i2 := 2) (v := 0) dL_law_603 (jin (by decide +kernel)) (by decide +kernel) hx2 ?_
            refine J_sload_n dL_law_604 rfl rfl ?_
            refine J_iload_n dL_law_605 rfl rfl ?_
            refine J_iconst (v := 3) dL_law_606 (by decide) ?_
            refine J_iadd (z := 3) dL_law_607 (by decide +kernel) ?_
            refine L_sld (i2 := 3) (v := x3) dL_law_608 (jin (by decide +kernel)) (by decide +kernel) hx3 ?_
            refine J_callV (st := [.int (-1)]) dL_law_609 cv_L_77 (c_X12_far_3 (x3) b3 H0_98 H0_100 H0_111) H0_98 rfl rfl (Nat.le_of_ble_eq_true rfl) ⟨(Nat.le_of_ble_eq_true rfl), (Nat.le_of_ble_eq_true rfl)⟩ ⟨(Nat.le_of_ble_eq_true rfl), (Nat.le_of_ble_eq_true rfl)⟩ (fun r h9 hp => ?_)
            obtain ⟨rfl, rfl⟩ := hp
            refine J_nf (nh2 := 136) (ck2 := 136) (sk2 := 415528) (st2 := [.int (-1), .int (-1)]) rfl rfl rfl rfl ?_
            refine J_app (L3 := [(98, .inr (12, [.int 0, .int 0, .ref 99, .ref 100, .ref 101, .ref 102, .ref 103, .ref 104, .ref 105, .int 0, .int (-1), .ref 106, .ref 107, .ref 108, .int 0, .int 0, .int 0, .int 0, .int 0, .int 0, .int 0, .ref 109, .int 0, .int 0, .ref 110, .ref 111, .ref 112, .ref 113, .ref 114, .ref 115, .ref 116, .ref 117, .int 1, .int 0, .int 0, .int (-1), .ref 118, .ref 119, .ref 120, .ref 121, .ref 122, .ref 123, .ref 124, .ref 125, .ref 126, .ref 127, .ref 128, .ref 129, .int 0, .ref 130, .ref 131, .ref 132, .ref 133, .ref 134, .int 0, .int 0])), (111, .inl (0, 1260, .inl (upd (fun _ => 0) 0 0))), (57, .inr (9, [.ref 1, .ref 51, .ref 58, .ref 61, .ref 62, .ref 135, .ref 64, .int 0, .int 0, .int 0])), (62, .inl (0, 1260, .inl (upd (fun _ => 0) 0 (-1)))), (135, .inl (0, 22, .inl (fun _ => 0))), (59, .inl (0, 8, .inl (upd (upd (fun _ => 0) 6 0) 7 0)))]) rfl ?_
            refine J_icmp_eq (tgt := 1221) dL_law_612 (by decide) (fun _ => ?_) (fun q => absurd (by decide +kernel) q)
            exact law_tail (Nat.le_of_ble_eq_true rfl) (Nat.le_of_ble_eq_true rfl)
          · rcases i_cut x3.toInt 1 with h_5 | h_5
            · obtain rfl : x1 = 0 := by rw [fa_eq, kc_0]; omega
              obtain rfl : x2 = 0 := by rw [fa_eq, kc_0]; omega
              obtain rfl : x3 = 0 := by rw [fa_eq, kc_0]; omega
              refine J_hc0 ?_
              refine J_aload_n dL_law_574 rfl rfl ?_
              refine J_sload_n dL_law_575 rfl rfl ?_
              refine J_iload_n dL_law_576 rfl rfl ?_
              refine J_iconst (v := 1) dL_law_577 (by decide) ?_
              refine J_iadd (z := 1) dL_law_578 (by decide +kernel) ?_
              refine L_sld (i2 := 1) (v := 0) dL_law_579 (jin (by decide +kernel)) (by decide +kernel) hx1 ?_
              refine J_sload_n dL_law_580 rfl rfl ?_
              refine J_iload_n dL_law_581 rfl rfl ?_
              refine J_iconst (v := 2) dL_law_582 (by decide) ?_
              refine J_iadd (z := 2) dL_law_583 (by decide +kernel) ?_
              refine L_sld (i2 := 2) (v := 0) dL_law_584 (jin (by decide +kernel)) (by decide +kernel) hx2 ?_
              refine J_sload_n dL_law_585 rfl rfl ?_
              refine J_iload_n dL_law_586 rfl rfl ?_
              refine J_iconst (v := 3) dL_law_587 (by decide) ?_
              refine J_iadd (z := 3) dL_law_588 (by decide +kernel) ?_
              refine L_sld (i2 := 3) (v := 0) dL_law_589 (jin (by decide +kernel)) (by decide +kernel) hx3 ?_
              refine J_callV (st := []) dL_law_590 cv_L_74 (c_X11_far_4 H0_0 H0_1 H0_3 H0_51 H0_52 H0_57 H0_58 H0_59 H0_62 H0_63 H0_65 H0_66 H0_67 H0_68) H0_0 rfl rfl (Nat.le_of_ble_eq_true rfl) ⟨(Nat.le_of_ble_eq_true rfl), (Nat.le_of_ble_eq_true rfl)⟩ ⟨(Nat.le_of_ble_eq_true rfl), (Nat.le_of_ble_eq_true rfl)⟩ (fun r h9 hp => ?_)
              obtain ⟨rfl, rfl⟩ := hp
              refine J_nf (nh2 := 136) (ck2 := 136) (sk2 := 415528) (st2 := [.int 0]) rfl rfl rfl rfl ?_
              refine J_app (L3 := [(62, .inl (0, 1260, .inl (upd (upd (fun _ => 0) 0 (-1)) 0 0))), (65, .inr (10, [.ref 51, .ref 57, .ref 66, .ref 67, .ref 68, .int 1, .int 0, .int 0, .ref 69, .ref 70, .ref 71, .ref 72, .int 0, .int (-1), .int (-1), .ref 73, .ref 74])), (68, .inl (0, 1260, .inl (upd (fun _ => 0) 0 0))), (67, .inl (0, 1260, .inl (upd (fun _ => 0) 0 1))), (66, .inl (0, 1260, .inl (upd (upd (fun _ => 0) 0 (-1)) 0 0))), (57, .inr (9, [.ref 1, .ref 51, .ref 58, .ref 61, .ref 62, .ref 135, .ref 64, .int 0, .int 0, .int 0])), (135, .inl (0, 22, .inl (fun _ => 0))), (59, .inl (0, 8, .inl (upd (upd (fun _ => 0) 6 0) 7 0)))]) rfl ?_
              refine J_aload_n dL_law_593 rfl rfl ?_
              refine J_sload_n dL_law_594 rfl rfl ?_
              refine J_iload_n dL_law_595 rfl rfl ?_
              refine J_iconst (v := 1) dL_law_596 (by decide) ?_
              refine J_iadd (z := 1) dL_law_597 (by decide +kernel) ?_
              refine L_sld (i2 := 1) (v := 0) dL_law_598 (jin (by decide +kernel)) (by decide +kernel) hx1 ?_
              refine J_sload_n dL_law_599 rfl rfl ?_
              refine J_iload_n dL_law_600 rfl rfl ?_
              refine J_iconst (v := 2) dL_law_601 (by decide) ?_
              refine J_iadd (z := 2) dL_law_602 (by decide +kernel) ?_
              refine L_sld (i2 := 2) (v := 0) dL_law_603 (jin (by decide +kernel)) (by decide +kernel) hx2 ?_
              refine J_sload_n dL_law_604 rfl rfl ?_
              refine J_iload_n dL_law_605 rfl rfl ?_
              refine J_iconst (v := 3) dL_law_606 (by decide) ?_
              refine J_iadd (z := 3) dL_law_607 (by decide +kernel) ?_
              refine L_sld (i2 := 3) (v := 0) dL_law_608 (jin (by decide +kernel)) (by decide +kernel) hx3 ?_
              refine J_callV (st := [.int 0]) dL_law_609 cv_L_77 (c_X12_far_4 H0_98 H0_100 H0_111 H0_114 H0_116 H0_118 H0_119 H0_120) H0_98 rfl rfl (Nat.le_of_ble_eq_true rfl) ⟨(Nat.le_of_ble_eq_true rfl), (Nat.le_of_ble_eq_true rfl)⟩ ⟨(Nat.le_of_ble_eq_true rfl), (Nat.le_of_ble_eq_true rfl)⟩ (fun r h9 hp => ?_)
              obtain ⟨rfl, rfl⟩ := hp
              refine J_nf (nh2 := 136) (ck2 := 136) (sk2 := 415528) (st2 := [.int 0, .int 0]) rfl rfl rfl rfl ?_
              refine J_app (L3 := [(120, .inl (0, 1260, .inl (upd (fun _ => 0) 0 0))), (119, .inl (1, 1260, .inr (.inl (vp_updL (vp_updL (fun _ => 0) 0 0) 0 1)))), (118, .inl (0, 1260, .inl (upd (upd (fun _ => 0) 0 (-1)) 0 0))), (114, .inl (0, 1260, .inl (upd (fun _ => 0) 0 0))), (116, .inl (0, 1260, .inl (upd (fun _ => 0) 0 0))), (98, .inr (12, [.int 0, .int 0, .ref 99, .ref 100, .ref 101, .ref 102, .ref 103, .ref 104, .ref 105, .int 0, .int (-1), .ref 106, .ref 107, .ref 108, .int 0, .int 0, .int 0, .int 0, .int 0, .int 0, .int 0, .ref 109, .int 0, .int 0, .ref 110, .ref 111, .ref 112, .ref 113, .ref 114, .ref 115, .ref 116, .ref 117, .int 1, .int 0, .int 0, .int 0, .ref 118, .ref 119, .ref 120, .ref 121, .ref 122, .ref 123, .ref 124, .ref 125, .ref 126, .ref 127, .ref 128, .ref 129, .int 0, .ref 130, .ref 131, .ref 132, .ref 133, .ref 134, .int 0, .int 0])), (111, .inl (0, 1260, .inl (upd (fun _ => 0) 0 0))), (62, .inl (0, 1260, .inl (upd (upd (fun _ => 0) 0 (-1)) 0 0))), (65, .inr (10, [.ref 51, .ref 57, .ref 66, .ref 67, .ref 68, .int 1, .int 0, .int 0, .ref 69, .ref 70, .ref 71, .ref 72, .int 0, .int (-1), .int (-1), .ref 73, .ref 74])), (68, .inl (0, 1260, .inl (upd (fun _ => 0) 0 0))), (67, .inl (0, 1260, .inl (upd (fun _ => 0) 0 1))), (66, .inl (0, 1260, .inl (upd (upd (fun _ => 0) 0 (-1)) 0 0))), (57, .inr (9, [.ref 1, .ref 51, .ref 58, .ref 61, .ref 62, .ref 135, .ref 64, .int 0, .int 0, .int 0])), (135, .inl (0, 22, .inl (fun _ => 0))), (59, .inl (0, 8, .inl (upd (upd (fun _ => 0) 6 0) 7 0)))]) rfl ?_
              refine J_icmp_eq (tgt := 1221) dL_law_612 (by decide) (fun _ => ?_) (fun q => absurd (by decide +kernel) q)
              exact law_tail (Nat.le_of_ble_eq_true rfl) (Nat.le_of_ble_eq_true rfl)
            · rcases i_cut x3.toInt 2 with h_6 | h_6
              · obtain rfl : x1 = 0 := by rw [fa_eq, kc_0]; omega
                obtain rfl : x2 = 0 := by rw [fa_eq, kc_0]; omega
                obtain rfl : x3 = 1 := by rw [fa_eq, kc_1]; omega
                refine J_hc0 ?_
                refine J_aload_n dL_law_574 rfl rfl ?_
                refine J_sload_n dL_law_575 rfl rfl ?_
                refine J_iload_n dL_law_576 rfl rfl ?_
                refine J_iconst (v := 1) dL_law_577 (by decide) ?_
                refine J_iadd (z := 1) dL_law_578 (by decide +kernel) ?_
                refine L_sld (i2 := 1) (v := 0) dL_law_579 (jin (by decide +kernel)) (by decide +kernel) hx1 ?_
                refine J_sload_n dL_law_580 rfl rfl ?_
                refine J_iload_n dL_law_581 rfl rfl ?_
                refine J_iconst (v := 2) dL_law_582 (by decide) ?_
                refine J_iadd (z := 2) dL_law_583 (by decide +kernel) ?_
                refine L_sld (i2 := 2) (v := 0) dL_law_584 (jin (by decide +kernel)) (by decide +kernel) hx2 ?_
                refine J_sload_n dL_law_585 rfl rfl ?_
                refine J_iload_n dL_law_586 rfl rfl ?_
                refine J_iconst (v := 3) dL_law_587 (by decide) ?_
                refine J_iadd (z := 3) dL_law_588 (by decide +kernel) ?_
                refine L_sld (i2 := 3) (v := 1) dL_law_589 (jin (by decide +kernel)) (by decide +kernel) hx3 ?_
                refine J_callV (st := []) dL_law_590 cv_L_74 (c_X11_far_5 H0_0 H0_1 H0_3 H0_51 H0_52 H0_57 H0_58 H0_59 H0_62 H0_63 H0_65 H0_66 H0_67 H0_68) H0_0 rfl rfl (Nat.le_of_ble_eq_true rfl) ⟨(Nat.le_of_ble_eq_true rfl), (Nat.le_of_ble_eq_true rfl)⟩ ⟨(Nat.le_of_ble_eq_true rfl), (Nat.le_of_ble_eq_true rfl)⟩ (fun r h9 hp => ?_)
                obtain ⟨rfl, rfl⟩ := hp
                refine J_nf (nh2 := 136) (ck2 := 136) (sk2 := 415528) (st2 := [.int 1]) rfl rfl rfl rfl ?_
                refine J_app (L3 := [(62, .inl (0, 1260, .inl (upd (upd (fun _ => 0) 0 (-1)) 0 0))), (65, .inr (10, [.ref 51, .ref 57, .ref 66, .ref 67, .ref 68, .int 1, .int 0, .int 0, .ref 69, .ref 70, .ref 71, .ref 72, .int 0, .int (-1), .int (-1), .ref 73, .ref 74])), (68, .inl (0, 1260, .inl (upd (fun _ => 0) 0 0))), (67, .inl (0, 1260, .inl (upd (fun _ => 0) 0 1))), (66, .inl (0, 1260, .inl (upd (upd (fun _ => 0) 0 (-1)) 0 0))), (57, .inr (9, [.ref 1, .ref 51, .ref 58, .ref 61, .ref 62, .ref 135, .ref 64, .int 0, .int 0, .int 0])), (135, .inl (0, 22, .inl (fun _ => 0))), (59, .inl (0, 8, .inl (upd (upd (fun _ => 0) 6 0) 7 0)))]) rfl ?_
                refine J_aload_n dL_law_593 rfl rfl ?_
                refine J_sload_n dL_law_594 rfl rfl ?_
                refine J_iload_n dL_law_595 rfl rfl ?_
                refine J_iconst (v := 1) dL_law_596 (by decide) ?_
                refine J_iadd (z := 1) dL_law_597 (by decide +kernel) ?_
                refine L_sld (i2 := 1) (v := 0) dL_law_598 (jin (by decide +kernel)) (by decide +kernel) hx1 ?_
                refine J_sload_n dL_law_599 rfl rfl ?_
                refine J_iload_n dL_law_600 rfl rfl ?_
                refine J_iconst (v := 2) dL_law_601 (by decide) ?_
                refine J_iadd (z := 2) dL_law_602 (by decide +kernel) ?_
                refine L_sld (i2 := 2) (v := 0) dL_law_603 (jin (by decide +kernel)) (by decide +kernel) hx2 ?_
                refine J_sload_n dL_law_604 rfl rfl ?_
                refine J_iload_n dL_law_605 rfl rfl ?_
                refine J_iconst (v := 3) dL_law_606 (by decide) ?_
                refine J_iadd (z := 3) dL_law_607 (by decide +kernel) ?_
                refine L_sld (i2 := 3) (v := 1) dL_law_608 (jin (by decide +kernel)) (by decide +kernel) hx3 ?_
                refine J_callV (st := [.int 1]) dL_law_609 cv_L_77 (c_X12_far_5 H0_98 H0_100 H0_111 H0_114 H0_116 H0_118 H0_119 H0_120) H0_98 rfl rfl (Nat.le_of_ble_eq_true rfl) ⟨(Nat.le_of_ble_eq_true rfl), (Nat.le_of_ble_eq_true rfl)⟩ ⟨(Nat.le_of_ble_eq_true rfl), (Nat.le_of_ble_eq_true rfl)⟩ (fun r h9 hp => ?_)
                obtain ⟨rfl, rfl⟩ := hp
                refine J_nf (nh2 := 136) (ck2 := 136) (sk2 := 415528) (st2 := [.int 1, .int 1]) rfl rfl rfl rfl ?_
                refine J_app (L3 := [(120, .inl (0, 1260, .inl (upd (fun _ => 0) 0 0))), (119, .inl (1, 1260, .inr (.inl (vp_updL (vp_updL (fun _ => 0) 0 0) 0 1)))), (118, .inl (0, 1260, .inl (upd (upd (fun _ => 0) 0 (-1)) 0 0))), (114, .inl (0, 1260, .inl (upd (fun _ => 0) 0 0))), (116, .inl (0, 1260, .inl (upd (fun _ => 0) 0 0))), (98, .inr (12, [.int 0, .int 0, .ref 99, .ref 100, .ref 101, .ref 102, .ref 103, .ref 104, .ref 105, .int 0, .int (-1), .ref 106, .ref 107, .ref 108, .int 0, .int 0, .int 0, .int 0, .int 0, .int 0, .int 0, .ref 109, .int 0, .int 0, .ref 110, .ref 111, .ref 112, .ref 113, .ref 114, .ref 115, .ref 116, .ref 117, .int 1, .int 0, .int 0, .int 0, .ref 118, .ref 119, .ref 120, .ref 121, .ref 122, .ref 123, .ref 124, .ref 125, .ref 126, .ref 127, .ref 128, .ref 129, .int 0, .ref 130, .ref 131, .ref 132, .ref 133, .ref 134, .int 0, .int 0])), (111, .inl (0, 1260, .inl (upd (fun _ => 0) 0 0))), (62, .inl (0, 1260, .inl (upd (upd (fun _ => 0) 0 (-1)) 0 0))), (65, .inr (10, [.ref 51, .ref 57, .ref 66, .ref 67, .ref 68, .int 1, .int 0, .int 0, .ref 69, .ref 70, .ref 71, .ref 72, .int 0, .int (-1), .int (-1), .ref 73, .ref 74])), (68, .inl (0, 1260, .inl (upd (fun _ => 0) 0 0))), (67, .inl (0, 1260, .inl (upd (fun _ => 0) 0 1))), (66, .inl (0, 1260, .inl (upd (upd (fun _ => 0) 0 (-1)) 0 0))), (57, .inr (9, [.ref 1, .ref 51, .ref 58, .ref 61, .ref 62, .ref 135, .ref 64, .int 0, .int 0, .int 0])), (135, .inl (0, 22, .inl (fun _ => 0))), (59, .inl (0, 8, .inl (upd (upd (fun _ => 0) 6 0) 7 0)))]) rfl ?_
                refine J_icmp_eq (tgt := 1221) dL_law_612 (by decide) (fun _ => ?_) (fun q => absurd (by decide +kernel) q)
                exact law_tail (Nat.le_of_ble_eq_true rfl) (Nat.le_of_ble_eq_true rfl)
              · rcases i_cut x3.toInt 3 with h_7 | h_7
                · obtain rfl : x1 = 0 := by rw [fa_eq, kc_0]; omega
                  obtain rfl : x2 = 0 := by rw [fa_eq, kc_0]; omega
                  obtain rfl : x3 = 2 := by rw [fa_eq, kc_2]; omega
                  refine J_hc0 ?_
                  refine J_aload_n dL_law_574 rfl rfl ?_
                  refine J_sload_n dL_law_575 rfl rfl ?_
                  refine J_iload_n dL_law_576 rfl rfl ?_
                  refine J_iconst (v := 1) dL_law_577 (by decide) ?_
                  refine J_iadd (z := 1) dL_law_578 (by decide +kernel) ?_
                  refine L_sld (i2 := 1) (v := 0) dL_law_579 (jin (by decide +kernel)) (by decide +kernel) hx1 ?_
                  refine J_sload_n dL_law_580 rfl rfl ?_
                  refine J_iload_n dL_law_581 rfl rfl ?_
                  refine J_iconst (v := 2) dL_law_582 (by decide) ?_
                  refine J_iadd (z := 2) dL_law_583 (by decide +kernel) ?_
                  refine L_sld (i2 := 2) (v := 0) dL_law_584 (jin (by decide +kernel)) (by decide +kernel) hx2 ?_
                  refine J_sload_n dL_law_585 rfl rfl ?_
                  refine J_iload_n dL_law_586 rfl rfl ?_
                  refine J_iconst (v := 3) dL_law_587 (by decide) ?_
                  refine J_iadd (z := 3) dL_law_588 (by decide +kernel) ?_
                  refine L_sld (i2 := 3) (v := 2) dL_law_589 (jin (by decide +kernel)) (by decide +kernel) hx3 ?_
                  refine J_callV (st := []) dL_law_590 cv_L_74 (c_X11_far_6 H0_0 H0_1 H0_3 H0_51 H0_52 H0_57 H0_58 H0_59 H0_62 H0_63 H0_65 H0_69 H0_70 H0_71 H0_72) H0_0 rfl rfl (Nat.le_of_ble_eq_true rfl) ⟨(Nat.le_of_ble_eq_true rfl), (Nat.le_of_ble_eq_true rfl)⟩ ⟨(Nat.le_of_ble_eq_true rfl), (Nat.le_of_ble_eq_true rfl)⟩ (fun r h9 hp => ?_)
                  obtain ⟨rfl, rfl⟩ := hp
                  refine J_nf (nh2 := 136) (ck2 := 136) (sk2 := 415528) (st2 := [.int 0]) rfl rfl rfl rfl ?_
                  refine J_app (L3 := [(62, .inl (0, 1260, .inl (upd (upd (fun _ => 0) 0 (-1)) 0 0))), (65, .inr (10, [.ref 51, .ref 57, .ref 66, .ref 67, .ref 68, .int 0, .int (-1), .int (-1), .ref 69, .ref 70, .ref 71, .ref 72, .int 0, .int 0, .int 0, .ref 73, .ref 74])), (70, .inl (0, 100, .inl (upd (upd (fun _ => (-1)) 0 0) 0 (-1)))), (71, .inl (0, 1260, .inl (upd (fun _ => 0) 0 (-1)))), (72, .inl (0, 1260, .inl (upd (fun _ => 0) 0 (-1)))), (69, .inl (0, 1260, .inl (upd (upd (fun _ => 0) 0 (-1)) 0 0))), (57, .inr (9, [.ref 1, .ref 51, .ref 58, .ref 61, .ref 62, .ref 135, .ref 64, .int 0, .int 0, .int 0])), (135, .inl (0, 22, .inl (fun _ => 0))), (59, .inl (0, 8, .inl (upd (upd (fun _ => 0) 6 0) 7 0)))]) rfl ?_
                  refine J_aload_n dL_law_593 rfl rfl ?_
                  refine J_sload_n dL_law_594 rfl rfl ?_
                  refine J_iload_n dL_law_595 rfl rfl ?_
                  refine J_iconst (v := 1) dL_law_596 (by decide) ?_
                  refine J_iadd (z := 1) dL_law_597 (by decide +kernel) ?_
                  refine L_sld (i2 := 1) (v := 0) dL_law_598 (jin (by decide +kernel)) (by decide +kernel) hx1 ?_
                  refine J_sload_n dL_law_599 rfl rfl ?_
                  refine J_iload_n dL_law_600 rfl rfl ?_
                  refine J_iconst (v := 2) dL_law_601 (by decide) ?_
                  refine J_iadd (z := 2) dL_law_602 (by decide +kernel) ?_
                  refine L_sld (i2 := 2) (v := 0) dL_law_603 (jin (by decide +kernel)) (by decide +kernel) hx2 ?_
                  refine J_sload_n dL_law_604 rfl rfl ?_
                  refine J_iload_n dL_law_605 rfl rfl ?_
                  refine J_iconst (v := 3) dL_law_606 (by decide) ?_
                  refine J_iadd (z := 3) dL_law_607 (by decide +kernel) ?_
                  refine L_sld (i2 := 3) (v := 2) dL_law_608 (jin (by decide +kernel)) (by decide +kernel) hx3 ?_
                  refine J_callV (st := [.int 0]) dL_law_609 cv_L_77 (c_X12_far_6 H0_98 H0_100 H0_111 H0_114 H0_116 H0_121 H0_122) H0_98 rfl rfl (Nat.le_of_ble_eq_true rfl) ⟨(Nat.le_of_ble_eq_true rfl), (Nat.le_of_ble_eq_true rfl)⟩ ⟨(Nat.le_of_ble_eq_true rfl), (Nat.le_of_ble_eq_true rfl)⟩ (fun r h9 hp => ?_)
                  obtain ⟨rfl, rfl⟩ := hp
                  refine J_nf (nh2 := 136) (ck2 := 136) (sk2 := 415528) (st2 := [.int 0, .int 0]) rfl rfl rfl rfl ?_
                  refine J_app (L3 := [(122, .inl (2, 1260, .inl (upd (fun _ => 0) 0 0))), (121, .inl (0, 1260, .inl (upd (fun _ => 0) 0 0))), (114, .inl (0, 1260, .inl (upd (fun _ => 0) 0 0))), (116, .inl (0, 1260, .inl (upd (fun _ => 0) 0 0))), (98, .inr (12, [.int 0, .int 0, .ref 99, .ref 100, .ref 101, .ref 102, .ref 103, .ref 104, .ref 105, .int 0, .int (-1), .ref 106, .ref 107, .ref 108, .int 0, .int 0, .int 0, .int 0, .int 0, .int 0, .int 0, .ref 109, .int 0, .int 0, .ref 110, .ref 111, .ref 112, .ref 113, .ref 114, .ref 115, .ref 116, .ref 117, .int 1, .int 0, .int 0, .int 0, .ref 118, .ref 119, .ref 120, .ref 121, .ref 122, .ref 123, .ref 124, .ref 125, .ref 126, .ref 127, .ref 128, .ref 129, .int 0, .ref 130, .ref 131, .ref 132, .ref 133, .ref 134, .int 0, .int 0])), (111, .inl (0, 1260, .inl (upd (fun _ => 0) 0 0))), (62, .inl (0, 1260, .inl (upd (upd (fun _ => 0) 0 (-1)) 0 0))), (65, .inr (10, [.ref 51, .ref 57, .ref 66, .ref 67, .ref 68, .int 0, .int (-1), .int (-1), .ref 69, .ref 70, .ref 71, .ref 72, .int 0, .int 0, .int 0, .ref 73, .ref 74])), (70, .inl (0, 100, .inl (upd (upd (fun _ => (-1)) 0 0) 0 (-1)))), (71, .inl (0, 1260, .inl (upd (fun _ => 0) 0 (-1)))), (72, .inl (0, 1260, .inl (upd (fun _ => 0) 0 (-1)))), (69, .inl (0, 1260, .inl (upd (upd (fun _ => 0) 0 (-1)) 0 0))), (57, .inr (9, [.ref 1, .ref 51, .ref 58, .ref 61, .ref 62, .ref 135, .ref 64, .int 0, .int 0, .int 0])), (135, .inl (0, 22, .inl (fun _ => 0))), (59, .inl (0, 8, .inl (upd (upd (fun _ => 0) 6 0) 7 0)))]) rfl ?_
                  refine J_icmp_eq (tgt := 1221) dL_law_612 (by decide) (fun _ => ?_) (fun q => absurd (by decide +kernel) q)
                  exact law_tail (Nat.le_of_ble_eq_true rfl) (Nat.le_of_ble_eq_true rfl)
                · obtain rfl : x1 = 0 := by rw [fa_eq, kc_0]; omega
                  obtain rfl : x2 = 0 := by rw [fa_eq, kc_0]; omega
                  have b3 : 3 ≤ x3.toInt ∧ x3.toInt ≤ 2147483647 := ⟨by omega, by omega⟩
                  refine J_hc0 ?_
                  refine J_aload_n dL_law_574 rfl rfl ?_
                  refine J_sload_n dL_law_575 rfl rfl ?_
                  refine J_iload_n dL_law_576 rfl rfl ?_
                  refine J_iconst (v := 1) dL_law_577 (by decide) ?_
                  refine J_iadd (z := 1) dL_law_578 (by decide +kernel) ?_
                  refine L_sld (i2 := 1) (v := 0) dL_law_579 (jin (by decide +kernel)) (by decide +kernel) hx1 ?_
                  refine J_sload_n dL_law_580 rfl rfl ?_
                  refine J_iload_n dL_law_581 rfl rfl ?_
                  refine J_iconst (v := 2) dL_law_582 (by decide) ?_
                  refine J_iadd (z := 2) dL_law_583 (by decide +kernel) ?_
                  refine L_sld (i2 := 2) (v := 0) dL_law_584 (jin (by decide +kernel)) (by decide +kernel) hx2 ?_
                  refine J_sload_n dL_law_585 rfl rfl ?_
                  refine J_iload_n dL_law_586 rfl rfl ?_
                  refine J_iconst (v := 3) dL_law_587 (by decide) ?_
                  refine J_iadd (z := 3) dL_law_588 (by decide +kernel) ?_
                  refine L_sld (i2 := 3) (v := x3) dL_law_589 (jin (by decide +kernel)) (by decide +kernel) hx3 ?_
                  refine J_callV (st := []) dL_law_590 cv_L_74 (c_X11_far_7 (x3) b3 H0_0 H0_1 H0_3 H0_51 H0_57 H0_58 H0_59 H0_62 H0_63) H0_0 rfl rfl (Nat.le_of_ble_eq_true rfl) ⟨(Nat.le_of_ble_eq_true rfl), (Nat.le_of_ble_eq_true rfl)⟩ ⟨(Nat.le_of_ble_eq_true rfl), (Nat.le_of_ble_eq_true rfl)⟩ (fun r h9 hp => ?_)
                  obtain ⟨rfl, rfl⟩ := hp
                  refine J_nf (nh2 := 136) (ck2 := 136) (sk2 := 415528) (st2 := [.int (-1)]) rfl rfl rfl rfl ?_
                  refine J_app (L3 := [(57, .inr (9, [.ref 1, .ref 51, .ref 58, .ref 61, .ref 62, .ref 135, .ref 64, .int 0, .int 0, .int 0])), (62, .inl (0, 1260, .inl (upd (fun _ => 0) 0 (-1)))), (135, .inl (0, 22, .inl (fun _ => 0))), (59, .inl (0, 8, .inl (upd (upd (fun _ => 0) 6 0) 7 0)))]) rfl ?_
                  refine J_aload_n dL_law_593 rfl rfl ?_
                  refine J_sload_n dL_law_594 rfl rfl ?_
                  refine J_iload_n dL_law_595 rfl rfl ?_
                  refine J_iconst (v := 1) dL_law_596 (by decide) ?_
                  refine J_iadd (z := 1) dL_law_597 (by decide +kernel) ?_
                  refine L_sld (i2 := 1) (v := 0) dL_law_598 (jin (by decide +kernel)) (by decide +kernel) hx1 ?_
                  refine J_sload_n dL_law_599 rfl rfl ?_
                  refine J_iload_n dL_law_600 rfl rfl ?_
                  refine J_iconst (v := 2) dL_law_601 (by decide) ?_
                  refine J_iadd (z := 2) dL_law_602 (by decide +kernel) ?_
                  refine L_sld (i2 := 2) (v := 0) dL_law_603 (jin (by decide +kernel)) (by decide +kernel) hx2 ?_
                  refine J_sload_n dL_law_604 rfl rfl ?_
                  refine J_iload_n dL_law_605 rfl rfl ?_
                  refine J_iconst (v := 3) dL_law_606 (by decide) ?_
                  refine J_iadd (z := 3) dL_law_607 (by decide +kernel) ?_
                  refine L_sld (i2 := 3) (v := x3) dL_law_608 (jin (by decide +kernel)) (by decide +kernel) hx3 ?_
                  refine J_callV (st := [.int (-1)]) dL_law_609 cv_L_77 (c_X12_far_7 (x3) b3 H0_98 H0_100 H0_111) H0_98 rfl rfl (Nat.le_of_ble_eq_true rfl) ⟨(Nat.le_of_ble_eq_true rfl), (Nat.le_of_ble_eq_true rfl)⟩ ⟨(Nat.le_of_ble_eq_true rfl), (Nat.le_of_ble_eq_true rfl)⟩ (fun r h9 hp => ?_)
                  obtain ⟨rfl, rfl⟩ := hp
                  refine J_nf (nh2 := 136) (ck2 := 136) (sk2 := 415528) (st2 := [.int (-1), .int (-1)]) rfl rfl rfl rfl ?_
                  refine J_app (L3 := [(98, .inr (12, [.int 0, .int 0, .ref 99, .ref 100, .ref 101, .ref 102, .ref 103, .ref 104, .ref 105, .int 0, .int (-1), .ref 106, .ref 107, .ref 108, .int 0, .int 0, .int 0, .int 0, .int 0, .int 0, .int 0, .ref 109, .int 0, .int 0, .ref 110, .ref 111, .ref 112, .ref 113, .ref 114, .ref 115, .ref 116, .ref 117, .int 1, .int 0, .int 0, .int (-1), .ref 118, .ref 119, .ref 120, .ref 121, .ref 122, .ref 123, .ref 124, .ref 125, .ref 126, .ref 127, .ref 128, .ref 129, .int 0, .ref 130, .ref 131, .ref 132, .ref 133, .ref 134, .int 0, .int 0])), (111, .inl (0, 1260, .inl (upd (fun _ => 0) 0 0))), (57, .inr (9, [.ref 1, .ref 51, .ref 58, .ref 61, .ref 62, .ref 135, .ref 64, .int 0, .int 0, .int 0])), (62, .inl (0, 1260, .inl (upd (fun _ => 0) 0 (-1)))), (135, .inl (0, 22, .inl (fun _ => 0))), (59, .inl (0, 8, .inl (upd (upd (fun _ => 0) 6 0) 7 0)))]) rfl ?_
                  refine J_icmp_eq (tgt := 1221) dL_law_612 (by decide) (fun _ => ?_) (fun q => absurd (by decide +kernel) q)
                  exact law_tail (Nat.le_of_ble_eq_true rfl) (Nat.le_of_ble_eq_true rfl)
        · obtain rfl : x1 = 0 := by rw [fa_eq, kc_0]; omega
          have b2 : 1 ≤ x2.toInt ∧ x2.toInt ≤ 2147483647 := ⟨by omega, by omega⟩
          have b3 : (-2147483648) ≤ x3.toInt ∧ x3.toInt ≤ 2147483647 := ⟨by omega, by omega⟩
          refine J_hc0 ?_
          refine J_aload_n dL_law_574 rfl rfl ?_
          refine J_sload_n dL_law_575 rfl rfl ?_
          refine J_iload_n dL_law_576 rfl rfl ?_
          refine J_iconst (v := 1) dL_law_577 (by decide) ?_
          refine J_iadd (z := 1) dL_law_578 (by decide +kernel) ?_
          refine L_sld (i2 := 1) (v := 0) dL_law_579 (jin (by decide +kernel)) (by decide +kernel) hx1 ?_
          refine J_sload_n dL_law_580 rfl rfl ?_
          refine J_iload_n dL_law_581 rfl rfl ?_
          refine J_iconst (v := 2) dL_law_582 (by decide) ?_
          refine J_iadd (z := 2) dL_law_583 (by decide +kernel) ?_
          refine L_sld (i2 := 2) (v := x2) dL_law_584 (jin (by decide +kernel)) (by decide +kernel) hx2 ?_
          refine J_sload_n dL_law_585 rfl rfl ?_
          refine J_iload_n dL_law_586 rfl rfl ?_
          refine J_iconst (v := 3) dL_law_587 (by decide) ?_
          refine J_iadd (z := 3) dL_law_588 (by decide +kernel) ?_
          refine L_sld (i2 := 3) (v := x3) dL_law_589 (jin (by decide +kernel)) (by decide +kernel) hx3 ?_
          refine J_callV (st := []) dL_law_590 cv_L_74 (c_X11_far_8 (x2) b2 (x3) b3 H0_0 H0_51) H0_0 rfl rfl (Nat.le_of_ble_eq_true rfl) ⟨(Nat.le_of_ble_eq_true rfl), (Nat.le_of_ble_eq_true rfl)⟩ ⟨(Nat.le_of_ble_eq_true rfl), (Nat.le_of_ble_eq_true rfl)⟩ (fun r h9 hp => ?_)
          obtain ⟨rfl, rfl⟩ := hp
          refine J_nf (nh2 := 135) (ck2 := 135) (sk2 := 415506) (st2 := [.int (-1)]) rfl rfl rfl rfl ?_
          refine J_aload_n dL_law_593 rfl rfl ?_
          refine J_sload_n dL_law_594 rfl rfl ?_
          refine J_iload_n dL_law_595 rfl rfl ?_
          refine J_iconst (v := 1) dL_law_596 (by decide) ?_
          refine J_iadd (z := 1) dL_law_597 (by decide +kernel) ?_
          refine L_sld (i2 := 1) (v := 0) dL_law_598 (jin (by decide +kernel)) (by decide +kernel) hx1 ?_
          refine J_sload_n dL_law_599 rfl rfl ?_
          refine J_iload_n dL_law_600 rfl rfl ?_
          refine J_iconst (v := 2) dL_law_601 (by decide) ?_
          refine J_iadd (z := 2) dL_law_602 (by decide +kernel) ?_
          refine L_sld (i2 := 2) (v := x2) dL_law_603 (jin (by decide +kernel)) (by decide +kernel) hx2 ?_
          refine J_sload_n dL_law_604 rfl rfl ?_
          refine J_iload_n dL_law_605 rfl rfl ?_
          refine J_iconst (v := 3) dL_law_606 (by decide) ?_
          refine J_iadd (z := 3) dL_law_607 (by decide +kernel) ?_
          refine L_sld (i2 := 3) (v := x3) dL_law_608 (jin (by decide +kernel)) (by decide +kernel) hx3 ?_
          refine J_callV (st := [.int (-1)]) dL_law_609 cv_L_77 (c_X12_far_8 (x2) b2 (x3) b3 H0_98 H0_100 H0_111) H0_98 rfl rfl (Nat.le_of_ble_eq_true rfl) ⟨(Nat.le_of_ble_eq_true rfl), (Nat.le_of_ble_eq_true rfl)⟩ ⟨(Nat.le_of_ble_eq_true rfl), (Nat.le_of_ble_eq_true rfl)⟩ (fun r h9 hp => ?_)
          obtain ⟨rfl, rfl⟩ := hp
          refine J_nf (nh2 := 135) (ck2 := 135) (sk2 := 415506) (st2 := [.int (-1), .int (-1)]) rfl rfl rfl rfl ?_
          refine J_app (L3 := [(98, .inr (12, [.int 0, .int 0, .ref 99, .ref 100, .ref 101, .ref 102, .ref 103, .ref 104, .ref 105, .int 0, .int (-1), .ref 106, .ref 107, .ref 108, .int 0, .int 0, .int 0, .int 0, .int 0, .int 0, .int 0, .ref 109, .int 0, .int 0, .ref 110, .ref 111, .ref 112, .ref 113, .ref 114, .ref 115, .ref 116, .ref 117, .int 1, .int 0, .int 0, .int (-1), .ref 118, .ref 119, .ref 120, .ref 121, .ref 122, .ref 123, .ref 124, .ref 125, .ref 126, .ref 127, .ref 128, .ref 129, .int 0, .ref 130, .ref 131, .ref 132, .ref 133, .ref 134, .int 0, .int 0])), (111, .inl (0, 1260, .inl (upd (fun _ => 0) 0 0)))]) rfl ?_
          refine J_icmp_eq (tgt := 1221) dL_law_612 (by decide) (fun _ => ?_) (fun q => absurd (by decide +kernel) q)
          exact law_tail (Nat.le_of_ble_eq_true rfl) (Nat.le_of_ble_eq_true rfl)
    · have b1 : 1 ≤ x1.toInt ∧ x1.toInt ≤ 2147483647 := ⟨by omega, by omega⟩
      have b2 : (-2147483648) ≤ x2.toInt ∧ x2.toInt ≤ 2147483647 := ⟨by omega, by omega⟩
      have b3 : (-2147483648) ≤ x3.toInt ∧ x3.toInt ≤ 2147483647 := ⟨by omega, by omega⟩
      refine J_hc0 ?_
      refine J_aload_n dL_law_574 rfl rfl ?_
      refine J_sload_n dL_law_575 rfl rfl ?_
      refine J_iload_n dL_law_576 rfl rfl ?_
      refine J_iconst (v := 1) dL_law_577 (by decide) ?_
      refine J_iadd (z := 1) dL_law_578 (by decide +kernel) ?_
      refine L_sld (i2 := 1) (v := x1) dL_law_579 (jin (by decide +kernel)) (by decide +kernel) hx1 ?_
      refine J_sload_n dL_law_580 rfl rfl ?_
      refine J_iload_n dL_law_581 rfl rfl ?_
      refine J_iconst (v := 2) dL_law_582 (by decide) ?_
      refine J_iadd (z := 2) dL_law_583 (by decide +kernel) ?_
      refine L_sld (i2 := 2) (v := x2) dL_law_584 (jin (by decide +kernel)) (by decide +kernel) hx2 ?_
      refine J_sload_n dL_law_585 rfl rfl ?_
      refine J_iload_n dL_law_586 rfl rfl ?_
      refine J_iconst (v := 3) dL_law_587 (by decide) ?_
      refine J_iadd (z := 3) dL_law_588 (by decide +kernel) ?_
      refine L_sld (i2 := 3) (v := x3) dL_law_589 (jin (by decide +kernel)) (by decide +kernel) hx3 ?_
      refine J_callV (st := []) dL_law_590 cv_L_74 (c_X11_far_9 (x1) b1 (x2) b2 (x3) b3 H0_0 H0_51) H0_0 rfl rfl (Nat.le_of_ble_eq_true rfl) ⟨(Nat.le_of_ble_eq_true rfl), (Nat.le_of_ble_eq_true rfl)⟩ ⟨(Nat.le_of_ble_eq_true rfl), (Nat.le_of_ble_eq_true rfl)⟩ (fun r h9 hp => ?_)
      obtain ⟨rfl, rfl⟩ := hp
      refine J_nf (nh2 := 135) (ck2 := 135) (sk2 := 415506) (st2 := [.int (-1)]) rfl rfl rfl rfl ?_
      refine J_aload_n dL_law_593 rfl rfl ?_
      refine J_sload_n dL_law_594 rfl rfl ?_
      refine J_iload_n dL_law_595 rfl rfl ?_
      refine J_iconst (v := 1) dL_law_596 (by decide) ?_
      refine J_iadd (z := 1) dL_law_597 (by decide +kernel) ?_
      refine L_sld (i2 := 1) (v := x1) dL_law_598 (jin (by decide +kernel)) (by decide +kernel) hx1 ?_
      refine J_sload_n dL_law_599 rfl rfl ?_
      refine J_iload_n dL_law_600 rfl rfl ?_
      refine J_iconst (v := 2) dL_law_601 (by decide) ?_
      refine J_iadd (z := 2) dL_law_602 (by decide +kernel) ?_
      refine L_sld (i2 := 2) (v := x2) dL_law_603 (jin (by decide +kernel)) (by decide +kernel) hx2 ?_
      refine J_sload_n dL_law_604 rfl rfl ?_
      refine J_iload_n dL_law_605 rfl rfl ?_
      refine J_iconst (v := 3) dL_law_606 (by decide) ?_
      refine J_iadd (z := 3) dL_law_607 (by decide +kernel) ?_
      refine L_sld (i2 := 3) (v := x3) dL_law_608 (jin (by decide +kernel)) (by decide +kernel) hx3 ?_
      refine J_callV (st := [.int (-1)]) dL_law_609 cv_L_77 (c_X12_far_9 (x1) b1 (x2) b2 (x3) b3 H0_98 H0_100 H0_111) H0_98 rfl rfl (Nat.le_of_ble_eq_true rfl) ⟨(Nat.le_of_ble_eq_true rfl), (Nat.le_of_ble_eq_true rfl)⟩ ⟨(Nat.le_of_ble_eq_true rfl), (Nat.le_of_ble_eq_true rfl)⟩ (fun r h9 hp => ?_)
      obtain ⟨rfl, rfl⟩ := hp
      refine J_nf (nh2 := 135) (ck2 := 135) (sk2 := 415506) (st2 := [.int (-1), .int (-1)]) rfl rfl rfl rfl ?_
      refine J_app (L3 := [(98, .inr (12, [.int 0, .int 0, .ref 99, .ref 100, .ref 101, .ref 102, .ref 103, .ref 104, .ref 105, .int 0, .int (-1), .ref 106, .ref 107, .ref 108, .int 0, .int 0, .int 0, .int 0, .int 0, .int 0, .int 0, .ref 109, .int 0, .int 0, .ref 110, .ref 111, .ref 112, .ref 113, .ref 114, .ref 115, .ref 116, .ref 117, .int 1, .int 0, .int 0, .int (-1), .ref 118, .ref 119, .ref 120, .ref 121, .ref 122, .ref 123, .ref 124, .ref 125, .ref 126, .ref 127, .ref 128, .ref 129, .int 0, .ref 130, .ref 131, .ref 132, .ref 133, .ref 134, .int 0, .int 0])), (111, .inl (0, 1260, .inl (upd (fun _ => 0) 0 0)))]) rfl ?_
      refine J_icmp_eq (tgt := 1221) dL_law_612 (by decide) (fun _ => ?_) (fun q => absurd (by decide +kernel) q)
      exact law_tail (Nat.le_of_ble_eq_true rfl) (Nat.le_of_ble_eq_true rfl)
