set_option maxHeartbeats 4000000 in
set_option maxRecDepth 100000 in
theorem g_many {l : Launch} {G : jG} {nh : Nat} {fh : Nat → Option va_E} (many : Int) (places : Int) (hk51 : fh 51 = some (.inr (0, [.ref 52, .ref 53, .int (zI many), .int (zI places)]))) : JM l G yX0_many MX0_many { frames := 0, cells := 0, slots := 0, locals := 0 } [.ref 51] (nh, fh) (fun rr h9 => rr = some (.int (zI many)) ∧ h9 = (nh, fh)) := by
  refine JM.of (by decide) rfl (fun h => by cases h) (Nat.le_of_ble_eq_true rfl) ⟨0, rfl⟩ ?_
  refine J_hc0 (J_ls (ls2 := [some (.ref 51)]) rfl ?_)
  refine J_aload_n dX0_many_0 rfl rfl ?_
  refine J_get (v := .int (zI many)) dX0_many_1 fl_X0_18 hk51 rfl ?_
  exact J_iret dX0_many_4 rfl rfl (Nat.le_of_ble_eq_true rfl) (Nat.le_of_ble_eq_true rfl) ⟨rfl, rfl⟩
set_option maxHeartbeats 4000000 in
set_option maxRecDepth 100000 in
theorem g_places {l : Launch} {G : jG} {nh : Nat} {fh : Nat → Option va_E} (many : Int) (places : Int) (hk51 : fh 51 = some (.inr (0, [.ref 52, .ref 53, .int (zI many), .int (zI places)]))) : JM l G yX0_places MX0_places { frames := 0, cells := 0, slots := 0, locals := 0 } [.ref 51] (nh, fh) (fun rr h9 => rr = some (.int (zI places)) ∧ h9 = (nh, fh)) := by
  refine JM.of (by decide) rfl (fun h => by cases h) (Nat.le_of_ble_eq_true rfl) ⟨0, rfl⟩ ?_
  refine J_hc0 (J_ls (ls2 := [some (.ref 51)]) rfl ?_)
  refine J_aload_n dX0_places_0 rfl rfl ?_
  refine J_get (v := .int (zI places)) dX0_places_1 fl_X0_22 hk51 rfl ?_
  exact J_iret dX0_places_4 rfl rfl (Nat.le_of_ble_eq_true rfl) (Nat.le_of_ble_eq_true rfl) ⟨rfl, rfl⟩
set_option maxHeartbeats 4000000 in
set_option maxRecDepth 100000 in
theorem g_has {l : Launch} {G : jG} {nh : Nat} {fh : Nat → Option va_E} (x : Int) (many : Int) (places : Int) (q0 : -2147483648 ≤ x) (q1 : x ≤ 2147483647) (q2 : 1 ≤ many) (q3 : many ≤ 1260) (hk51 : fh 51 = some (.inr (0, [.ref 52, .ref 53, .int (zI many), .int (zI places)]))) : JM l G yX0_has MX0_has { frames := 0, cells := 0, slots := 0, locals := 0 } [.ref 51, .int (zI x)] (nh, fh) (fun rr h9 => (rr = some (.int (zI 1)) ∧ h9 = (nh, fh) ∧ (0 ≤ x) ∧ (x + 1 ≤ many)) ∨ (rr = some (.int (zI 0)) ∧ h9 = (nh, fh) ∧ (x ≤ -1)) ∨ (rr = some (.int (zI 0)) ∧ h9 = (nh, fh) ∧ (many ≤ x))) := by
  refine JM.of (by decide) rfl (fun h => by cases h) (Nat.le_of_ble_eq_true rfl) ⟨0, rfl⟩ ?_
  refine J_hc0 (J_ls (ls2 := [some (.ref 51), some (.int (zI x))]) rfl ?_)
  refine J_iload_n dX0_has_0 rfl rfl ?_
  refine Z_if_lt (tgt := 16) dX0_has_1 (by decide) (by omega) (fun h1 => ?_) (fun h1 => ?_)
  · refine Z_iconst (n := 0) dX0_has_16 ?_
    exact J_iret dX0_has_17 rfl (jbn (by omega) (by omega)) (Nat.le_of_ble_eq_true rfl) (Nat.le_of_ble_eq_true rfl) (Or.inr (Or.inl ⟨rfl, rfl, (by omega)⟩))
  · refine J_iload_n dX0_has_4 rfl rfl ?_
    refine J_aload_n dX0_has_5 rfl rfl ?_
    refine J_get (v := .int (zI many)) dX0_has_6 fl_X0_18 hk51 rfl ?_
    refine Z_icmp_ge (tgt := 16) dX0_has_9 (by decide) (by omega) (by omega) (fun h2 => ?_) (fun h2 => ?_)
    · refine Z_iconst (n := 0) dX0_has_16 ?_
      exact J_iret dX0_has_17 rfl (jbn (by omega) (by omega)) (Nat.le_of_ble_eq_true rfl) (Nat.le_of_ble_eq_true rfl) (Or.inr (Or.inr ⟨rfl, rfl, (by omega)⟩))
    · refine Z_iconst (n := 1) dX0_has_12 ?_
      refine J_goto (tgt := 17) dX0_has_13 (by decide) ?_
      exact J_iret dX0_has_17 rfl (jbn (by omega) (by omega)) (Nat.le_of_ble_eq_true rfl) (Nat.le_of_ble_eq_true rfl) (Or.inl ⟨rfl, rfl, (by omega), (by omega)⟩)
set_option maxHeartbeats 4000000 in
set_option maxRecDepth 100000 in
theorem g_rowOf {l : Launch} {G : jG} {nh : Nat} {fh : Nat → Option va_E} (x : Int) (many : Int) (places : Int) (rf : Nat → Int32) (q0 : -2147483648 ≤ x) (q1 : x ≤ 2147483647) (q2 : 1 ≤ many) (q3 : many ≤ 1260) (hk51 : fh 51 = some (.inr (0, [.ref 52, .ref 53, .int (zI many), .int (zI places)]))) (hk52 : fh 52 = some (.inl (0, 1260, .inl rf))) : JM l G yX0_rowOf MX0_rowOf { frames := 1, cells := 0, slots := 0, locals := 21 } [.ref 51, .int (zI x)] (nh, fh) (fun rr h9 => ∃ r : Int, rr = some (.int (zI r)) ∧ h9 = (nh, fh) ∧ (-2147483648 ≤ r) ∧ (r ≤ 2147483647)) := by
  refine JM.of (by decide) rfl (fun h => by cases h) (Nat.le_of_ble_eq_true rfl) ⟨0, rfl⟩ ?_
  refine J_hc0 (J_ls (ls2 := [some (.ref 51), some (.int (zI x))]) rfl ?_)
  refine J_aload_n dX0_rowOf_0 rfl rfl ?_
  refine J_iload_n dX0_rowOf_1 rfl rfl ?_
  refine J_callV (st := []) dX0_rowOf_2 cv_X0_41 (g_has (x) (many) (places) (by omega) (by omega) (by omega) (by omega) hk51) hk51 rfl rfl (Nat.le_of_ble_eq_true rfl) ⟨(Nat.le_of_ble_eq_true rfl), (Nat.le_of_ble_eq_true rfl)⟩ ⟨(Nat.le_of_ble_eq_true rfl), (Nat.le_of_ble_eq_true rfl)⟩ (fun r h9 hp => ?_)
  rcases hp with ⟨rfl, rfl, h1, h2⟩ | ⟨rfl, rfl, h3⟩ | ⟨rfl, rfl, h4⟩
  · refine J_nf (nh2 := nh) (ck2 := 0) (sk2 := 0) (st2 := [.int (zI 1)]) rfl rfl rfl rfl ?_
    refine Z_if_eq (tgt := 17) dX0_rowOf_5 (by decide) (by omega) (fun h5 => absurd h5 (by omega)) (fun h5 => ?_)
    refine J_aload_n dX0_rowOf_8 rfl rfl ?_
    refine J_get (v := .ref 52) dX0_rowOf_9 fl_X0_9 hk51 rfl ?_
    refine J_iload_n dX0_rowOf_12 rfl rfl ?_
    refine Z_iald (lo := -2147483648) (hi := 2147483647) dX0_rowOf_13 hk52 rfl (by decide) (by omega) (by omega) (Rng.all _ _) (fun z6 z6a z6b z6r z6e => ?_)
    refine J_goto (tgt := 18) dX0_rowOf_14 (by decide) ?_
    exact J_iret dX0_rowOf_18 rfl rfl (Nat.le_of_ble_eq_true rfl) (Nat.le_of_ble_eq_true rfl) ⟨(z6), rfl, rfl, (by omega), (by omega)⟩
  · refine J_nf (nh2 := nh) (ck2 := 0) (sk2 := 0) (st2 := [.int (zI 0)]) rfl rfl rfl rfl ?_
    refine Z_if_eq (tgt := 17) dX0_rowOf_5 (by decide) (by omega) (fun h7 => ?_) (fun h7 => absurd h7 (by omega))
    refine Z_iconst (n := 0) dX0_rowOf_17 ?_
    exact J_iret dX0_rowOf_18 rfl rfl (Nat.le_of_ble_eq_true rfl) (Nat.le_of_ble_eq_true rfl) ⟨(0), rfl, rfl, (by omega), (by omega)⟩
  · refine J_nf (nh2 := nh) (ck2 := 0) (sk2 := 0) (st2 := [.int (zI 0)]) rfl rfl rfl rfl ?_
    refine Z_if_eq (tgt := 17) dX0_rowOf_5 (by decide) (by omega) (fun h8 => ?_) (fun h8 => absurd h8 (by omega))
    refine Z_iconst (n := 0) dX0_rowOf_17 ?_
    exact J_iret dX0_rowOf_18 rfl rfl (Nat.le_of_ble_eq_true rfl) (Nat.le_of_ble_eq_true rfl) ⟨(0), rfl, rfl, (by omega), (by omega)⟩
set_option maxHeartbeats 4000000 in
set_option maxRecDepth 100000 in
theorem g_shiftOf {l : Launch} {G : jG} {nh : Nat} {fh : Nat → Option va_E} (p : Int) (many : Int) (places : Int) (q0 : 0 ≤ p) (q1 : p ≤ 7) (q2 : 0 ≤ places) (q3 : places ≤ 7) (hk51 : fh 51 = some (.inr (0, [.ref 52, .ref 53, .int (zI many), .int (zI places)]))) : JM l G yX0_shiftOf MX0_shiftOf { frames := 0, cells := 0, slots := 0, locals := 0 } [.ref 51, .int (zI p)] (nh, fh) (fun rr h9 => rr = some (.int (zI (-3 * p + 3 * places - 3))) ∧ h9 = (nh, fh)) := by
  refine JM.of (by decide) rfl (fun h => by cases h) (Nat.le_of_ble_eq_true rfl) ⟨0, rfl⟩ ?_
  refine J_hc0 (J_ls (ls2 := [some (.ref 51), some (.int (zI p))]) rfl ?_)
  refine Z_iconst (n := 3) dX0_shiftOf_0 ?_
  refine J_aload_n dX0_shiftOf_1 rfl rfl ?_
  refine J_get (v := .int (zI places)) dX0_shiftOf_2 fl_X0_22 hk51 rfl ?_
  refine Z_iconst (n := 1) dX0_shiftOf_5 ?_
  refine Z_isub (c := places - 1) dX0_shiftOf_6 (by omega) ?_
  refine J_iload_n dX0_shiftOf_7 rfl rfl ?_
  refine Z_isub (c := -p + places - 1) dX0_shiftOf_8 (by omega) ?_
  refine Z_imul (c := -3 * p + 3 * places - 3) dX0_shiftOf_9 (by omega) ?_
  exact J_iret dX0_shiftOf_10 rfl rfl (Nat.le_of_ble_eq_true rfl) (Nat.le_of_ble_eq_true rfl) ⟨rfl, rfl⟩
set_option maxHeartbeats 4000000 in
set_option maxRecDepth 100000 in
theorem g_colourAt {l : Launch} {G : jG} {nh : Nat} {fh : Nat → Option va_E} (x : Int) (sh : Int) (q0 : -2147483648 ≤ x) (q1 : x ≤ 2147483647) (q2 : -2147483648 ≤ sh) (q3 : sh ≤ 2147483647) : JM l G yX0_colourAt MX0_colourAt { frames := 0, cells := 0, slots := 0, locals := 0 } [.int (zI x), .int (zI sh)] (nh, fh) (fun rr h9 => ∃ r : Int, rr = some (.int (zI r)) ∧ h9 = (nh, fh) ∧ (0 ≤ r) ∧ (r ≤ 7)) := by
  refine JM.of (by decide) rfl (fun h => by cases h) (Nat.le_of_ble_eq_true rfl) ⟨0, rfl⟩ ?_
  refine J_hc0 (J_ls (ls2 := [some (.int (zI x)), some (.int (zI sh))]) rfl ?_)
  refine J_iload_n dX0_colourAt_0 rfl rfl ?_
  refine J_iload_n dX0_colourAt_1 rfl rfl ?_
  refine J_ishr (z := (zI x >>> (zI sh &&& 31))) dX0_colourAt_2 rfl ?_
  obtain ⟨z1, z1r, z1e⟩ := zI_of ((zI x >>> (zI sh &&& 31)))
  rw [z1e]
  refine Z_bipush (n := 7) dX0_colourAt_3 (by decide +kernel) ?_
  refine J_iand (z := (zI z1 &&& zI 7)) dX0_colourAt_5 rfl ?_
  obtain ⟨z2, z2a, z2b, z2e⟩ := zI_mask (x := zI z1) 3 (by decide) (m := zI 7) (by decide +kernel)
  rw [z2e]
  exact J_iret dX0_colourAt_6 rfl rfl (Nat.le_of_ble_eq_true rfl) (Nat.le_of_ble_eq_true rfl) ⟨(z2), rfl, rfl, (by omega), (by omega)⟩
set_option maxHeartbeats 4000000 in
set_option maxRecDepth 100000 in
theorem g_behind {l : Launch} {G : jG} {nh : Nat} {fh : Nat → Option va_E} (x : Int) (y : Int) (q0 : -2147483648 ≤ x) (q1 : x ≤ 2147483647) (q2 : -2147483648 ≤ y) (q3 : y ≤ 2147483647) : JM l G yX0_behind MX0_behind { frames := 0, cells := 0, slots := 0, locals := 0 } [.int (zI x), .int (zI y)] (nh, fh) (fun rr h9 => ∃ r : Int, rr = some (.int (zI r)) ∧ h9 = (nh, fh) ∧ (-2147483648 ≤ r) ∧ (r ≤ 2147483647)) := by
  refine JM.of (by decide) rfl (fun h => by cases h) (Nat.le_of_ble_eq_true rfl) ⟨0, rfl⟩ ?_
  refine J_hc0 (J_ls (ls2 := [some (.int (zI x)), some (.int (zI y))]) rfl ?_)
  refine J_iload_n dX0_behind_0 rfl rfl ?_
  refine Z_iconst (n := 3) dX0_behind_1 ?_
  refine J_ishl (z := (zI x <<< (zI 3 &&& 31))) dX0_behind_2 rfl ?_
  obtain ⟨z1, z1r, z1e⟩ := zI_of ((zI x <<< (zI 3 &&& 31)))
  rw [z1e]
  refine J_iload_n dX0_behind_3 rfl rfl ?_
  refine J_ior (z := (zI z1 ||| zI y)) dX0_behind_4 rfl ?_
  obtain ⟨z2, z2r, z2e⟩ := zI_of ((zI z1 ||| zI y))
  rw [z2e]
  exact J_iret dX0_behind_5 rfl rfl (Nat.le_of_ble_eq_true rfl) (Nat.le_of_ble_eq_true rfl) ⟨(z2), rfl, rfl, (by omega), (by omega)⟩
set_option maxHeartbeats 4000000 in
set_option maxRecDepth 100000 in
theorem g_changeBeads {l : Launch} {G : jG} {nh : Nat} {fh : Nat → Option va_E} (a : Int) (b : Int) (bf : Nat → Int32) (many : Int) (places : Int) (q0 : 0 ≤ a) (q1 : a ≤ 6) (q2 : 0 ≤ b) (q3 : b ≤ 6) (q4 : Rng bf 7 0 4) (hk51 : fh 51 = some (.inr (0, [.ref 52, .ref 53, .int (zI many), .int (zI places)]))) (hk53 : fh 53 = some (.inl (0, 7, .inl bf))) : JM l G yX0_changeBeads MX0_changeBeads { frames := 0, cells := 0, slots := 0, locals := 0 } [.ref 51, .int (zI a), .int (zI b)] (nh, fh) (fun rr h9 => ∃ bg : Nat → Int32, rr = none ∧ h9 = (nh, hc fh [(53, .inl (0, 7, .inl bg))]) ∧ (Rng bg 7 0 4)) := by
  refine JM.of (by decide) rfl (fun h => by cases h) (Nat.le_of_ble_eq_true rfl) ⟨1, rfl⟩ ?_
  refine J_hc0 (J_ls (ls2 := [some (.ref 51), some (.int (zI a)), some (.int (zI b)), none]) rfl ?_)
  refine J_aload_n dX0_changeBeads_0 rfl rfl ?_
  refine J_get (v := .ref 53) dX0_changeBeads_1 fl_X0_15 hk51 rfl ?_
  refine J_iload_n dX0_changeBeads_4 rfl rfl ?_
  refine Z_iald (lo := 0) (hi := 4) dX0_changeBeads_5 hk53 rfl (by decide) (by omega) (by omega) q4 (fun z1 z1a z1b z1r z1e => ?_)
  refine J_istore_n dX0_changeBeads_6 rfl (Nat.le_of_ble_eq_true rfl) rfl ?_
  refine J_ls (ls2 := [some (.ref 51), some (.int (zI a)), some (.int (zI b)), some (.int (zI z1))]) rfl ?_
  refine J_aload_n dX0_changeBeads_7 rfl rfl ?_
  refine J_get (v := .ref 53) dX0_changeBeads_8 fl_X0_15 hk51 rfl ?_
  refine J_iload_n dX0_changeBeads_11 rfl rfl ?_
  refine J_aload_n dX0_changeBeads_12 rfl rfl ?_
  refine J_get (v := .ref 53) dX0_changeBeads_13 fl_X0_15 hk51 rfl ?_
  refine J_iload_n dX0_changeBeads_16 rfl rfl ?_
  refine Z_iald (lo := 0) (hi := 4) dX0_changeBeads_17 hk53 rfl (by decide) (by omega) (by omega) q4 (fun z2 z2a z2b z2r z2e => ?_)
  refine Z_iast dX0_changeBeads_18 hk53 rfl (by decide) (by omega) (by omega) ?_
  obtain ⟨f3, ef3⟩ : ∃ g : Nat → Int32, g = upd bf (a).toNat (zI z2) := ⟨_, rfl⟩
  rw [← ef3]
  have rf3 : Rng f3 7 0 4 := by rw [ef3]; exact Rng.upd q4 _ (by omega) (by omega) (by omega)
  refine J_aload_n dX0_changeBeads_19 rfl rfl ?_
  refine J_get (v := .ref 53) dX0_changeBeads_20 fl_X0_15 hk51 rfl ?_
  refine J_iload_n dX0_changeBeads_23 rfl rfl ?_
  refine J_iload_n dX0_changeBeads_24 rfl rfl ?_
  refine Z_iast dX0_changeBeads_25 rfl rfl (by decide) (by omega) (by omega) ?_
  obtain ⟨f4, ef4⟩ : ∃ g : Nat → Int32, g = upd f3 (b).toNat (zI z1) := ⟨_, rfl⟩
  rw [← ef4]
  have rf4 : Rng f4 7 0 4 := by rw [ef4]; exact Rng.upd rf3 _ (by omega) (by omega) (by omega)
  refine J_mask (L2 := [(53, .inl (0, 7, .inl f4))]) (ks := [53, 53]) [true, false] rfl (by decide +kernel) rfl ?_
  exact J_vret dX0_changeBeads_26 rfl (Nat.le_of_ble_eq_true rfl) (Nat.le_of_ble_eq_true rfl) ⟨(f4), rfl, rfl, (Rng.mono rf4 (by decide) (by omega) (by omega))⟩
set_option maxHeartbeats 4000000 in
set_option maxRecDepth 100000 in
theorem g_find {l : Launch} {G : jG} {nh : Nat} {fh : Nat → Option va_E} (x : Int) (many : Int) (places : Int) (rf : Nat → Int32) (q0 : -2147483648 ≤ x) (q1 : x ≤ 2147483647) (q2 : 1 ≤ many) (q3 : many ≤ 1260) (hk51 : fh 51 = some (.inr (0, [.ref 52, .ref 53, .int (zI many), .int (zI places)]))) (hk52 : fh 52 = some (.inl (0, 1260, .inl rf))) : JM l G yX0_find MX0_find { frames := 0, cells := 0, slots := 0, locals := 0 } [.ref 51, .int (zI x)] (nh, fh) (fun rr h9 => ∃ r : Int, rr = some (.int (zI r)) ∧ h9 = (nh, fh) ∧ (-1 ≤ r) ∧ (r ≤ many - 1)) := by
  refine JM.of (by decide) rfl (fun h => by cases h) (Nat.le_of_ble_eq_true rfl) ⟨3, rfl⟩ ?_
  refine J_hc0 (J_ls (ls2 := [some (.ref 51), some (.int (zI x)), none, none, none]) rfl ?_)
  refine Z_iconst (n := 0) dX0_find_0 ?_
  refine J_istore_n dX0_find_1 rfl (Nat.le_of_ble_eq_true rfl) rfl ?_
  refine J_ls (ls2 := [some (.ref 51), some (.int (zI x)), some (.int (zI 0)), none, none]) rfl ?_
  refine J_aload_n dX0_find_2 rfl rfl ?_
  refine J_get (v := .int (zI many)) dX0_find_3 fl_X0_18 hk51 rfl ?_
  refine Z_iconst (n := 1) dX0_find_6 ?_
  refine Z_isub (c := many - 1) dX0_find_7 (by omega) ?_
  refine J_istore_n dX0_find_8 rfl (Nat.le_of_ble_eq_true rfl) rfl ?_
  refine J_ls (ls2 := [some (.ref 51), some (.int (zI x)), some (.int (zI 0)), some (.int (zI (many - 1))), none]) rfl ?_
  have loop3 : ∀ (N2 : Nat) (low : Int) (high : Int), 0 ≤ low → low ≤ many → high ≤ many - 1 → -1 ≤ high → (high - low + 1).toNat < N2 → J l G MX0_find { frames := 0, cells := 0, slots := 0, locals := 0 } jE (jMQ G { frames := 0, cells := 0, slots := 0, locals := 0 } (fun rr h9 => ∃ r : Int, rr = some (.int (zI r)) ∧ h9 = (nh, fh) ∧ (-1 ≤ r) ∧ (r ≤ many - 1))) (nh, hc fh []) 0 0 9 [some (.ref 51), some (.int (zI x)), some (.int (zI low)), some (.int (zI high)), none] [] := by
    intro N2
    induction N2 with
    | zero => intro low high ih1_0 ih1_1 ih1_2 ih1_3 hm; exact absurd hm (Nat.not_lt_zero _)
    | succ N2 ih1r =>
      intro low high ih1_0 ih1_1 ih1_2 ih1_3 ih1m
      refine J_iload_n dX0_find_9 rfl rfl ?_
      refine J_iload_n dX0_find_10 rfl rfl ?_
      refine Z_icmp_gt (tgt := 62) dX0_find_11 (by decide) (by omega) (by omega) (fun h4 => ?_) (fun h4 => ?_)
      · refine Z_iconst (n := -1) dX0_find_62 ?_
        exact J_iret dX0_find_63 rfl rfl (Nat.le_of_ble_eq_true rfl) (Nat.le_of_ble_eq_true rfl) ⟨(-1), rfl, rfl, (by omega), (by omega)⟩
      · refine J_iload_n dX0_find_14 rfl rfl ?_
        refine J_iload_n dX0_find_15 rfl rfl ?_
        refine Z_iadd (c := high + low) dX0_find_16 (by omega) ?_
        refine Z_iconst (n := 1) dX0_find_17 ?_
        refine J_ishr (z := zI ((high + low) / 2)) dX0_find_18 (zI_shr (by omega) (by omega) 1 (by decide +kernel) (by decide)) ?_
        obtain ⟨z5, ez5⟩ : ∃ z : Int, z = (high + low) / 2 := ⟨_, rfl⟩
        rw [← ez5]
        refine J_istore dX0_find_19 (Nat.le_of_ble_eq_true rfl) rfl ?_
        refine J_ls (ls2 := [some (.ref 51), some (.int (zI x)), some (.int (zI low)), some (.int (zI high)), some (.int (zI z5))]) rfl ?_
        refine J_aload_n dX0_find_21 rfl rfl ?_
        refine J_get (v := .ref 52) dX0_find_22 fl_X0_9 hk51 rfl ?_
        refine J_iload dX0_find_25 rfl ?_
        refine Z_iald (lo := -2147483648) (hi := 2147483647) dX0_find_27 hk52 rfl (by decide) (by omega) (by omega) (Rng.all _ _) (fun z6 z6a z6b z6r z6e => ?_)
        refine J_iload_n dX0_find_28 rfl rfl ?_
        refine Z_icmp_ne (tgt := 35) dX0_find_29 (by decide) (by omega) (by omega) (fun h7 => ?_) (fun h7 => ?_)
        · refine J_aload_n dX0_find_35 rfl rfl ?_
          refine J_get (v := .ref 52) dX0_find_36 fl_X0_9 hk51 rfl ?_
          refine J_iload dX0_find_39 rfl ?_
          refine Z_iald (lo := -2147483648) (hi := 2147483647) dX0_find_41 hk52 rfl (by decide) (by omega) (by omega) (Rng.all _ _) (fun z8 z8a z8b z8r z8e => ?_)
          refine J_iload_n dX0_find_42 rfl rfl ?_
          refine Z_icmp_ge (tgt := 54) dX0_find_43 (by decide) (by omega) (by omega) (fun h9 => ?_) (fun h9 => ?_)
          · refine J_iload dX0_find_54 rfl ?_
            refine Z_iconst (n := 1) dX0_find_56 ?_
            refine Z_isub (c := z5 - 1) dX0_find_57 (by omega) ?_
            refine J_istore_n dX0_find_58 rfl (Nat.le_of_ble_eq_true rfl) rfl ?_
            refine J_ls (ls2 := [some (.ref 51), some (.int (zI x)), some (.int (zI low)), some (.int (zI (z5 - 1))), some (.int (zI z5))]) rfl ?_
            refine J_goto (tgt := 9) dX0_find_59 (by decide) ?_
            refine J_drop (ls2 := [some (.ref 51), some (.int (zI x)), some (.int (zI low)), some (.int (zI (z5 - 1))), none]) [true, true, true, true, false] rfl ?_
            exact ih1r (low) (z5 - 1) (by omega) (by omega) (by omega) (by omega) (by omega)
          · refine J_iload dX0_find_46 rfl ?_
            refine Z_iconst (n := 1) dX0_find_48 ?_
            refine Z_iadd (c := z5 + 1) dX0_find_49 (by omega) ?_
            refine J_istore_n dX0_find_50 rfl (Nat.le_of_ble_eq_true rfl) rfl ?_
            refine J_ls (ls2 := [some (.ref 51), some (.int (zI x)), some (.int (zI (z5 + 1))), some (.int (zI high)), some (.int (zI z5))]) rfl ?_
            refine J_goto (tgt := 59) dX0_find_51 (by decide) ?_
            refine J_goto (tgt := 9) dX0_find_59 (by decide) ?_
            refine J_drop (ls2 := [some (.ref 51), some (.int (zI x)), some (.int (zI (z5 + 1))), some (.int (zI high)), none]) [true, true, true, true, false] rfl ?_
            exact ih1r (z5 + 1) (high) (by omega) (by omega) (by omega) (by omega) (by omega)
        · refine J_iload dX0_find_32 rfl ?_
          exact J_iret dX0_find_34 rfl rfl (Nat.le_of_ble_eq_true rfl) (Nat.le_of_ble_eq_true rfl) ⟨(z5), rfl, rfl, (by omega), (by omega)⟩
  exact loop3 _ (0) (many - 1) (by omega) (by omega) (by omega) (by omega) (Nat.lt_succ_self _)
set_option maxHeartbeats 4000000 in
set_option maxRecDepth 100000 in
theorem g_packed {l : Launch} {G : jG} {nh : Nat} {fh : Nat → Option va_E} (bf : Nat → Int32) (many : Int) (places : Int) (q0 : 0 ≤ places) (q1 : places ≤ 7) (q2 : Rng bf 7 0 4) (hk51 : fh 51 = some (.inr (0, [.ref 52, .ref 53, .int (zI many), .int (zI places)]))) (hk53 : fh 53 = some (.inl (0, 7, .inl bf))) : JM l G yX0_packed MX0_packed { frames := 1, cells := 0, slots := 0, locals := 21 } [.ref 51] (nh, fh) (fun rr h9 => ∃ r : Int, rr = some (.int (zI r)) ∧ h9 = (nh, fh) ∧ (-2147483648 ≤ r) ∧ (r ≤ 2147483647)) := by
  refine JM.of (by decide) rfl (fun h => by cases h) (Nat.le_of_ble_eq_true rfl) ⟨2, rfl⟩ ?_
  refine J_hc0 (J_ls (ls2 := [some (.ref 51), none, none]) rfl ?_)
  refine Z_iconst (n := 0) dX0_packed_0 ?_
  refine J_istore_n dX0_packed_1 rfl (Nat.le_of_ble_eq_true rfl) rfl ?_
  refine J_ls (ls2 := [some (.ref 51), some (.int (zI 0)), none]) rfl ?_
  refine Z_iconst (n := 0) dX0_packed_2 ?_
  refine J_istore_n dX0_packed_3 rfl (Nat.le_of_ble_eq_true rfl) rfl ?_
  refine J_ls (ls2 := [some (.ref 51), some (.int (zI 0)), some (.int (zI 0))]) rfl ?_
  have loop3 : ∀ (N2 : Nat) (row : Int) (i : Int), -2147483648 ≤ row → row ≤ 2147483647 → 0 ≤ i → i ≤ places → (-i + places).toNat < N2 → J l G MX0_packed { frames := 1, cells := 0, slots := 0, locals := 21 } jE (jMQ G { frames := 1, cells := 0, slots := 0, locals := 21 } (fun rr h9 => ∃ r : Int, rr = some (.int (zI r)) ∧ h9 = (nh, fh) ∧ (-2147483648 ≤ r) ∧ (r ≤ 2147483647))) (nh, hc fh []) 0 0 4 [some (.ref 51), some (.int (zI row)), some (.int (zI i))] [] := by
    intro N2
    induction N2 with
    | zero => intro row i ih1_0 ih1_1 ih1_2 ih1_3 hm; exact absurd hm (Nat.not_lt_zero _)
    | succ N2 ih1r =>
      intro row i ih1_0 ih1_1 ih1_2 ih1_3 ih1m
      refine J_iload_n dX0_packed_4 rfl rfl ?_
      refine J_aload_n dX0_packed_5 rfl rfl ?_
      refine J_get (v := .int (zI places)) dX0_packed_6 fl_X0_22 hk51 rfl ?_
      refine Z_icmp_ge (tgt := 29) dX0_packed_9 (by decide) (by omega) (by omega) (fun h4 => ?_) (fun h4 => ?_)
      · refine J_iload_n dX0_packed_29 rfl rfl ?_
        exact J_iret dX0_packed_30 rfl rfl (Nat.le_of_ble_eq_true rfl) (Nat.le_of_ble_eq_true rfl) ⟨(row), rfl, rfl, (by omega), (by omega)⟩
      · refine J_iload_n dX0_packed_12 rfl rfl ?_
        refine J_aload_n dX0_packed_13 rfl rfl ?_
        refine J_get (v := .ref 53) dX0_packed_14 fl_X0_15 hk51 rfl ?_
        refine J_iload_n dX0_packed_17 rfl rfl ?_
        refine Z_iald (lo := 0) (hi := 4) dX0_packed_18 hk53 rfl (by decide) (by omega) (by omega) q2 (fun z5 z5a z5b z5r z5e => ?_)
        refine J_callS (st := []) dX0_packed_19 cs_X0_33 (g_behind (row) (z5) (by omega) (by omega) (by omega) (by omega)) rfl rfl (Nat.le_of_ble_eq_true rfl) ⟨(Nat.le_of_ble_eq_true rfl), (Nat.le_of_ble_eq_true rfl)⟩ ⟨(Nat.le_of_ble_eq_true rfl), (Nat.le_of_ble_eq_true rfl)⟩ (fun r h9 hp => ?_)
        obtain ⟨z6, rfl, rfl, h7, h8⟩ := hp
        refine J_nf (nh2 := nh) (ck2 := 0) (sk2 := 0) (st2 := [.int (zI z6)]) rfl rfl rfl rfl ?_
        refine J_istore_n dX0_packed_22 rfl (Nat.le_of_ble_eq_true rfl) rfl ?_
        refine J_ls (ls2 := [some (.ref 51), some (.int (zI z6)), some (.int (zI i))]) rfl ?_
        refine Z_iinc (c := i + 1) (ls2 := [some (.ref 51), some (.int (zI z6)), some (.int (zI (i + 1)))]) dX0_packed_23 rfl (Nat.le_of_ble_eq_true rfl) rfl (by omega) rfl ?_
        refine J_goto (tgt := 4) dX0_packed_26 (by decide) ?_
        exact ih1r (z6) (i + 1) (by omega) (by omega) (by omega) (by omega) (by omega)
  exact loop3 _ (0) (0) (by omega) (by omega) (by omega) (by omega) (Nat.lt_succ_self _)
set_option maxHeartbeats 4000000 in
set_option maxRecDepth 100000 in
theorem g_nextOrder {l : Launch} {G : jG} {nh : Nat} {fh : Nat → Option va_E} (bf : Nat → Int32) (many : Int) (places : Int) (q0 : 0 ≤ places) (q1 : places ≤ 7) (q2 : Rng bf 7 0 4) (hk51 : fh 51 = some (.inr (0, [.ref 52, .ref 53, .int (zI many), .int (zI places)]))) (hk53 : fh 53 = some (.inl (0, 7, .inl bf))) : JM l G yX0_nextOrder MX0_nextOrder { frames := 1, cells := 0, slots := 0, locals := 23 } [.ref 51] (nh, fh) (fun rr h9 => ∃ bg : Nat → Int32, ∃ r : Int, rr = some (.int (zI r)) ∧ h9 = (nh, hc fh [(53, .inl (0, 7, .inl bg))]) ∧ (Rng bg 7 0 4) ∧ (0 ≤ r) ∧ (r ≤ 1)) := by
  refine JM.of (by decide) rfl (fun h => by cases h) (Nat.le_of_ble_eq_true rfl) ⟨4, rfl⟩ ?_
  refine J_hc0 (J_ls (ls2 := [some (.ref 51), none, none, none, none]) rfl ?_)
  refine J_aload_n dX0_nextOrder_0 rfl rfl ?_
  refine J_get (v := .int (zI places)) dX0_nextOrder_1 fl_X0_22 hk51 rfl ?_
  refine Z_iconst (n := 2) dX0_nextOrder_4 ?_
  refine Z_isub (c := places - 2) dX0_nextOrder_5 (by omega) ?_
  refine J_istore_n dX0_nextOrder_6 rfl (Nat.le_of_ble_eq_true rfl) rfl ?_
  refine J_ls (ls2 := [some (.ref 51), some (.int (zI (places - 2))), none, none, none]) rfl ?_
  have loop3 : ∀ (N2 : Nat) (low : Int), -2 ≤ low → low ≤ places - 2 → (low + 2).toNat < N2 → J l G MX0_nextOrder { frames := 1, cells := 0, slots := 0, locals := 23 } jE (jMQ G { frames := 1, cells := 0, slots := 0, locals := 23 } (fun rr h9 => ∃ bg : Nat → Int32, ∃ r : Int, rr = some (.int (zI r)) ∧ h9 = (nh, hc fh [(53, .inl (0, 7, .inl bg))]) ∧ (Rng bg 7 0 4) ∧ (0 ≤ r) ∧ (r ≤ 1))) (nh, hc fh []) 0 0 7 [some (.ref 51), some (.int (zI low)), none, none, none] [] := by
    intro N2
    induction N2 with
    | zero => intro low ih1_0 ih1_1 hm; exact absurd hm (Nat.not_lt_zero _)
    | succ N2 ih1r =>
      intro low ih1_0 ih1_1 ih1m
      refine J_iload_n dX0_nextOrder_7 rfl rfl ?_
      refine Z_if_lt (tgt := 34) dX0_nextOrder_8 (by decide) (by omega) (fun h4 => ?_) (fun h4 => ?_)
      · refine J_iload_n dX0_nextOrder_34 rfl rfl ?_
        refine Z_if_ge (tgt := 40) dX0_nextOrder_35 (by decide) (by omega) (fun h5 => absurd h5 (by omega)) (fun h5 => ?_)
        refine Z_iconst (n := 0) dX0_nextOrder_38 ?_
        refine J_touch (k := 53) (e := .inl (0, 7, .inl bf)) hk53 ?_
        exact J_iret dX0_nextOrder_39 rfl (jbn (by omega) (by omega)) (Nat.le_of_ble_eq_true rfl) (Nat.le_of_ble_eq_true rfl) ⟨(bf), (0), rfl, rfl, (Rng.mono q2 (by decide) (by omega) (by omega)), (by omega), (by omega)⟩
      · refine J_aload_n dX0_nextOrder_11 rfl rfl ?_
        refine J_get (v := .ref 53) dX0_nextOrder_12 fl_X0_15 hk51 rfl ?_
        refine J_iload_n dX0_nextOrder_15 rfl rfl ?_
        refine Z_iald (lo := 0) (hi := 4) dX0_nextOrder_16 hk53 rfl (by decide) (by omega) (by omega) q2 (fun z6 z6a z6b z6r z6e => ?_)
        refine J_aload_n dX0_nextOrder_17 rfl rfl ?_
        refine J_get (v := .ref 53) dX0_nextOrder_18 fl_X0_15 hk51 rfl ?_
        refine J_iload_n dX0_nextOrder_21 rfl rfl ?_
        refine Z_iconst (n := 1) dX0_nextOrder_22 ?_
        refine Z_iadd (c := low + 1) dX0_nextOrder_23 (by omega) ?_
        refine Z_iald (lo := 0) (hi := 4) dX0_nextOrder_24 hk53 rfl (by decide) (by omega) (by omega) q2 (fun z7 z7a z7b z7r z7e => ?_)
        refine Z_icmp_lt (tgt := 34) dX0_nextOrder_25 (by decide) (by omega) (by omega) (fun h8 => ?_) (fun h8 => ?_)
        · refine J_iload_n dX0_nextOrder_34 rfl rfl ?_
          refine Z_if_ge (tgt := 40) dX0_nextOrder_35 (by decide) (by omega) (fun h9 => ?_) (fun h9 => absurd h9 (by omega))
          refine J_aload_n dX0_nextOrder_40 rfl rfl ?_
          refine J_get (v := .int (zI places)) dX0_nextOrder_41 fl_X0_22 hk51 rfl ?_
          refine Z_iconst (n := 1) dX0_nextOrder_44 ?_
          refine Z_isub (c := places - 1) dX0_nextOrder_45 (by omega) ?_
          refine J_istore_n dX0_nextOrder_46 rfl (Nat.le_of_ble_eq_true rfl) rfl ?_
          refine J_ls (ls2 := [some (.ref 51), some (.int (zI low)), some (.int (zI (places - 1))), none, none]) rfl ?_
          have loop12 : ∀ (N11 : Nat) (high : Int), low ≤ high → high ≤ places - 1 → (high + 1).toNat < N11 → J l G MX0_nextOrder { frames := 1, cells := 0, slots := 0, locals := 23 } jE (jMQ G { frames := 1, cells := 0, slots := 0, locals := 23 } (fun rr h9 => ∃ bg : Nat → Int32, ∃ r : Int, rr = some (.int (zI r)) ∧ h9 = (nh, hc fh [(53, .inl (0, 7, .inl bg))]) ∧ (Rng bg 7 0 4) ∧ (0 ≤ r) ∧ (r ≤ 1))) (nh, hc fh []) 0 0 47 [some (.ref 51), some (.int (zI low)), some (.int (zI high)), none, none] [] := by
            intro N11
            induction N11 with
            | zero => intro high ih10_0 ih10_1 hm; exact absurd hm (Nat.not_lt_zero _)
            | succ N11 ih10r =>
              intro high ih10_0 ih10_1 ih10m
              refine J_iload_n dX0_nextOrder_47 rfl rfl ?_
              refine J_iload_n dX0_nextOrder_48 rfl rfl ?_
              refine Z_icmp_le (tgt := 73) dX0_nextOrder_49 (by decide) (by omega) (by omega) (fun h13 => ?_) (fun h13 => ?_)
              · refine J_aload_n dX0_nextOrder_73 rfl rfl ?_
                refine J_iload_n dX0_nextOrder_74 rfl rfl ?_
                refine J_iload_n dX0_nextOrder_75 rfl rfl ?_
                refine J_callV (st := []) dX0_nextOrder_76 cv_X0_37 (g_changeBeads (low) (high) (bf) (many) (places) (by omega) (by omega) (by omega) (by omega) (Rng.mono q2 (by decide) (by omega) (by omega)) hk51 hk53) hk51 rfl rfl (Nat.le_of_ble_eq_true rfl) ⟨(Nat.le_of_ble_eq_true rfl), (Nat.le_of_ble_eq_true rfl)⟩ ⟨(Nat.le_of_ble_eq_true rfl), (Nat.le_of_ble_eq_true rfl)⟩ (fun r h9 hp => ?_)
                obtain ⟨f14, rfl, rfl, h15⟩ := hp
                refine J_nf (nh2 := nh) (ck2 := 0) (sk2 := 0) (st2 := []) rfl rfl rfl rfl ?_
                refine J_app (L3 := [(53, .inl (0, 7, .inl f14))]) rfl ?_
                refine J_iload_n dX0_nextOrder_79 rfl rfl ?_
                refine Z_iconst (n := 1) dX0_nextOrder_80 ?_
                refine Z_iadd (c := low + 1) dX0_nextOrder_81 (by omega) ?_
                refine J_istore_n dX0_nextOrder_82 rfl (Nat.le_of_ble_eq_true rfl) rfl ?_
                refine J_ls (ls2 := [some (.ref 51), some (.int (zI low)), some (.int (zI high)), some (.int (zI (low + 1))), none]) rfl ?_
                refine J_aload_n dX0_nextOrder_83 rfl rfl ?_
                refine J_get (v := .int (zI places)) dX0_nextOrder_84 fl_X0_22 hk51 rfl ?_
                refine Z_iconst (n := 1) dX0_nextOrder_87 ?_
                refine Z_isub (c := places - 1) dX0_nextOrder_88 (by omega) ?_
                refine J_istore dX0_nextOrder_89 (Nat.le_of_ble_eq_true rfl) rfl ?_
                refine J_ls (ls2 := [some (.ref 51), some (.int (zI low)), some (.int (zI high)), some (.int (zI (low + 1))), some (.int (zI (places - 1)))]) rfl ?_
                have loop18 : ∀ (N17 : Nat) (bh : Nat → Int32) (left : Int) (right : Int), low + 1 ≤ left → left ≤ 7 → right ≤ places - 1 → -1 ≤ right → Rng bh 7 0 4 → (-left + right + 8).toNat < N17 → J l G MX0_nextOrder { frames := 1, cells := 0, slots := 0, locals := 23 } jE (jMQ G { frames := 1, cells := 0, slots := 0, locals := 23 } (fun rr h9 => ∃ bg : Nat → Int32, ∃ r : Int, rr = some (.int (zI r)) ∧ h9 = (nh, hc fh [(53, .inl (0, 7, .inl bg))]) ∧ (Rng bg 7 0 4) ∧ (0 ≤ r) ∧ (r ≤ 1))) (nh, hc fh [(53, .inl (0, 7, .inl bh))]) 0 0 91 [some (.ref 51), some (.int (zI low)), some (.int (zI high)), some (.int (zI left)), some (.int (zI right))] [] := by
                  intro N17
                  induction N17 with
                  | zero => intro bh left right ih16_0 ih16_1 ih16_2 ih16_3 ih16_4 hm; exact absurd hm (Nat.not_lt_zero _)
                  | succ N17 ih16r =>
                    intro bh left right ih16_0 ih16_1 ih16_2 ih16_3 ih16_4 ih16m
                    refine J_iload_n dX0_nextOrder_91 rfl rfl ?_
                    refine J_iload dX0_nextOrder_92 rfl ?_
                    refine Z_icmp_ge (tgt := 113) dX0_nextOrder_94 (by decide) (by omega) (by omega) (fun h19 => ?_) (fun h19 => ?_)
                    · refine Z_iconst (n := 1) dX0_nextOrder_113 ?_
                      exact J_iret dX0_nextOrder_114 rfl (jbn (by omega) (by omega)) (Nat.le_of_ble_eq_true rfl) (Nat.le_of_ble_eq_true rfl) ⟨(bh), (1), rfl, rfl, (Rng.mono ih16_4 (by decide) (by omega) (by omega)), (by omega), (by omega)⟩
                    · refine J_aload_n dX0_nextOrder_97 rfl rfl ?_
                      refine J_iload_n dX0_nextOrder_98 rfl rfl ?_
                      refine J_iload dX0_nextOrder_99 rfl ?_
                      refine J_callV (st := []) dX0_nextOrder_101 cv_X0_37 (g_changeBeads (left) (right) (bh) (many) (places) (by omega) (by omega) (by omega) (by omega) (Rng.mono ih16_4 (by decide) (by omega) (by omega)) hk51 rfl) hk51 rfl rfl (Nat.le_of_ble_eq_true rfl) ⟨(Nat.le_of_ble_eq_true rfl), (Nat.le_of_ble_eq_true rfl)⟩ ⟨(Nat.le_of_ble_eq_true rfl), (Nat.le_of_ble_eq_true rfl)⟩ (fun r h9 hp => ?_)
                      obtain ⟨f20, rfl, rfl, h21⟩ := hp
                      refine J_nf (nh2 := nh) (ck2 := 0) (sk2 := 0) (st2 := []) rfl rfl rfl rfl ?_
                      refine J_app (L3 := [(53, .inl (0, 7, .inl f20)), (53, .inl (0, 7, .inl bh))]) rfl ?_
                      refine J_mask (L2 := [(53, .inl (0, 7, .inl f20))]) (ks := [53, 53]) [true, false] rfl (by decide +kernel) rfl ?_
                      refine Z_iinc (c := left + 1) (ls2 := [some (.ref 51), some (.int (zI low)), some (.int (zI high)), some (.int (zI (left + 1))), some (.int (zI right))]) dX0_nextOrder_104 rfl (Nat.le_of_ble_eq_true rfl) rfl (by omega) rfl ?_
                      refine Z_iinc (c := right - 1) (ls2 := [some (.ref 51), some (.int (zI low)), some (.int (zI high)), some (.int (zI (left + 1))), some (.int (zI (right - 1)))]) dX0_nextOrder_107 rfl (Nat.le_of_ble_eq_true rfl) rfl (by omega) rfl ?_
                      refine J_goto (tgt := 91) dX0_nextOrder_110 (by decide) ?_
                      exact ih16r (f20) (left + 1) (right - 1) (by omega) (by omega) (by omega) (by omega) (Rng.mono h21 (by decide) (by omega) (by omega)) (by omega)
                exact loop18 _ (f14) (low + 1) (places - 1) (by omega) (by omega) (by omega) (by omega) (Rng.mono h15 (by decide) (by omega) (by omega)) (Nat.lt_succ_self _)
              · refine J_aload_n dX0_nextOrder_52 rfl rfl ?_
                refine J_get (v := .ref 53) dX0_nextOrder_53 fl_X0_15 hk51 rfl ?_
                refine J_iload_n dX0_nextOrder_56 rfl rfl ?_
                refine Z_iald (lo := 0) (hi := 4) dX0_nextOrder_57 hk53 rfl (by decide) (by omega) (by omega) q2 (fun z22 z22a z22b z22r z22e => ?_)
                refine J_aload_n dX0_nextOrder_58 rfl rfl ?_
                refine J_get (v := .ref 53) dX0_nextOrder_59 fl_X0_15 hk51 rfl ?_
                refine J_iload_n dX0_nextOrder_62 rfl rfl ?_
                refine Z_iald (lo := 0) (hi := 4) dX0_nextOrder_63 hk53 rfl (by decide) (by omega) (by omega) q2 (fun z23 z23a z23b z23r z23e => ?_)
                refine Z_icmp_gt (tgt := 73) dX0_nextOrder_64 (by decide) (by omega) (by omega) (fun h24 => ?_) (fun h24 => ?_)
                · refine J_aload_n dX0_nextOrder_73 rfl rfl ?_
                  refine J_iload_n dX0_nextOrder_74 rfl rfl ?_
                  refine J_iload_n dX0_nextOrder_75 rfl rfl ?_
                  refine J_callV (st := []) dX0_nextOrder_76 cv_X0_37 (g_changeBeads (low) (high) (bf) (many) (places) (by omega) (by omega) (by omega) (by omega) (Rng.mono q2 (by decide) (by omega) (by omega)) hk51 hk53) hk51 rfl rfl (Nat.le_of_ble_eq_true rfl) ⟨(Nat.le_of_ble_eq_true rfl), (Nat.le_of_ble_eq_true rfl)⟩ ⟨(Nat.le_of_ble_eq_true rfl), (Nat.le_of_ble_eq_true rfl)⟩ (fun r h9 hp => ?_)
                  obtain ⟨f25, rfl, rfl, h26⟩ := hp
                  refine J_nf (nh2 := nh) (ck2 := 0) (sk2 := 0) (st2 := []) rfl rfl rfl rfl ?_
                  refine J_app (L3 := [(53, .inl (0, 7, .inl f25))]) rfl ?_
                  refine J_iload_n dX0_nextOrder_79 rfl rfl ?_
                  refine Z_iconst (n := 1) dX0_nextOrder_80 ?_
                  refine Z_iadd (c := low + 1) dX0_nextOrder_81 (by omega) ?_
                  refine J_istore_n dX0_nextOrder_82 rfl (Nat.le_of_ble_eq_true rfl) rfl ?_
                  refine J_ls (ls2 := [some (.ref 51), some (.int (zI low)), some (.int (zI high)), some (.int (zI (low + 1))), none]) rfl ?_
                  refine J_aload_n dX0_nextOrder_83 rfl rfl ?_
                  refine J_get (v := .int (zI places)) dX0_nextOrder_84 fl_X0_22 hk51 rfl ?_
                  refine Z_iconst (n := 1) dX0_nextOrder_87 ?_
                  refine Z_isub (c := places - 1) dX0_nextOrder_88 (by omega) ?_
                  refine J_istore dX0_nextOrder_89 (Nat.le_of_ble_eq_true rfl) rfl ?_
                  refine J_ls (ls2 := [some (.ref 51), some (.int (zI low)), some (.int (zI high)), some (.int (zI (low + 1))), some (.int (zI (places - 1)))]) rfl ?_
                  have loop29 : ∀ (N28 : Nat) (bh : Nat → Int32) (left : Int) (right : Int), low + 1 ≤ left → left ≤ 7 → right ≤ places - 1 → -1 ≤ right → Rng bh 7 0 4 → (-left + right + 8).toNat < N28 → J l G MX0_nextOrder { frames := 1, cells := 0, slots := 0, locals := 23 } jE (jMQ G { frames := 1, cells := 0, slots := 0, locals := 23 } (fun rr h9 => ∃ bg : Nat → Int32, ∃ r : Int, rr = some (.int (zI r)) ∧ h9 = (nh, hc fh [(53, .inl (0, 7, .inl bg))]) ∧ (Rng bg 7 0 4) ∧ (0 ≤ r) ∧ (r ≤ 1))) (nh, hc fh [(53, .inl (0, 7, .inl bh))]) 0 0 91 [some (.ref 51), some (.int (zI low)), some (.int (zI high)), some (.int (zI left)), some (.int (zI right))] [] := by
                    intro N28
                    induction N28 with
                    | zero => intro bh left right ih27_0 ih27_1 ih27_2 ih27_3 ih27_4 hm; exact absurd hm (Nat.not_lt_zero _)
                    | succ N28 ih27r =>
                      intro bh left right ih27_0 ih27_1 ih27_2 ih27_3 ih27_4 ih27m
                      refine J_iload_n dX0_nextOrder_91 rfl rfl ?_
                      refine J_iload dX0_nextOrder_92 rfl ?_
                      refine Z_icmp_ge (tgt := 113) dX0_nextOrder_94 (by decide) (by omega) (by omega) (fun h30 => ?_) (fun h30 => ?_)
                      · refine Z_iconst (n := 1) dX0_nextOrder_113 ?_
                        exact J_iret dX0_nextOrder_114 rfl (jbn (by omega) (by omega)) (Nat.le_of_ble_eq_true rfl) (Nat.le_of_ble_eq_true rfl) ⟨(bh), (1), rfl, rfl, (Rng.mono ih27_4 (by decide) (by omega) (by omega)), (by omega), (by omega)⟩
                      · refine J_aload_n dX0_nextOrder_97 rfl rfl ?_
                        refine J_iload_n dX0_nextOrder_98 rfl rfl ?_
                        refine J_iload dX0_nextOrder_99 rfl ?_
                        refine J_callV (st := []) dX0_nextOrder_101 cv_X0_37 (g_changeBeads (left) (right) (bh) (many) (places) (by omega) (by omega) (by omega) (by omega) (Rng.mono ih27_4 (by decide) (by omega) (by omega)) hk51 rfl) hk51 rfl rfl (Nat.le_of_ble_eq_true rfl) ⟨(Nat.le_of_ble_eq_true rfl), (Nat.le_of_ble_eq_true rfl)⟩ ⟨(Nat.le_of_ble_eq_true rfl), (Nat.le_of_ble_eq_true rfl)⟩ (fun r h9 hp => ?_)
                        obtain ⟨f31, rfl, rfl, h32⟩ := hp
                        refine J_nf (nh2 := nh) (ck2 := 0) (sk2 := 0) (st2 := []) rfl rfl rfl rfl ?_
                        refine J_app (L3 := [(53, .inl (0, 7, .inl f31)), (53, .inl (0, 7, .inl bh))]) rfl ?_
                        refine J_mask (L2 := [(53, .inl (0, 7, .inl f31))]) (ks := [53, 53]) [true, false] rfl (by decide +kernel) rfl ?_
                        refine Z_iinc (c := left + 1) (ls2 := [some (.ref 51), some (.int (zI low)), some (.int (zI high)), some (.int (zI (left + 1))), some (.int (zI right))]) dX0_nextOrder_104 rfl (Nat.le_of_ble_eq_true rfl) rfl (by omega) rfl ?_
                        refine Z_iinc (c := right - 1) (ls2 := [some (.ref 51), some (.int (zI low)), some (.int (zI high)), some (.int (zI (left + 1))), some (.int (zI (right - 1)))]) dX0_nextOrder_107 rfl (Nat.le_of_ble_eq_true rfl) rfl (by omega) rfl ?_
                        refine J_goto (tgt := 91) dX0_nextOrder_110 (by decide) ?_
                        exact ih27r (f31) (left + 1) (right - 1) (by omega) (by omega) (by omega) (by omega) (Rng.mono h32 (by decide) (by omega) (by omega)) (by omega)
                  exact loop29 _ (f25) (low + 1) (places - 1) (by omega) (by omega) (by omega) (by omega) (Rng.mono h26 (by decide) (by omega) (by omega)) (Nat.lt_succ_self _)
                · refine Z_iinc (c := high - 1) (ls2 := [some (.ref 51), some (.int (zI low)), some (.int (zI (high - 1))), none, none]) dX0_nextOrder_67 rfl (Nat.le_of_ble_eq_true rfl) rfl (by omega) rfl ?_
                  refine J_goto (tgt := 47) dX0_nextOrder_70 (by decide) ?_
                  exact ih10r (high - 1) (by omega) (by omega) (by omega)
          exact loop12 _ (places - 1) (by omega) (by omega) (Nat.lt_succ_self _)
        · refine Z_iinc (c := low - 1) (ls2 := [some (.ref 51), some (.int (zI (low - 1))), none, none, none]) dX0_nextOrder_28 rfl (Nat.le_of_ble_eq_true rfl) rfl (by omega) rfl ?_
          refine J_goto (tgt := 7) dX0_nextOrder_31 (by decide) ?_
          exact ih1r (low - 1) (by omega) (by omega) (by omega)
  exact loop3 _ (places - 2) (by omega) (by omega) (Nat.lt_succ_self _)
set_option maxHeartbeats 4000000 in
set_option maxRecDepth 100000 in
theorem g_settle {l : Launch} {G : jG} {nh : Nat} {fh : Nat → Option va_E} (ff : Nat → Int32) (bf : Nat → Int32) (rf : Nat → Int32) (many : Int) (places : Int) (q0 : Rng bf 7 0 4) (hk2 : fh 2 = some (.inl (0, 5, .inl ff))) (hk51 : fh 51 = some (.inr (0, [.ref 52, .ref 53, .int (zI many), .int (zI places)]))) (hk53 : fh 53 = some (.inl (0, 7, .inl bf))) (hk52 : fh 52 = some (.inl (0, 1260, .inl rf))) : JM l G yX0_settle MX0_settle { frames := 2, cells := 0, slots := 0, locals := 47 } [.ref 51, .ref 2] (nh, fh) (fun rr h9 => ∃ bg : Nat → Int32, ∃ rg : Nat → Int32, ∃ m2 : Int, ∃ p2 : Int, rr = none ∧ h9 = (nh, hc fh [(51, .inr (0, [.ref 52, .ref 53, .int (zI m2), .int (zI p2)])), (52, .inl (0, 1260, .inl rg)), (53, .inl (0, 7, .inl bg))]) ∧ (Rng bg 7 0 4) ∧ (1 ≤ m2) ∧ (m2 ≤ 1260) ∧ (0 ≤ p2) ∧ (p2 ≤ 7)) := by
  refine JM.of (by decide) rfl (fun h => by cases h) (Nat.le_of_ble_eq_true rfl) ⟨2, rfl⟩ ?_
  refine J_hc0 (J_ls (ls2 := [some (.ref 51), some (.ref 2), none, none]) rfl ?_)
  refine J_aload_n dX0_settle_0 rfl rfl ?_
  refine Z_iconst (n := 0) dX0_settle_1 ?_
  refine K_put (fs2 := [.ref 52, .ref 53, .int (zI many), .int (zI 0)]) dX0_settle_2 fw_X0_22 hk51 (Nat.le_of_ble_eq_true rfl) (fun _ => ⟨rfl, rfl⟩) rfl ?_
  refine Z_iconst (n := 0) dX0_settle_5 ?_
  refine J_istore_n dX0_settle_6 rfl (Nat.le_of_ble_eq_true rfl) rfl ?_
  refine J_ls (ls2 := [some (.ref 51), some (.ref 2), some (.int (zI 0)), none]) rfl ?_
  refine J_touch (k := 53) (e := .inl (0, 7, .inl bf)) hk53 ?_
  have loop3 : ∀ (N2 : Nat) (p : Int) (b1 : Nat → Int32) (co : Int), 0 ≤ p → p ≤ 7 → 0 ≤ co → co ≤ 5 → Rng b1 7 0 4 → (-co + 5).toNat < N2 → J l G MX0_settle { frames := 2, cells := 0, slots := 0, locals := 47 } jE (jMQ G { frames := 2, cells := 0, slots := 0, locals := 47 } (fun rr h9 => ∃ bg : Nat → Int32, ∃ rg : Nat → Int32, ∃ m2 : Int, ∃ p2 : Int, rr = none ∧ h9 = (nh, hc fh [(51, .inr (0, [.ref 52, .ref 53, .int (zI m2), .int (zI p2)])), (52, .inl (0, 1260, .inl rg)), (53, .inl (0, 7, .inl bg))]) ∧ (Rng bg 7 0 4) ∧ (1 ≤ m2) ∧ (m2 ≤ 1260) ∧ (0 ≤ p2) ∧ (p2 ≤ 7))) (nh, hc fh [(53, .inl (0, 7, .inl b1)), (51, .inr (0, [.ref 52, .ref 53, .int (zI many), .int (zI p)]))]) 0 0 7 [some (.ref 51), some (.ref 2), some (.int (zI co)), none] [] := by
    intro N2
    induction N2 with
    | zero => intro p b1 co ih1_0 ih1_1 ih1_2 ih1_3 ih1_4 hm; exact absurd hm (Nat.not_lt_zero _)
    | succ N2 ih1r =>
      intro p b1 co ih1_0 ih1_1 ih1_2 ih1_3 ih1_4 ih1m
      refine J_iload_n dX0_settle_7 rfl rfl ?_
      refine Z_iconst (n := 5) dX0_settle_8 ?_
      refine Z_icmp_ge (tgt := 62) dX0_settle_9 (by decide) (by omega) (by omega) (fun h4 => ?_) (fun h4 => ?_)
      · refine J_aload_n dX0_settle_62 rfl rfl ?_
        refine Z_iconst (n := 0) dX0_settle_63 ?_
        refine K_put (fs2 := [.ref 52, .ref 53, .int (zI 0), .int (zI p)]) dX0_settle_64 fw_X0_18 rfl (Nat.le_of_ble_eq_true rfl) (fun _ => ⟨rfl, rfl⟩) rfl ?_
        refine Z_iconst (n := 1) dX0_settle_67 ?_
        refine J_istore_n dX0_settle_68 rfl (Nat.le_of_ble_eq_true rfl) rfl ?_
        refine J_ls (ls2 := [some (.ref 51), some (.ref 2), some (.int (zI 1)), none]) rfl ?_
        refine Z_iconst (n := 0) dX0_settle_69 ?_
        refine J_istore_n dX0_settle_70 rfl (Nat.le_of_ble_eq_true rfl) rfl ?_
        refine J_ls (ls2 := [some (.ref 51), some (.ref 2), some (.int (zI 1)), some (.int (zI 0))]) rfl ?_
        refine J_touch (k := 52) (e := .inl (0, 1260, .inl rf)) hk52 ?_
        refine J_mask (L2 := [(52, .inl (0, 1260, .inl rf)), (51, .inr (0, [.ref 52, .ref 53, .int (zI 0), .int (zI p)])), (53, .inl (0, 7, .inl b1))]) (ks := [52, 51, 53, 51]) [true, true, true, false] rfl (by decide +kernel) rfl ?_
        have loop7 : ∀ (N6 : Nat) (m : Int) (r1 : Nat → Int32) (b3 : Nat → Int32) (more : Int) (k : Int), 0 ≤ k → k ≤ 1260 → m ≤ k → k ≤ m → 0 ≤ more → more ≤ 1 → 1 ≤ m + more → Rng b3 7 0 4 → (-k + 1260).toNat < N6 → J l G MX0_settle { frames := 2, cells := 0, slots := 0, locals := 47 } jE (jMQ G { frames := 2, cells := 0, slots := 0, locals := 47 } (fun rr h9 => ∃ bg : Nat → Int32, ∃ rg : Nat → Int32, ∃ m2 : Int, ∃ p2 : Int, rr = none ∧ h9 = (nh, hc fh [(51, .inr (0, [.ref 52, .ref 53, .int (zI m2), .int (zI p2)])), (52, .inl (0, 1260, .inl rg)), (53, .inl (0, 7, .inl bg))]) ∧ (Rng bg 7 0 4) ∧ (1 ≤ m2) ∧ (m2 ≤ 1260) ∧ (0 ≤ p2) ∧ (p2 ≤ 7))) (nh, hc fh [(52, .inl (0, 1260, .inl r1)), (51, .inr (0, [.ref 52, .ref 53, .int (zI m), .int (zI p)])), (53, .inl (0, 7, .inl b3))]) 0 0 71 [some (.ref 51), some (.ref 2), some (.int (zI more)), some (.int (zI k))] [] := by
          intro N6
          induction N6 with
          | zero => intro m r1 b3 more k ih5_0 ih5_1 ih5_2 ih5_3 ih5_4 ih5_5 ih5_6 ih5_7 hm; exact absurd hm (Nat.not_lt_zero _)
          | succ N6 ih5r =>
            intro m r1 b3 more k ih5_0 ih5_1 ih5_2 ih5_3 ih5_4 ih5_5 ih5_6 ih5_7 ih5m
            refine J_iload_n dX0_settle_71 rfl rfl ?_
            refine Z_sipush (n := 1260) dX0_settle_72 (by decide +kernel) ?_
            refine Z_icmp_ge (tgt := 116) dX0_settle_75 (by decide) (by omega) (by omega) (fun h8 => ?_) (fun h8 => ?_)
            · refine J_touch (k := 53) (e := .inl (0, 7, .inl b3)) rfl ?_
              refine J_touch (k := 52) (e := .inl (0, 1260, .inl r1)) rfl ?_
              refine J_touch (k := 51) (e := .inr (0, [.ref 52, .ref 53, .int (zI m), .int (zI p)])) rfl ?_
              refine J_mask (L2 := [(51, .inr (0, [.ref 52, .ref 53, .int (zI m), .int (zI p)])), (52, .inl (0, 1260, .inl r1)), (53, .inl (0, 7, .inl b3))]) (ks := [51, 52, 53, 52, 51, 53]) [true, true, true, false, false, false] rfl (by decide +kernel) rfl ?_
              exact J_vret dX0_settle_116 rfl (Nat.le_of_ble_eq_true rfl) (Nat.le_of_ble_eq_true rfl) ⟨(b3), (r1), (m), (p), rfl, rfl, (Rng.mono ih5_7 (by decide) (by omega) (by omega)), (by omega), (by omega), (by omega), (by omega)⟩
            · refine J_iload_n dX0_settle_78 rfl rfl ?_
              refine Z_if_eq (tgt := 116) dX0_settle_79 (by decide) (by omega) (fun h9 => ?_) (fun h9 => ?_)
              · refine J_touch (k := 53) (e := .inl (0, 7, .inl b3)) rfl ?_
                refine J_touch (k := 52) (e := .inl (0, 1260, .inl r1)) rfl ?_
                refine J_touch (k := 51) (e := .inr (0, [.ref 52, .ref 53, .int (zI m), .int (zI p)])) rfl ?_
                refine J_mask (L2 := [(51, .inr (0, [.ref 52, .ref 53, .int (zI m), .int (zI p)])), (52, .inl (0, 1260, .inl r1)), (53, .inl (0, 7, .inl b3))]) (ks := [51, 52, 53, 52, 51, 53]) [true, true, true, false, false, false] rfl (by decide +kernel) rfl ?_
                exact J_vret dX0_settle_116 rfl (Nat.le_of_ble_eq_true rfl) (Nat.le_of_ble_eq_true rfl) ⟨(b3), (r1), (m), (p), rfl, rfl, (Rng.mono ih5_7 (by decide) (by omega) (by omega)), (by omega), (by omega), (by omega), (by omega)⟩
              · refine J_aload_n dX0_settle_82 rfl rfl ?_
                refine J_get (v := .ref 52) dX0_settle_83 fl_X0_9 rfl rfl ?_
                refine J_aload_n dX0_settle_86 rfl rfl ?_
                refine J_get (v := .int (zI m)) dX0_settle_87 fl_X0_18 rfl rfl ?_
                refine J_aload_n dX0_settle_90 rfl rfl ?_
                refine J_callV (st := [.int (zI m), .ref 52]) dX0_settle_91 cv_X0_25 (g_packed (b3) (m) (p) (by omega) (by omega) (Rng.mono ih5_7 (by decide) (by omega) (by omega)) rfl rfl) rfl rfl rfl (Nat.le_of_ble_eq_true rfl) ⟨(Nat.le_of_ble_eq_true rfl), (Nat.le_of_ble_eq_true rfl)⟩ ⟨(Nat.le_of_ble_eq_true rfl), (Nat.le_of_ble_eq_true rfl)⟩ (fun r h9 hp => ?_)
                obtain ⟨z10, rfl, rfl, h11, h12⟩ := hp
                refine J_nf (nh2 := nh) (ck2 := 0) (sk2 := 0) (st2 := [.int (zI z10), .int (zI m), .ref 52]) rfl rfl rfl rfl ?_
                refine Z_iast dX0_settle_94 rfl rfl (by decide) (by omega) (by omega) ?_
                obtain ⟨f13, ef13⟩ : ∃ g : Nat → Int32, g = upd r1 (m).toNat (zI z10) := ⟨_, rfl⟩
                rw [← ef13]
                refine J_aload_n dX0_settle_95 rfl rfl ?_
                refine J_dup dX0_settle_96 rfl ?_
                refine J_get (v := .int (zI m)) dX0_settle_97 fl_X0_18 rfl rfl ?_
                refine Z_iconst (n := 1) dX0_settle_100 ?_
                refine Z_iadd (c := m + 1) dX0_settle_101 (by omega) ?_
                refine K_put (fs2 := [.ref 52, .ref 53, .int (zI (m + 1)), .int (zI p)]) dX0_settle_102 fw_X0_18 rfl (Nat.le_of_ble_eq_true rfl) (fun _ => ⟨rfl, rfl⟩) rfl ?_
                refine J_aload_n dX0_settle_105 rfl rfl ?_
                refine J_callV (st := []) dX0_settle_106 cv_X0_29 (g_nextOrder (b3) (m + 1) (p) (by omega) (by omega) (Rng.mono ih5_7 (by decide) (by omega) (by omega)) rfl rfl) rfl rfl rfl (Nat.le_of_ble_eq_true rfl) ⟨(Nat.le_of_ble_eq_true rfl), (Nat.le_of_ble_eq_true rfl)⟩ ⟨(Nat.le_of_ble_eq_true rfl), (Nat.le_of_ble_eq_true rfl)⟩ (fun r h9 hp => ?_)
                obtain ⟨f14, z15, rfl, rfl, h16, h17, h18⟩ := hp
                refine J_nf (nh2 := nh) (ck2 := 0) (sk2 := 0) (st2 := [.int (zI z15)]) rfl rfl rfl rfl ?_
                refine J_app (L3 := [(53, .inl (0, 7, .inl f14)), (51, .inr (0, [.ref 52, .ref 53, .int (zI (m + 1)), .int (zI p)])), (52, .inl (0, 1260, .inl f13)), (52, .inl (0, 1260, .inl r1)), (51, .inr (0, [.ref 52, .ref 53, .int (zI m), .int (zI p)])), (53, .inl (0, 7, .inl b3))]) rfl ?_
                refine J_mask (L2 := [(53, .inl (0, 7, .inl f14)), (51, .inr (0, [.ref 52, .ref 53, .int (zI (m + 1)), .int (zI p)])), (52, .inl (0, 1260, .inl f13))]) (ks := [53, 51, 52, 52, 51, 53]) [true, true, true, false, false, false] rfl (by decide +kernel) rfl ?_
                refine J_istore_n dX0_settle_109 rfl (Nat.le_of_ble_eq_true rfl) rfl ?_
                refine J_ls (ls2 := [some (.ref 51), some (.ref 2), some (.int (zI z15)), some (.int (zI k))]) rfl ?_
                refine Z_iinc (c := k + 1) (ls2 := [some (.ref 51), some (.ref 2), some (.int (zI z15)), some (.int (zI (k + 1)))]) dX0_settle_110 rfl (Nat.le_of_ble_eq_true rfl) rfl (by omega) rfl ?_
                refine J_goto (tgt := 71) dX0_settle_113 (by decide) ?_
                refine J_touch (k := 53) (e := .inl (0, 7, .inl f14)) rfl ?_
                refine J_touch (k := 51) (e := .inr (0, [.ref 52, .ref 53, .int (zI (m + 1)), .int (zI p)])) rfl ?_
                refine J_touch (k := 52) (e := .inl (0, 1260, .inl f13)) rfl ?_
                refine J_mask (L2 := [(52, .inl (0, 1260, .inl f13)), (51, .inr (0, [.ref 52, .ref 53, .int (zI (m + 1)), .int (zI p)])), (53, .inl (0, 7, .inl f14))]) (ks := [52, 51, 53, 53, 51, 52]) [true, true, true, false, false, false] rfl (by decide +kernel) rfl ?_
                exact ih5r (m + 1) (f13) (f14) (z15) (k + 1) (by omega) (by omega) (by omega) (by omega) (by omega) (by omega) (by omega) (Rng.mono h16 (by decide) (by omega) (by omega)) (by omega)
        exact loop7 _ (0) (rf) (b1) (1) (0) (by omega) (by omega) (by omega) (by omega) (by omega) (by omega) (by omega) (Rng.mono ih1_4 (by decide) (by omega) (by omega)) (Nat.lt_succ_self _)
      · refine Z_iconst (n := 0) dX0_settle_12 ?_
        refine J_istore_n dX0_settle_13 rfl (Nat.le_of_ble_eq_true rfl) rfl ?_
        refine J_ls (ls2 := [some (.ref 51), some (.ref 2), some (.int (zI co)), some (.int (zI 0))]) rfl ?_
        have loop21 : ∀ (N20 : Nat) (pp : Int) (b2 : Nat → Int32) (i : Int), 0 ≤ pp → pp ≤ 7 → 0 ≤ i → i ≤ pp → Rng b2 7 0 4 → (-pp + 7).toNat < N20 → J l G MX0_settle { frames := 2, cells := 0, slots := 0, locals := 47 } jE (jMQ G { frames := 2, cells := 0, slots := 0, locals := 47 } (fun rr h9 => ∃ bg : Nat → Int32, ∃ rg : Nat → Int32, ∃ m2 : Int, ∃ p2 : Int, rr = none ∧ h9 = (nh, hc fh [(51, .inr (0, [.ref 52, .ref 53, .int (zI m2), .int (zI p2)])), (52, .inl (0, 1260, .inl rg)), (53, .inl (0, 7, .inl bg))]) ∧ (Rng bg 7 0 4) ∧ (1 ≤ m2) ∧ (m2 ≤ 1260) ∧ (0 ≤ p2) ∧ (p2 ≤ 7))) (nh, hc fh [(53, .inl (0, 7, .inl b2)), (51, .inr (0, [.ref 52, .ref 53, .int (zI many), .int (zI pp)]))]) 0 0 14 [some (.ref 51), some (.ref 2), some (.int (zI co)), some (.int (zI i))] [] := by
          intro N20
          induction N20 with
          | zero => intro pp b2 i ih19_0 ih19_1 ih19_2 ih19_3 ih19_4 hm; exact absurd hm (Nat.not_lt_zero _)
          | succ N20 ih19r =>
            intro pp b2 i ih19_0 ih19_1 ih19_2 ih19_3 ih19_4 ih19m
            refine J_iload_n dX0_settle_14 rfl rfl ?_
            refine J_aload_n dX0_settle_15 rfl rfl ?_
            refine J_iload_n dX0_settle_16 rfl rfl ?_
            refine Z_iald (lo := -2147483648) (hi := 2147483647) dX0_settle_17 hk2 rfl (by decide) (by omega) (by omega) (Rng.all _ _) (fun z22 z22a z22b z22r z22e => ?_)
            refine Z_icmp_ge (tgt := 56) dX0_settle_18 (by decide) (by omega) (by omega) (fun h23 => ?_) (fun h23 => ?_)
            · refine Z_iinc (c := co + 1) (ls2 := [some (.ref 51), some (.ref 2), some (.int (zI (co + 1))), some (.int (zI i))]) dX0_settle_56 rfl (Nat.le_of_ble_eq_true rfl) rfl (by omega) rfl ?_
              refine J_goto (tgt := 7) dX0_settle_59 (by decide) ?_
              refine J_drop (ls2 := [some (.ref 51), some (.ref 2), some (.int (zI (co + 1))), none]) [true, true, true, false] rfl ?_
              exact ih1r (pp) (b2) (co + 1) (by omega) (by omega) (by omega) (by omega) (Rng.mono ih19_4 (by decide) (by omega) (by omega)) (by omega)
            · refine J_aload_n dX0_settle_21 rfl rfl ?_
              refine J_get (v := .int (zI pp)) dX0_settle_22 fl_X0_22 rfl rfl ?_
              refine Z_bipush (n := 7) dX0_settle_25 (by decide +kernel) ?_
              refine Z_icmp_ge (tgt := 56) dX0_settle_27 (by decide) (by omega) (by omega) (fun h24 => ?_) (fun h24 => ?_)
              · refine Z_iinc (c := co + 1) (ls2 := [some (.ref 51), some (.ref 2), some (.int (zI (co + 1))), some (.int (zI i))]) dX0_settle_56 rfl (Nat.le_of_ble_eq_true rfl) rfl (by omega) rfl ?_
                refine J_goto (tgt := 7) dX0_settle_59 (by decide) ?_
                refine J_drop (ls2 := [some (.ref 51), some (.ref 2), some (.int (zI (co + 1))), none]) [true, true, true, false] rfl ?_
                exact ih1r (pp) (b2) (co + 1) (by omega) (by omega) (by omega) (by omega) (Rng.mono ih19_4 (by decide) (by omega) (by omega)) (by omega)
              · refine J_aload_n dX0_settle_30 rfl rfl ?_
                refine J_get (v := .ref 53) dX0_settle_31 fl_X0_15 rfl rfl ?_
                refine J_aload_n dX0_settle_34 rfl rfl ?_
                refine J_get (v := .int (zI pp)) dX0_settle_35 fl_X0_22 rfl rfl ?_
                refine J_iload_n dX0_settle_38 rfl rfl ?_
                refine Z_iast dX0_settle_39 rfl rfl (by decide) (by omega) (by omega) ?_
                obtain ⟨f25, ef25⟩ : ∃ g : Nat → Int32, g = upd b2 (pp).toNat (zI co) := ⟨_, rfl⟩
                rw [← ef25]
                have rf25 : Rng f25 7 0 4 := by rw [ef25]; exact Rng.upd ih19_4 _ (by omega) (by omega) (by omega)
                refine J_aload_n dX0_settle_40 rfl rfl ?_
                refine J_dup dX0_settle_41 rfl ?_
                refine J_get (v := .int (zI pp)) dX0_settle_42 fl_X0_22 rfl rfl ?_
                refine Z_iconst (n := 1) dX0_settle_45 ?_
                refine Z_iadd (c := pp + 1) dX0_settle_46 (by omega) ?_
                refine K_put (fs2 := [.ref 52, .ref 53, .int (zI many), .int (zI (pp + 1))]) dX0_settle_47 fw_X0_22 rfl (Nat.le_of_ble_eq_true rfl) (fun _ => ⟨rfl, rfl⟩) rfl ?_
                refine Z_iinc (c := i + 1) (ls2 := [some (.ref 51), some (.ref 2), some (.int (zI co)), some (.int (zI (i + 1)))]) dX0_settle_50 rfl (Nat.le_of_ble_eq_true rfl) rfl (by omega) rfl ?_
                refine J_goto (tgt := 14) dX0_settle_53 (by decide) ?_
                refine J_mask (L2 := [(51, .inr (0, [.ref 52, .ref 53, .int (zI many), .int (zI (pp + 1))])), (53, .inl (0, 7, .inl f25))]) (ks := [51, 53, 53, 51]) [true, true, false, false] rfl (by decide +kernel) rfl ?_
                refine J_touch (k := 51) (e := .inr (0, [.ref 52, .ref 53, .int (zI many), .int (zI (pp + 1))])) rfl ?_
                refine J_touch (k := 53) (e := .inl (0, 7, .inl f25)) rfl ?_
                refine J_mask (L2 := [(53, .inl (0, 7, .inl f25)), (51, .inr (0, [.ref 52, .ref 53, .int (zI many), .int (zI (pp + 1))]))]) (ks := [53, 51, 51, 53]) [true, true, false, false] rfl (by decide +kernel) rfl ?_
                exact ih19r (pp + 1) (f25) (i + 1) (by omega) (by omega) (by omega) (by omega) (Rng.mono rf25 (by decide) (by omega) (by omega)) (by omega)
        exact loop21 _ (p) (b1) (0) (by omega) (by omega) (by omega) (by omega) (Rng.mono ih1_4 (by decide) (by omega) (by omega)) (Nat.lt_succ_self _)
  exact loop3 _ (0) (bf) (0) (by omega) (by omega) (by omega) (by omega) (Rng.mono q0 (by decide) (by omega) (by omega)) (Nat.lt_succ_self _)
