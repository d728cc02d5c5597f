/-! The law's own words -/
def h0 : Nat → Option va_E := fun _ => none
theorem i_cut (a b : Int) : a < b ∨ b ≤ a := by omega
theorem i32_rng (x : Int32) : -2147483648 ≤ x.toInt ∧ x.toInt ≤ 2147483647 := by
  have h1 := Int32.le_toInt x
  have h2 := Int32.toInt_lt x
  exact ⟨by omega, by omega⟩
/-- what is known at the law's start: the script of L ints xs at b -/
def lE (b L : Nat) (xs : Nat → Int32) (G : jG) : State → Array Value → Prop := fun s args => args = #[Value.ref b] ∧ va_X b L xs s s.heap ∧ b < s.heap.size ∧ G.2.2.1 = s.heap.size ∧ G.2.2.2 = b
def lQ : List Frame → Array Value → State → State → Prop := fun below args s => lw_Z below args s
section LR
variable {l : Launch} {G : jG} {M : jM} {R : Room} {b L : Nat} {xs : Nat → Int32} {Q : List Frame → Array Value → State → State → Prop} {h : jH} {ck sk pc : Nat} {ls : List (Option Value)} {st : List Value}
theorem L_slen {x : Nat} {v : Int32} (hdg : decode M.2.1 pc = .ok (.arraylength, 1)) (hv : Int32.ofNat L = v) (kk : J l G M R (lE b L xs G) Q h ck sk (pc + 1) ls (.int v :: st)) : J l G M R (lE b L xs G) Q h ck sk pc ls (.retAddr x :: st) := by
  intro p e s m args below meth c H locs la X hE hP hS hL
  subst hv
  have hk := kk p e s m args below meth c H locs la X hE hP hS hL
  obtain ⟨h1, h2, h3, h4, h5⟩ := hE
  have hbA : ¬ jA G b := fun q => by
    have q : G.2.2.1 ≤ b := q
    omega
  show W p l e R s m args below meth c H locs ck sk (Q below args s) (F0 m pc la (.ref G.2.2.2 :: st.map (pv G)))
  rw [h5]
  exact va_slen X.1 X.2.1 h2 h3 hbA hS hdg hk
theorem L_sld {x i2 : Nat} {i v : Int32} (hdg : decode M.2.1 pc = .ok (.iaload, 1)) (hin : vp_in i L) (hi2 : i.toNatClampNeg = i2) (hv : xs i2 = v) (kk : J l G M R (lE b L xs G) Q h ck sk (pc + 1) ls (.int v :: st)) : J l G M R (lE b L xs G) Q h ck sk pc ls (.int i :: .retAddr x :: st) := by
  intro p e s m args below meth c H locs la X hE hP hS hL
  subst hi2
  subst hv
  have hk := kk p e s m args below meth c H locs la X hE hP hS hL
  obtain ⟨h1, h2, h3, h4, h5⟩ := hE
  have hbA : ¬ jA G b := fun q => by
    have q : G.2.2.1 ≤ b := q
    omega
  show W p l e R s m args below meth c H locs ck sk (Q below args s) (F0 m pc la (.int i :: .ref G.2.2.2 :: st.map (pv G)))
  rw [h5]
  exact va_sld X.1 X.2.1 h2 h3 hbA hS hin hdg hk
theorem L_ret (hdg : decode cL_law pc = .ok (.ireturn, 1)) (hc : ck ≤ 600000) (hs : sk ≤ 7302250) : J l G ML_law room_1 (lE b L xs G) lQ h ck sk pc ls [.int 1] := by
  intro p e s m args below meth c H locs la X hE hP hS hL
  obtain ⟨h1, h2, h3, h4, h5⟩ := hE
  subst h1
  refine va_forget (fun q hq => ?_) ?_
  · have := hS.2.2 q hq
    have h6 : G.2.2.1 ≤ q.base := this
    omega
  refine W.widen (k := 600000) (n := 7302250) hc hs ?_
  exact lw_ret X.1 X.2.1 X.2.2.1 X.2.2.2.2.2.2.2.1 hdg
end LR
def L0 : List (Nat × va_E) := [(100, .inl (0, 4870, .inl (upd (fun _ => 0) 63 (-1)))), (98, .inr (12, [.int 0, .int 0, .ref 99, .ref 100, .ref 101, .ref 102, .ref 103, .ref 104, .ref 105, .int 0, .int (-1), .ref 106, .ref 107, .ref 108, .int 0, .int 0, .int 0, .int 0, .int 0, .int 0, .int 0, .ref 109, .int 0, .int 0, .ref 110, .ref 111, .ref 112, .ref 113, .ref 114, .ref 115, .ref 116, .ref 117, .int 0, .int 0, .int (-1), .int (-1), .ref 118, .ref 119, .ref 120, .ref 121, .ref 122, .ref 123, .ref 124, .ref 125, .ref 126, .ref 127, .ref 128, .ref 129, .int 0, .ref 130, .ref 131, .ref 132, .ref 133, .ref 134, .int 0, .int 0])), (134, .inl (0, 1260, .inl (fun _ => 0))), (133, .inl (0, 1600, .inl (fun _ => 0))), (132, .inl (0, 1600, .inl (fun _ => 0))), (131, .inl (0, 1261, .inl (fun _ => 0))), (130, .inl (2, 1260, .inl (fun _ => 0))), (129, .inl (2, 229376, .inl (fun _ => 0))), (128, .inl (1, 1260, .inr (.inl (fun _ => 0)))), (127, .inl (1, 1260, .inr (.inl (fun _ => 0)))), (126, .inl (0, 1260, .inl (fun _ => 0))), (125, .inl (0, 1260, .inl (fun _ => 0))), (124, .inl (2, 27720, .inl (fun _ => 0))), (123, .inl (0, 1260, .inl (fun _ => 0))), (122, .inl (2, 1260, .inl (fun _ => 0))), (121, .inl (0, 1260, .inl (fun _ => 0))), (120, .inl (0, 1260, .inl (fun _ => 0))), (119, .inl (1, 1260, .inr (.inl (fun _ => 0)))), (118, .inl (0, 1260, .inl (fun _ => 0))), (117, .inl (0, 7, .inl (fun _ => 0))), (116, .inl (0, 1260, .inl (fun _ => 0))), (115, .inl (0, 27720, .inl (fun _ => 0))), (114, .inl (0, 1260, .inl (fun _ => 0))), (113, .inl (0, 27720, .inl (fun _ => 0))), (112, .inl (0, 27720, .inl (fun _ => 0))), (111, .inl (0, 1260, .inl (fun _ => 0))), (110, .inl (0, 8820, .inl (fun _ => 0))), (109, .inl (0, 8, .inl (fun _ => 0))), (108, .inl (0, 401, .inl (fun _ => 0))), (107, .inl (0, 401, .inl (fun _ => 0))), (106, .inl (0, 401, .inl (fun _ => 0))), (105, .inl (0, 5, .inl (fun _ => 0))), (104, .inl (3, 400, .inl (fun _ => 0))), (103, .inl (3, 73, .inl (upd (upd (upd (upd (upd (upd (upd (upd (upd (upd (upd (upd (upd (upd (upd (upd (upd (upd (upd (upd (upd (upd (upd (upd (upd (upd (upd (upd (upd (upd (upd (upd (upd (upd (upd (upd (upd (upd (upd (upd (upd (upd (upd (upd (upd (upd (upd (upd (upd (upd (upd (upd (upd (upd (upd (upd (upd (upd (upd (upd (upd (upd (upd (upd (upd (upd (upd (upd (upd (upd (upd (upd (upd (fun _ => 0) 0 116) 1 97) 2 107) 3 101) 4 115) 5 32) 6 108) 7 101) 8 116) 9 115) 10 32) 11 98) 12 97) 13 114) 14 115) 15 32) 16 105) 17 102) 18 32) 19 111) 20 114) 21 32) 22 97) 23 110) 24 100) 25 32) 26 110) 27 111) 28 116) 29 32) 30 108) 31 101) 32 102) 33 116) 34 32) 35 114) 36 105) 37 103) 38 104) 39 116) 40 32) 41 111) 42 110) 43 101) 44 32) 45 111) 46 116) 47 104) 48 101) 49 114) 50 32) 51 97) 52 112) 53 97) 54 114) 55 116) 56 32) 57 102) 58 105) 59 114) 60 115) 61 116) 62 32) 63 98) 64 101) 65 97) 66 110) 67 115) 68 32) 69 100) 70 97) 71 121) 72 32))), (102, .inl (2, 2, .inl (fun _ => 0))), (101, .inl (0, 9740, .inl (fun _ => 0))), (99, .inl (0, 7, .inl (fun _ => 0))), (51, .inr (0, [.ref 52, .ref 53, .int 1, .int 0])), (52, .inl (0, 1260, .inl (upd (fun _ => 0) 0 0))), (0, .inr (11, [.ref 1, .ref 17, .ref 50, .ref 51, .ref 54, .ref 57, .ref 65, .ref 75, .ref 81, .ref 85, .ref 88, .ref 93, .ref 96, .int 0, .int (-1), .ref 97, .int 0])), (97, .inl (0, 1260, .inl (fun _ => 0))), (96, .inl (0, 5, .inl (fun _ => 0))), (93, .inr (4, [.ref 51, .ref 57, .ref 94, .ref 95, .int 0])), (95, .inl (0, 0, .inl (fun _ => 0))), (94, .inl (0, 0, .inl (fun _ => 0))), (88, .inr (6, [.ref 1, .ref 51, .ref 57, .ref 65, .ref 89, .ref 90, .int 0, .int (-1), .ref 91, .ref 92, .int (-1), .int (-1), .int (-1)])), (92, .inl (0, 1260, .inl (fun _ => 0))), (91, .inl (0, 1260, .inl (fun _ => 0))), (90, .inl (0, 1260, .inl (fun _ => 0))), (89, .inl (2, 1260, .inl (fun _ => 0))), (85, .inr (2, [.ref 1, .ref 51, .ref 86, .ref 87])), (87, .inl (0, 12, .inl (fun _ => 0))), (86, .inl (0, 12, .inl (fun _ => 0))), (81, .inr (7, [.ref 51, .ref 57, .ref 82, .ref 83, .ref 84, .int 0, .int (-1)])), (84, .inl (0, 0, .inl (fun _ => 0))), (83, .inl (0, 14, .inl (fun _ => 0))), (82, .inl (0, 14, .inl (fun _ => 0))), (75, .inr (3, [.ref 51, .ref 57, .ref 76, .ref 77, .ref 78, .ref 79, .ref 80, .int 0])), (80, .inl (0, 1260, .inl (fun _ => 0))), (79, .inl (0, 1260, .inl (fun _ => 0))), (78, .inl (0, 1261, .inl (fun _ => 0))), (77, .inl (0, 0, .inl (fun _ => 0))), (76, .inl (0, 0, .inl (fun _ => 0))), (65, .inr (10, [.ref 51, .ref 57, .ref 66, .ref 67, .ref 68, .int 0, .int (-1), .int (-1), .ref 69, .ref 70, .ref 71, .ref 72, .int 0, .int (-1), .int (-1), .ref 73, .ref 74])), (74, .inl (1, 1260, .inr (.inl (fun _ => 0)))), (73, .inl (1, 1260, .inr (.inl (fun _ => 0)))), (72, .inl (0, 1260, .inl (fun _ => 0))), (71, .inl (0, 1260, .inl (fun _ => 0))), (70, .inl (0, 100, .inl (fun _ => 0))), (69, .inl (0, 1260, .inl (fun _ => 0))), (68, .inl (0, 1260, .inl (fun _ => 0))), (67, .inl (0, 1260, .inl (fun _ => 0))), (66, .inl (0, 1260, .inl (fun _ => 0))), (57, .inr (9, [.ref 1, .ref 51, .ref 58, .ref 61, .ref 62, .ref 63, .ref 64, .int 0, .int 1, .int 1])), (64, .inl (0, 2625, .inl (fun _ => 0))), (63, .inl (0, 0, .inl (fun _ => 0))), (62, .inl (0, 1260, .inl (fun _ => 0))), (61, .inl (0, 0, .inl (fun _ => 0))), (58, .inr (1, [.ref 59, .ref 60, .int 0, .int 0, .int 0, .int 0, .int 0, .int 1])), (60, .inl (1, 64, .inr (.inl (fun _ => 0)))), (59, .inl (0, 8, .inl (fun _ => 0))), (54, .inr (5, [.ref 55, .int 0, .int 17, .int 0, .int 0, .int 0, .int 0, .int (-1), .ref 56, .int 0])), (56, .inl (0, 412, .inl (fun _ => 0))), (55, .inl (0, 400, .inl (fun _ => 0))), (53, .inl (0, 7, .inl (fun _ => 0))), (50, .inl (2, 2, .inl (fun _ => 0))), (17, .inl (4, 2, .inr (.inr (.inr (.inr (va_up (va_up (fun _ => none) 0 (some 18)) 1 (some 34))))))), (34, .inr (8, [.ref 35, .ref 36, .ref 37, .int 0, .int (-1), .ref 44, .ref 45, .int 0, .ref 46, .ref 47, .int 0, .ref 48, .ref 49, .int 0])), (49, .inl (0, 12, .inl (fun _ => 0))), (48, .inl (0, 12, .inl (fun _ => 0))), (47, .inl (0, 6, .inl (fun _ => 0))), (46, .inl (0, 6, .inl (fun _ => 0))), (45, .inl (0, 8, .inl (fun _ => 0))), (44, .inl (0, 8, .inl (fun _ => 0))), (43, .inl (0, 0, .inl (fun _ => 0))), (42, .inl (0, 0, .inl (fun _ => 0))), (41, .inl (0, 0, .inl (fun _ => 0))), (40, .inl (0, 0, .inl (fun _ => 0))), (39, .inl (0, 0, .inl (fun _ => 0))), (38, .inl (0, 0, .inl (fun _ => 0))), (37, .inl (5, 6, .inr (.inr (.inr (.inr (fun i => if i < 6 then some (37 + 1 + i) else none)))))), (36, .inl (0, 2, .inl (fun _ => 0))), (35, .inl (0, 5, .inl (fun _ => 0))), (18, .inr (8, [.ref 19, .ref 20, .ref 21, .int 0, .int (-1), .ref 28, .ref 29, .int 0, .ref 30, .ref 31, .int 0, .ref 32, .ref 33, .int 0])), (33, .inl (0, 12, .inl (fun _ => 0))), (32, .inl (0, 12, .inl (fun _ => 0))), (31, .inl (0, 6, .inl (fun _ => 0))), (30, .inl (0, 6, .inl (fun _ => 0))), (29, .inl (0, 8, .inl (fun _ => 0))), (28, .inl (0, 8, .inl (fun _ => 0))), (27, .inl (0, 0, .inl (fun _ => 0))), (26, .inl (0, 0, .inl (fun _ => 0))), (25, .inl (0, 0, .inl (fun _ => 0))), (24, .inl (0, 0, .inl (fun _ => 0))), (23, .inl (0, 0, .inl (fun _ => 0))), (22, .inl (0, 0, .inl (fun _ => 0))), (21, .inl (5, 6, .inr (.inr (.inr (.inr (fun i => if i < 6 then some (21 + 1 + i) else none)))))), (20, .inl (0, 2, .inl (fun _ => 0))), (19, .inl (0, 5, .inl (fun _ => 0))), (1, .inr (8, [.ref 2, .ref 3, .ref 4, .int 0, .int (-1), .ref 11, .ref 12, .int 0, .ref 13, .ref 14, .int 0, .ref 15, .ref 16, .int 0])), (16, .inl (0, 12, .inl (fun _ => 0))), (15, .inl (0, 12, .inl (fun _ => 0))), (14, .inl (0, 6, .inl (fun _ => 0))), (13, .inl (0, 6, .inl (fun _ => 0))), (12, .inl (0, 8, .inl (fun _ => 0))), (11, .inl (0, 8, .inl (fun _ => 0))), (10, .inl (0, 0, .inl (fun _ => 0))), (9, .inl (0, 0, .inl (fun _ => 0))), (8, .inl (0, 0, .inl (fun _ => 0))), (7, .inl (0, 0, .inl (fun _ => 0))), (6, .inl (0, 0, .inl (fun _ => 0))), (5, .inl (0, 0, .inl (fun _ => 0))), (4, .inl (5, 6, .inr (.inr (.inr (.inr (fun i => if i < 6 then some (4 + 1 + i) else none)))))), (3, .inl (0, 2, .inl (fun _ => 0))), (2, .inl (0, 5, .inl (fun _ => 0)))]
def H0 : Nat → Option va_E := hc h0 L0
set_option maxRecDepth 100000 in
theorem H0_0 : H0 0 = some (.inr (11, [.ref 1, .ref 17, .ref 50, .ref 51, .ref 54, .ref 57, .ref 65, .ref 75, .ref 81, .ref 85, .ref 88, .ref 93, .ref 96, .int 0, .int (-1), .ref 97, .int 0])) := rfl
set_option maxRecDepth 100000 in
theorem H0_1 : H0 1 = some (.inr (8, [.ref 2, .ref 3, .ref 4, .int 0, .int (-1), .ref 11, .ref 12, .int 0, .ref 13, .ref 14, .int 0, .ref 15, .ref 16, .int 0])) := rfl
set_option maxRecDepth 100000 in
theorem H0_2 : H0 2 = some (.inl (0, 5, .inl (fun _ => 0))) := rfl
set_option maxRecDepth 100000 in
theorem H0_3 : H0 3 = some (.inl (0, 2, .inl (fun _ => 0))) := rfl
set_option maxRecDepth 100000 in
theorem H0_4 : H0 4 = some (.inl (5, 6, .inr (.inr (.inr (.inr (fun i => if i < 6 then some (4 + 1 + i) else none)))))) := rfl
set_option maxRecDepth 100000 in
theorem H0_5 : H0 5 = some (.inl (0, 0, .inl (fun _ => 0))) := rfl
set_option maxRecDepth 100000 in
theorem H0_6 : H0 6 = some (.inl (0, 0, .inl (fun _ => 0))) := rfl
set_option maxRecDepth 100000 in
theorem H0_7 : H0 7 = some (.inl (0, 0, .inl (fun _ => 0))) := rfl
set_option maxRecDepth 100000 in
theorem H0_8 : H0 8 = some (.inl (0, 0, .inl (fun _ => 0))) := rfl
set_option maxRecDepth 100000 in
theorem H0_9 : H0 9 = some (.inl (0, 0, .inl (fun _ => 0))) := rfl
set_option maxRecDepth 100000 in
theorem H0_10 : H0 10 = some (.inl (0, 0, .inl (fun _ => 0))) := rfl
set_option maxRecDepth 100000 in
theorem H0_11 : H0 11 = some (.inl (0, 8, .inl (fun _ => 0))) := rfl
set_option maxRecDepth 100000 in
theorem H0_12 : H0 12 = some (.inl (0, 8, .inl (fun _ => 0))) := rfl
set_option maxRecDepth 100000 in
theorem H0_13 : H0 13 = some (.inl (0, 6, .inl (fun _ => 0))) := rfl
set_option maxRecDepth 100000 in
theorem H0_14 : H0 14 = some (.inl (0, 6, .inl (fun _ => 0))) := rfl
set_option maxRecDepth 100000 in
theorem H0_15 : H0 15 = some (.inl (0, 12, .inl (fun _ => 0))) := rfl
set_option maxRecDepth 100000 in
theorem H0_16 : H0 16 = some (.inl (0, 12, .inl (fun _ => 0))) := rfl
set_option maxRecDepth 100000 in
theorem H0_17 : H0 17 = some (.inl (4, 2, .inr (.inr (.inr (.inr (va_up (va_up (fun _ => none) 0 (some 18)) 1 (some 34))))))) := rfl
set_option maxRecDepth 100000 in
theorem H0_18 : H0 18 = some (.inr (8, [.ref 19, .ref 20, .ref 21, .int 0, .int (-1), .ref 28, .ref 29, .int 0, .ref 30, .ref 31, .int 0, .ref 32, .ref 33, .int 0])) := rfl
set_option maxRecDepth 100000 in
theorem H0_19 : H0 19 = some (.inl (0, 5, .inl (fun _ => 0))) := rfl
set_option maxRecDepth 100000 in
theorem H0_20 : H0 20 = some (.inl (0, 2, .inl (fun _ => 0))) := rfl
set_option maxRecDepth 100000 in
theorem H0_21 : H0 21 = some (.inl (5, 6, .inr (.inr (.inr (.inr (fun i => if i < 6 then some (21 + 1 + i) else none)))))) := rfl
set_option maxRecDepth 100000 in
theorem H0_22 : H0 22 = some (.inl (0, 0, .inl (fun _ => 0))) := rfl
set_option maxRecDepth 100000 in
theorem H0_23 : H0 23 = some (.inl (0, 0, .inl (fun _ => 0))) := rfl
set_option maxRecDepth 100000 in
theorem H0_24 : H0 24 = some (.inl (0, 0, .inl (fun _ => 0))) := rfl
set_option maxRecDepth 100000 in
theorem H0_25 : H0 25 = some (.inl (0, 0, .inl (fun _ => 0))) := rfl
set_option maxRecDepth 100000 in
theorem H0_26 : H0 26 = some (.inl (0, 0, .inl (fun _ => 0))) := rfl
set_option maxRecDepth 100000 in
theorem H0_27 : H0 27 = some (.inl (0, 0, .inl (fun _ => 0))) := rfl
set_option maxRecDepth 100000 in
theorem H0_28 : H0 28 = some (.inl (0, 8, .inl (fun _ => 0))) := rfl
set_option maxRecDepth 100000 in
theorem H0_29 : H0 29 = some (.inl (0, 8, .inl (fun _ => 0))) := rfl
set_option maxRecDepth 100000 in
theorem H0_30 : H0 30 = some (.inl (0, 6, .inl (fun _ => 0))) := rfl
set_option maxRecDepth 100000 in
theorem H0_31 : H0 31 = some (.inl (0, 6, .inl (fun _ => 0))) := rfl
set_option maxRecDepth 100000 in
theorem H0_32 : H0 32 = some (.inl (0, 12, .inl (fun _ => 0))) := rfl
set_option maxRecDepth 100000 in
theorem H0_33 : H0 33 = some (.inl (0, 12, .inl (fun _ => 0))) := rfl
set_option maxRecDepth 100000 in
theorem H0_34 : H0 34 = some (.inr (8, [.ref 35, .ref 36, .ref 37, .int 0, .int (-1), .ref 44, .ref 45, .int 0, .ref 46, .ref 47, .int 0, .ref 48, .ref 49, .int 0])) := rfl
set_option maxRecDepth 100000 in
theorem H0_35 : H0 35 = some (.inl (0, 5, .inl (fun _ => 0))) := rfl
set_option maxRecDepth 100000 in
theorem H0_36 : H0 36 = some (.inl (0, 2, .inl (fun _ => 0))) := rfl
set_option maxRecDepth 100000 in
theorem H0_37 : H0 37 = some (.inl (5, 6, .inr (.inr (.inr (.inr (fun i => if i < 6 then some (37 + 1 + i) else none)))))) := rfl
set_option maxRecDepth 100000 in
theorem H0_38 : H0 38 = some (.inl (0, 0, .inl (fun _ => 0))) := rfl
set_option maxRecDepth 100000 in
theorem H0_39 : H0 39 = some (.inl (0, 0, .inl (fun _ => 0))) := rfl
set_option maxRecDepth 100000 in
theorem H0_40 : H0 40 = some (.inl (0, 0, .inl (fun _ => 0))) := rfl
set_option maxRecDepth 100000 in
theorem H0_41 : H0 41 = some (.inl (0, 0, .inl (fun _ => 0))) := rfl
set_option maxRecDepth 100000 in
theorem H0_42 : H0 42 = some (.inl (0, 0, .inl (fun _ => 0))) := rfl
set_option maxRecDepth 100000 in
theorem H0_43 : H0 43 = some (.inl (0, 0, .inl (fun _ => 0))) := rfl
set_option maxRecDepth 100000 in
theorem H0_44 : H0 44 = some (.inl (0, 8, .inl (fun _ => 0))) := rfl
set_option maxRecDepth 100000 in
theorem H0_45 : H0 45 = some (.inl (0, 8, .inl (fun _ => 0))) := rfl
set_option maxRecDepth 100000 in
theorem H0_46 : H0 46 = some (.inl (0, 6, .inl (fun _ => 0))) := rfl
set_option maxRecDepth 100000 in
theorem H0_47 : H0 47 = some (.inl (0, 6, .inl (fun _ => 0))) := rfl
set_option maxRecDepth 100000 in
theorem H0_48 : H0 48 = some (.inl (0, 12, .inl (fun _ => 0))) := rfl
set_option maxRecDepth 100000 in
theorem H0_49 : H0 49 = some (.inl (0, 12, .inl (fun _ => 0))) := rfl
set_option maxRecDepth 100000 in
theorem H0_50 : H0 50 = some (.inl (2, 2, .inl (fun _ => 0))) := rfl
set_option maxRecDepth 100000 in
theorem H0_51 : H0 51 = some (.inr (0, [.ref 52, .ref 53, .int 1, .int 0])) := rfl
set_option maxRecDepth 100000 in
theorem H0_52 : H0 52 = some (.inl (0, 1260, .inl (upd (fun _ => 0) 0 0))) := rfl
set_option maxRecDepth 100000 in
theorem H0_53 : H0 53 = some (.inl (0, 7, .inl (fun _ => 0))) := rfl
set_option maxRecDepth 100000 in
theorem H0_54 : H0 54 = some (.inr (5, [.ref 55, .int 0, .int 17, .int 0, .int 0, .int 0, .int 0, .int (-1), .ref 56, .int 0])) := rfl
set_option maxRecDepth 100000 in
theorem H0_55 : H0 55 = some (.inl (0, 400, .inl (fun _ => 0))) := rfl
set_option maxRecDepth 100000 in
theorem H0_56 : H0 56 = some (.inl (0, 412, .inl (fun _ => 0))) := rfl
set_option maxRecDepth 100000 in
theorem H0_57 : H0 57 = some (.inr (9, [.ref 1, .ref 51, .ref 58, .ref 61, .ref 62, .ref 63, .ref 64, .int 0, .int 1, .int 1])) := rfl
set_option maxRecDepth 100000 in
theorem H0_58 : H0 58 = some (.inr (1, [.ref 59, .ref 60, .int 0, .int 0, .int 0, .int 0, .int 0, .int 1])) := rfl
set_option maxRecDepth 100000 in
theorem H0_59 : H0 59 = some (.inl (0, 8, .inl (fun _ => 0))) := rfl
set_option maxRecDepth 100000 in
theorem H0_60 : H0 60 = some (.inl (1, 64, .inr (.inl (fun _ => 0)))) := rfl
set_option maxRecDepth 100000 in
theorem H0_61 : H0 61 = some (.inl (0, 0, .inl (fun _ => 0))) := rfl
set_option maxRecDepth 100000 in
theorem H0_62 : H0 62 = some (.inl (0, 1260, .inl (fun _ => 0))) := rfl
set_option maxRecDepth 100000 in
theorem H0_63 : H0 63 = some (.inl (0, 0, .inl (fun _ => 0))) := rfl
set_option maxRecDepth 100000 in
theorem H0_64 : H0 64 = some (.inl (0, 2625, .inl (fun _ => 0))) := rfl
set_option maxRecDepth 100000 in
theorem H0_65 : H0 65 = some (.inr (10, [.ref 51, .ref 57, .ref 66, .ref 67, .ref 68, .int 0, .int (-1), .int (-1), .ref 69, .ref 70, .ref 71, .ref 72, .int 0, .int (-1), .int (-1), .ref 73, .ref 74])) := rfl
set_option maxRecDepth 100000 in
theorem H0_66 : H0 66 = some (.inl (0, 1260, .inl (fun _ => 0))) := rfl
set_option maxRecDepth 100000 in
theorem H0_67 : H0 67 = some (.inl (0, 1260, .inl (fun _ => 0))) := rfl
set_option maxRecDepth 100000 in
theorem H0_68 : H0 68 = some (.inl (0, 1260, .inl (fun _ => 0))) := rfl
set_option maxRecDepth 100000 in
theorem H0_69 : H0 69 = some (.inl (0, 1260, .inl (fun _ => 0))) := rfl
set_option maxRecDepth 100000 in
theorem H0_70 : H0 70 = some (.inl (0, 100, .inl (fun _ => 0))) := rfl
set_option maxRecDepth 100000 in
theorem H0_71 : H0 71 = some (.inl (0, 1260, .inl (fun _ => 0))) := rfl
set_option maxRecDepth 100000 in
theorem H0_72 : H0 72 = some (.inl (0, 1260, .inl (fun _ => 0))) := rfl
set_option maxRecDepth 100000 in
theorem H0_73 : H0 73 = some (.inl (1, 1260, .inr (.inl (fun _ => 0)))) := rfl
set_option maxRecDepth 100000 in
theorem H0_74 : H0 74 = some (.inl (1, 1260, .inr (.inl (fun _ => 0)))) := rfl
set_option maxRecDepth 100000 in
theorem H0_75 : H0 75 = some (.inr (3, [.ref 51, .ref 57, .ref 76, .ref 77, .ref 78, .ref 79, .ref 80, .int 0])) := rfl
set_option maxRecDepth 100000 in
theorem H0_76 : H0 76 = some (.inl (0, 0, .inl (fun _ => 0))) := rfl
set_option maxRecDepth 100000 in
theorem H0_77 : H0 77 = some (.inl (0, 0, .inl (fun _ => 0))) := rfl
set_option maxRecDepth 100000 in
theorem H0_78 : H0 78 = some (.inl (0, 1261, .inl (fun _ => 0))) := rfl
set_option maxRecDepth 100000 in
theorem H0_79 : H0 79 = some (.inl (0, 1260, .inl (fun _ => 0))) := rfl
set_option maxRecDepth 100000 in
theorem H0_80 : H0 80 = some (.inl (0, 1260, .inl (fun _ => 0))) := rfl
set_option maxRecDepth 100000 in
theorem H0_81 : H0 81 = some (.inr (7, [.ref 51, .ref 57, .ref 82, .ref 83, .ref 84, .int 0, .int (-1)])) := rfl
set_option maxRecDepth 100000 in
theorem H0_82 : H0 82 = some (.inl (0, 14, .inl (fun _ => 0))) := rfl
set_option maxRecDepth 100000 in
theorem H0_83 : H0 83 = some (.inl (0, 14, .inl (fun _ => 0))) := rfl
set_option maxRecDepth 100000 in
theorem H0_84 : H0 84 = some (.inl (0, 0, .inl (fun _ => 0))) := rfl
set_option maxRecDepth 100000 in
theorem H0_85 : H0 85 = some (.inr (2, [.ref 1, .ref 51, .ref 86, .ref 87])) := rfl
set_option maxRecDepth 100000 in
theorem H0_86 : H0 86 = some (.inl (0, 12, .inl (fun _ => 0))) := rfl
set_option maxRecDepth 100000 in
theorem H0_87 : H0 87 = some (.inl (0, 12, .inl (fun _ => 0))) := rfl
set_option maxRecDepth 100000 in
theorem H0_88 : H0 88 = some (.inr (6, [.ref 1, .ref 51, .ref 57, .ref 65, .ref 89, .ref 90, .int 0, .int (-1), .ref 91, .ref 92, .int (-1), .int (-1), .int (-1)])) := rfl
set_option maxRecDepth 100000 in
theorem H0_89 : H0 89 = some (.inl (2, 1260, .inl (fun _ => 0))) := rfl
set_option maxRecDepth 100000 in
theorem H0_90 : H0 90 = some (.inl (0, 1260, .inl (fun _ => 0))) := rfl
set_option maxRecDepth 100000 in
theorem H0_91 : H0 91 = some (.inl (0, 1260, .inl (fun _ => 0))) := rfl
set_option maxRecDepth 100000 in
theorem H0_92 : H0 92 = some (.inl (0, 1260, .inl (fun _ => 0))) := rfl
set_option maxRecDepth 100000 in
theorem H0_93 : H0 93 = some (.inr (4, [.ref 51, .ref 57, .ref 94, .ref 95, .int 0])) := rfl
set_option maxRecDepth 100000 in
theorem H0_94 : H0 94 = some (.inl (0, 0, .inl (fun _ => 0))) := rfl
set_option maxRecDepth 100000 in
theorem H0_95 : H0 95 = some (.inl (0, 0, .inl (fun _ => 0))) := rfl
set_option maxRecDepth 100000 in
theorem H0_96 : H0 96 = some (.inl (0, 5, .inl (fun _ => 0))) := rfl
set_option maxRecDepth 100000 in
theorem H0_97 : H0 97 = some (.inl (0, 1260, .inl (fun _ => 0))) := rfl
set_option maxRecDepth 100000 in
theorem H0_98 : H0 98 = some (.inr (12, [.int 0, .int 0, .ref 99, .ref 100, .ref 101, .ref 102, .ref 103, .ref 104, .ref 105, .int 0, .int (-1), .ref 106, .ref 107, .ref 108, .int 0, .int 0, .int 0, .int 0, .int 0, .int 0, .int 0, .ref 109, .int 0, .int 0, .ref 110, .ref 111, .ref 112, .ref 113, .ref 114, .ref 115, .ref 116, .ref 117, .int 0, .int 0, .int (-1), .int (-1), .ref 118, .ref 119, .ref 120, .ref 121, .ref 122, .ref 123, .ref 124, .ref 125, .ref 126, .ref 127, .ref 128, .ref 129, .int 0, .ref 130, .ref 131, .ref 132, .ref 133, .ref 134, .int 0, .int 0])) := rfl
set_option maxRecDepth 100000 in
theorem H0_99 : H0 99 = some (.inl (0, 7, .inl (fun _ => 0))) := rfl
set_option maxRecDepth 100000 in
theorem H0_100 : H0 100 = some (.inl (0, 4870, .inl (upd (fun _ => 0) 63 (-1)))) := rfl
set_option maxRecDepth 100000 in
theorem H0_101 : H0 101 = some (.inl (0, 9740, .inl (fun _ => 0))) := rfl
set_option maxRecDepth 100000 in
theorem H0_102 : H0 102 = some (.inl (2, 2, .inl (fun _ => 0))) := rfl
set_option maxRecDepth 100000 in
theorem H0_103 : H0 103 = some (.inl (3, 73, .inl (upd (upd (upd (upd (upd (upd (upd (upd (upd (upd (upd (upd (upd (upd (upd (upd (upd (upd (upd (upd (upd (upd (upd (upd (upd (upd (upd (upd (upd (upd (upd (upd (upd (upd (upd (upd (upd (upd (upd (upd (upd (upd (upd (upd (upd (upd (upd (upd (upd (upd (upd (upd (upd (upd (upd (upd (upd (upd (upd (upd (upd (upd (upd (upd (upd (upd (upd (upd (upd (upd (upd (upd (upd (fun _ => 0) 0 116) 1 97) 2 107) 3 101) 4 115) 5 32) 6 108) 7 101) 8 116) 9 115) 10 32) 11 98) 12 97) 13 114) 14 115) 15 32) 16 105) 17 102) 18 32) 19 111) 20 114) 21 32) 22 97) 23 110) 24 100) 25 32) 26 110) 27 111) 28 116) 29 32) 30 108) 31 101) 32 102) 33 116) 34 32) 35 114) 36 105) 37 103) 38 104) 39 116) 40 32) 41 111) 42 110) 43 101) 44 32) 45 111) 46 116) 47 104) 48 101) 49 114) 50 32) 51 97) 52 112) 53 97) 54 114) 55 116) 56 32) 57 102) 58 105) 59 114) 60 115) 61 116) 62 32) 63 98) 64 101) 65 97) 66 110) 67 115) 68 32) 69 100) 70 97) 71 121) 72 32))) := rfl
set_option maxRecDepth 100000 in
theorem H0_104 : H0 104 = some (.inl (3, 400, .inl (fun _ => 0))) := rfl
set_option maxRecDepth 100000 in
theorem H0_105 : H0 105 = some (.inl (0, 5, .inl (fun _ => 0))) := rfl
set_option maxRecDepth 100000 in
theorem H0_106 : H0 106 = some (.inl (0, 401, .inl (fun _ => 0))) := rfl
set_option maxRecDepth 100000 in
theorem H0_107 : H0 107 = some (.inl (0, 401, .inl (fun _ => 0))) := rfl
set_option maxRecDepth 100000 in
theorem H0_108 : H0 108 = some (.inl (0, 401, .inl (fun _ => 0))) := rfl
set_option maxRecDepth 100000 in
theorem H0_109 : H0 109 = some (.inl (0, 8, .inl (fun _ => 0))) := rfl
set_option maxRecDepth 100000 in
theorem H0_110 : H0 110 = some (.inl (0, 8820, .inl (fun _ => 0))) := rfl
set_option maxRecDepth 100000 in
theorem H0_111 : H0 111 = some (.inl (0, 1260, .inl (fun _ => 0))) := rfl
set_option maxRecDepth 100000 in
theorem H0_112 : H0 112 = some (.inl (0, 27720, .inl (fun _ => 0))) := rfl
set_option maxRecDepth 100000 in
theorem H0_113 : H0 113 = some (.inl (0, 27720, .inl (fun _ => 0))) := rfl
set_option maxRecDepth 100000 in
theorem H0_114 : H0 114 = some (.inl (0, 1260, .inl (fun _ => 0))) := rfl
set_option maxRecDepth 100000 in
theorem H0_115 : H0 115 = some (.inl (0, 27720, .inl (fun _ => 0))) := rfl
set_option maxRecDepth 100000 in
theorem H0_116 : H0 116 = some (.inl (0, 1260, .inl (fun _ => 0))) := rfl
set_option maxRecDepth 100000 in
theorem H0_117 : H0 117 = some (.inl (0, 7, .inl (fun _ => 0))) := rfl
set_option maxRecDepth 100000 in
theorem H0_118 : H0 118 = some (.inl (0, 1260, .inl (fun _ => 0))) := rfl
set_option maxRecDepth 100000 in
theorem H0_119 : H0 119 = some (.inl (1, 1260, .inr (.inl (fun _ => 0)))) := rfl
set_option maxRecDepth 100000 in
theorem H0_120 : H0 120 = some (.inl (0, 1260, .inl (fun _ => 0))) := rfl
set_option maxRecDepth 100000 in
theorem H0_121 : H0 121 = some (.inl (0, 1260, .inl (fun _ => 0))) := rfl
set_option maxRecDepth 100000 in
theorem H0_122 : H0 122 = some (.inl (2, 1260, .inl (fun _ => 0))) := rfl
set_option maxRecDepth 100000 in
theorem H0_123 : H0 123 = some (.inl (0, 1260, .inl (fun _ => 0))) := rfl
set_option maxRecDepth 100000 in
theorem H0_124 : H0 124 = some (.inl (2, 27720, .inl (fun _ => 0))) := rfl
set_option maxRecDepth 100000 in
theorem H0_125 : H0 125 = some (.inl (0, 1260, .inl (fun _ => 0))) := rfl
set_option maxRecDepth 100000 in
theorem H0_126 : H0 126 = some (.inl (0, 1260, .inl (fun _ => 0))) := rfl
set_option maxRecDepth 100000 in
theorem H0_127 : H0 127 = some (.inl (1, 1260, .inr (.inl (fun _ => 0)))) := rfl
set_option maxRecDepth 100000 in
theorem H0_128 : H0 128 = some (.inl (1, 1260, .inr (.inl (fun _ => 0)))) := rfl
set_option maxRecDepth 100000 in
theorem H0_129 : H0 129 = some (.inl (2, 229376, .inl (fun _ => 0))) := rfl
set_option maxRecDepth 100000 in
theorem H0_130 : H0 130 = some (.inl (2, 1260, .inl (fun _ => 0))) := rfl
set_option maxRecDepth 100000 in
theorem H0_131 : H0 131 = some (.inl (0, 1261, .inl (fun _ => 0))) := rfl
set_option maxRecDepth 100000 in
theorem H0_132 : H0 132 = some (.inl (0, 1600, .inl (fun _ => 0))) := rfl
set_option maxRecDepth 100000 in
theorem H0_133 : H0 133 = some (.inl (0, 1600, .inl (fun _ => 0))) := rfl
set_option maxRecDepth 100000 in
theorem H0_134 : H0 134 = some (.inl (0, 1260, .inl (fun _ => 0))) := rfl
theorem law_tail {l : Launch} {G : jG} {b : Nat} {xs : Nat → Int32} {nh : Nat} {fh : Nat → Option va_E} {ck sk : Nat} (hc : ck ≤ 600000) (hs : sk ≤ 7302250) : J l G ML_law room_1 (lE b 6 xs G) lQ (nh, fh) ck sk 1221 [some (.retAddr 0), some (.ref 0), some (.ref 98), some (.int 0)] [] := by
  refine J_iinc (v := 6) dL_law_1221 rfl (by decide +kernel) (Nat.le_of_ble_eq_true rfl) rfl ?_
  refine J_goto (tgt := 18) dL_law_1224 (by decide) ?_
  refine J_iload_n dL_law_18 rfl rfl ?_
  refine J_sload_n dL_law_19 rfl rfl ?_
  refine L_slen (v := 6) dL_law_20 (by decide +kernel) ?_
  refine J_bipush (v := 6) dL_law_21 (by decide +kernel) ?_
  refine J_isub (z := 0) dL_law_23 (by decide +kernel) ?_
  refine J_icmp_gt (tgt := 1227) dL_law_24 (by decide) (fun _ => ?_) (fun q => absurd (by decide +kernel) q)
  refine J_iconst (v := 1) dL_law_1227 (by decide) ?_
  exact L_ret dL_law_1228 hc hs
