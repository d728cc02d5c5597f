set_option maxHeartbeats 4000000 in
set_option maxRecDepth 100000 in
theorem M_post {l : Launch} {G : jG} {nh : Nat} {fh : Nat → Option va_E} {c : Int} {aa : jAA} {x : Int} (zx : zr x) {y : Int} (zy : zr y) {v : Int} (zv : zr v) {w : Int} (zw : zr w)  (hc : c ≤ 599) (h : MI fh c aa) : ∃ Po : Option Value → jH → Prop, JM l G yX12_post MX12_post { frames := 43, cells := 0, slots := 0, locals := 1018 } [.ref 98, .int (zI x), .int (zI y), .int (zI v), .int (zI w)] (nh, fh) Po ∧ ∀ rr h9, Po rr h9 → (∃ z : Int, rr = some (.int (zI z))) ∧ h9.1 = nh ∧ MI h9.2 (c + 1) aa ∧ ∀ k, OutM k → h9.2 k = fh k := by
  refine h _ (fun ms mv mt mfa mtn mtk mlv mbd mgo mge mbk mtt mtl hm pm hb sb mfu mdm mla rf7 K im hi wd ta fv cc va plc aq co cd st tk sm cf cm of fa fm li le dn tg us wf wb ra rb en fg ak mi pol dt gr_A gr_B gr_D gr_E gr_F gr_G gr_H gr_K => ?_)
  obtain ⟨hk98, hk99, hk100, hk101, hk102, hk103, hk104, hk105⟩ := gr_A
  obtain ⟨hk106, hk107, hk108, hk109, hk110, hk111⟩ := gr_B
  obtain ⟨hk112, hk113, hk114, hk115, hk116, hk117⟩ := gr_D
  obtain ⟨hk118, hk119, hk120, hk121, hk122, hk123, hk124, hk125, hk126⟩ := gr_E
  obtain ⟨hk127, hk128, hk129, hk130, hk131, hk132, hk133, hk134⟩ := gr_F
  obtain ⟨w0, w1, w2, w3, w4, w5, w6, w7⟩ := gr_G
  obtain ⟨w8, w9, w10, w11, w12, w13, w14, w15, w16, w17⟩ := gr_H
  obtain ⟨w18, w19, w20, w21, w22, w23, w24, w25, w26, w27, w28, w29, w30, w31, w32, w33, w34, w35⟩ := gr_K
  refine ⟨_, k_post x y v w ms mv mt mfa mtn mtk mlv mbd mgo mge mbk mtt mtl hm pm hb sb mfu mdm mla K co cd of st tk sm cf cm aq mi pol zx zy zv zw w0 w1 w2 (v_78230c730d w28 w29 hc) w3 w4 w5 w6 w7 w8 w9 w10 hk98 hk100 hk110 hk111 hk117 hk112 hk113 hk114 hk115 hk116 hk109 hk132 hk133, fun rr h9 hp => ?_⟩
  obtain ⟨z1, z2, z3, z4, f5, f6, f7, z8, f9, f10, f11, f12, f13, f14, z15, z16, z17, z18, z19, f20, f21, rfl, rfl, h22, h23, h24, h25, h26, h27, h28, h29, h30, h31⟩ := hp
  dsimp only
  exact ⟨⟨_, rfl⟩, rfl, (fun _ kk => kk ms mv mt mfa mtn mtk mlv mbd z15 z16 z17 z18 z19 z2 z3 z4 z8 mfu mdm mla rf7 K im hi wd ta fv cc va plc f14 f5 f6 f9 f10 f11 f12 f13 f7 fa fm li le dn tg us wf wb ra rb en fg ak f20 f21 dt ⟨rfl, hk99, hk100, hk101, hk102, hk103, hk104, hk105⟩ ⟨hk106, hk107, hk108, rfl, rfl, rfl⟩ ⟨rfl, rfl, rfl, rfl, rfl, rfl⟩ ⟨hk118, hk119, hk120, hk121, hk122, hk123, hk124, hk125, hk126⟩ ⟨hk127, hk128, hk129, hk130, hk131, rfl, rfl, hk134⟩ ⟨w0, h22, h23, h24, h25, h26, h27, h28⟩ ⟨h29, h30, h31, w11, w12, w13, w14, w15, w16, w17⟩ ⟨w18, w19, w20, w21, w22, w23, w24, w25, w26, w27, w28, (v_d50281bace w29), (v_da458fa48a w30), w31, w32, w33, w34, w35⟩), (fun k a => hc_inM (L := [(98, .inr (12, (.int (zI ms) :: .int (zI mv) :: .ref 99 :: .ref 100 :: .ref 101 :: .ref 102 :: .ref 103 :: .ref 104 :: .ref 105 :: .int (zI mt) :: .int (zI mfa) :: .ref 106 :: .ref 107 :: .ref 108 :: .int (zI mtn) :: .int (zI mtk) :: .int (zI mlv) :: .int (zI mbd) :: .int (zI z15) :: .int (zI z16) :: .int (zI z17) :: .ref 109 :: .int (zI z18) :: .int (zI z19) :: .ref 110 :: .ref 111 :: .ref 112 :: .ref 113 :: .ref 114 :: .ref 115 :: .ref 116 :: .ref 117 :: .int (zI z2) :: .int (zI z3) :: .int (zI z4) :: .int (zI z8) :: .ref 118 :: .ref 119 :: .ref 120 :: .ref 121 :: .ref 122 :: .ref 123 :: .ref 124 :: .ref 125 :: .ref 126 :: .ref 127 :: .ref 128 :: .ref 129 :: .int (zI mfu) :: .ref 130 :: .ref 131 :: .ref 132 :: .ref 133 :: .ref 134 :: .int (zI mdm) :: .int (zI mla) :: []))), (110, .inl (0, 8820, .inl (zA f5))), (111, .inl (0, 1260, .inl (zA f6))), (117, .inl (0, 7, .inl (zA f7))), (112, .inl (0, 27720, .inl (zA f9))), (113, .inl (0, 27720, .inl (zA f10))), (114, .inl (0, 1260, .inl (zA f11))), (115, .inl (0, 27720, .inl (zA f12))), (116, .inl (0, 1260, .inl (zA f13))), (109, .inl (0, 8, .inl (zA f14))), (132, .inl (0, 1600, .inl (zA f20))), (133, .inl (0, 1600, .inl (zA f21)))]) ⟨(show InM 98 from ⟨by decide, by decide⟩), (show InM 110 from ⟨by decide, by decide⟩), (show InM 111 from ⟨by decide, by decide⟩), (show InM 117 from ⟨by decide, by decide⟩), (show InM 112 from ⟨by decide, by decide⟩), (show InM 113 from ⟨by decide, by decide⟩), (show InM 114 from ⟨by decide, by decide⟩), (show InM 115 from ⟨by decide, by decide⟩), (show InM 116 from ⟨by decide, by decide⟩), (show InM 109 from ⟨by decide, by decide⟩), (show InM 132 from ⟨by decide, by decide⟩), (show InM 133 from ⟨by decide, by decide⟩), True.intro⟩ k a)⟩
set_option maxHeartbeats 4000000 in
set_option maxRecDepth 100000 in
theorem M_drunk {l : Launch} {G : jG} {nh : Nat} {fh : Nat → Option va_E} {c : Int} {aa : jAA} {x : Int} (zx : zr x) {y : Int} (zy : zr y) {v : Int} (zv : zr v)  (hc : c ≤ 599) (h : MI fh c aa) : ∃ Po : Option Value → jH → Prop, JM l G yX12_drunk MX12_drunk { frames := 43, cells := 0, slots := 0, locals := 1018 } [.ref 98, .int (zI x), .int (zI y), .int (zI v)] (nh, fh) Po ∧ ∀ rr h9, Po rr h9 → (∃ z : Int, rr = some (.int (zI z))) ∧ h9.1 = nh ∧ MI h9.2 (c + 1) aa ∧ ∀ k, OutM k → h9.2 k = fh k := by
  refine h _ (fun ms mv mt mfa mtn mtk mlv mbd mgo mge mbk mtt mtl hm pm hb sb mfu mdm mla rf7 K im hi wd ta fv cc va plc aq co cd st tk sm cf cm of fa fm li le dn tg us wf wb ra rb en fg ak mi pol dt gr_A gr_B gr_D gr_E gr_F gr_G gr_H gr_K => ?_)
  obtain ⟨hk98, hk99, hk100, hk101, hk102, hk103, hk104, hk105⟩ := gr_A
  obtain ⟨hk106, hk107, hk108, hk109, hk110, hk111⟩ := gr_B
  obtain ⟨hk112, hk113, hk114, hk115, hk116, hk117⟩ := gr_D
  obtain ⟨hk118, hk119, hk120, hk121, hk122, hk123, hk124, hk125, hk126⟩ := gr_E
  obtain ⟨hk127, hk128, hk129, hk130, hk131, hk132, hk133, hk134⟩ := gr_F
  obtain ⟨w0, w1, w2, w3, w4, w5, w6, w7⟩ := gr_G
  obtain ⟨w8, w9, w10, w11, w12, w13, w14, w15, w16, w17⟩ := gr_H
  obtain ⟨w18, w19, w20, w21, w22, w23, w24, w25, w26, w27, w28, w29, w30, w31, w32, w33, w34, w35⟩ := gr_K
  refine ⟨_, k_drunk x y v ms mv mt mfa mtn mtk mlv mbd mgo mge mbk mtt mtl hm pm hb sb mfu mdm mla K co cd of st tk sm cf cm aq dt rf7 zx zy zv w16 w17 w0 w1 w2 (v_78230c730d w28 w29 hc) w3 w4 w5 w6 w7 w8 w9 w10 hk98 hk100 hk110 hk111 hk117 hk112 hk113 hk114 hk115 hk116 hk109 hk134 hk99, fun rr h9 hp => ?_⟩
  obtain ⟨z1, z2, z3, z4, f5, f6, f7, z8, f9, f10, f11, f12, f13, f14, z15, z16, z17, z18, z19, f20, f21, z22, z23, z24, z25, rfl, rfl, h26, h27, h28, h29, h30, h31, h32, h33, h34, h35, h36, h37, h38, h39⟩ := hp
  dsimp only
  exact ⟨⟨_, rfl⟩, rfl, (fun _ kk => kk z22 z23 mt mfa mtn mtk mlv mbd z15 z16 z17 z18 z19 z2 z3 z4 z8 mfu z25 z24 f21 K im hi wd ta fv cc va plc f14 f5 f6 f9 f10 f11 f12 f13 f7 fa fm li le dn tg us wf wb ra rb en fg ak mi pol f20 ⟨rfl, rfl, hk100, hk101, hk102, hk103, hk104, hk105⟩ ⟨hk106, hk107, hk108, rfl, rfl, rfl⟩ ⟨rfl, rfl, rfl, rfl, rfl, rfl⟩ ⟨hk118, hk119, hk120, hk121, hk122, hk123, hk124, hk125, hk126⟩ ⟨hk127, hk128, hk129, hk130, hk131, hk132, hk133, rfl⟩ ⟨w0, h26, h27, (fun w => by
        have a : z4 ≤ mv := (v_d464d4c634 h31); have b : mv ≤ z23 := (v_d464d4c634 h36)
        have e : z23 = mv := by omega
        exact h28 (by omega)), h29, (fun w => by
        have a : z8 ≤ mv := (v_d464d4c634 h32); have b : mv ≤ z23 := (v_d464d4c634 h36)
        have e : z23 = mv := by omega
        exact h30 (by omega)), (v_8fadc7eb76 h31 h36), (v_8fadc7eb76 h32 h36)⟩ ⟨h33, h34, h35, w11, w12, w13, w14, w15, h38, h39⟩ ⟨w18, w19, w20, w21, w22, w23, w24, w25, w26, w27, (v_21976c7318 w28 h36), (v_08334df34c w29 h37), (v_da458fa48a w30), w31, w32, w33, w34, w35⟩), (fun k a => hc_inM (L := [(98, .inr (12, (.int (zI z22) :: .int (zI z23) :: .ref 99 :: .ref 100 :: .ref 101 :: .ref 102 :: .ref 103 :: .ref 104 :: .ref 105 :: .int (zI mt) :: .int (zI mfa) :: .ref 106 :: .ref 107 :: .ref 108 :: .int (zI mtn) :: .int (zI mtk) :: .int (zI mlv) :: .int (zI mbd) :: .int (zI z15) :: .int (zI z16) :: .int (zI z17) :: .ref 109 :: .int (zI z18) :: .int (zI z19) :: .ref 110 :: .ref 111 :: .ref 112 :: .ref 113 :: .ref 114 :: .ref 115 :: .ref 116 :: .ref 117 :: .int (zI z2) :: .int (zI z3) :: .int (zI z4) :: .int (zI z8) :: .ref 118 :: .ref 119 :: .ref 120 :: .ref 121 :: .ref 122 :: .ref 123 :: .ref 124 :: .ref 125 :: .ref 126 :: .ref 127 :: .ref 128 :: .ref 129 :: .int (zI mfu) :: .ref 130 :: .ref 131 :: .ref 132 :: .ref 133 :: .ref 134 :: .int (zI z25) :: .int (zI z24) :: []))), (110, .inl (0, 8820, .inl (zA f5))), (111, .inl (0, 1260, .inl (zA f6))), (117, .inl (0, 7, .inl (zA f7))), (112, .inl (0, 27720, .inl (zA f9))), (113, .inl (0, 27720, .inl (zA f10))), (114, .inl (0, 1260, .inl (zA f11))), (115, .inl (0, 27720, .inl (zA f12))), (116, .inl (0, 1260, .inl (zA f13))), (109, .inl (0, 8, .inl (zA f14))), (134, .inl (0, 1260, .inl (zA f20))), (99, .inl (0, 7, .inl (zA f21)))]) ⟨(show InM 98 from ⟨by decide, by decide⟩), (show InM 110 from ⟨by decide, by decide⟩), (show InM 111 from ⟨by decide, by decide⟩), (show InM 117 from ⟨by decide, by decide⟩), (show InM 112 from ⟨by decide, by decide⟩), (show InM 113 from ⟨by decide, by decide⟩), (show InM 114 from ⟨by decide, by decide⟩), (show InM 115 from ⟨by decide, by decide⟩), (show InM 116 from ⟨by decide, by decide⟩), (show InM 109 from ⟨by decide, by decide⟩), (show InM 134 from ⟨by decide, by decide⟩), (show InM 99 from ⟨by decide, by decide⟩), True.intro⟩ k a)⟩
set_option maxHeartbeats 4000000 in
set_option maxRecDepth 100000 in
theorem M_drawn {l : Launch} {G : jG} {nh : Nat} {fh : Nat → Option va_E} {c : Int} {aa : jAA} {x : Int} (zx : zr x)  (hc : c ≤ 599) (h : MI fh c aa) : ∃ Po : Option Value → jH → Prop, JM l G yX12_drawn MX12_drawn { frames := 1, cells := 0, slots := 0, locals := 22 } [.ref 98, .int (zI x)] (nh, fh) Po ∧ ∀ rr h9, Po rr h9 → (∃ z : Int, rr = some (.int (zI z))) ∧ h9.1 = nh ∧ MI h9.2 (c + 1) aa ∧ ∀ k, OutM k → h9.2 k = fh k := by
  refine h _ (fun ms mv mt mfa mtn mtk mlv mbd mgo mge mbk mtt mtl hm pm hb sb mfu mdm mla rf7 K im hi wd ta fv cc va plc aq co cd st tk sm cf cm of fa fm li le dn tg us wf wb ra rb en fg ak mi pol dt gr_A gr_B gr_D gr_E gr_F gr_G gr_H gr_K => ?_)
  obtain ⟨hk98, hk99, hk100, hk101, hk102, hk103, hk104, hk105⟩ := gr_A
  obtain ⟨hk106, hk107, hk108, hk109, hk110, hk111⟩ := gr_B
  obtain ⟨hk112, hk113, hk114, hk115, hk116, hk117⟩ := gr_D
  obtain ⟨hk118, hk119, hk120, hk121, hk122, hk123, hk124, hk125, hk126⟩ := gr_E
  obtain ⟨hk127, hk128, hk129, hk130, hk131, hk132, hk133, hk134⟩ := gr_F
  obtain ⟨w0, w1, w2, w3, w4, w5, w6, w7⟩ := gr_G
  obtain ⟨w8, w9, w10, w11, w12, w13, w14, w15, w16, w17⟩ := gr_H
  obtain ⟨w18, w19, w20, w21, w22, w23, w24, w25, w26, w27, w28, w29, w30, w31, w32, w33, w34, w35⟩ := gr_K
  refine ⟨_, k_drawn x dt ms mv mt mfa mtn mtk mlv mbd mgo mge mbk mtt mtl hm pm hb sb mfu mdm mla zx w16 w17 hk98 hk134, fun rr h9 hp => ?_⟩
  obtain ⟨z1, rfl, rfl⟩ := hp
  dsimp only
  exact ⟨⟨_, rfl⟩, rfl, (fun _ kk => kk ms mv mt mfa mtn mtk mlv mbd mgo mge mbk mtt mtl hm pm hb sb mfu mdm mla rf7 K im hi wd ta fv cc va plc aq co cd st tk sm cf cm of fa fm li le dn tg us wf wb ra rb en fg ak mi pol dt ⟨hk98, hk99, hk100, hk101, hk102, hk103, hk104, hk105⟩ ⟨hk106, hk107, hk108, hk109, hk110, hk111⟩ ⟨hk112, hk113, hk114, hk115, hk116, hk117⟩ ⟨hk118, hk119, hk120, hk121, hk122, hk123, hk124, hk125, hk126⟩ ⟨hk127, hk128, hk129, hk130, hk131, hk132, hk133, hk134⟩ ⟨w0, w1, w2, w3, w4, w5, w6, w7⟩ ⟨w8, w9, w10, w11, w12, w13, w14, w15, w16, w17⟩ ⟨w18, w19, w20, w21, w22, w23, w24, w25, w26, w27, w28, (v_d50281bace w29), (v_da458fa48a w30), w31, w32, w33, w34, w35⟩), (fun _ _ => rfl)⟩
set_option maxHeartbeats 4000000 in
set_option maxRecDepth 100000 in
theorem M_count {l : Launch} {G : jG} {nh : Nat} {fh : Nat → Option va_E} {c : Int} {aa : jAA} {x : Int} (zx : zr x)  (hc : c ≤ 599) (h : MI fh c aa) : ∃ Po : Option Value → jH → Prop, JM l G yX12_count MX12_count { frames := 1, cells := 0, slots := 0, locals := 22 } [.ref 98, .int (zI x)] (nh, fh) Po ∧ ∀ rr h9, Po rr h9 → (∃ z : Int, rr = some (.int (zI z))) ∧ h9.1 = nh ∧ MI h9.2 (c + 1) aa ∧ ∀ k, OutM k → h9.2 k = fh k := by
  refine h _ (fun ms mv mt mfa mtn mtk mlv mbd mgo mge mbk mtt mtl hm pm hb sb mfu mdm mla rf7 K im hi wd ta fv cc va plc aq co cd st tk sm cf cm of fa fm li le dn tg us wf wb ra rb en fg ak mi pol dt gr_A gr_B gr_D gr_E gr_F gr_G gr_H gr_K => ?_)
  obtain ⟨hk98, hk99, hk100, hk101, hk102, hk103, hk104, hk105⟩ := gr_A
  obtain ⟨hk106, hk107, hk108, hk109, hk110, hk111⟩ := gr_B
  obtain ⟨hk112, hk113, hk114, hk115, hk116, hk117⟩ := gr_D
  obtain ⟨hk118, hk119, hk120, hk121, hk122, hk123, hk124, hk125, hk126⟩ := gr_E
  obtain ⟨hk127, hk128, hk129, hk130, hk131, hk132, hk133, hk134⟩ := gr_F
  obtain ⟨w0, w1, w2, w3, w4, w5, w6, w7⟩ := gr_G
  obtain ⟨w8, w9, w10, w11, w12, w13, w14, w15, w16, w17⟩ := gr_H
  obtain ⟨w18, w19, w20, w21, w22, w23, w24, w25, w26, w27, w28, w29, w30, w31, w32, w33, w34, w35⟩ := gr_K
  refine ⟨_, k_count x K rf7 ms mv mt mfa mtn mtk mlv mbd mgo mge mbk mtt mtl hm pm hb sb mfu mdm mla zx hk98 hk100 hk99, fun rr h9 hp => ?_⟩
  obtain ⟨z1, rfl, rfl⟩ := hp
  dsimp only
  exact ⟨⟨_, rfl⟩, rfl, (fun _ kk => kk ms mv mt mfa mtn mtk mlv mbd mgo mge mbk mtt mtl hm pm hb sb mfu mdm mla rf7 K im hi wd ta fv cc va plc aq co cd st tk sm cf cm of fa fm li le dn tg us wf wb ra rb en fg ak mi pol dt ⟨hk98, hk99, hk100, hk101, hk102, hk103, hk104, hk105⟩ ⟨hk106, hk107, hk108, hk109, hk110, hk111⟩ ⟨hk112, hk113, hk114, hk115, hk116, hk117⟩ ⟨hk118, hk119, hk120, hk121, hk122, hk123, hk124, hk125, hk126⟩ ⟨hk127, hk128, hk129, hk130, hk131, hk132, hk133, hk134⟩ ⟨w0, w1, w2, w3, w4, w5, w6, w7⟩ ⟨w8, w9, w10, w11, w12, w13, w14, w15, w16, w17⟩ ⟨w18, w19, w20, w21, w22, w23, w24, w25, w26, w27, w28, (v_d50281bace w29), (v_da458fa48a w30), w31, w32, w33, w34, w35⟩), (fun _ _ => rfl)⟩
set_option maxHeartbeats 4000000 in
set_option maxRecDepth 100000 in
theorem M_status {l : Launch} {G : jG} {nh : Nat} {fh : Nat → Option va_E} {c : Int} {aa : jAA}  (hc : c ≤ 599) (h : MI fh c aa) : ∃ Po : Option Value → jH → Prop, JM l G yX12_status MX12_status { frames := 0, cells := 0, slots := 0, locals := 0 } [.ref 98] (nh, fh) Po ∧ ∀ rr h9, Po rr h9 → (∃ z : Int, rr = some (.int (zI z))) ∧ h9.1 = nh ∧ MI h9.2 (c + 1) aa ∧ ∀ k, OutM k → h9.2 k = fh k := by
  refine h _ (fun ms mv mt mfa mtn mtk mlv mbd mgo mge mbk mtt mtl hm pm hb sb mfu mdm mla rf7 K im hi wd ta fv cc va plc aq co cd st tk sm cf cm of fa fm li le dn tg us wf wb ra rb en fg ak mi pol dt gr_A gr_B gr_D gr_E gr_F gr_G gr_H gr_K => ?_)
  obtain ⟨hk98, hk99, hk100, hk101, hk102, hk103, hk104, hk105⟩ := gr_A
  obtain ⟨hk106, hk107, hk108, hk109, hk110, hk111⟩ := gr_B
  obtain ⟨hk112, hk113, hk114, hk115, hk116, hk117⟩ := gr_D
  obtain ⟨hk118, hk119, hk120, hk121, hk122, hk123, hk124, hk125, hk126⟩ := gr_E
  obtain ⟨hk127, hk128, hk129, hk130, hk131, hk132, hk133, hk134⟩ := gr_F
  obtain ⟨w0, w1, w2, w3, w4, w5, w6, w7⟩ := gr_G
  obtain ⟨w8, w9, w10, w11, w12, w13, w14, w15, w16, w17⟩ := gr_H
  obtain ⟨w18, w19, w20, w21, w22, w23, w24, w25, w26, w27, w28, w29, w30, w31, w32, w33, w34, w35⟩ := gr_K
  refine ⟨_, k_status ms mv mt mfa mtn mtk mlv mbd mgo mge mbk mtt mtl hm pm hb sb mfu mdm mla hk98, fun rr h9 hp => ?_⟩
  obtain ⟨rfl, rfl⟩ := hp
  dsimp only
  exact ⟨⟨_, rfl⟩, rfl, (fun _ kk => kk ms mv mt mfa mtn mtk mlv mbd mgo mge mbk mtt mtl hm pm hb sb mfu mdm mla rf7 K im hi wd ta fv cc va plc aq co cd st tk sm cf cm of fa fm li le dn tg us wf wb ra rb en fg ak mi pol dt ⟨hk98, hk99, hk100, hk101, hk102, hk103, hk104, hk105⟩ ⟨hk106, hk107, hk108, hk109, hk110, hk111⟩ ⟨hk112, hk113, hk114, hk115, hk116, hk117⟩ ⟨hk118, hk119, hk120, hk121, hk122, hk123, hk124, hk125, hk126⟩ ⟨hk127, hk128, hk129, hk130, hk131, hk132, hk133, hk134⟩ ⟨w0, w1, w2, w3, w4, w5, w6, w7⟩ ⟨w8, w9, w10, w11, w12, w13, w14, w15, w16, w17⟩ ⟨w18, w19, w20, w21, w22, w23, w24, w25, w26, w27, w28, (v_d50281bace w29), (v_da458fa48a w30), w31, w32, w33, w34, w35⟩), (fun _ _ => rfl)⟩
set_option maxHeartbeats 4000000 in
set_option maxRecDepth 100000 in
theorem M_image {l : Launch} {G : jG} {nh : Nat} {fh : Nat → Option va_E} {c : Int} {aa : jAA} {x : Int} (zx : zr x)  (hc : c ≤ 599) (h : MI fh c aa) : ∃ Po : Option Value → jH → Prop, JM l G yX12_image MX12_image { frames := 1, cells := 0, slots := 0, locals := 22 } [.ref 98, .int (zI x)] (nh, fh) Po ∧ ∀ rr h9, Po rr h9 → (rr = some (.int (zI (imr x)))) ∧ h9.1 = nh ∧ MI h9.2 (c + 1) (eIm x aa) ∧ ∀ k, OutM k → h9.2 k = fh k := by
  refine h _ (fun ms mv mt mfa mtn mtk mlv mbd mgo mge mbk mtt mtl hm pm hb sb mfu mdm mla rf7 K im hi wd ta fv cc va plc aq co cd st tk sm cf cm of fa fm li le dn tg us wf wb ra rb en fg ak mi pol dt gr_A gr_B gr_D gr_E gr_F gr_G gr_H gr_K => ?_)
  obtain ⟨hk98, hk99, hk100, hk101, hk102, hk103, hk104, hk105⟩ := gr_A
  obtain ⟨hk106, hk107, hk108, hk109, hk110, hk111⟩ := gr_B
  obtain ⟨hk112, hk113, hk114, hk115, hk116, hk117⟩ := gr_D
  obtain ⟨hk118, hk119, hk120, hk121, hk122, hk123, hk124, hk125, hk126⟩ := gr_E
  obtain ⟨hk127, hk128, hk129, hk130, hk131, hk132, hk133, hk134⟩ := gr_F
  obtain ⟨w0, w1, w2, w3, w4, w5, w6, w7⟩ := gr_G
  obtain ⟨w8, w9, w10, w11, w12, w13, w14, w15, w16, w17⟩ := gr_H
  obtain ⟨w18, w19, w20, w21, w22, w23, w24, w25, w26, w27, w28, w29, w30, w31, w32, w33, w34, w35⟩ := gr_K
  refine ⟨_, k_image x ms mv mt mfa mtn mtk mlv mbd mgo mge mbk mtt mtl hm pm hb sb mfu mdm mla K rf7 im hi zx w0 w26 w27 hk98 hk100 hk99 hk101 hk102, fun rr h9 hp => ?_⟩
  obtain ⟨z1, f2, f3, f4, z5, z6, rfl, rfl, h7, h8, h9, h10, h11, h12, h13⟩ := hp
  dsimp only
  exact ⟨(congrArg (fun z => some (Value.int (zI z))) (show z1 = imr x from h11)), rfl, (fun _ kk => kk z5 z6 mt mfa mtn mtk mlv mbd mgo mge mbk mtt mtl hm pm hb sb mfu mdm mla f4 K f2 f3 wd ta fv cc va plc aq co cd st tk sm cf cm of fa fm li le dn tg us wf wb ra rb en fg ak mi pol dt ⟨rfl, rfl, hk100, rfl, rfl, hk103, hk104, hk105⟩ ⟨hk106, hk107, hk108, hk109, hk110, hk111⟩ ⟨hk112, hk113, hk114, hk115, hk116, hk117⟩ ⟨hk118, hk119, hk120, hk121, hk122, hk123, hk124, hk125, hk126⟩ ⟨hk127, hk128, hk129, hk130, hk131, hk132, hk133, hk134⟩ ⟨w0, w1, w2, (fun w => by
        have a : hb ≤ mv := (v_d464d4c634 w6); have b : mv ≤ z6 := (v_d464d4c634 h9)
        have e : z6 = mv := by omega
        exact w3 (by omega)), w4, (fun w => by
        have a : sb ≤ mv := (v_d464d4c634 w7); have b : mv ≤ z6 := (v_d464d4c634 h9)
        have e : z6 = mv := by omega
        exact w5 (by omega)), (v_8fadc7eb76 w6 h9), (v_8fadc7eb76 w7 h9)⟩ ⟨w8, w9, w10, w11, w12, w13, w14, w15, w16, w17⟩ ⟨w18, w19, w20, w21, w22, w23, w24, w25, h7, h8, (v_21976c7318 w28 h9), (v_08334df34c w29 h10), (v_da458fa48a w30), w31, (MK.im0 w31 w32 h13), (MK.im1 w31 w33 h13), w34, (EC.img w35 h12)⟩), (fun k a => hc_inM (L := [(98, .inr (12, (.int (zI z5) :: .int (zI z6) :: .ref 99 :: .ref 100 :: .ref 101 :: .ref 102 :: .ref 103 :: .ref 104 :: .ref 105 :: .int (zI mt) :: .int (zI mfa) :: .ref 106 :: .ref 107 :: .ref 108 :: .int (zI mtn) :: .int (zI mtk) :: .int (zI mlv) :: .int (zI mbd) :: .int (zI mgo) :: .int (zI mge) :: .int (zI mbk) :: .ref 109 :: .int (zI mtt) :: .int (zI mtl) :: .ref 110 :: .ref 111 :: .ref 112 :: .ref 113 :: .ref 114 :: .ref 115 :: .ref 116 :: .ref 117 :: .int (zI hm) :: .int (zI pm) :: .int (zI hb) :: .int (zI sb) :: .ref 118 :: .ref 119 :: .ref 120 :: .ref 121 :: .ref 122 :: .ref 123 :: .ref 124 :: .ref 125 :: .ref 126 :: .ref 127 :: .ref 128 :: .ref 129 :: .int (zI mfu) :: .ref 130 :: .ref 131 :: .ref 132 :: .ref 133 :: .ref 134 :: .int (zI mdm) :: .int (zI mla) :: []))), (101, .inl (0, 9740, .inl (zA f2))), (102, .inl (2, 2, .inl (zA f3))), (99, .inl (0, 7, .inl (zA f4)))]) ⟨(show InM 98 from ⟨by decide, by decide⟩), (show InM 101 from ⟨by decide, by decide⟩), (show InM 102 from ⟨by decide, by decide⟩), (show InM 99 from ⟨by decide, by decide⟩), True.intro⟩ k a)⟩
set_option maxHeartbeats 4000000 in
set_option maxRecDepth 100000 in
theorem M_back {l : Launch} {G : jG} {nh : Nat} {fh : Nat → Option va_E} {c : Int} {aa : jAA} {x : Int} (zx : zr x)  (hc : c ≤ 599) (h : MI fh c aa) : ∃ Po : Option Value → jH → Prop, JM l G yX12_back MX12_back { frames := 1, cells := 0, slots := 0, locals := 22 } [.ref 98, .int (zI x)] (nh, fh) Po ∧ ∀ rr h9, Po rr h9 → (rr = some (.int (zI (bkr x (aa.2.2.2.2 0) (aa.2.2.2.2 1))))) ∧ h9.1 = nh ∧ MI h9.2 (c + 1) (eBk x aa) ∧ ∀ k, OutM k → h9.2 k = fh k := by
  refine h _ (fun ms mv mt mfa mtn mtk mlv mbd mgo mge mbk mtt mtl hm pm hb sb mfu mdm mla rf7 K im hi wd ta fv cc va plc aq co cd st tk sm cf cm of fa fm li le dn tg us wf wb ra rb en fg ak mi pol dt gr_A gr_B gr_D gr_E gr_F gr_G gr_H gr_K => ?_)
  obtain ⟨hk98, hk99, hk100, hk101, hk102, hk103, hk104, hk105⟩ := gr_A
  obtain ⟨hk106, hk107, hk108, hk109, hk110, hk111⟩ := gr_B
  obtain ⟨hk112, hk113, hk114, hk115, hk116, hk117⟩ := gr_D
  obtain ⟨hk118, hk119, hk120, hk121, hk122, hk123, hk124, hk125, hk126⟩ := gr_E
  obtain ⟨hk127, hk128, hk129, hk130, hk131, hk132, hk133, hk134⟩ := gr_F
  obtain ⟨w0, w1, w2, w3, w4, w5, w6, w7⟩ := gr_G
  obtain ⟨w8, w9, w10, w11, w12, w13, w14, w15, w16, w17⟩ := gr_H
  obtain ⟨w18, w19, w20, w21, w22, w23, w24, w25, w26, w27, w28, w29, w30, w31, w32, w33, w34, w35⟩ := gr_K
  refine ⟨_, k_back x ms mv mt mfa mtn mtk mlv mbd mgo mge mbk mtt mtl hm pm hb sb mfu mdm mla K rf7 im hi zx w0 w26 w27 hk98 hk100 hk99 hk101 hk102, fun rr h9 hp => ?_⟩
  obtain ⟨z1, f2, f3, z4, z5, rfl, rfl, h6, h7, h8, h9, h10, h11⟩ := hp
  dsimp only
  exact ⟨(congrArg (fun z => some (Value.int (zI z))) (show z1 = bkr x (aa.2.2.2.2 0) (aa.2.2.2.2 1) from EC.bk w35 h10)), rfl, (fun _ kk => kk z4 z5 mt mfa mtn mtk mlv mbd mgo mge mbk mtt mtl hm pm hb sb mfu mdm mla f3 f2 im hi wd ta fv cc va plc aq co cd st tk sm cf cm of fa fm li le dn tg us wf wb ra rb en fg ak mi pol dt ⟨rfl, rfl, rfl, hk101, hk102, hk103, hk104, hk105⟩ ⟨hk106, hk107, hk108, hk109, hk110, hk111⟩ ⟨hk112, hk113, hk114, hk115, hk116, hk117⟩ ⟨hk118, hk119, hk120, hk121, hk122, hk123, hk124, hk125, hk126⟩ ⟨hk127, hk128, hk129, hk130, hk131, hk132, hk133, hk134⟩ ⟨h6, w1, w2, (fun w => by
        have a : hb ≤ mv := (v_d464d4c634 w6); have b : mv ≤ z5 := (v_d464d4c634 h7)
        have e : z5 = mv := by omega
        rw [h9 e]; exact w3 (by omega)), w4, (fun w => by
        have a : sb ≤ mv := (v_d464d4c634 w7); have b : mv ≤ z5 := (v_d464d4c634 h7)
        have e : z5 = mv := by omega
        rw [h9 e]; exact w5 (by omega)), (v_8fadc7eb76 w6 h7), (v_8fadc7eb76 w7 h7)⟩ ⟨w8, w9, w10, w11, w12, w13, w14, w15, w16, w17⟩ ⟨w18, w19, w20, w21, w22, w23, w24, w25, w26, w27, (v_21976c7318 w28 h7), (v_08334df34c w29 h8), (v_da458fa48a w30), (MK.ba w35 w31 w32 w33 h11), w32, w33, w34, w35⟩), (fun k a => hc_inM (L := [(98, .inr (12, (.int (zI z4) :: .int (zI z5) :: .ref 99 :: .ref 100 :: .ref 101 :: .ref 102 :: .ref 103 :: .ref 104 :: .ref 105 :: .int (zI mt) :: .int (zI mfa) :: .ref 106 :: .ref 107 :: .ref 108 :: .int (zI mtn) :: .int (zI mtk) :: .int (zI mlv) :: .int (zI mbd) :: .int (zI mgo) :: .int (zI mge) :: .int (zI mbk) :: .ref 109 :: .int (zI mtt) :: .int (zI mtl) :: .ref 110 :: .ref 111 :: .ref 112 :: .ref 113 :: .ref 114 :: .ref 115 :: .ref 116 :: .ref 117 :: .int (zI hm) :: .int (zI pm) :: .int (zI hb) :: .int (zI sb) :: .ref 118 :: .ref 119 :: .ref 120 :: .ref 121 :: .ref 122 :: .ref 123 :: .ref 124 :: .ref 125 :: .ref 126 :: .ref 127 :: .ref 128 :: .ref 129 :: .int (zI mfu) :: .ref 130 :: .ref 131 :: .ref 132 :: .ref 133 :: .ref 134 :: .int (zI mdm) :: .int (zI mla) :: []))), (100, .inl (0, 4870, .inl (zA f2))), (99, .inl (0, 7, .inl (zA f3)))]) ⟨(show InM 98 from ⟨by decide, by decide⟩), (show InM 100 from ⟨by decide, by decide⟩), (show InM 99 from ⟨by decide, by decide⟩), True.intro⟩ k a)⟩
set_option maxHeartbeats 4000000 in
set_option maxRecDepth 100000 in
theorem M_end {l : Launch} {G : jG} {nh : Nat} {fh : Nat → Option va_E} {c : Int} {aa : jAA} {x : Int} (zx : zr x)  (hc : c ≤ 599) (h : MI fh c aa) : ∃ Po : Option Value → jH → Prop, JM l G yX12_end MX12_end { frames := 1, cells := 0, slots := 0, locals := 22 } [.ref 98, .int (zI x)] (nh, fh) Po ∧ ∀ rr h9, Po rr h9 → (rr = some (.int (zI (enR x aa.2.2.2.2)))) ∧ h9.1 = nh ∧ MI h9.2 (c + 1) (eEn x aa) ∧ ∀ k, OutM k → h9.2 k = fh k := by
  refine h _ (fun ms mv mt mfa mtn mtk mlv mbd mgo mge mbk mtt mtl hm pm hb sb mfu mdm mla rf7 K im hi wd ta fv cc va plc aq co cd st tk sm cf cm of fa fm li le dn tg us wf wb ra rb en fg ak mi pol dt gr_A gr_B gr_D gr_E gr_F gr_G gr_H gr_K => ?_)
  obtain ⟨hk98, hk99, hk100, hk101, hk102, hk103, hk104, hk105⟩ := gr_A
  obtain ⟨hk106, hk107, hk108, hk109, hk110, hk111⟩ := gr_B
  obtain ⟨hk112, hk113, hk114, hk115, hk116, hk117⟩ := gr_D
  obtain ⟨hk118, hk119, hk120, hk121, hk122, hk123, hk124, hk125, hk126⟩ := gr_E
  obtain ⟨hk127, hk128, hk129, hk130, hk131, hk132, hk133, hk134⟩ := gr_F
  obtain ⟨w0, w1, w2, w3, w4, w5, w6, w7⟩ := gr_G
  obtain ⟨w8, w9, w10, w11, w12, w13, w14, w15, w16, w17⟩ := gr_H
  obtain ⟨w18, w19, w20, w21, w22, w23, w24, w25, w26, w27, w28, w29, w30, w31, w32, w33, w34, w35⟩ := gr_K
  refine ⟨_, k_end x ms mv mt mfa mtn mtk mlv mbd mgo mge mbk mtt mtl hm pm hb sb mfu mdm mla zx w24 w25 hk98, fun rr h9 hp => ?_⟩
  rcases hp with ⟨rfl, rfl, h1, h2⟩ | ⟨rfl, rfl, h3⟩ | ⟨rfl, rfl, h4⟩
  · dsimp only
    exact ⟨(congrArg (fun z => some (Value.int (zI z))) (show x = enR x aa.2.2.2.2 from EC.re1 w35 (v_2b02420001 h1) (v_d464d4c634 h2))), rfl, (fun _ kk => kk ms mv x mfa mtn mtk mlv mbd mgo mge mbk mtt mtl hm pm hb sb mfu mdm mla rf7 K im hi wd ta fv cc va plc aq co cd st tk sm cf cm of fa fm li le dn tg us wf wb ra rb en fg ak mi pol dt ⟨rfl, hk99, hk100, hk101, hk102, hk103, hk104, hk105⟩ ⟨hk106, hk107, hk108, hk109, hk110, hk111⟩ ⟨hk112, hk113, hk114, hk115, hk116, hk117⟩ ⟨hk118, hk119, hk120, hk121, hk122, hk123, hk124, hk125, hk126⟩ ⟨hk127, hk128, hk129, hk130, hk131, hk132, hk133, hk134⟩ ⟨w0, w1, w2, w3, w4, w5, w6, w7⟩ ⟨w8, w9, w10, w11, w12, w13, w14, w15, w16, w17⟩ ⟨w18, w19, w20, w21, w22, w23, h1, (v_60c21438e1 w25 h2), w26, w27, w28, (v_d50281bace w29), (v_da458fa48a w30), w31, w32, w33, w34, (EC.en1 w35 (v_2b02420001 h1) (v_d464d4c634 h2))⟩), (fun k a => hc_inM (L := [(98, .inr (12, (.int (zI ms) :: .int (zI mv) :: .ref 99 :: .ref 100 :: .ref 101 :: .ref 102 :: .ref 103 :: .ref 104 :: .ref 105 :: .int (zI x) :: .int (zI mfa) :: .ref 106 :: .ref 107 :: .ref 108 :: .int (zI mtn) :: .int (zI mtk) :: .int (zI mlv) :: .int (zI mbd) :: .int (zI mgo) :: .int (zI mge) :: .int (zI mbk) :: .ref 109 :: .int (zI mtt) :: .int (zI mtl) :: .ref 110 :: .ref 111 :: .ref 112 :: .ref 113 :: .ref 114 :: .ref 115 :: .ref 116 :: .ref 117 :: .int (zI hm) :: .int (zI pm) :: .int (zI hb) :: .int (zI sb) :: .ref 118 :: .ref 119 :: .ref 120 :: .ref 121 :: .ref 122 :: .ref 123 :: .ref 124 :: .ref 125 :: .ref 126 :: .ref 127 :: .ref 128 :: .ref 129 :: .int (zI mfu) :: .ref 130 :: .ref 131 :: .ref 132 :: .ref 133 :: .ref 134 :: .int (zI mdm) :: .int (zI mla) :: [])))]) ⟨(show InM 98 from ⟨by decide, by decide⟩), True.intro⟩ k a)⟩
  · dsimp only
    exact ⟨(congrArg (fun z => some (Value.int (zI z))) (show -1 = enR x aa.2.2.2.2 from EC.rel (v_8b303f9981 h3))), rfl, (fun _ kk => kk ms mv mt mfa mtn mtk mlv mbd mgo mge mbk mtt mtl hm pm hb sb mfu mdm mla rf7 K im hi wd ta fv cc va plc aq co cd st tk sm cf cm of fa fm li le dn tg us wf wb ra rb en fg ak mi pol dt ⟨hk98, hk99, hk100, hk101, hk102, hk103, hk104, hk105⟩ ⟨hk106, hk107, hk108, hk109, hk110, hk111⟩ ⟨hk112, hk113, hk114, hk115, hk116, hk117⟩ ⟨hk118, hk119, hk120, hk121, hk122, hk123, hk124, hk125, hk126⟩ ⟨hk127, hk128, hk129, hk130, hk131, hk132, hk133, hk134⟩ ⟨w0, w1, w2, w3, w4, w5, w6, w7⟩ ⟨w8, w9, w10, w11, w12, w13, w14, w15, w16, w17⟩ ⟨w18, w19, w20, w21, w22, w23, w24, w25, w26, w27, w28, (v_d50281bace w29), (v_da458fa48a w30), w31, w32, w33, w34, (EC.enl w35 (v_8b303f9981 h3))⟩), (fun _ _ => rfl)⟩
  · dsimp only
    exact ⟨(congrArg (fun z => some (Value.int (zI z))) (show -1 = enR x aa.2.2.2.2 from EC.reh w35 (v_b9aca61388 h4))), rfl, (fun _ kk => kk ms mv mt mfa mtn mtk mlv mbd mgo mge mbk mtt mtl hm pm hb sb mfu mdm mla rf7 K im hi wd ta fv cc va plc aq co cd st tk sm cf cm of fa fm li le dn tg us wf wb ra rb en fg ak mi pol dt ⟨hk98, hk99, hk100, hk101, hk102, hk103, hk104, hk105⟩ ⟨hk106, hk107, hk108, hk109, hk110, hk111⟩ ⟨hk112, hk113, hk114, hk115, hk116, hk117⟩ ⟨hk118, hk119, hk120, hk121, hk122, hk123, hk124, hk125, hk126⟩ ⟨hk127, hk128, hk129, hk130, hk131, hk132, hk133, hk134⟩ ⟨w0, w1, w2, w3, w4, w5, w6, w7⟩ ⟨w8, w9, w10, w11, w12, w13, w14, w15, w16, w17⟩ ⟨w18, w19, w20, w21, w22, w23, w24, w25, w26, w27, w28, (v_d50281bace w29), (v_da458fa48a w30), w31, w32, w33, w34, (EC.enh w35 (v_b9aca61388 h4))⟩), (fun _ _ => rfl)⟩
set_option maxHeartbeats 4000000 in
set_option maxRecDepth 100000 in
theorem M_feed {l : Launch} {G : jG} {nh : Nat} {fh : Nat → Option va_E} {c : Int} {aa : jAA} {a : Int} (za : zr a) {b : Int} (zb : zr b) {c_ : Int} (zc_ : zr c_) {d : Int} (zd : zr d) {e : Int} (ze : zr e)  (hc : c ≤ 599) (h : MI fh c aa) : ∃ Po : Option Value → jH → Prop, JM l G yX12_feed MX12_feed { frames := 0, cells := 0, slots := 0, locals := 0 } [.ref 98, .int (zI a), .int (zI b), .int (zI c_), .int (zI d), .int (zI e)] (nh, fh) Po ∧ ∀ rr h9, Po rr h9 → (rr = some (.int (zI (fdR aa.2.2.2.2)))) ∧ h9.1 = nh ∧ MI h9.2 (c + 1) (eFd a b c_ d e aa) ∧ ∀ k, OutM k → h9.2 k = fh k := by
  refine h _ (fun ms mv mt mfa mtn mtk mlv mbd mgo mge mbk mtt mtl hm pm hb sb mfu mdm mla rf7 K im hi wd ta fv cc va plc aq co cd st tk sm cf cm of fa fm li le dn tg us wf wb ra rb en fg ak mi pol dt gr_A gr_B gr_D gr_E gr_F gr_G gr_H gr_K => ?_)
  obtain ⟨hk98, hk99, hk100, hk101, hk102, hk103, hk104, hk105⟩ := gr_A
  obtain ⟨hk106, hk107, hk108, hk109, hk110, hk111⟩ := gr_B
  obtain ⟨hk112, hk113, hk114, hk115, hk116, hk117⟩ := gr_D
  obtain ⟨hk118, hk119, hk120, hk121, hk122, hk123, hk124, hk125, hk126⟩ := gr_E
  obtain ⟨hk127, hk128, hk129, hk130, hk131, hk132, hk133, hk134⟩ := gr_F
  obtain ⟨w0, w1, w2, w3, w4, w5, w6, w7⟩ := gr_G
  obtain ⟨w8, w9, w10, w11, w12, w13, w14, w15, w16, w17⟩ := gr_H
  obtain ⟨w18, w19, w20, w21, w22, w23, w24, w25, w26, w27, w28, w29, w30, w31, w32, w33, w34, w35⟩ := gr_K
  refine ⟨_, k_feed a b c_ d e ta fv ms mv mt mfa mtn mtk mlv mbd mgo mge mbk mtt mtl hm pm hb sb mfu mdm mla za zb zc_ zd ze w24 w25 w18 hk98 hk104 hk105, fun rr h9 hp => ?_⟩
  rcases hp with ⟨z1, z2, f3, f4, rfl, rfl, h5, h6, h7, h8, h9, h10, h11⟩ | ⟨rfl, rfl, h12⟩
  · dsimp only
    exact ⟨(congrArg (fun z => some (Value.int (zI z))) (show z1 = fdR aa.2.2.2.2 from EC.rf1 w35 (v_18d88a3073 h9) (v_833d0a8e58 h8 h10))), rfl, (fun _ kk => kk ms mv z2 mfa mtn mtk mlv mbd mgo mge mbk mtt mtl hm pm hb sb mfu mdm mla rf7 K im hi wd f3 f4 cc va plc aq co cd st tk sm cf cm of fa fm li le dn tg us wf wb ra rb en fg ak mi pol dt ⟨rfl, hk99, hk100, hk101, hk102, hk103, rfl, rfl⟩ ⟨hk106, hk107, hk108, hk109, hk110, hk111⟩ ⟨hk112, hk113, hk114, hk115, hk116, hk117⟩ ⟨hk118, hk119, hk120, hk121, hk122, hk123, hk124, hk125, hk126⟩ ⟨hk127, hk128, hk129, hk130, hk131, hk132, hk133, hk134⟩ ⟨w0, w1, w2, w3, w4, w5, w6, w7⟩ ⟨w8, w9, w10, w11, w12, w13, w14, w15, w16, w17⟩ ⟨h7, w19, w20, w21, w22, w23, h5, h6, w26, w27, w28, (v_d50281bace w29), (v_da458fa48a w30), w31, w32, w33, (TqM.fd1 w34 w35.2.2 (v_18d88a3073 h9) h11), (EC.fd1 w35 (v_18d88a3073 h9) (v_35b1acc3a2 h8))⟩), (fun k a => hc_inM (L := [(98, .inr (12, (.int (zI ms) :: .int (zI mv) :: .ref 99 :: .ref 100 :: .ref 101 :: .ref 102 :: .ref 103 :: .ref 104 :: .ref 105 :: .int (zI z2) :: .int (zI mfa) :: .ref 106 :: .ref 107 :: .ref 108 :: .int (zI mtn) :: .int (zI mtk) :: .int (zI mlv) :: .int (zI mbd) :: .int (zI mgo) :: .int (zI mge) :: .int (zI mbk) :: .ref 109 :: .int (zI mtt) :: .int (zI mtl) :: .ref 110 :: .ref 111 :: .ref 112 :: .ref 113 :: .ref 114 :: .ref 115 :: .ref 116 :: .ref 117 :: .int (zI hm) :: .int (zI pm) :: .int (zI hb) :: .int (zI sb) :: .ref 118 :: .ref 119 :: .ref 120 :: .ref 121 :: .ref 122 :: .ref 123 :: .ref 124 :: .ref 125 :: .ref 126 :: .ref 127 :: .ref 128 :: .ref 129 :: .int (zI mfu) :: .ref 130 :: .ref 131 :: .ref 132 :: .ref 133 :: .ref 134 :: .int (zI mdm) :: .int (zI mla) :: []))), (104, .inl (3, 400, .inl (zA f3))), (105, .inl (0, 5, .inl (zA f4)))]) ⟨(show InM 98 from ⟨by decide, by decide⟩), (show InM 104 from ⟨by decide, by decide⟩), (show InM 105 from ⟨by decide, by decide⟩), True.intro⟩ k a)⟩
  · dsimp only
    exact ⟨(congrArg (fun z => some (Value.int (zI z))) (show -1 = fdR aa.2.2.2.2 from EC.rf0 w35 (v_b73887f9be h12))), rfl, (fun _ kk => kk ms mv mt mfa mtn mtk mlv mbd mgo mge mbk mtt mtl hm pm hb sb mfu mdm mla rf7 K im hi wd ta fv cc va plc aq co cd st tk sm cf cm of fa fm li le dn tg us wf wb ra rb en fg ak mi pol dt ⟨hk98, hk99, hk100, hk101, hk102, hk103, hk104, hk105⟩ ⟨hk106, hk107, hk108, hk109, hk110, hk111⟩ ⟨hk112, hk113, hk114, hk115, hk116, hk117⟩ ⟨hk118, hk119, hk120, hk121, hk122, hk123, hk124, hk125, hk126⟩ ⟨hk127, hk128, hk129, hk130, hk131, hk132, hk133, hk134⟩ ⟨w0, w1, w2, w3, w4, w5, w6, w7⟩ ⟨w8, w9, w10, w11, w12, w13, w14, w15, w16, w17⟩ ⟨w18, w19, w20, w21, w22, w23, w24, w25, w26, w27, w28, (v_d50281bace w29), (v_da458fa48a w30), w31, w32, w33, (TqM.to (fdU_n w35.2.2 (v_b73887f9be h12)) w34), (EC.fd0 w35 (v_b73887f9be h12))⟩), (fun _ _ => rfl)⟩
