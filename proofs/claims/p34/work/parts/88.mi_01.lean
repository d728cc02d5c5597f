set_option maxHeartbeats 4000000 in
set_option maxRecDepth 100000 in
theorem M_far {l : Launch} {G : jG} {nh : Nat} {fh : Nat → Option va_E} {c : Int} {x : Int} (zx : zr x) {y : Int} (zy : zr y) {v : Int} (zv : zr v)  (hc : c ≤ 599) (h : MI fh c) : ∃ Po : Option Value → jH → Prop, JM l G yX12_far MX12_far { frames := 43, cells := 0, slots := 0, locals := 1018 } [.ref 98, .int (zI x), .int (zI y), .int (zI v)] (nh, fh) Po ∧ ∀ rr h9, Po rr h9 → (∃ z : Int, rr = some (.int (zI z))) ∧ h9.1 = nh ∧ MI h9.2 (c + 1) ∧ ∀ k, OutM k → h9.2 k = fh k := by
  refine h _ (fun ms mv mt mfa mtn mtk mlv mbd mgo mge mbk mtt mtl hm pm hb sb mfu mdm mla rf7 K im hi wd ta fv cc va plc aq co cd st tk sm cf cm of fa fm li le dn tg us wf wb ra rb en fg ak mi pol dt gr_A gr_B gr_D gr_E gr_F gr_G gr_H gr_K => ?_)
  obtain ⟨hk98, hk99, hk100, hk101, hk102, hk103, hk104, hk105⟩ := gr_A
  obtain ⟨hk106, hk107, hk108, hk109, hk110, hk111⟩ := gr_B
  obtain ⟨hk112, hk113, hk114, hk115, hk116, hk117⟩ := gr_D
  obtain ⟨hk118, hk119, hk120, hk121, hk122, hk123, hk124, hk125, hk126⟩ := gr_E
  obtain ⟨hk127, hk128, hk129, hk130, hk131, hk132, hk133, hk134⟩ := gr_F
  obtain ⟨w0, w1, w2, w3, w4, w5, w6, w7⟩ := gr_G
  obtain ⟨w8, w9, w10, w11, w12, w13, w14, w15, w16, w17⟩ := gr_H
  obtain ⟨w18, w19, w20, w21, w22, w23, w24, w25, w26, w27, w28, w29, w30⟩ := gr_K
  refine ⟨_, k_far x y v ms mv mt mfa mtn mtk mlv mbd mgo mge mbk mtt mtl hm pm hb sb mfu mdm mla K co cd of st tk sm cf cm aq fa fm li le dn zx zy zv w0 w1 w2 (v_78230c730d w28 w29 hc) w3 w4 w5 w6 w7 w8 w9 w10 w11 hk98 hk100 hk110 hk111 hk117 hk112 hk113 hk114 hk115 hk116 hk109 hk118 hk119 hk120 hk121 hk122, fun rr h9 hp => ?_⟩
  obtain ⟨z1, z2, z3, z4, f5, f6, f7, z8, f9, f10, f11, f12, f13, f14, z15, z16, z17, z18, z19, f20, f21, f22, f23, f24, rfl, rfl, h25, h26, h27, h28, h29, h30, h31, h32, h33, h34, h35⟩ := hp
  exact ⟨⟨_, rfl⟩, rfl, (fun _ kk => kk ms mv mt mfa mtn mtk mlv mbd z15 z16 z17 z18 z19 z2 z3 z4 z8 mfu mdm mla rf7 K im hi wd ta fv cc va plc f14 f5 f6 f9 f10 f11 f12 f13 f7 f20 f21 f22 f23 f24 tg us wf wb ra rb en fg ak mi pol dt ⟨rfl, hk99, hk100, hk101, hk102, hk103, hk104, hk105⟩ ⟨hk106, hk107, hk108, rfl, rfl, rfl⟩ ⟨rfl, rfl, rfl, rfl, rfl, rfl⟩ ⟨rfl, rfl, rfl, rfl, rfl, hk123, hk124, hk125, hk126⟩ ⟨hk127, hk128, hk129, hk130, hk131, hk132, hk133, hk134⟩ ⟨w0, h25, h26, h27, h28, h29, h30, h31⟩ ⟨h32, h33, h34, h35, w12, w13, w14, w15, w16, w17⟩ ⟨w18, w19, w20, w21, w22, w23, w24, w25, w26, w27, w28, (v_d50281bace w29), (v_da458fa48a w30)⟩), (fun k a => hc_inM ⟨(⟨by decide, by decide⟩), (⟨by decide, by decide⟩), (⟨by decide, by decide⟩), (⟨by decide, by decide⟩), (⟨by decide, by decide⟩), (⟨by decide, by decide⟩), (⟨by decide, by decide⟩), (⟨by decide, by decide⟩), (⟨by decide, by decide⟩), (⟨by decide, by decide⟩), (⟨by decide, by decide⟩), (⟨by decide, by decide⟩), (⟨by decide, by decide⟩), (⟨by decide, by decide⟩), (⟨by decide, by decide⟩), True.intro⟩ k a)⟩
set_option maxHeartbeats 4000000 in
set_option maxRecDepth 100000 in
theorem M_way {l : Launch} {G : jG} {nh : Nat} {fh : Nat → Option va_E} {c : Int} {x : Int} (zx : zr x) {y : Int} (zy : zr y) {v : Int} (zv : zr v)  (hc : c ≤ 599) (h : MI fh c) : ∃ Po : Option Value → jH → Prop, JM l G yX12_way MX12_way { frames := 43, cells := 0, slots := 0, locals := 1018 } [.ref 98, .int (zI x), .int (zI y), .int (zI v)] (nh, fh) Po ∧ ∀ rr h9, Po rr h9 → (∃ z : Int, rr = some (.int (zI z))) ∧ h9.1 = nh ∧ MI h9.2 (c + 1) ∧ ∀ k, OutM k → h9.2 k = fh k := by
  refine h _ (fun ms mv mt mfa mtn mtk mlv mbd mgo mge mbk mtt mtl hm pm hb sb mfu mdm mla rf7 K im hi wd ta fv cc va plc aq co cd st tk sm cf cm of fa fm li le dn tg us wf wb ra rb en fg ak mi pol dt gr_A gr_B gr_D gr_E gr_F gr_G gr_H gr_K => ?_)
  obtain ⟨hk98, hk99, hk100, hk101, hk102, hk103, hk104, hk105⟩ := gr_A
  obtain ⟨hk106, hk107, hk108, hk109, hk110, hk111⟩ := gr_B
  obtain ⟨hk112, hk113, hk114, hk115, hk116, hk117⟩ := gr_D
  obtain ⟨hk118, hk119, hk120, hk121, hk122, hk123, hk124, hk125, hk126⟩ := gr_E
  obtain ⟨hk127, hk128, hk129, hk130, hk131, hk132, hk133, hk134⟩ := gr_F
  obtain ⟨w0, w1, w2, w3, w4, w5, w6, w7⟩ := gr_G
  obtain ⟨w8, w9, w10, w11, w12, w13, w14, w15, w16, w17⟩ := gr_H
  obtain ⟨w18, w19, w20, w21, w22, w23, w24, w25, w26, w27, w28, w29, w30⟩ := gr_K
  refine ⟨_, k_way x y v ms mv mt mfa mtn mtk mlv mbd mgo mge mbk mtt mtl hm pm hb sb mfu mdm mla K co cd of st tk sm cf cm aq tg zx zy zv w0 w1 w2 (v_78230c730d w28 w29 hc) w3 w4 w5 w6 w7 w8 w9 w10 hk98 hk100 hk110 hk111 hk117 hk112 hk113 hk114 hk115 hk116 hk109 hk123, fun rr h9 hp => ?_⟩
  obtain ⟨z1, z2, z3, z4, f5, f6, f7, z8, f9, f10, f11, f12, f13, f14, z15, z16, z17, z18, z19, f20, rfl, rfl, h21, h22, h23, h24, h25, h26, h27, h28, h29, h30⟩ := hp
  exact ⟨⟨_, rfl⟩, rfl, (fun _ kk => kk ms mv mt mfa mtn mtk mlv mbd z15 z16 z17 z18 z19 z2 z3 z4 z8 mfu mdm mla rf7 K im hi wd ta fv cc va plc f14 f5 f6 f9 f10 f11 f12 f13 f7 fa fm li le dn f20 us wf wb ra rb en fg ak mi pol dt ⟨rfl, hk99, hk100, hk101, hk102, hk103, hk104, hk105⟩ ⟨hk106, hk107, hk108, rfl, rfl, rfl⟩ ⟨rfl, rfl, rfl, rfl, rfl, rfl⟩ ⟨hk118, hk119, hk120, hk121, hk122, rfl, hk124, hk125, hk126⟩ ⟨hk127, hk128, hk129, hk130, hk131, hk132, hk133, hk134⟩ ⟨w0, h21, h22, h23, h24, h25, h26, h27⟩ ⟨h28, h29, h30, w11, w12, w13, w14, w15, w16, w17⟩ ⟨w18, w19, w20, w21, w22, w23, w24, w25, w26, w27, w28, (v_d50281bace w29), (v_da458fa48a w30)⟩), (fun k a => hc_inM ⟨(⟨by decide, by decide⟩), (⟨by decide, by decide⟩), (⟨by decide, by decide⟩), (⟨by decide, by decide⟩), (⟨by decide, by decide⟩), (⟨by decide, by decide⟩), (⟨by decide, by decide⟩), (⟨by decide, by decide⟩), (⟨by decide, by decide⟩), (⟨by decide, by decide⟩), (⟨by decide, by decide⟩), True.intro⟩ k a)⟩
set_option maxHeartbeats 4000000 in
set_option maxRecDepth 100000 in
theorem M_reach {l : Launch} {G : jG} {nh : Nat} {fh : Nat → Option va_E} {c : Int} {x : Int} (zx : zr x) {v : Int} (zv : zr v)  (hc : c ≤ 599) (h : MI fh c) : ∃ Po : Option Value → jH → Prop, JM l G yX12_reach MX12_reach { frames := 43, cells := 0, slots := 0, locals := 1018 } [.ref 98, .int (zI x), .int (zI v)] (nh, fh) Po ∧ ∀ rr h9, Po rr h9 → (∃ z : Int, rr = some (.int (zI z))) ∧ h9.1 = nh ∧ MI h9.2 (c + 1) ∧ ∀ k, OutM k → h9.2 k = fh k := by
  refine h _ (fun ms mv mt mfa mtn mtk mlv mbd mgo mge mbk mtt mtl hm pm hb sb mfu mdm mla rf7 K im hi wd ta fv cc va plc aq co cd st tk sm cf cm of fa fm li le dn tg us wf wb ra rb en fg ak mi pol dt gr_A gr_B gr_D gr_E gr_F gr_G gr_H gr_K => ?_)
  obtain ⟨hk98, hk99, hk100, hk101, hk102, hk103, hk104, hk105⟩ := gr_A
  obtain ⟨hk106, hk107, hk108, hk109, hk110, hk111⟩ := gr_B
  obtain ⟨hk112, hk113, hk114, hk115, hk116, hk117⟩ := gr_D
  obtain ⟨hk118, hk119, hk120, hk121, hk122, hk123, hk124, hk125, hk126⟩ := gr_E
  obtain ⟨hk127, hk128, hk129, hk130, hk131, hk132, hk133, hk134⟩ := gr_F
  obtain ⟨w0, w1, w2, w3, w4, w5, w6, w7⟩ := gr_G
  obtain ⟨w8, w9, w10, w11, w12, w13, w14, w15, w16, w17⟩ := gr_H
  obtain ⟨w18, w19, w20, w21, w22, w23, w24, w25, w26, w27, w28, w29, w30⟩ := gr_K
  refine ⟨_, k_reach x v ms mv mt mfa mtn mtk mlv mbd mgo mge mbk mtt mtl hm pm hb sb mfu mdm mla K co cd of st tk sm cf cm aq fa fm li zx zv w0 w1 w2 (v_78230c730d w28 w29 hc) w3 w4 w5 w6 w7 w8 w9 w10 hk98 hk100 hk110 hk111 hk117 hk112 hk113 hk114 hk115 hk116 hk109 hk118 hk119 hk120, fun rr h9 hp => ?_⟩
  obtain ⟨z1, z2, z3, z4, f5, f6, f7, z8, f9, f10, f11, f12, f13, f14, z15, z16, z17, z18, z19, f20, f21, f22, rfl, rfl, h23, h24, h25, h26, h27, h28, h29, h30, h31, h32⟩ := hp
  exact ⟨⟨_, rfl⟩, rfl, (fun _ kk => kk ms mv mt mfa mtn mtk mlv mbd z15 z16 z17 z18 z19 z2 z3 z4 z8 mfu mdm mla rf7 K im hi wd ta fv cc va plc f14 f5 f6 f9 f10 f11 f12 f13 f7 f20 f21 f22 le dn tg us wf wb ra rb en fg ak mi pol dt ⟨rfl, hk99, hk100, hk101, hk102, hk103, hk104, hk105⟩ ⟨hk106, hk107, hk108, rfl, rfl, rfl⟩ ⟨rfl, rfl, rfl, rfl, rfl, rfl⟩ ⟨rfl, rfl, rfl, hk121, hk122, hk123, hk124, hk125, hk126⟩ ⟨hk127, hk128, hk129, hk130, hk131, hk132, hk133, hk134⟩ ⟨w0, h23, h24, h25, h26, h27, h28, h29⟩ ⟨h30, h31, h32, w11, w12, w13, w14, w15, w16, w17⟩ ⟨w18, w19, w20, w21, w22, w23, w24, w25, w26, w27, w28, (v_d50281bace w29), (v_da458fa48a w30)⟩), (fun k a => hc_inM ⟨(⟨by decide, by decide⟩), (⟨by decide, by decide⟩), (⟨by decide, by decide⟩), (⟨by decide, by decide⟩), (⟨by decide, by decide⟩), (⟨by decide, by decide⟩), (⟨by decide, by decide⟩), (⟨by decide, by decide⟩), (⟨by decide, by decide⟩), (⟨by decide, by decide⟩), (⟨by decide, by decide⟩), (⟨by decide, by decide⟩), (⟨by decide, by decide⟩), True.intro⟩ k a)⟩
set_option maxHeartbeats 4000000 in
set_option maxRecDepth 100000 in
theorem M_read {l : Launch} {G : jG} {nh : Nat} {fh : Nat → Option va_E} {c : Int} {x : Int} (zx : zr x) {v : Int} (zv : zr v)  (hc : c ≤ 599) (h : MI fh c) : ∃ Po : Option Value → jH → Prop, JM l G yX12_read MX12_read { frames := 4, cells := 0, slots := 0, locals := 92 } [.ref 98, .int (zI x), .int (zI v)] (nh, fh) Po ∧ ∀ rr h9, Po rr h9 → (∃ z : Int, rr = some (.int (zI z))) ∧ h9.1 = nh ∧ MI h9.2 (c + 1) ∧ ∀ k, OutM k → h9.2 k = fh k := by
  refine h _ (fun ms mv mt mfa mtn mtk mlv mbd mgo mge mbk mtt mtl hm pm hb sb mfu mdm mla rf7 K im hi wd ta fv cc va plc aq co cd st tk sm cf cm of fa fm li le dn tg us wf wb ra rb en fg ak mi pol dt gr_A gr_B gr_D gr_E gr_F gr_G gr_H gr_K => ?_)
  obtain ⟨hk98, hk99, hk100, hk101, hk102, hk103, hk104, hk105⟩ := gr_A
  obtain ⟨hk106, hk107, hk108, hk109, hk110, hk111⟩ := gr_B
  obtain ⟨hk112, hk113, hk114, hk115, hk116, hk117⟩ := gr_D
  obtain ⟨hk118, hk119, hk120, hk121, hk122, hk123, hk124, hk125, hk126⟩ := gr_E
  obtain ⟨hk127, hk128, hk129, hk130, hk131, hk132, hk133, hk134⟩ := gr_F
  obtain ⟨w0, w1, w2, w3, w4, w5, w6, w7⟩ := gr_G
  obtain ⟨w8, w9, w10, w11, w12, w13, w14, w15, w16, w17⟩ := gr_H
  obtain ⟨w18, w19, w20, w21, w22, w23, w24, w25, w26, w27, w28, w29, w30⟩ := gr_K
  refine ⟨_, k_read x v ms mv mt mfa mtn mtk mlv mbd mgo mge mbk mtt mtl hm pm hb sb mfu mdm mla K co cd of zx zv w0.1 w1 w2 (v_78230c730d w28 w29 hc) w3 hk98 hk100 hk110 hk111 hk117, fun rr h9 hp => ?_⟩
  obtain ⟨z1, z2, z3, z4, f5, f6, f7, rfl, rfl, h8, h9, h10, h11, h12, h13, h14, h15, h16⟩ := hp
  exact ⟨⟨_, rfl⟩, rfl, (fun _ kk => kk ms mv mt mfa mtn mtk mlv mbd mgo mge mbk mtt mtl z2 z3 z4 sb mfu mdm mla rf7 K im hi wd ta fv cc va plc aq f5 f6 st tk sm cf cm f7 fa fm li le dn tg us wf wb ra rb en fg ak mi pol dt ⟨rfl, hk99, hk100, hk101, hk102, hk103, hk104, hk105⟩ ⟨hk106, hk107, hk108, hk109, rfl, rfl⟩ ⟨hk112, hk113, hk114, hk115, hk116, rfl⟩ ⟨hk118, hk119, hk120, hk121, hk122, hk123, hk124, hk125, hk126⟩ ⟨hk127, hk128, hk129, hk130, hk131, hk132, hk133, hk134⟩ ⟨w0, h11, (v_af77b22e89 w28 w29 hc h16), (fun _ => ⟨h10, h8, h9⟩), w4, w5, (v_94d6d099ed h16), w7⟩ ⟨w8, w9, w10, w11, w12, w13, w14, w15, w16, w17⟩ ⟨w18, w19, w20, w21, w22, w23, w24, w25, w26, w27, w28, (v_d50281bace w29), (v_da458fa48a w30)⟩), (fun k a => hc_inM ⟨(⟨by decide, by decide⟩), (⟨by decide, by decide⟩), (⟨by decide, by decide⟩), (⟨by decide, by decide⟩), True.intro⟩ k a)⟩
set_option maxHeartbeats 4000000 in
set_option maxRecDepth 100000 in
theorem M_parted {l : Launch} {G : jG} {nh : Nat} {fh : Nat → Option va_E} {c : Int} {x : Int} (zx : zr x) {y : Int} (zy : zr y)  (hc : c ≤ 599) (h : MI fh c) : ∃ Po : Option Value → jH → Prop, JM l G yX12_parted MX12_parted { frames := 43, cells := 0, slots := 0, locals := 1018 } [.ref 98, .int (zI x), .int (zI y)] (nh, fh) Po ∧ ∀ rr h9, Po rr h9 → (∃ z : Int, rr = some (.int (zI z))) ∧ h9.1 = nh ∧ MI h9.2 (c + 1) ∧ ∀ k, OutM k → h9.2 k = fh k := by
  refine h _ (fun ms mv mt mfa mtn mtk mlv mbd mgo mge mbk mtt mtl hm pm hb sb mfu mdm mla rf7 K im hi wd ta fv cc va plc aq co cd st tk sm cf cm of fa fm li le dn tg us wf wb ra rb en fg ak mi pol dt gr_A gr_B gr_D gr_E gr_F gr_G gr_H gr_K => ?_)
  obtain ⟨hk98, hk99, hk100, hk101, hk102, hk103, hk104, hk105⟩ := gr_A
  obtain ⟨hk106, hk107, hk108, hk109, hk110, hk111⟩ := gr_B
  obtain ⟨hk112, hk113, hk114, hk115, hk116, hk117⟩ := gr_D
  obtain ⟨hk118, hk119, hk120, hk121, hk122, hk123, hk124, hk125, hk126⟩ := gr_E
  obtain ⟨hk127, hk128, hk129, hk130, hk131, hk132, hk133, hk134⟩ := gr_F
  obtain ⟨w0, w1, w2, w3, w4, w5, w6, w7⟩ := gr_G
  obtain ⟨w8, w9, w10, w11, w12, w13, w14, w15, w16, w17⟩ := gr_H
  obtain ⟨w18, w19, w20, w21, w22, w23, w24, w25, w26, w27, w28, w29, w30⟩ := gr_K
  refine ⟨_, k_parted x y ms mv mt mfa mtn mtk mlv mbd mgo mge mbk mtt mtl hm pm hb sb mfu mdm mla K co cd of st tk sm cf cm aq li us wf wb zx zy w0 w1 w2 (v_78230c730d w28 w29 hc) w3 w4 w5 w6 w7 w8 w9 w10 w12 w13 hk98 hk100 hk110 hk111 hk117 hk112 hk113 hk114 hk115 hk116 hk109 hk120 hk124 hk125 hk126, fun rr h9 hp => ?_⟩
  obtain ⟨z1, z2, z3, z4, f5, f6, f7, z8, f9, f10, f11, f12, f13, f14, z15, z16, z17, z18, z19, f20, f21, f22, f23, rfl, rfl, h24, h25, h26, h27, h28, h29, h30, h31, h32, h33, h34, h35⟩ := hp
  exact ⟨⟨_, rfl⟩, rfl, (fun _ kk => kk ms mv mt mfa mtn mtk mlv mbd z15 z16 z17 z18 z19 z2 z3 z4 z8 mfu mdm mla rf7 K im hi wd ta fv cc va plc f14 f5 f6 f9 f10 f11 f12 f13 f7 fa fm f20 le dn tg f21 f22 f23 ra rb en fg ak mi pol dt ⟨rfl, hk99, hk100, hk101, hk102, hk103, hk104, hk105⟩ ⟨hk106, hk107, hk108, rfl, rfl, rfl⟩ ⟨rfl, rfl, rfl, rfl, rfl, rfl⟩ ⟨hk118, hk119, rfl, hk121, hk122, hk123, rfl, rfl, rfl⟩ ⟨hk127, hk128, hk129, hk130, hk131, hk132, hk133, hk134⟩ ⟨w0, h24, h25, h26, h27, h28, h29, h30⟩ ⟨h31, h32, h33, w11, h34, h35, w14, w15, w16, w17⟩ ⟨w18, w19, w20, w21, w22, w23, w24, w25, w26, w27, w28, (v_d50281bace w29), (v_da458fa48a w30)⟩), (fun k a => hc_inM ⟨(⟨by decide, by decide⟩), (⟨by decide, by decide⟩), (⟨by decide, by decide⟩), (⟨by decide, by decide⟩), (⟨by decide, by decide⟩), (⟨by decide, by decide⟩), (⟨by decide, by decide⟩), (⟨by decide, by decide⟩), (⟨by decide, by decide⟩), (⟨by decide, by decide⟩), (⟨by decide, by decide⟩), (⟨by decide, by decide⟩), (⟨by decide, by decide⟩), (⟨by decide, by decide⟩), True.intro⟩ k a)⟩
set_option maxHeartbeats 4000000 in
set_option maxRecDepth 100000 in
theorem M_rows {l : Launch} {G : jG} {nh : Nat} {fh : Nat → Option va_E} {c : Int} {x : Int} (zx : zr x) {y : Int} (zy : zr y) {v : Int} (zv : zr v)  (hc : c ≤ 599) (h : MI fh c) : ∃ Po : Option Value → jH → Prop, JM l G yX12_rows MX12_rows { frames := 43, cells := 0, slots := 0, locals := 1018 } [.ref 98, .int (zI x), .int (zI y), .int (zI v)] (nh, fh) Po ∧ ∀ rr h9, Po rr h9 → (∃ z : Int, rr = some (.long (zL z))) ∧ h9.1 = nh ∧ MI h9.2 (c + 1) ∧ ∀ k, OutM k → h9.2 k = fh k := by
  refine h _ (fun ms mv mt mfa mtn mtk mlv mbd mgo mge mbk mtt mtl hm pm hb sb mfu mdm mla rf7 K im hi wd ta fv cc va plc aq co cd st tk sm cf cm of fa fm li le dn tg us wf wb ra rb en fg ak mi pol dt gr_A gr_B gr_D gr_E gr_F gr_G gr_H gr_K => ?_)
  obtain ⟨hk98, hk99, hk100, hk101, hk102, hk103, hk104, hk105⟩ := gr_A
  obtain ⟨hk106, hk107, hk108, hk109, hk110, hk111⟩ := gr_B
  obtain ⟨hk112, hk113, hk114, hk115, hk116, hk117⟩ := gr_D
  obtain ⟨hk118, hk119, hk120, hk121, hk122, hk123, hk124, hk125, hk126⟩ := gr_E
  obtain ⟨hk127, hk128, hk129, hk130, hk131, hk132, hk133, hk134⟩ := gr_F
  obtain ⟨w0, w1, w2, w3, w4, w5, w6, w7⟩ := gr_G
  obtain ⟨w8, w9, w10, w11, w12, w13, w14, w15, w16, w17⟩ := gr_H
  obtain ⟨w18, w19, w20, w21, w22, w23, w24, w25, w26, w27, w28, w29, w30⟩ := gr_K
  refine ⟨_, k_rows x y v ms mv mt mfa mtn mtk mlv mbd mgo mge mbk mtt mtl hm pm hb sb mfu mdm mla K co cd of st tk sm cf cm aq ra rb zx zy zv w0 w1 w2 (v_78230c730d w28 w29 hc) w3 w4 w5 w6 w7 w8 w9 w10 hk98 hk100 hk110 hk111 hk117 hk112 hk113 hk114 hk115 hk116 hk109 hk127 hk128, fun rr h9 hp => ?_⟩
  obtain ⟨z1, z2, z3, z4, f5, f6, f7, z8, f9, f10, f11, f12, f13, f14, z15, z16, z17, z18, z19, f20, f21, rfl, rfl, h22, h23, h24, h25, h26, h27, h28, h29, h30, h31⟩ := hp
  exact ⟨⟨_, rfl⟩, rfl, (fun _ kk => kk ms mv mt mfa mtn mtk mlv mbd z15 z16 z17 z18 z19 z2 z3 z4 z8 mfu mdm mla rf7 K im hi wd ta fv cc va plc f14 f5 f6 f9 f10 f11 f12 f13 f7 fa fm li le dn tg us wf wb f20 f21 en fg ak mi pol dt ⟨rfl, hk99, hk100, hk101, hk102, hk103, hk104, hk105⟩ ⟨hk106, hk107, hk108, rfl, rfl, rfl⟩ ⟨rfl, rfl, rfl, rfl, rfl, rfl⟩ ⟨hk118, hk119, hk120, hk121, hk122, hk123, hk124, hk125, hk126⟩ ⟨rfl, rfl, hk129, hk130, hk131, hk132, hk133, hk134⟩ ⟨w0, h22, h23, h24, h25, h26, h27, h28⟩ ⟨h29, h30, h31, w11, w12, w13, w14, w15, w16, w17⟩ ⟨w18, w19, w20, w21, w22, w23, w24, w25, w26, w27, w28, (v_d50281bace w29), (v_da458fa48a w30)⟩), (fun k a => hc_inM ⟨(⟨by decide, by decide⟩), (⟨by decide, by decide⟩), (⟨by decide, by decide⟩), (⟨by decide, by decide⟩), (⟨by decide, by decide⟩), (⟨by decide, by decide⟩), (⟨by decide, by decide⟩), (⟨by decide, by decide⟩), (⟨by decide, by decide⟩), (⟨by decide, by decide⟩), (⟨by decide, by decide⟩), (⟨by decide, by decide⟩), True.intro⟩ k a)⟩
set_option maxHeartbeats 4000000 in
set_option maxRecDepth 100000 in
theorem M_round {l : Launch} {G : jG} {nh : Nat} {fh : Nat → Option va_E} {c : Int} {x : Int} (zx : zr x)  (hc : c ≤ 599) (h : MI fh c) : ∃ Po : Option Value → jH → Prop, JM l G yX12_round MX12_round { frames := 43, cells := 0, slots := 0, locals := 1018 } [.ref 98, .int (zI x)] (nh, fh) Po ∧ ∀ rr h9, Po rr h9 → (∃ z : Int, rr = some (.int (zI z))) ∧ h9.1 = nh ∧ MI h9.2 (c + 1) ∧ ∀ k, OutM k → h9.2 k = fh k := by
  refine h _ (fun ms mv mt mfa mtn mtk mlv mbd mgo mge mbk mtt mtl hm pm hb sb mfu mdm mla rf7 K im hi wd ta fv cc va plc aq co cd st tk sm cf cm of fa fm li le dn tg us wf wb ra rb en fg ak mi pol dt gr_A gr_B gr_D gr_E gr_F gr_G gr_H gr_K => ?_)
  obtain ⟨hk98, hk99, hk100, hk101, hk102, hk103, hk104, hk105⟩ := gr_A
  obtain ⟨hk106, hk107, hk108, hk109, hk110, hk111⟩ := gr_B
  obtain ⟨hk112, hk113, hk114, hk115, hk116, hk117⟩ := gr_D
  obtain ⟨hk118, hk119, hk120, hk121, hk122, hk123, hk124, hk125, hk126⟩ := gr_E
  obtain ⟨hk127, hk128, hk129, hk130, hk131, hk132, hk133, hk134⟩ := gr_F
  obtain ⟨w0, w1, w2, w3, w4, w5, w6, w7⟩ := gr_G
  obtain ⟨w8, w9, w10, w11, w12, w13, w14, w15, w16, w17⟩ := gr_H
  obtain ⟨w18, w19, w20, w21, w22, w23, w24, w25, w26, w27, w28, w29, w30⟩ := gr_K
  refine ⟨_, k_round x en ms mv mt mfa mtn mtk mlv mbd mgo mge mbk mtt mtl hm pm hb sb mfu mdm mla K co cd of st tk sm cf cm aq zx w0 w1 w2 (v_78230c730d w28 w29 hc) w3 w4 w5 w6 w7 w8 w9 w10 w14 hk98 hk100 hk110 hk111 hk117 hk112 hk113 hk114 hk115 hk116 hk109 hk129, fun rr h9 hp => ?_⟩
  obtain ⟨z1, z2, z3, z4, f5, f6, f7, z8, f9, f10, f11, f12, f13, f14, z15, z16, z17, z18, z19, f20, rfl, rfl, h21, h22, h23, h24, h25, h26, h27, h28, h29, h30, h31⟩ := hp
  exact ⟨⟨_, rfl⟩, rfl, (fun _ kk => kk ms mv mt mfa mtn mtk mlv mbd z15 z16 z17 z18 z19 z2 z3 z4 z8 mfu mdm mla rf7 K im hi wd ta fv cc va plc f14 f5 f6 f9 f10 f11 f12 f13 f7 fa fm li le dn tg us wf wb ra rb f20 fg ak mi pol dt ⟨rfl, hk99, hk100, hk101, hk102, hk103, hk104, hk105⟩ ⟨hk106, hk107, hk108, rfl, rfl, rfl⟩ ⟨rfl, rfl, rfl, rfl, rfl, rfl⟩ ⟨hk118, hk119, hk120, hk121, hk122, hk123, hk124, hk125, hk126⟩ ⟨hk127, hk128, rfl, hk130, hk131, hk132, hk133, hk134⟩ ⟨w0, h21, h22, h23, h24, h25, h26, h27⟩ ⟨h28, h29, h30, w11, w12, w13, h31, w15, w16, w17⟩ ⟨w18, w19, w20, w21, w22, w23, w24, w25, w26, w27, w28, (v_d50281bace w29), (v_da458fa48a w30)⟩), (fun k a => hc_inM ⟨(⟨by decide, by decide⟩), (⟨by decide, by decide⟩), (⟨by decide, by decide⟩), (⟨by decide, by decide⟩), (⟨by decide, by decide⟩), (⟨by decide, by decide⟩), (⟨by decide, by decide⟩), (⟨by decide, by decide⟩), (⟨by decide, by decide⟩), (⟨by decide, by decide⟩), (⟨by decide, by decide⟩), True.intro⟩ k a)⟩
set_option maxHeartbeats 4000000 in
set_option maxRecDepth 100000 in
theorem M_swapIf {l : Launch} {G : jG} {nh : Nat} {fh : Nat → Option va_E} {c : Int} {x : Int} (zx : zr x) {y : Int} (zy : zr y)  (hc : c ≤ 599) (h : MI fh c) : ∃ Po : Option Value → jH → Prop, JM l G yX12_swapIf MX12_swapIf { frames := 1, cells := 0, slots := 0, locals := 22 } [.ref 98, .int (zI x), .int (zI y)] (nh, fh) Po ∧ ∀ rr h9, Po rr h9 → (∃ z : Int, rr = some (.int (zI z))) ∧ h9.1 = nh ∧ MI h9.2 (c + 1) ∧ ∀ k, OutM k → h9.2 k = fh k := by
  refine h _ (fun ms mv mt mfa mtn mtk mlv mbd mgo mge mbk mtt mtl hm pm hb sb mfu mdm mla rf7 K im hi wd ta fv cc va plc aq co cd st tk sm cf cm of fa fm li le dn tg us wf wb ra rb en fg ak mi pol dt gr_A gr_B gr_D gr_E gr_F gr_G gr_H gr_K => ?_)
  obtain ⟨hk98, hk99, hk100, hk101, hk102, hk103, hk104, hk105⟩ := gr_A
  obtain ⟨hk106, hk107, hk108, hk109, hk110, hk111⟩ := gr_B
  obtain ⟨hk112, hk113, hk114, hk115, hk116, hk117⟩ := gr_D
  obtain ⟨hk118, hk119, hk120, hk121, hk122, hk123, hk124, hk125, hk126⟩ := gr_E
  obtain ⟨hk127, hk128, hk129, hk130, hk131, hk132, hk133, hk134⟩ := gr_F
  obtain ⟨w0, w1, w2, w3, w4, w5, w6, w7⟩ := gr_G
  obtain ⟨w8, w9, w10, w11, w12, w13, w14, w15, w16, w17⟩ := gr_H
  obtain ⟨w18, w19, w20, w21, w22, w23, w24, w25, w26, w27, w28, w29, w30⟩ := gr_K
  refine ⟨_, k_swapIf x y ms mv mt mfa mtn mtk mlv mbd mgo mge mbk mtt mtl hm pm hb sb mfu mdm mla K rf7 zx zy w0 hk98 hk100 hk99, fun rr h9 hp => ?_⟩
  obtain ⟨z1, f2, f3, z4, z5, rfl, rfl, h6, h7, h8, h9⟩ := hp
  exact ⟨⟨_, rfl⟩, rfl, (fun _ kk => kk z4 z5 mt mfa mtn mtk mlv mbd mgo mge mbk mtt mtl hm pm hb sb mfu mdm mla f3 f2 im hi wd ta fv cc va plc aq co cd st tk sm cf cm of fa fm li le dn tg us wf wb ra rb en fg ak mi pol dt ⟨rfl, rfl, rfl, hk101, hk102, hk103, hk104, hk105⟩ ⟨hk106, hk107, hk108, hk109, hk110, hk111⟩ ⟨hk112, hk113, hk114, hk115, hk116, hk117⟩ ⟨hk118, hk119, hk120, hk121, hk122, hk123, hk124, hk125, hk126⟩ ⟨hk127, hk128, hk129, hk130, hk131, hk132, hk133, hk134⟩ ⟨h6, w1, w2, (fun w => by have a : hb ≤ mv := (v_d464d4c634 w6); have b : mv ≤ z5 := (v_d464d4c634 h7); have e : z5 = mv := by omega
        rw [h9 e]; exact w3 (by omega)), w4, (fun w => by have a : sb ≤ mv := (v_d464d4c634 w7); have b : mv ≤ z5 := (v_d464d4c634 h7); have e : z5 = mv := by omega
        rw [h9 e]; exact w5 (by omega)), (v_8fadc7eb76 w6 h7), (v_8fadc7eb76 w7 h7)⟩ ⟨w8, w9, w10, w11, w12, w13, w14, w15, w16, w17⟩ ⟨w18, w19, w20, w21, w22, w23, w24, w25, w26, w27, (v_21976c7318 w28 h7), (v_08334df34c w29 h8), (v_da458fa48a w30)⟩), (fun k a => hc_inM ⟨(⟨by decide, by decide⟩), (⟨by decide, by decide⟩), (⟨by decide, by decide⟩), True.intro⟩ k a)⟩
set_option maxHeartbeats 4000000 in
set_option maxRecDepth 100000 in
theorem M_keep {l : Launch} {G : jG} {nh : Nat} {fh : Nat → Option va_E} {c : Int} {x : Int} (zx : zr x)  (hc : c ≤ 599) (h : MI fh c) : ∃ Po : Option Value → jH → Prop, JM l G yX12_keep MX12_keep { frames := 1, cells := 0, slots := 0, locals := 22 } [.ref 98, .int (zI x)] (nh, fh) Po ∧ ∀ rr h9, Po rr h9 → (∃ z : Int, rr = some (.int (zI z))) ∧ h9.1 = nh ∧ MI h9.2 (c + 1) ∧ ∀ k, OutM k → h9.2 k = fh k := by
  refine h _ (fun ms mv mt mfa mtn mtk mlv mbd mgo mge mbk mtt mtl hm pm hb sb mfu mdm mla rf7 K im hi wd ta fv cc va plc aq co cd st tk sm cf cm of fa fm li le dn tg us wf wb ra rb en fg ak mi pol dt gr_A gr_B gr_D gr_E gr_F gr_G gr_H gr_K => ?_)
  obtain ⟨hk98, hk99, hk100, hk101, hk102, hk103, hk104, hk105⟩ := gr_A
  obtain ⟨hk106, hk107, hk108, hk109, hk110, hk111⟩ := gr_B
  obtain ⟨hk112, hk113, hk114, hk115, hk116, hk117⟩ := gr_D
  obtain ⟨hk118, hk119, hk120, hk121, hk122, hk123, hk124, hk125, hk126⟩ := gr_E
  obtain ⟨hk127, hk128, hk129, hk130, hk131, hk132, hk133, hk134⟩ := gr_F
  obtain ⟨w0, w1, w2, w3, w4, w5, w6, w7⟩ := gr_G
  obtain ⟨w8, w9, w10, w11, w12, w13, w14, w15, w16, w17⟩ := gr_H
  obtain ⟨w18, w19, w20, w21, w22, w23, w24, w25, w26, w27, w28, w29, w30⟩ := gr_K
  refine ⟨_, k_keep x ms mv mt mfa mtn mtk mlv mbd mgo mge mbk mtt mtl hm pm hb sb mfu mdm mla K rf7 zx w0 hk98 hk100 hk99, fun rr h9 hp => ?_⟩
  obtain ⟨z1, f2, f3, z4, z5, rfl, rfl, h6, h7, h8, h9⟩ := hp
  exact ⟨⟨_, rfl⟩, rfl, (fun _ kk => kk z4 z5 mt mfa mtn mtk mlv mbd mgo mge mbk mtt mtl hm pm hb sb mfu mdm mla f3 f2 im hi wd ta fv cc va plc aq co cd st tk sm cf cm of fa fm li le dn tg us wf wb ra rb en fg ak mi pol dt ⟨rfl, rfl, rfl, hk101, hk102, hk103, hk104, hk105⟩ ⟨hk106, hk107, hk108, hk109, hk110, hk111⟩ ⟨hk112, hk113, hk114, hk115, hk116, hk117⟩ ⟨hk118, hk119, hk120, hk121, hk122, hk123, hk124, hk125, hk126⟩ ⟨hk127, hk128, hk129, hk130, hk131, hk132, hk133, hk134⟩ ⟨h6, w1, w2, (fun w => by have a : hb ≤ mv := (v_d464d4c634 w6); have b : mv ≤ z5 := (v_d464d4c634 h7); have e : z5 = mv := by omega
        rw [h9 e]; exact w3 (by omega)), w4, (fun w => by have a : sb ≤ mv := (v_d464d4c634 w7); have b : mv ≤ z5 := (v_d464d4c634 h7); have e : z5 = mv := by omega
        rw [h9 e]; exact w5 (by omega)), (v_8fadc7eb76 w6 h7), (v_8fadc7eb76 w7 h7)⟩ ⟨w8, w9, w10, w11, w12, w13, w14, w15, w16, w17⟩ ⟨w18, w19, w20, w21, w22, w23, w24, w25, w26, w27, (v_21976c7318 w28 h7), (v_08334df34c w29 h8), (v_da458fa48a w30)⟩), (fun k a => hc_inM ⟨(⟨by decide, by decide⟩), (⟨by decide, by decide⟩), (⟨by decide, by decide⟩), True.intro⟩ k a)⟩
set_option maxHeartbeats 4000000 in
set_option maxRecDepth 100000 in
theorem M_sorts {l : Launch} {G : jG} {nh : Nat} {fh : Nat → Option va_E} {c : Int} {x : Int} (zx : zr x)  (hc : c ≤ 599) (h : MI fh c) : ∃ Po : Option Value → jH → Prop, JM l G yX12_sorts MX12_sorts { frames := 4, cells := 0, slots := 0, locals := 94 } [.ref 98, .int (zI x)] (nh, fh) Po ∧ ∀ rr h9, Po rr h9 → (∃ z : Int, rr = some (.int (zI z))) ∧ h9.1 = nh ∧ MI h9.2 (c + 1) ∧ ∀ k, OutM k → h9.2 k = fh k := by
  refine h _ (fun ms mv mt mfa mtn mtk mlv mbd mgo mge mbk mtt mtl hm pm hb sb mfu mdm mla rf7 K im hi wd ta fv cc va plc aq co cd st tk sm cf cm of fa fm li le dn tg us wf wb ra rb en fg ak mi pol dt gr_A gr_B gr_D gr_E gr_F gr_G gr_H gr_K => ?_)
  obtain ⟨hk98, hk99, hk100, hk101, hk102, hk103, hk104, hk105⟩ := gr_A
  obtain ⟨hk106, hk107, hk108, hk109, hk110, hk111⟩ := gr_B
  obtain ⟨hk112, hk113, hk114, hk115, hk116, hk117⟩ := gr_D
  obtain ⟨hk118, hk119, hk120, hk121, hk122, hk123, hk124, hk125, hk126⟩ := gr_E
  obtain ⟨hk127, hk128, hk129, hk130, hk131, hk132, hk133, hk134⟩ := gr_F
  obtain ⟨w0, w1, w2, w3, w4, w5, w6, w7⟩ := gr_G
  obtain ⟨w8, w9, w10, w11, w12, w13, w14, w15, w16, w17⟩ := gr_H
  obtain ⟨w18, w19, w20, w21, w22, w23, w24, w25, w26, w27, w28, w29, w30⟩ := gr_K
  refine ⟨_, k_sorts x ms mv mt mfa mtn mtk mlv mbd mgo mge mbk mtt mtl hm pm hb sb mfu mdm mla K co cd of zx w0.1 w6 w0.2.2.2.2.2.2.2.2.1 w1 w2 (v_78230c730d w28 w29 hc) w3 w0.2.2.1.1 w0.2.2.1.2 w0.2.2.2.1 hk98 hk100 hk110 hk111 hk117, fun rr h9 hp => ?_⟩
  obtain ⟨z1, z2, z3, z4, f5, f6, f7, z8, rfl, rfl, h9, h10, h11, h12⟩ := hp
  exact ⟨⟨_, rfl⟩, rfl, (fun _ kk => kk ms mv mt mfa mtn mtk mlv mbd mgo mge mbk mtt mtl z2 z3 z4 sb z8 mdm mla rf7 K im hi wd ta fv cc va plc aq f5 f6 st tk sm cf cm f7 fa fm li le dn tg us wf wb ra rb en fg ak mi pol dt ⟨rfl, hk99, hk100, hk101, hk102, hk103, hk104, hk105⟩ ⟨hk106, hk107, hk108, hk109, rfl, rfl⟩ ⟨hk112, hk113, hk114, hk115, hk116, rfl⟩ ⟨hk118, hk119, hk120, hk121, hk122, hk123, hk124, hk125, hk126⟩ ⟨hk127, hk128, hk129, hk130, hk131, hk132, hk133, hk134⟩ ⟨w0, h9, h10, h11, w4, w5, h12, w7⟩ ⟨w8, w9, w10, w11, w12, w13, w14, w15, w16, w17⟩ ⟨w18, w19, w20, w21, w22, w23, w24, w25, w26, w27, w28, (v_d50281bace w29), (v_da458fa48a w30)⟩), (fun k a => hc_inM ⟨(⟨by decide, by decide⟩), (⟨by decide, by decide⟩), (⟨by decide, by decide⟩), (⟨by decide, by decide⟩), True.intro⟩ k a)⟩
set_option maxHeartbeats 4000000 in
set_option maxRecDepth 100000 in
theorem M_sorted {l : Launch} {G : jG} {nh : Nat} {fh : Nat → Option va_E} {c : Int} {x : Int} (zx : zr x)  (hc : c ≤ 599) (h : MI fh c) : ∃ Po : Option Value → jH → Prop, JM l G yX12_sorted MX12_sorted { frames := 4, cells := 0, slots := 0, locals := 92 } [.ref 98, .int (zI x)] (nh, fh) Po ∧ ∀ rr h9, Po rr h9 → (∃ z : Int, rr = some (.int (zI z))) ∧ h9.1 = nh ∧ MI h9.2 (c + 1) ∧ ∀ k, OutM k → h9.2 k = fh k := by
  refine h _ (fun ms mv mt mfa mtn mtk mlv mbd mgo mge mbk mtt mtl hm pm hb sb mfu mdm mla rf7 K im hi wd ta fv cc va plc aq co cd st tk sm cf cm of fa fm li le dn tg us wf wb ra rb en fg ak mi pol dt gr_A gr_B gr_D gr_E gr_F gr_G gr_H gr_K => ?_)
  obtain ⟨hk98, hk99, hk100, hk101, hk102, hk103, hk104, hk105⟩ := gr_A
  obtain ⟨hk106, hk107, hk108, hk109, hk110, hk111⟩ := gr_B
  obtain ⟨hk112, hk113, hk114, hk115, hk116, hk117⟩ := gr_D
  obtain ⟨hk118, hk119, hk120, hk121, hk122, hk123, hk124, hk125, hk126⟩ := gr_E
  obtain ⟨hk127, hk128, hk129, hk130, hk131, hk132, hk133, hk134⟩ := gr_F
  obtain ⟨w0, w1, w2, w3, w4, w5, w6, w7⟩ := gr_G
  obtain ⟨w8, w9, w10, w11, w12, w13, w14, w15, w16, w17⟩ := gr_H
  obtain ⟨w18, w19, w20, w21, w22, w23, w24, w25, w26, w27, w28, w29, w30⟩ := gr_K
  refine ⟨_, k_sorted x ms mv mt mfa mtn mtk mlv mbd mgo mge mbk mtt mtl hm pm hb sb mfu mdm mla K co cd of zx w0.1 w6 w0.2.2.2.2.2.2.2.2.1 w1 w2 (v_78230c730d w28 w29 hc) w3 w0.2.2.1.1 w0.2.2.1.2 w0.2.2.2.1 hk98 hk100 hk110 hk111 hk117, fun rr h9 hp => ?_⟩
  obtain ⟨z1, z2, z3, z4, f5, f6, f7, rfl, rfl, h8, h9, h10, h11⟩ := hp
  exact ⟨⟨_, rfl⟩, rfl, (fun _ kk => kk ms mv mt mfa mtn mtk mlv mbd mgo mge mbk mtt mtl z2 z3 z4 sb mfu mdm mla rf7 K im hi wd ta fv cc va plc aq f5 f6 st tk sm cf cm f7 fa fm li le dn tg us wf wb ra rb en fg ak mi pol dt ⟨rfl, hk99, hk100, hk101, hk102, hk103, hk104, hk105⟩ ⟨hk106, hk107, hk108, hk109, rfl, rfl⟩ ⟨hk112, hk113, hk114, hk115, hk116, rfl⟩ ⟨hk118, hk119, hk120, hk121, hk122, hk123, hk124, hk125, hk126⟩ ⟨hk127, hk128, hk129, hk130, hk131, hk132, hk133, hk134⟩ ⟨w0, h8, h9, h10, w4, w5, h11, w7⟩ ⟨w8, w9, w10, w11, w12, w13, w14, w15, w16, w17⟩ ⟨w18, w19, w20, w21, w22, w23, w24, w25, w26, w27, w28, (v_d50281bace w29), (v_da458fa48a w30)⟩), (fun k a => hc_inM ⟨(⟨by decide, by decide⟩), (⟨by decide, by decide⟩), (⟨by decide, by decide⟩), (⟨by decide, by decide⟩), True.intro⟩ k a)⟩
set_option maxHeartbeats 4000000 in
set_option maxRecDepth 100000 in
theorem M_clue {l : Launch} {G : jG} {nh : Nat} {fh : Nat → Option va_E} {c : Int} {x : Int} (zx : zr x) {y : Int} (zy : zr y)  (hc : c ≤ 599) (h : MI fh c) : ∃ Po : Option Value → jH → Prop, JM l G yX12_clue MX12_clue { frames := 4, cells := 0, slots := 0, locals := 92 } [.ref 98, .int (zI x), .int (zI y)] (nh, fh) Po ∧ ∀ rr h9, Po rr h9 → (∃ z : Int, rr = some (.int (zI z))) ∧ h9.1 = nh ∧ MI h9.2 (c + 1) ∧ ∀ k, OutM k → h9.2 k = fh k := by
  refine h _ (fun ms mv mt mfa mtn mtk mlv mbd mgo mge mbk mtt mtl hm pm hb sb mfu mdm mla rf7 K im hi wd ta fv cc va plc aq co cd st tk sm cf cm of fa fm li le dn tg us wf wb ra rb en fg ak mi pol dt gr_A gr_B gr_D gr_E gr_F gr_G gr_H gr_K => ?_)
  obtain ⟨hk98, hk99, hk100, hk101, hk102, hk103, hk104, hk105⟩ := gr_A
  obtain ⟨hk106, hk107, hk108, hk109, hk110, hk111⟩ := gr_B
  obtain ⟨hk112, hk113, hk114, hk115, hk116, hk117⟩ := gr_D
  obtain ⟨hk118, hk119, hk120, hk121, hk122, hk123, hk124, hk125, hk126⟩ := gr_E
  obtain ⟨hk127, hk128, hk129, hk130, hk131, hk132, hk133, hk134⟩ := gr_F
  obtain ⟨w0, w1, w2, w3, w4, w5, w6, w7⟩ := gr_G
  obtain ⟨w8, w9, w10, w11, w12, w13, w14, w15, w16, w17⟩ := gr_H
  obtain ⟨w18, w19, w20, w21, w22, w23, w24, w25, w26, w27, w28, w29, w30⟩ := gr_K
  refine ⟨_, k_clue x y ms mv mt mfa mtn mtk mlv mbd mgo mge mbk mtt mtl hm pm hb sb mfu mdm mla K co cd of rf7 zx zy w0 w6 w1 w2 (v_78230c730d w28 w29 hc) w3 hk98 hk100 hk99 hk110 hk111 hk117, fun rr h9 hp => ?_⟩
  obtain ⟨z1, f2, f3, z4, z5, z6, z7, z8, f9, f10, f11, rfl, rfl, h12, h13, h14, h15, h16, h17, h18, h19⟩ := hp
  exact ⟨⟨_, rfl⟩, rfl, (fun _ kk => kk z4 z5 mt mfa mtn mtk mlv mbd mgo mge mbk mtt mtl z6 z7 z8 sb mfu mdm mla f3 f2 im hi wd ta fv cc va plc aq f9 f10 st tk sm cf cm f11 fa fm li le dn tg us wf wb ra rb en fg ak mi pol dt ⟨rfl, rfl, rfl, hk101, hk102, hk103, hk104, hk105⟩ ⟨hk106, hk107, hk108, hk109, rfl, rfl⟩ ⟨hk112, hk113, hk114, hk115, hk116, rfl⟩ ⟨hk118, hk119, hk120, hk121, hk122, hk123, hk124, hk125, hk126⟩ ⟨hk127, hk128, hk129, hk130, hk131, hk132, hk133, hk134⟩ ⟨h12, h16, h17, (fun w => by have a : z8 ≤ mv := (v_d464d4c634 h19); have b : mv ≤ z5 := (v_d464d4c634 h13); have e : z5 = mv := by omega
        rw [h15 e]; exact h18 (by omega)), w4, (fun w => by have a : sb ≤ mv := (v_d464d4c634 w7); have b : mv ≤ z5 := (v_d464d4c634 h13); have e : z5 = mv := by omega
        rw [h15 e]; exact w5 (by omega)), (v_f57be7c965 h13 h19), (v_8fadc7eb76 w7 h13)⟩ ⟨w8, w9, w10, w11, w12, w13, w14, w15, w16, w17⟩ ⟨w18, w19, w20, w21, w22, w23, w24, w25, w26, w27, (v_21976c7318 w28 h13), (v_08334df34c w29 h14), (v_da458fa48a w30)⟩), (fun k a => hc_inM ⟨(⟨by decide, by decide⟩), (⟨by decide, by decide⟩), (⟨by decide, by decide⟩), (⟨by decide, by decide⟩), (⟨by decide, by decide⟩), (⟨by decide, by decide⟩), True.intro⟩ k a)⟩
set_option maxHeartbeats 4000000 in
set_option maxRecDepth 100000 in
theorem M_forget {l : Launch} {G : jG} {nh : Nat} {fh : Nat → Option va_E} {c : Int}  (hc : c ≤ 599) (h : MI fh c) : ∃ Po : Option Value → jH → Prop, JM l G yX12_forget MX12_forget { frames := 0, cells := 0, slots := 0, locals := 0 } [.ref 98] (nh, fh) Po ∧ ∀ rr h9, Po rr h9 → (∃ z : Int, rr = some (.int (zI z))) ∧ h9.1 = nh ∧ MI h9.2 (c + 1) ∧ ∀ k, OutM k → h9.2 k = fh k := by
  refine h _ (fun ms mv mt mfa mtn mtk mlv mbd mgo mge mbk mtt mtl hm pm hb sb mfu mdm mla rf7 K im hi wd ta fv cc va plc aq co cd st tk sm cf cm of fa fm li le dn tg us wf wb ra rb en fg ak mi pol dt gr_A gr_B gr_D gr_E gr_F gr_G gr_H gr_K => ?_)
  obtain ⟨hk98, hk99, hk100, hk101, hk102, hk103, hk104, hk105⟩ := gr_A
  obtain ⟨hk106, hk107, hk108, hk109, hk110, hk111⟩ := gr_B
  obtain ⟨hk112, hk113, hk114, hk115, hk116, hk117⟩ := gr_D
  obtain ⟨hk118, hk119, hk120, hk121, hk122, hk123, hk124, hk125, hk126⟩ := gr_E
  obtain ⟨hk127, hk128, hk129, hk130, hk131, hk132, hk133, hk134⟩ := gr_F
  obtain ⟨w0, w1, w2, w3, w4, w5, w6, w7⟩ := gr_G
  obtain ⟨w8, w9, w10, w11, w12, w13, w14, w15, w16, w17⟩ := gr_H
  obtain ⟨w18, w19, w20, w21, w22, w23, w24, w25, w26, w27, w28, w29, w30⟩ := gr_K
  refine ⟨_, k_forget ms mv mt mfa mtn mtk mlv mbd mgo mge mbk mtt mtl hm pm hb sb mfu mdm mla K w0 hk98 hk100, fun rr h9 hp => ?_⟩
  obtain ⟨z1, f2, z3, rfl, rfl, h4, h5, h6, h7⟩ := hp
  exact ⟨⟨_, rfl⟩, rfl, (fun _ kk => kk ms z3 mt mfa mtn mtk mlv mbd mgo mge mbk mtt mtl hm pm hb sb mfu mdm mla rf7 f2 im hi wd ta fv cc va plc aq co cd st tk sm cf cm of fa fm li le dn tg us wf wb ra rb en fg ak mi pol dt ⟨rfl, hk99, rfl, hk101, hk102, hk103, hk104, hk105⟩ ⟨hk106, hk107, hk108, hk109, hk110, hk111⟩ ⟨hk112, hk113, hk114, hk115, hk116, hk117⟩ ⟨hk118, hk119, hk120, hk121, hk122, hk123, hk124, hk125, hk126⟩ ⟨hk127, hk128, hk129, hk130, hk131, hk132, hk133, hk134⟩ ⟨h4, w1, w2, (fun w => by have a : hb ≤ mv := (v_d464d4c634 w6); have b : mv ≤ z3 := (v_d464d4c634 h5); have e : z3 = mv := by omega
        rw [h7 e]; exact w3 (by omega)), w4, (fun w => by have a : sb ≤ mv := (v_d464d4c634 w7); have b : mv ≤ z3 := (v_d464d4c634 h5); have e : z3 = mv := by omega
        rw [h7 e]; exact w5 (by omega)), (v_8fadc7eb76 w6 h5), (v_8fadc7eb76 w7 h5)⟩ ⟨w8, w9, w10, w11, w12, w13, w14, w15, w16, w17⟩ ⟨w18, w19, w20, w21, w22, w23, w24, w25, w26, w27, (v_21976c7318 w28 h5), (v_08334df34c w29 h6), (v_da458fa48a w30)⟩), (fun k a => hc_inM ⟨(⟨by decide, by decide⟩), (⟨by decide, by decide⟩), True.intro⟩ k a)⟩
set_option maxHeartbeats 4000000 in
set_option maxRecDepth 100000 in
theorem M_fits {l : Launch} {G : jG} {nh : Nat} {fh : Nat → Option va_E} {c : Int} {x : Int} (zx : zr x)  (hc : c ≤ 599) (h : MI fh c) : ∃ Po : Option Value → jH → Prop, JM l G yX12_fits MX12_fits { frames := 44, cells := 0, slots := 0, locals := 1040 } [.ref 98, .int (zI x)] (nh, fh) Po ∧ ∀ rr h9, Po rr h9 → (∃ z : Int, rr = some (.int (zI z))) ∧ h9.1 = nh ∧ MI h9.2 (c + 1) ∧ ∀ k, OutM k → h9.2 k = fh k := by
  refine h _ (fun ms mv mt mfa mtn mtk mlv mbd mgo mge mbk mtt mtl hm pm hb sb mfu mdm mla rf7 K im hi wd ta fv cc va plc aq co cd st tk sm cf cm of fa fm li le dn tg us wf wb ra rb en fg ak mi pol dt gr_A gr_B gr_D gr_E gr_F gr_G gr_H gr_K => ?_)
  obtain ⟨hk98, hk99, hk100, hk101, hk102, hk103, hk104, hk105⟩ := gr_A
  obtain ⟨hk106, hk107, hk108, hk109, hk110, hk111⟩ := gr_B
  obtain ⟨hk112, hk113, hk114, hk115, hk116, hk117⟩ := gr_D
  obtain ⟨hk118, hk119, hk120, hk121, hk122, hk123, hk124, hk125, hk126⟩ := gr_E
  obtain ⟨hk127, hk128, hk129, hk130, hk131, hk132, hk133, hk134⟩ := gr_F
  obtain ⟨w0, w1, w2, w3, w4, w5, w6, w7⟩ := gr_G
  obtain ⟨w8, w9, w10, w11, w12, w13, w14, w15, w16, w17⟩ := gr_H
  obtain ⟨w18, w19, w20, w21, w22, w23, w24, w25, w26, w27, w28, w29, w30⟩ := gr_K
  refine ⟨_, k_fits x ms mv mt mfa mtn mtk mlv mbd mgo mge mbk mtt mtl hm pm hb sb mfu mdm mla K co cd of st tk sm cf cm aq fa fm li fg zx w0 w1 w2 (v_78230c730d w28 w29 hc) w3 w4 w5 w6 w7 w8 w9 w10 w15 hk98 hk100 hk110 hk111 hk117 hk112 hk113 hk114 hk115 hk116 hk109 hk118 hk119 hk120 hk130, fun rr h9 hp => ?_⟩
  obtain ⟨z1, z2, z3, z4, f5, f6, f7, z8, f9, f10, f11, f12, f13, f14, z15, z16, z17, z18, z19, f20, f21, f22, f23, rfl, rfl, h24, h25, h26, h27, h28, h29, h30, h31, h32, h33, h34⟩ := hp
  exact ⟨⟨_, rfl⟩, rfl, (fun _ kk => kk ms mv mt mfa mtn mtk mlv mbd z15 z16 z17 z18 z19 z2 z3 z4 z8 mfu mdm mla rf7 K im hi wd ta fv cc va plc f14 f5 f6 f9 f10 f11 f12 f13 f7 f20 f21 f22 le dn tg us wf wb ra rb en f23 ak mi pol dt ⟨rfl, hk99, hk100, hk101, hk102, hk103, hk104, hk105⟩ ⟨hk106, hk107, hk108, rfl, rfl, rfl⟩ ⟨rfl, rfl, rfl, rfl, rfl, rfl⟩ ⟨rfl, rfl, rfl, hk121, hk122, hk123, hk124, hk125, hk126⟩ ⟨hk127, hk128, hk129, rfl, hk131, hk132, hk133, hk134⟩ ⟨w0, h24, h25, h26, h27, h28, h29, h30⟩ ⟨h31, h32, h33, w11, w12, w13, w14, h34, w16, w17⟩ ⟨w18, w19, w20, w21, w22, w23, w24, w25, w26, w27, w28, (v_d50281bace w29), (v_da458fa48a w30)⟩), (fun k a => hc_inM ⟨(⟨by decide, by decide⟩), (⟨by decide, by decide⟩), (⟨by decide, by decide⟩), (⟨by decide, by decide⟩), (⟨by decide, by decide⟩), (⟨by decide, by decide⟩), (⟨by decide, by decide⟩), (⟨by decide, by decide⟩), (⟨by decide, by decide⟩), (⟨by decide, by decide⟩), (⟨by decide, by decide⟩), (⟨by decide, by decide⟩), (⟨by decide, by decide⟩), (⟨by decide, by decide⟩), True.intro⟩ k a)⟩
set_option maxHeartbeats 4000000 in
set_option maxRecDepth 100000 in
theorem M_ask {l : Launch} {G : jG} {nh : Nat} {fh : Nat → Option va_E} {c : Int} {x : Int} (zx : zr x)  (hc : c ≤ 599) (h : MI fh c) : ∃ Po : Option Value → jH → Prop, JM l G yX12_ask MX12_ask { frames := 44, cells := 0, slots := 0, locals := 1040 } [.ref 98, .int (zI x)] (nh, fh) Po ∧ ∀ rr h9, Po rr h9 → (∃ z : Int, rr = some (.int (zI z))) ∧ h9.1 = nh ∧ MI h9.2 (c + 1) ∧ ∀ k, OutM k → h9.2 k = fh k := by
  refine h _ (fun ms mv mt mfa mtn mtk mlv mbd mgo mge mbk mtt mtl hm pm hb sb mfu mdm mla rf7 K im hi wd ta fv cc va plc aq co cd st tk sm cf cm of fa fm li le dn tg us wf wb ra rb en fg ak mi pol dt gr_A gr_B gr_D gr_E gr_F gr_G gr_H gr_K => ?_)
  obtain ⟨hk98, hk99, hk100, hk101, hk102, hk103, hk104, hk105⟩ := gr_A
  obtain ⟨hk106, hk107, hk108, hk109, hk110, hk111⟩ := gr_B
  obtain ⟨hk112, hk113, hk114, hk115, hk116, hk117⟩ := gr_D
  obtain ⟨hk118, hk119, hk120, hk121, hk122, hk123, hk124, hk125, hk126⟩ := gr_E
  obtain ⟨hk127, hk128, hk129, hk130, hk131, hk132, hk133, hk134⟩ := gr_F
  obtain ⟨w0, w1, w2, w3, w4, w5, w6, w7⟩ := gr_G
  obtain ⟨w8, w9, w10, w11, w12, w13, w14, w15, w16, w17⟩ := gr_H
  obtain ⟨w18, w19, w20, w21, w22, w23, w24, w25, w26, w27, w28, w29, w30⟩ := gr_K
  refine ⟨_, k_ask x ms mv mt mfa mtn mtk mlv mbd mgo mge mbk mtt mtl hm pm hb sb mfu mdm mla K co cd of st tk sm cf cm aq fa fm li fg ak zx w0 w1 w2 (v_78230c730d w28 w29 hc) w3 w4 w5 w6 w7 w8 w9 w10 w15 hk98 hk100 hk110 hk111 hk117 hk112 hk113 hk114 hk115 hk116 hk109 hk118 hk119 hk120 hk130 hk131, fun rr h9 hp => ?_⟩
  obtain ⟨z1, z2, z3, z4, f5, f6, f7, z8, f9, f10, f11, f12, f13, f14, z15, z16, z17, z18, z19, f20, f21, f22, f23, f24, rfl, rfl, h25, h26, h27, h28, h29, h30, h31, h32, h33, h34, h35⟩ := hp
  exact ⟨⟨_, rfl⟩, rfl, (fun _ kk => kk ms mv mt mfa mtn mtk mlv mbd z15 z16 z17 z18 z19 z2 z3 z4 z8 mfu mdm mla rf7 K im hi wd ta fv cc va plc f14 f5 f6 f9 f10 f11 f12 f13 f7 f20 f21 f22 le dn tg us wf wb ra rb en f23 f24 mi pol dt ⟨rfl, hk99, hk100, hk101, hk102, hk103, hk104, hk105⟩ ⟨hk106, hk107, hk108, rfl, rfl, rfl⟩ ⟨rfl, rfl, rfl, rfl, rfl, rfl⟩ ⟨rfl, rfl, rfl, hk121, hk122, hk123, hk124, hk125, hk126⟩ ⟨hk127, hk128, hk129, rfl, rfl, hk132, hk133, hk134⟩ ⟨w0, h25, h26, h27, h28, h29, h30, h31⟩ ⟨h32, h33, h34, w11, w12, w13, w14, h35, w16, w17⟩ ⟨w18, w19, w20, w21, w22, w23, w24, w25, w26, w27, w28, (v_d50281bace w29), (v_da458fa48a w30)⟩), (fun k a => hc_inM ⟨(⟨by decide, by decide⟩), (⟨by decide, by decide⟩), (⟨by decide, by decide⟩), (⟨by decide, by decide⟩), (⟨by decide, by decide⟩), (⟨by decide, by decide⟩), (⟨by decide, by decide⟩), (⟨by decide, by decide⟩), (⟨by decide, by decide⟩), (⟨by decide, by decide⟩), (⟨by decide, by decide⟩), (⟨by decide, by decide⟩), (⟨by decide, by decide⟩), (⟨by decide, by decide⟩), (⟨by decide, by decide⟩), True.intro⟩ k a)⟩
set_option maxHeartbeats 4000000 in
set_option maxRecDepth 100000 in
theorem M_post {l : Launch} {G : jG} {nh : Nat} {fh : Nat → Option va_E} {c : Int} {x : Int} (zx : zr x) {y : Int} (zy : zr y) {v : Int} (zv : zr v) {w : Int} (zw : zr w)  (hc : c ≤ 599) (h : MI fh c) : ∃ Po : Option Value → jH → Prop, JM l G yX12_post MX12_post { frames := 43, cells := 0, slots := 0, locals := 1018 } [.ref 98, .int (zI x), .int (zI y), .int (zI v), .int (zI w)] (nh, fh) Po ∧ ∀ rr h9, Po rr h9 → (∃ z : Int, rr = some (.int (zI z))) ∧ h9.1 = nh ∧ MI h9.2 (c + 1) ∧ ∀ k, OutM k → h9.2 k = fh k := by
  refine h _ (fun ms mv mt mfa mtn mtk mlv mbd mgo mge mbk mtt mtl hm pm hb sb mfu mdm mla rf7 K im hi wd ta fv cc va plc aq co cd st tk sm cf cm of fa fm li le dn tg us wf wb ra rb en fg ak mi pol dt gr_A gr_B gr_D gr_E gr_F gr_G gr_H gr_K => ?_)
  obtain ⟨hk98, hk99, hk100, hk101, hk102, hk103, hk104, hk105⟩ := gr_A
  obtain ⟨hk106, hk107, hk108, hk109, hk110, hk111⟩ := gr_B
  obtain ⟨hk112, hk113, hk114, hk115, hk116, hk117⟩ := gr_D
  obtain ⟨hk118, hk119, hk120, hk121, hk122, hk123, hk124, hk125, hk126⟩ := gr_E
  obtain ⟨hk127, hk128, hk129, hk130, hk131, hk132, hk133, hk134⟩ := gr_F
  obtain ⟨w0, w1, w2, w3, w4, w5, w6, w7⟩ := gr_G
  obtain ⟨w8, w9, w10, w11, w12, w13, w14, w15, w16, w17⟩ := gr_H
  obtain ⟨w18, w19, w20, w21, w22, w23, w24, w25, w26, w27, w28, w29, w30⟩ := gr_K
  refine ⟨_, k_post x y v w ms mv mt mfa mtn mtk mlv mbd mgo mge mbk mtt mtl hm pm hb sb mfu mdm mla K co cd of st tk sm cf cm aq mi pol zx zy zv zw w0 w1 w2 (v_78230c730d w28 w29 hc) w3 w4 w5 w6 w7 w8 w9 w10 hk98 hk100 hk110 hk111 hk117 hk112 hk113 hk114 hk115 hk116 hk109 hk132 hk133, fun rr h9 hp => ?_⟩
  obtain ⟨z1, z2, z3, z4, f5, f6, f7, z8, f9, f10, f11, f12, f13, f14, z15, z16, z17, z18, z19, f20, f21, rfl, rfl, h22, h23, h24, h25, h26, h27, h28, h29, h30, h31⟩ := hp
  exact ⟨⟨_, rfl⟩, rfl, (fun _ kk => kk ms mv mt mfa mtn mtk mlv mbd z15 z16 z17 z18 z19 z2 z3 z4 z8 mfu mdm mla rf7 K im hi wd ta fv cc va plc f14 f5 f6 f9 f10 f11 f12 f13 f7 fa fm li le dn tg us wf wb ra rb en fg ak f20 f21 dt ⟨rfl, hk99, hk100, hk101, hk102, hk103, hk104, hk105⟩ ⟨hk106, hk107, hk108, rfl, rfl, rfl⟩ ⟨rfl, rfl, rfl, rfl, rfl, rfl⟩ ⟨hk118, hk119, hk120, hk121, hk122, hk123, hk124, hk125, hk126⟩ ⟨hk127, hk128, hk129, hk130, hk131, rfl, rfl, hk134⟩ ⟨w0, h22, h23, h24, h25, h26, h27, h28⟩ ⟨h29, h30, h31, w11, w12, w13, w14, w15, w16, w17⟩ ⟨w18, w19, w20, w21, w22, w23, w24, w25, w26, w27, w28, (v_d50281bace w29), (v_da458fa48a w30)⟩), (fun k a => hc_inM ⟨(⟨by decide, by decide⟩), (⟨by decide, by decide⟩), (⟨by decide, by decide⟩), (⟨by decide, by decide⟩), (⟨by decide, by decide⟩), (⟨by decide, by decide⟩), (⟨by decide, by decide⟩), (⟨by decide, by decide⟩), (⟨by decide, by decide⟩), (⟨by decide, by decide⟩), (⟨by decide, by decide⟩), (⟨by decide, by decide⟩), True.intro⟩ k a)⟩
set_option maxHeartbeats 4000000 in
set_option maxRecDepth 100000 in
theorem M_drunk {l : Launch} {G : jG} {nh : Nat} {fh : Nat → Option va_E} {c : Int} {x : Int} (zx : zr x) {y : Int} (zy : zr y) {v : Int} (zv : zr v)  (hc : c ≤ 599) (h : MI fh c) : ∃ Po : Option Value → jH → Prop, JM l G yX12_drunk MX12_drunk { frames := 43, cells := 0, slots := 0, locals := 1018 } [.ref 98, .int (zI x), .int (zI y), .int (zI v)] (nh, fh) Po ∧ ∀ rr h9, Po rr h9 → (∃ z : Int, rr = some (.int (zI z))) ∧ h9.1 = nh ∧ MI h9.2 (c + 1) ∧ ∀ k, OutM k → h9.2 k = fh k := by
  refine h _ (fun ms mv mt mfa mtn mtk mlv mbd mgo mge mbk mtt mtl hm pm hb sb mfu mdm mla rf7 K im hi wd ta fv cc va plc aq co cd st tk sm cf cm of fa fm li le dn tg us wf wb ra rb en fg ak mi pol dt gr_A gr_B gr_D gr_E gr_F gr_G gr_H gr_K => ?_)
  obtain ⟨hk98, hk99, hk100, hk101, hk102, hk103, hk104, hk105⟩ := gr_A
  obtain ⟨hk106, hk107, hk108, hk109, hk110, hk111⟩ := gr_B
  obtain ⟨hk112, hk113, hk114, hk115, hk116, hk117⟩ := gr_D
  obtain ⟨hk118, hk119, hk120, hk121, hk122, hk123, hk124, hk125, hk126⟩ := gr_E
  obtain ⟨hk127, hk128, hk129, hk130, hk131, hk132, hk133, hk134⟩ := gr_F
  obtain ⟨w0, w1, w2, w3, w4, w5, w6, w7⟩ := gr_G
  obtain ⟨w8, w9, w10, w11, w12, w13, w14, w15, w16, w17⟩ := gr_H
  obtain ⟨w18, w19, w20, w21, w22, w23, w24, w25, w26, w27, w28, w29, w30⟩ := gr_K
  refine ⟨_, k_drunk x y v ms mv mt mfa mtn mtk mlv mbd mgo mge mbk mtt mtl hm pm hb sb mfu mdm mla K co cd of st tk sm cf cm aq dt rf7 zx zy zv w16 w17 w0 w1 w2 (v_78230c730d w28 w29 hc) w3 w4 w5 w6 w7 w8 w9 w10 hk98 hk100 hk110 hk111 hk117 hk112 hk113 hk114 hk115 hk116 hk109 hk134 hk99, fun rr h9 hp => ?_⟩
  obtain ⟨z1, z2, z3, z4, f5, f6, f7, z8, f9, f10, f11, f12, f13, f14, z15, z16, z17, z18, z19, f20, f21, z22, z23, z24, z25, rfl, rfl, h26, h27, h28, h29, h30, h31, h32, h33, h34, h35, h36, h37, h38, h39⟩ := hp
  exact ⟨⟨_, rfl⟩, rfl, (fun _ kk => kk z22 z23 mt mfa mtn mtk mlv mbd z15 z16 z17 z18 z19 z2 z3 z4 z8 mfu z25 z24 f21 K im hi wd ta fv cc va plc f14 f5 f6 f9 f10 f11 f12 f13 f7 fa fm li le dn tg us wf wb ra rb en fg ak mi pol f20 ⟨rfl, rfl, hk100, hk101, hk102, hk103, hk104, hk105⟩ ⟨hk106, hk107, hk108, rfl, rfl, rfl⟩ ⟨rfl, rfl, rfl, rfl, rfl, rfl⟩ ⟨hk118, hk119, hk120, hk121, hk122, hk123, hk124, hk125, hk126⟩ ⟨hk127, hk128, hk129, hk130, hk131, hk132, hk133, rfl⟩ ⟨w0, h26, h27, (fun w => by have a : z4 ≤ mv := (v_d464d4c634 h31); have b : mv ≤ z23 := (v_d464d4c634 h36); have e : z23 = mv := by omega
        exact h28 (by omega)), h29, (fun w => by have a : z8 ≤ mv := (v_d464d4c634 h32); have b : mv ≤ z23 := (v_d464d4c634 h36); have e : z23 = mv := by omega
        exact h30 (by omega)), (v_8fadc7eb76 h31 h36), (v_8fadc7eb76 h32 h36)⟩ ⟨h33, h34, h35, w11, w12, w13, w14, w15, h38, h39⟩ ⟨w18, w19, w20, w21, w22, w23, w24, w25, w26, w27, (v_21976c7318 w28 h36), (v_08334df34c w29 h37), (v_da458fa48a w30)⟩), (fun k a => hc_inM ⟨(⟨by decide, by decide⟩), (⟨by decide, by decide⟩), (⟨by decide, by decide⟩), (⟨by decide, by decide⟩), (⟨by decide, by decide⟩), (⟨by decide, by decide⟩), (⟨by decide, by decide⟩), (⟨by decide, by decide⟩), (⟨by decide, by decide⟩), (⟨by decide, by decide⟩), (⟨by decide, by decide⟩), (⟨by decide, by decide⟩), True.intro⟩ k a)⟩
