theorem v_78230c730d {a0 a1 : Int} (h0 : 0 ≤ a0) (h1 : a0 ≤ a1) (h2 : a1 ≤ 599) : zr a0 := by omega
theorem v_af77b22e89 {a0 a1 a2 : Int} (h0 : 0 ≤ a0) (h1 : a0 ≤ a1) (h2 : a1 ≤ 599) (h3 : a2 = a0) : zr a2 := by omega
theorem v_abc45e8e68 {a0 a1 : Int} (h0 : a0 ≤ a1) (h1 : a1 ≤ 599) : a0 ≤ 2000000 := by omega
theorem v_49b8adab4a {a0 a1 : Int} (h0 : 0 ≤ a0) (h1 : a0 ≤ a1) (h2 : a1 ≤ 599) : zr ((a0 + 1)) := by omega
set_option maxRecDepth 100000 in
abbrev N_A (fh : Nat → Option va_E) (ms : Int) (mv : Int) (mt : Int) (mfa : Int) (mtn : Int) (mtk : Int) (mlv : Int) (mbd : Int) (mgo : Int) (mge : Int) (mbk : Int) (mtt : Int) (mtl : Int) (hm : Int) (pm : Int) (hb : Int) (sb : Int) (mfu : Int) (mdm : Int) (mla : Int) (rf7 : Int → Int) (K : Int → Int) (im : Int → Int) (hi : Int → Int) (wd : Int → Int) (ta : Int → Int) (fv : Int → Int) : Prop := fh 98 = some (.inr (12, (.int (zI ms) :: .int (zI mv) :: .ref 99 :: .ref 100 :: .ref 101 :: .ref 102 :: .ref 103 :: .ref 104 :: .ref 105 :: .int (zI mt) :: .int (zI mfa) :: .ref 106 :: .ref 107 :: .ref 108 :: .int (zI mtn) :: .int (zI mtk) :: .int (zI mlv) :: .int (zI mbd) :: .int (zI mgo) :: .int (zI mge) :: .int (zI mbk) :: .ref 109 :: .int (zI mtt) :: .int (zI mtl) :: .ref 110 :: .ref 111 :: .ref 112 :: .ref 113 :: .ref 114 :: .ref 115 :: .ref 116 :: .ref 117 :: .int (zI hm) :: .int (zI pm) :: .int (zI hb) :: .int (zI sb) :: .ref 118 :: .ref 119 :: .ref 120 :: .ref 121 :: .ref 122 :: .ref 123 :: .ref 124 :: .ref 125 :: .ref 126 :: .ref 127 :: .ref 128 :: .ref 129 :: .int (zI mfu) :: .ref 130 :: .ref 131 :: .ref 132 :: .ref 133 :: .ref 134 :: .int (zI mdm) :: .int (zI mla) :: []))) ∧ fh 99 = some (.inl (0, 7, .inl (zA rf7))) ∧ fh 100 = some (.inl (0, 4870, .inl (zA K))) ∧ fh 101 = some (.inl (0, 9740, .inl (zA im))) ∧ fh 102 = some (.inl (2, 2, .inl (zA hi))) ∧ fh 103 = some (.inl (3, 73, .inl (zA wd))) ∧ fh 104 = some (.inl (3, 400, .inl (zA ta))) ∧ fh 105 = some (.inl (0, 5, .inl (zA fv)))
set_option maxRecDepth 100000 in
abbrev N_B (fh : Nat → Option va_E) (cc : Int → Int) (va : Int → Int) (plc : Int → Int) (aq : Int → Int) (co : Int → Int) (cd : Int → Int) : Prop := fh 106 = some (.inl (0, 401, .inl (zA cc))) ∧ fh 107 = some (.inl (0, 401, .inl (zA va))) ∧ fh 108 = some (.inl (0, 401, .inl (zA plc))) ∧ fh 109 = some (.inl (0, 8, .inl (zA aq))) ∧ fh 110 = some (.inl (0, 8820, .inl (zA co))) ∧ fh 111 = some (.inl (0, 1260, .inl (zA cd)))
set_option maxRecDepth 100000 in
abbrev N_D (fh : Nat → Option va_E) (st : Int → Int) (tk : Int → Int) (sm : Int → Int) (cf : Int → Int) (cm : Int → Int) (of : Int → Int) : Prop := fh 112 = some (.inl (0, 27720, .inl (zA st))) ∧ fh 113 = some (.inl (0, 27720, .inl (zA tk))) ∧ fh 114 = some (.inl (0, 1260, .inl (zA sm))) ∧ fh 115 = some (.inl (0, 27720, .inl (zA cf))) ∧ fh 116 = some (.inl (0, 1260, .inl (zA cm))) ∧ fh 117 = some (.inl (0, 7, .inl (zA of)))
set_option maxRecDepth 100000 in
abbrev N_E (fh : Nat → Option va_E) (fa : Int → Int) (fm : Int → Int) (li : Int → Int) (le : Int → Int) (dn : Int → Int) (tg : Int → Int) (us : Int → Int) (wf : Int → Int) (wb : Int → Int) : Prop := fh 118 = some (.inl (0, 1260, .inl (zA fa))) ∧ fh 119 = some (.inl (1, 1260, .inr (.inl (zAL fm)))) ∧ fh 120 = some (.inl (0, 1260, .inl (zA li))) ∧ fh 121 = some (.inl (0, 1260, .inl (zA le))) ∧ fh 122 = some (.inl (2, 1260, .inl (zA dn))) ∧ fh 123 = some (.inl (0, 1260, .inl (zA tg))) ∧ fh 124 = some (.inl (2, 27720, .inl (zA us))) ∧ fh 125 = some (.inl (0, 1260, .inl (zA wf))) ∧ fh 126 = some (.inl (0, 1260, .inl (zA wb)))
set_option maxRecDepth 100000 in
abbrev N_F (fh : Nat → Option va_E) (ra : Int → Int) (rb : Int → Int) (en : Int → Int) (fg : Int → Int) (ak : Int → Int) (mi : Int → Int) (pol : Int → Int) (dt : Int → Int) : Prop := fh 127 = some (.inl (1, 1260, .inr (.inl (zAL ra)))) ∧ fh 128 = some (.inl (1, 1260, .inr (.inl (zAL rb)))) ∧ fh 129 = some (.inl (2, 229376, .inl (zA en))) ∧ fh 130 = some (.inl (2, 1260, .inl (zA fg))) ∧ fh 131 = some (.inl (0, 1261, .inl (zA ak))) ∧ fh 132 = some (.inl (0, 1600, .inl (zA mi))) ∧ fh 133 = some (.inl (0, 1600, .inl (zA pol))) ∧ fh 134 = some (.inl (0, 1260, .inl (zA dt)))
set_option maxRecDepth 100000 in
abbrev N_G (mv : Int) (hm : Int) (pm : Int) (hb : Int) (sb : Int) (K : Int → Int) (co : Int → Int) (cd : Int → Int) (st : Int → Int) (tk : Int → Int) (sm : Int → Int) (cf : Int → Int) (cm : Int → Int) (of : Int → Int) : Prop := (KOK K) ∧ (Rg of 7 0 4) ∧ (zr hb) ∧ (hb = mv → HouT co cd K hm ∧ hm = Hi K ∧ pm = bsum K) ∧ (zr sb) ∧ (sb = mv → StM st tk sm (Hi K) ∧ CoM cf cm st sm (Hi K)) ∧ (hb ≤ mv) ∧ (sb ≤ mv)
set_option maxRecDepth 100000 in
abbrev N_H (mbk : Int) (mdm : Int) (aq : Int → Int) (dn : Int → Int) (us : Int → Int) (wb : Int → Int) (en : Int → Int) (fg : Int → Int) : Prop := (0 ≤ mbk) ∧ (mbk ≤ 1) ∧ (Rg aq 8 (-2147483648) 2147483647) ∧ (Rg dn 1260 0 1) ∧ (Rg us 27720 0 1) ∧ (Rg wb 1260 0 1) ∧ (Rg en 229376 0 1) ∧ (Rg fg 1260 0 1) ∧ (0 ≤ mdm) ∧ (mdm ≤ 1260)
set_option maxRecDepth 100000 in
abbrev N_K (c : Int) (aa : Nat → Int) (mv : Int) (mt : Int) (im : Int → Int) (hi : Int → Int) (wd : Int → Int) (ta : Int → Int) (cc : Int → Int) (va : Int → Int) (plc : Int → Int) : Prop := (Rg ta 400 (-128) 127) ∧ (Rg wd 73 (-128) 127) ∧ (wd 72 = 32) ∧ (Rg cc 401 (-2147483648) 2147483647) ∧ (Rg va 401 (-2147483648) 2147483647) ∧ (Rg plc 401 0 400) ∧ (0 ≤ mt) ∧ (mt ≤ 400) ∧ (ImI im hi) ∧ (Rg hi 2 0 1) ∧ (0 ≤ mv) ∧ (mv ≤ c) ∧ (0 ≤ c) ∧ (KbA hi aa) ∧ (mt = aa 2)
set_option maxRecDepth 100000 in
def MI (fh : Nat → Option va_E) (c : Int) (aa : Nat → Int) : Prop := ∀ (PP : Prop), (∀ (ms mv mt mfa mtn mtk mlv mbd mgo mge mbk mtt mtl hm pm hb sb mfu mdm mla : Int) (rf7 K im hi wd ta fv cc va plc aq co cd st tk sm cf cm of fa fm li le dn tg us wf wb ra rb en fg ak mi pol dt : Int → Int), (N_A fh ms mv mt mfa mtn mtk mlv mbd mgo mge mbk mtt mtl hm pm hb sb mfu mdm mla rf7 K im hi wd ta fv) → (N_B fh cc va plc aq co cd) → (N_D fh st tk sm cf cm of) → (N_E fh fa fm li le dn tg us wf wb) → (N_F fh ra rb en fg ak mi pol dt) → (N_G mv hm pm hb sb K co cd st tk sm cf cm of) → (N_H mbk mdm aq dn us wb en fg) → (N_K c aa mv mt im hi wd ta cc va plc) → PP) → PP
set_option maxHeartbeats 4000000 in
set_option maxRecDepth 100000 in
theorem MI.frame {fh gh : Nat → Option va_E} {c : Int} {aa : Nat → Int} (h : MI fh c aa) (e : ∀ k, 98 ≤ k → k < 135 → gh k = fh k) : MI gh c aa := by
  refine h _ (fun ms mv mt mfa mtn mtk mlv mbd mgo mge mbk mtt mtl hm pm hb sb mfu mdm mla rf7 K im hi wd ta fv cc va plc aq co cd st tk sm cf cm of fa fm li le dn tg us wf wb ra rb en fg ak mi pol dt gr_A gr_B gr_D gr_E gr_F gr_G gr_H gr_K => ?_)
  obtain ⟨hk98, hk99, hk100, hk101, hk102, hk103, hk104, hk105⟩ := gr_A
  obtain ⟨hk106, hk107, hk108, hk109, hk110, hk111⟩ := gr_B
  obtain ⟨hk112, hk113, hk114, hk115, hk116, hk117⟩ := gr_D
  obtain ⟨hk118, hk119, hk120, hk121, hk122, hk123, hk124, hk125, hk126⟩ := gr_E
  obtain ⟨hk127, hk128, hk129, hk130, hk131, hk132, hk133, hk134⟩ := gr_F
  obtain ⟨w0, w1, w2, w3, w4, w5, w6, w7⟩ := gr_G
  obtain ⟨w8, w9, w10, w11, w12, w13, w14, w15, w16, w17⟩ := gr_H
  obtain ⟨w18, w19, w20, w21, w22, w23, w24, w25, w26, w27, w28, w29, w30, w31, w32⟩ := gr_K
  exact fun _ kk => kk ms mv mt mfa mtn mtk mlv mbd mgo mge mbk mtt mtl hm pm hb sb mfu mdm mla rf7 K im hi wd ta fv cc va plc aq co cd st tk sm cf cm of fa fm li le dn tg us wf wb ra rb en fg ak mi pol dt ⟨((e 98 (by decide) (by decide)).trans hk98), ((e 99 (by decide) (by decide)).trans hk99), ((e 100 (by decide) (by decide)).trans hk100), ((e 101 (by decide) (by decide)).trans hk101), ((e 102 (by decide) (by decide)).trans hk102), ((e 103 (by decide) (by decide)).trans hk103), ((e 104 (by decide) (by decide)).trans hk104), ((e 105 (by decide) (by decide)).trans hk105)⟩ ⟨((e 106 (by decide) (by decide)).trans hk106), ((e 107 (by decide) (by decide)).trans hk107), ((e 108 (by decide) (by decide)).trans hk108), ((e 109 (by decide) (by decide)).trans hk109), ((e 110 (by decide) (by decide)).trans hk110), ((e 111 (by decide) (by decide)).trans hk111)⟩ ⟨((e 112 (by decide) (by decide)).trans hk112), ((e 113 (by decide) (by decide)).trans hk113), ((e 114 (by decide) (by decide)).trans hk114), ((e 115 (by decide) (by decide)).trans hk115), ((e 116 (by decide) (by decide)).trans hk116), ((e 117 (by decide) (by decide)).trans hk117)⟩ ⟨((e 118 (by decide) (by decide)).trans hk118), ((e 119 (by decide) (by decide)).trans hk119), ((e 120 (by decide) (by decide)).trans hk120), ((e 121 (by decide) (by decide)).trans hk121), ((e 122 (by decide) (by decide)).trans hk122), ((e 123 (by decide) (by decide)).trans hk123), ((e 124 (by decide) (by decide)).trans hk124), ((e 125 (by decide) (by decide)).trans hk125), ((e 126 (by decide) (by decide)).trans hk126)⟩ ⟨((e 127 (by decide) (by decide)).trans hk127), ((e 128 (by decide) (by decide)).trans hk128), ((e 129 (by decide) (by decide)).trans hk129), ((e 130 (by decide) (by decide)).trans hk130), ((e 131 (by decide) (by decide)).trans hk131), ((e 132 (by decide) (by decide)).trans hk132), ((e 133 (by decide) (by decide)).trans hk133), ((e 134 (by decide) (by decide)).trans hk134)⟩ ⟨w0, w1, w2, w3, w4, w5, w6, w7⟩ ⟨w8, w9, w10, w11, w12, w13, w14, w15, w16, w17⟩ ⟨w18, w19, w20, w21, w22, w23, w24, w25, w26, w27, w28, w29, w30, w31, w32⟩
set_option maxHeartbeats 4000000 in
set_option maxRecDepth 100000 in
theorem M_beans {l : Launch} {G : jG} {nh : Nat} {fh : Nat → Option va_E} {c : Int} {aa : Nat → Int} {x : Int} (zx : zr x) {y : Int} (zy : zr y)  (hc : c ≤ 599) (h : MI fh c aa) : ∃ Po : Option Value → jH → Prop, JM l G yX12_beans MX12_beans { frames := 2, cells := 0, slots := 0, locals := 44 } [.ref 98, .int (zI x), .int (zI y)] (nh, fh) Po ∧ ∀ rr h9, Po rr h9 → (∃ z : Int, rr = some (.int (zI z))) ∧ h9.1 = nh ∧ MI h9.2 (c + 1) aa ∧ ∀ k, OutM k → h9.2 k = fh k := by
  refine h _ (fun ms mv mt mfa mtn mtk mlv mbd mgo mge mbk mtt mtl hm pm hb sb mfu mdm mla rf7 K im hi wd ta fv cc va plc aq co cd st tk sm cf cm of fa fm li le dn tg us wf wb ra rb en fg ak mi pol dt gr_A gr_B gr_D gr_E gr_F gr_G gr_H gr_K => ?_)
  obtain ⟨hk98, hk99, hk100, hk101, hk102, hk103, hk104, hk105⟩ := gr_A
  obtain ⟨hk106, hk107, hk108, hk109, hk110, hk111⟩ := gr_B
  obtain ⟨hk112, hk113, hk114, hk115, hk116, hk117⟩ := gr_D
  obtain ⟨hk118, hk119, hk120, hk121, hk122, hk123, hk124, hk125, hk126⟩ := gr_E
  obtain ⟨hk127, hk128, hk129, hk130, hk131, hk132, hk133, hk134⟩ := gr_F
  obtain ⟨w0, w1, w2, w3, w4, w5, w6, w7⟩ := gr_G
  obtain ⟨w8, w9, w10, w11, w12, w13, w14, w15, w16, w17⟩ := gr_H
  obtain ⟨w18, w19, w20, w21, w22, w23, w24, w25, w26, w27, w28, w29, w30, w31, w32⟩ := gr_K
  refine ⟨_, k_beans x y ms mv mt mfa mtn mtk mlv mbd mgo mge mbk mtt mtl hm pm hb sb mfu mdm mla K rf7 zx zy w0 hk98 hk100 hk99, fun rr h9 hp => ?_⟩
  obtain ⟨z1, f2, f3, z4, z5, rfl, rfl, h6, h7, h8, h9⟩ := hp
  dsimp only
  exact ⟨⟨_, rfl⟩, rfl, (fun _ kk => kk z4 z5 mt mfa mtn mtk mlv mbd mgo mge mbk mtt mtl hm pm hb sb mfu mdm mla f3 f2 im hi wd ta fv cc va plc aq co cd st tk sm cf cm of fa fm li le dn tg us wf wb ra rb en fg ak mi pol dt ⟨rfl, rfl, rfl, hk101, hk102, hk103, hk104, hk105⟩ ⟨hk106, hk107, hk108, hk109, hk110, hk111⟩ ⟨hk112, hk113, hk114, hk115, hk116, hk117⟩ ⟨hk118, hk119, hk120, hk121, hk122, hk123, hk124, hk125, hk126⟩ ⟨hk127, hk128, hk129, hk130, hk131, hk132, hk133, hk134⟩ ⟨h6, w1, w2, (fun w => by
        have a : hb ≤ mv := (v_d464d4c634 w6); have b : mv ≤ z5 := (v_d464d4c634 h7)
        have e : z5 = mv := by omega
        rw [h9 e]; exact w3 (by omega)), w4, (fun w => by
        have a : sb ≤ mv := (v_d464d4c634 w7); have b : mv ≤ z5 := (v_d464d4c634 h7)
        have e : z5 = mv := by omega
        rw [h9 e]; exact w5 (by omega)), (v_8fadc7eb76 w6 h7), (v_8fadc7eb76 w7 h7)⟩ ⟨w8, w9, w10, w11, w12, w13, w14, w15, w16, w17⟩ ⟨w18, w19, w20, w21, w22, w23, w24, w25, w26, w27, (v_21976c7318 w28 h7), (v_08334df34c w29 h8), (v_da458fa48a w30), w31, w32⟩), (fun k a => hc_inM (L := [(98, .inr (12, (.int (zI z4) :: .int (zI z5) :: .ref 99 :: .ref 100 :: .ref 101 :: .ref 102 :: .ref 103 :: .ref 104 :: .ref 105 :: .int (zI mt) :: .int (zI mfa) :: .ref 106 :: .ref 107 :: .ref 108 :: .int (zI mtn) :: .int (zI mtk) :: .int (zI mlv) :: .int (zI mbd) :: .int (zI mgo) :: .int (zI mge) :: .int (zI mbk) :: .ref 109 :: .int (zI mtt) :: .int (zI mtl) :: .ref 110 :: .ref 111 :: .ref 112 :: .ref 113 :: .ref 114 :: .ref 115 :: .ref 116 :: .ref 117 :: .int (zI hm) :: .int (zI pm) :: .int (zI hb) :: .int (zI sb) :: .ref 118 :: .ref 119 :: .ref 120 :: .ref 121 :: .ref 122 :: .ref 123 :: .ref 124 :: .ref 125 :: .ref 126 :: .ref 127 :: .ref 128 :: .ref 129 :: .int (zI mfu) :: .ref 130 :: .ref 131 :: .ref 132 :: .ref 133 :: .ref 134 :: .int (zI mdm) :: .int (zI mla) :: []))), (100, .inl (0, 4870, .inl (zA f2))), (99, .inl (0, 7, .inl (zA f3)))]) ⟨(show InM 98 from ⟨by decide, by decide⟩), (show InM 100 from ⟨by decide, by decide⟩), (show InM 99 from ⟨by decide, by decide⟩), True.intro⟩ k a)⟩
set_option maxHeartbeats 4000000 in
set_option maxRecDepth 100000 in
theorem M_houses {l : Launch} {G : jG} {nh : Nat} {fh : Nat → Option va_E} {c : Int} {aa : Nat → Int}  (hc : c ≤ 599) (h : MI fh c aa) : ∃ Po : Option Value → jH → Prop, JM l G yX12_houses MX12_houses { frames := 3, cells := 0, slots := 0, locals := 71 } [.ref 98] (nh, fh) Po ∧ ∀ rr h9, Po rr h9 → (∃ z : Int, rr = some (.int (zI z))) ∧ h9.1 = nh ∧ MI h9.2 (c + 1) aa ∧ ∀ k, OutM k → h9.2 k = fh k := by
  refine h _ (fun ms mv mt mfa mtn mtk mlv mbd mgo mge mbk mtt mtl hm pm hb sb mfu mdm mla rf7 K im hi wd ta fv cc va plc aq co cd st tk sm cf cm of fa fm li le dn tg us wf wb ra rb en fg ak mi pol dt gr_A gr_B gr_D gr_E gr_F gr_G gr_H gr_K => ?_)
  obtain ⟨hk98, hk99, hk100, hk101, hk102, hk103, hk104, hk105⟩ := gr_A
  obtain ⟨hk106, hk107, hk108, hk109, hk110, hk111⟩ := gr_B
  obtain ⟨hk112, hk113, hk114, hk115, hk116, hk117⟩ := gr_D
  obtain ⟨hk118, hk119, hk120, hk121, hk122, hk123, hk124, hk125, hk126⟩ := gr_E
  obtain ⟨hk127, hk128, hk129, hk130, hk131, hk132, hk133, hk134⟩ := gr_F
  obtain ⟨w0, w1, w2, w3, w4, w5, w6, w7⟩ := gr_G
  obtain ⟨w8, w9, w10, w11, w12, w13, w14, w15, w16, w17⟩ := gr_H
  obtain ⟨w18, w19, w20, w21, w22, w23, w24, w25, w26, w27, w28, w29, w30, w31, w32⟩ := gr_K
  refine ⟨_, k_houses ms mv mt mfa mtn mtk mlv mbd mgo mge mbk mtt mtl hm pm hb sb mfu mdm mla K co cd of w0.1 w1 w2 (v_78230c730d w28 w29 hc) w3 hk98 hk100 hk110 hk111 hk117, fun rr h9 hp => ?_⟩
  obtain ⟨z1, z2, z3, z4, f5, f6, f7, rfl, rfl, h8, h9, h10, h11, h12, h13, h14, h15, h16⟩ := hp
  dsimp only
  exact ⟨⟨_, rfl⟩, rfl, (fun _ kk => kk ms mv mt mfa mtn mtk mlv mbd mgo mge mbk mtt mtl z2 z3 z4 sb mfu mdm mla rf7 K im hi wd ta fv cc va plc aq f5 f6 st tk sm cf cm f7 fa fm li le dn tg us wf wb ra rb en fg ak mi pol dt ⟨rfl, hk99, hk100, hk101, hk102, hk103, hk104, hk105⟩ ⟨hk106, hk107, hk108, hk109, rfl, rfl⟩ ⟨hk112, hk113, hk114, hk115, hk116, rfl⟩ ⟨hk118, hk119, hk120, hk121, hk122, hk123, hk124, hk125, hk126⟩ ⟨hk127, hk128, hk129, hk130, hk131, hk132, hk133, hk134⟩ ⟨w0, h11, (v_af77b22e89 w28 w29 hc h16), (fun _ => ⟨h10, h8, h9⟩), w4, w5, (v_94d6d099ed h16), w7⟩ ⟨w8, w9, w10, w11, w12, w13, w14, w15, w16, w17⟩ ⟨w18, w19, w20, w21, w22, w23, w24, w25, w26, w27, w28, (v_d50281bace w29), (v_da458fa48a w30), w31, w32⟩), (fun k a => hc_inM (L := [(98, .inr (12, (.int (zI ms) :: .int (zI mv) :: .ref 99 :: .ref 100 :: .ref 101 :: .ref 102 :: .ref 103 :: .ref 104 :: .ref 105 :: .int (zI mt) :: .int (zI mfa) :: .ref 106 :: .ref 107 :: .ref 108 :: .int (zI mtn) :: .int (zI mtk) :: .int (zI mlv) :: .int (zI mbd) :: .int (zI mgo) :: .int (zI mge) :: .int (zI mbk) :: .ref 109 :: .int (zI mtt) :: .int (zI mtl) :: .ref 110 :: .ref 111 :: .ref 112 :: .ref 113 :: .ref 114 :: .ref 115 :: .ref 116 :: .ref 117 :: .int (zI z2) :: .int (zI z3) :: .int (zI z4) :: .int (zI sb) :: .ref 118 :: .ref 119 :: .ref 120 :: .ref 121 :: .ref 122 :: .ref 123 :: .ref 124 :: .ref 125 :: .ref 126 :: .ref 127 :: .ref 128 :: .ref 129 :: .int (zI mfu) :: .ref 130 :: .ref 131 :: .ref 132 :: .ref 133 :: .ref 134 :: .int (zI mdm) :: .int (zI mla) :: []))), (110, .inl (0, 8820, .inl (zA f5))), (111, .inl (0, 1260, .inl (zA f6))), (117, .inl (0, 7, .inl (zA f7)))]) ⟨(show InM 98 from ⟨by decide, by decide⟩), (show InM 110 from ⟨by decide, by decide⟩), (show InM 111 from ⟨by decide, by decide⟩), (show InM 117 from ⟨by decide, by decide⟩), True.intro⟩ k a)⟩
set_option maxHeartbeats 4000000 in
set_option maxRecDepth 100000 in
theorem M_code {l : Launch} {G : jG} {nh : Nat} {fh : Nat → Option va_E} {c : Int} {aa : Nat → Int} {x : Int} (zx : zr x)  (hc : c ≤ 599) (h : MI fh c aa) : ∃ Po : Option Value → jH → Prop, JM l G yX12_code MX12_code { frames := 4, cells := 0, slots := 0, locals := 92 } [.ref 98, .int (zI x)] (nh, fh) Po ∧ ∀ rr h9, Po rr h9 → (∃ z : Int, rr = some (.int (zI z))) ∧ h9.1 = nh ∧ MI h9.2 (c + 1) aa ∧ ∀ k, OutM k → h9.2 k = fh k := by
  refine h _ (fun ms mv mt mfa mtn mtk mlv mbd mgo mge mbk mtt mtl hm pm hb sb mfu mdm mla rf7 K im hi wd ta fv cc va plc aq co cd st tk sm cf cm of fa fm li le dn tg us wf wb ra rb en fg ak mi pol dt gr_A gr_B gr_D gr_E gr_F gr_G gr_H gr_K => ?_)
  obtain ⟨hk98, hk99, hk100, hk101, hk102, hk103, hk104, hk105⟩ := gr_A
  obtain ⟨hk106, hk107, hk108, hk109, hk110, hk111⟩ := gr_B
  obtain ⟨hk112, hk113, hk114, hk115, hk116, hk117⟩ := gr_D
  obtain ⟨hk118, hk119, hk120, hk121, hk122, hk123, hk124, hk125, hk126⟩ := gr_E
  obtain ⟨hk127, hk128, hk129, hk130, hk131, hk132, hk133, hk134⟩ := gr_F
  obtain ⟨w0, w1, w2, w3, w4, w5, w6, w7⟩ := gr_G
  obtain ⟨w8, w9, w10, w11, w12, w13, w14, w15, w16, w17⟩ := gr_H
  obtain ⟨w18, w19, w20, w21, w22, w23, w24, w25, w26, w27, w28, w29, w30, w31, w32⟩ := gr_K
  refine ⟨_, k_code x ms mv mt mfa mtn mtk mlv mbd mgo mge mbk mtt mtl hm pm hb sb mfu mdm mla K co cd of zx w0.1 w1 w2 (v_78230c730d w28 w29 hc) w3 hk98 hk100 hk110 hk111 hk117, fun rr h9 hp => ?_⟩
  obtain ⟨z1, z2, z3, z4, f5, f6, f7, rfl, rfl, h8, h9, h10, h11, h12, h13, h14, h15, h16⟩ := hp
  dsimp only
  exact ⟨⟨_, rfl⟩, rfl, (fun _ kk => kk ms mv mt mfa mtn mtk mlv mbd mgo mge mbk mtt mtl z2 z3 z4 sb mfu mdm mla rf7 K im hi wd ta fv cc va plc aq f5 f6 st tk sm cf cm f7 fa fm li le dn tg us wf wb ra rb en fg ak mi pol dt ⟨rfl, hk99, hk100, hk101, hk102, hk103, hk104, hk105⟩ ⟨hk106, hk107, hk108, hk109, rfl, rfl⟩ ⟨hk112, hk113, hk114, hk115, hk116, rfl⟩ ⟨hk118, hk119, hk120, hk121, hk122, hk123, hk124, hk125, hk126⟩ ⟨hk127, hk128, hk129, hk130, hk131, hk132, hk133, hk134⟩ ⟨w0, h11, (v_af77b22e89 w28 w29 hc h16), (fun _ => ⟨h10, h8, h9⟩), w4, w5, (v_94d6d099ed h16), w7⟩ ⟨w8, w9, w10, w11, w12, w13, w14, w15, w16, w17⟩ ⟨w18, w19, w20, w21, w22, w23, w24, w25, w26, w27, w28, (v_d50281bace w29), (v_da458fa48a w30), w31, w32⟩), (fun k a => hc_inM (L := [(98, .inr (12, (.int (zI ms) :: .int (zI mv) :: .ref 99 :: .ref 100 :: .ref 101 :: .ref 102 :: .ref 103 :: .ref 104 :: .ref 105 :: .int (zI mt) :: .int (zI mfa) :: .ref 106 :: .ref 107 :: .ref 108 :: .int (zI mtn) :: .int (zI mtk) :: .int (zI mlv) :: .int (zI mbd) :: .int (zI mgo) :: .int (zI mge) :: .int (zI mbk) :: .ref 109 :: .int (zI mtt) :: .int (zI mtl) :: .ref 110 :: .ref 111 :: .ref 112 :: .ref 113 :: .ref 114 :: .ref 115 :: .ref 116 :: .ref 117 :: .int (zI z2) :: .int (zI z3) :: .int (zI z4) :: .int (zI sb) :: .ref 118 :: .ref 119 :: .ref 120 :: .ref 121 :: .ref 122 :: .ref 123 :: .ref 124 :: .ref 125 :: .ref 126 :: .ref 127 :: .ref 128 :: .ref 129 :: .int (zI mfu) :: .ref 130 :: .ref 131 :: .ref 132 :: .ref 133 :: .ref 134 :: .int (zI mdm) :: .int (zI mla) :: []))), (110, .inl (0, 8820, .inl (zA f5))), (111, .inl (0, 1260, .inl (zA f6))), (117, .inl (0, 7, .inl (zA f7)))]) ⟨(show InM 98 from ⟨by decide, by decide⟩), (show InM 110 from ⟨by decide, by decide⟩), (show InM 111 from ⟨by decide, by decide⟩), (show InM 117 from ⟨by decide, by decide⟩), True.intro⟩ k a)⟩
set_option maxHeartbeats 4000000 in
set_option maxRecDepth 100000 in
theorem M_house {l : Launch} {G : jG} {nh : Nat} {fh : Nat → Option va_E} {c : Int} {aa : Nat → Int} {x : Int} (zx : zr x)  (hc : c ≤ 599) (h : MI fh c aa) : ∃ Po : Option Value → jH → Prop, JM l G yX12_house MX12_house { frames := 3, cells := 0, slots := 0, locals := 71 } [.ref 98, .int (zI x)] (nh, fh) Po ∧ ∀ rr h9, Po rr h9 → (∃ z : Int, rr = some (.int (zI z))) ∧ h9.1 = nh ∧ MI h9.2 (c + 1) aa ∧ ∀ k, OutM k → h9.2 k = fh k := by
  refine h _ (fun ms mv mt mfa mtn mtk mlv mbd mgo mge mbk mtt mtl hm pm hb sb mfu mdm mla rf7 K im hi wd ta fv cc va plc aq co cd st tk sm cf cm of fa fm li le dn tg us wf wb ra rb en fg ak mi pol dt gr_A gr_B gr_D gr_E gr_F gr_G gr_H gr_K => ?_)
  obtain ⟨hk98, hk99, hk100, hk101, hk102, hk103, hk104, hk105⟩ := gr_A
  obtain ⟨hk106, hk107, hk108, hk109, hk110, hk111⟩ := gr_B
  obtain ⟨hk112, hk113, hk114, hk115, hk116, hk117⟩ := gr_D
  obtain ⟨hk118, hk119, hk120, hk121, hk122, hk123, hk124, hk125, hk126⟩ := gr_E
  obtain ⟨hk127, hk128, hk129, hk130, hk131, hk132, hk133, hk134⟩ := gr_F
  obtain ⟨w0, w1, w2, w3, w4, w5, w6, w7⟩ := gr_G
  obtain ⟨w8, w9, w10, w11, w12, w13, w14, w15, w16, w17⟩ := gr_H
  obtain ⟨w18, w19, w20, w21, w22, w23, w24, w25, w26, w27, w28, w29, w30, w31, w32⟩ := gr_K
  refine ⟨_, k_house x ms mv mt mfa mtn mtk mlv mbd mgo mge mbk mtt mtl hm pm hb sb mfu mdm mla K co cd of zx w0.1 w1 w2 (v_78230c730d w28 w29 hc) w3 hk98 hk100 hk110 hk111 hk117, fun rr h9 hp => ?_⟩
  obtain ⟨z1, z2, z3, z4, f5, f6, f7, rfl, rfl, h8, h9, h10, h11, h12, h13, h14, h15, h16⟩ := hp
  dsimp only
  exact ⟨⟨_, rfl⟩, rfl, (fun _ kk => kk ms mv mt mfa mtn mtk mlv mbd mgo mge mbk mtt mtl z2 z3 z4 sb mfu mdm mla rf7 K im hi wd ta fv cc va plc aq f5 f6 st tk sm cf cm f7 fa fm li le dn tg us wf wb ra rb en fg ak mi pol dt ⟨rfl, hk99, hk100, hk101, hk102, hk103, hk104, hk105⟩ ⟨hk106, hk107, hk108, hk109, rfl, rfl⟩ ⟨hk112, hk113, hk114, hk115, hk116, rfl⟩ ⟨hk118, hk119, hk120, hk121, hk122, hk123, hk124, hk125, hk126⟩ ⟨hk127, hk128, hk129, hk130, hk131, hk132, hk133, hk134⟩ ⟨w0, h11, (v_af77b22e89 w28 w29 hc h16), (fun _ => ⟨h10, h8, h9⟩), w4, w5, (v_94d6d099ed h16), w7⟩ ⟨w8, w9, w10, w11, w12, w13, w14, w15, w16, w17⟩ ⟨w18, w19, w20, w21, w22, w23, w24, w25, w26, w27, w28, (v_d50281bace w29), (v_da458fa48a w30), w31, w32⟩), (fun k a => hc_inM (L := [(98, .inr (12, (.int (zI ms) :: .int (zI mv) :: .ref 99 :: .ref 100 :: .ref 101 :: .ref 102 :: .ref 103 :: .ref 104 :: .ref 105 :: .int (zI mt) :: .int (zI mfa) :: .ref 106 :: .ref 107 :: .ref 108 :: .int (zI mtn) :: .int (zI mtk) :: .int (zI mlv) :: .int (zI mbd) :: .int (zI mgo) :: .int (zI mge) :: .int (zI mbk) :: .ref 109 :: .int (zI mtt) :: .int (zI mtl) :: .ref 110 :: .ref 111 :: .ref 112 :: .ref 113 :: .ref 114 :: .ref 115 :: .ref 116 :: .ref 117 :: .int (zI z2) :: .int (zI z3) :: .int (zI z4) :: .int (zI sb) :: .ref 118 :: .ref 119 :: .ref 120 :: .ref 121 :: .ref 122 :: .ref 123 :: .ref 124 :: .ref 125 :: .ref 126 :: .ref 127 :: .ref 128 :: .ref 129 :: .int (zI mfu) :: .ref 130 :: .ref 131 :: .ref 132 :: .ref 133 :: .ref 134 :: .int (zI mdm) :: .int (zI mla) :: []))), (110, .inl (0, 8820, .inl (zA f5))), (111, .inl (0, 1260, .inl (zA f6))), (117, .inl (0, 7, .inl (zA f7)))]) ⟨(show InM 98 from ⟨by decide, by decide⟩), (show InM 110 from ⟨by decide, by decide⟩), (show InM 111 from ⟨by decide, by decide⟩), (show InM 117 from ⟨by decide, by decide⟩), True.intro⟩ k a)⟩
set_option maxHeartbeats 4000000 in
set_option maxRecDepth 100000 in
theorem M_terms {l : Launch} {G : jG} {nh : Nat} {fh : Nat → Option va_E} {c : Int} {aa : Nat → Int} {x : Int} (zx : zr x) {y : Int} (zy : zr y)  (hc : c ≤ 599) (h : MI fh c aa) : ∃ Po : Option Value → jH → Prop, JM l G yX12_terms MX12_terms { frames := 1, cells := 0, slots := 0, locals := 22 } [.ref 98, .int (zI x), .int (zI y)] (nh, fh) Po ∧ ∀ rr h9, Po rr h9 → (∃ z : Int, rr = some (.int (zI z))) ∧ h9.1 = nh ∧ MI h9.2 (c + 1) aa ∧ ∀ k, OutM k → h9.2 k = fh k := by
  refine h _ (fun ms mv mt mfa mtn mtk mlv mbd mgo mge mbk mtt mtl hm pm hb sb mfu mdm mla rf7 K im hi wd ta fv cc va plc aq co cd st tk sm cf cm of fa fm li le dn tg us wf wb ra rb en fg ak mi pol dt gr_A gr_B gr_D gr_E gr_F gr_G gr_H gr_K => ?_)
  obtain ⟨hk98, hk99, hk100, hk101, hk102, hk103, hk104, hk105⟩ := gr_A
  obtain ⟨hk106, hk107, hk108, hk109, hk110, hk111⟩ := gr_B
  obtain ⟨hk112, hk113, hk114, hk115, hk116, hk117⟩ := gr_D
  obtain ⟨hk118, hk119, hk120, hk121, hk122, hk123, hk124, hk125, hk126⟩ := gr_E
  obtain ⟨hk127, hk128, hk129, hk130, hk131, hk132, hk133, hk134⟩ := gr_F
  obtain ⟨w0, w1, w2, w3, w4, w5, w6, w7⟩ := gr_G
  obtain ⟨w8, w9, w10, w11, w12, w13, w14, w15, w16, w17⟩ := gr_H
  obtain ⟨w18, w19, w20, w21, w22, w23, w24, w25, w26, w27, w28, w29, w30, w31, w32⟩ := gr_K
  refine ⟨_, k_terms x y ms mv mt mfa mtn mtk mlv mbd mgo mge mbk mtt mtl hm pm hb sb mfu mdm mla K rf7 zx zy w0 hk98 hk100 hk99, fun rr h9 hp => ?_⟩
  obtain ⟨z1, f2, f3, z4, z5, rfl, rfl, h6, h7, h8, h9⟩ := hp
  dsimp only
  exact ⟨⟨_, rfl⟩, rfl, (fun _ kk => kk z4 z5 mt mfa mtn mtk mlv mbd mgo mge mbk mtt mtl hm pm hb sb mfu mdm mla f3 f2 im hi wd ta fv cc va plc aq co cd st tk sm cf cm of fa fm li le dn tg us wf wb ra rb en fg ak mi pol dt ⟨rfl, rfl, rfl, hk101, hk102, hk103, hk104, hk105⟩ ⟨hk106, hk107, hk108, hk109, hk110, hk111⟩ ⟨hk112, hk113, hk114, hk115, hk116, hk117⟩ ⟨hk118, hk119, hk120, hk121, hk122, hk123, hk124, hk125, hk126⟩ ⟨hk127, hk128, hk129, hk130, hk131, hk132, hk133, hk134⟩ ⟨h6, w1, w2, (fun w => by
        have a : hb ≤ mv := (v_d464d4c634 w6); have b : mv ≤ z5 := (v_d464d4c634 h7)
        have e : z5 = mv := by omega
        rw [h9 e]; exact w3 (by omega)), w4, (fun w => by
        have a : sb ≤ mv := (v_d464d4c634 w7); have b : mv ≤ z5 := (v_d464d4c634 h7)
        have e : z5 = mv := by omega
        rw [h9 e]; exact w5 (by omega)), (v_8fadc7eb76 w6 h7), (v_8fadc7eb76 w7 h7)⟩ ⟨w8, w9, w10, w11, w12, w13, w14, w15, w16, w17⟩ ⟨w18, w19, w20, w21, w22, w23, w24, w25, w26, w27, (v_21976c7318 w28 h7), (v_08334df34c w29 h8), (v_da458fa48a w30), w31, w32⟩), (fun k a => hc_inM (L := [(98, .inr (12, (.int (zI z4) :: .int (zI z5) :: .ref 99 :: .ref 100 :: .ref 101 :: .ref 102 :: .ref 103 :: .ref 104 :: .ref 105 :: .int (zI mt) :: .int (zI mfa) :: .ref 106 :: .ref 107 :: .ref 108 :: .int (zI mtn) :: .int (zI mtk) :: .int (zI mlv) :: .int (zI mbd) :: .int (zI mgo) :: .int (zI mge) :: .int (zI mbk) :: .ref 109 :: .int (zI mtt) :: .int (zI mtl) :: .ref 110 :: .ref 111 :: .ref 112 :: .ref 113 :: .ref 114 :: .ref 115 :: .ref 116 :: .ref 117 :: .int (zI hm) :: .int (zI pm) :: .int (zI hb) :: .int (zI sb) :: .ref 118 :: .ref 119 :: .ref 120 :: .ref 121 :: .ref 122 :: .ref 123 :: .ref 124 :: .ref 125 :: .ref 126 :: .ref 127 :: .ref 128 :: .ref 129 :: .int (zI mfu) :: .ref 130 :: .ref 131 :: .ref 132 :: .ref 133 :: .ref 134 :: .int (zI mdm) :: .int (zI mla) :: []))), (100, .inl (0, 4870, .inl (zA f2))), (99, .inl (0, 7, .inl (zA f3)))]) ⟨(show InM 98 from ⟨by decide, by decide⟩), (show InM 100 from ⟨by decide, by decide⟩), (show InM 99 from ⟨by decide, by decide⟩), True.intro⟩ k a)⟩
set_option maxHeartbeats 4000000 in
set_option maxRecDepth 100000 in
theorem M_row {l : Launch} {G : jG} {nh : Nat} {fh : Nat → Option va_E} {c : Int} {aa : Nat → Int}  (hc : c ≤ 599) (h : MI fh c aa) : ∃ Po : Option Value → jH → Prop, JM l G yX12_row MX12_row { frames := 3, cells := 0, slots := 0, locals := 71 } [.ref 98] (nh, fh) Po ∧ ∀ rr h9, Po rr h9 → (∃ z : Int, rr = some (.int (zI z))) ∧ h9.1 = nh ∧ MI h9.2 (c + 1) (zeA aa) ∧ ∀ k, OutM k → h9.2 k = fh k := by
  refine h _ (fun ms mv mt mfa mtn mtk mlv mbd mgo mge mbk mtt mtl hm pm hb sb mfu mdm mla rf7 K im hi wd ta fv cc va plc aq co cd st tk sm cf cm of fa fm li le dn tg us wf wb ra rb en fg ak mi pol dt gr_A gr_B gr_D gr_E gr_F gr_G gr_H gr_K => ?_)
  obtain ⟨hk98, hk99, hk100, hk101, hk102, hk103, hk104, hk105⟩ := gr_A
  obtain ⟨hk106, hk107, hk108, hk109, hk110, hk111⟩ := gr_B
  obtain ⟨hk112, hk113, hk114, hk115, hk116, hk117⟩ := gr_D
  obtain ⟨hk118, hk119, hk120, hk121, hk122, hk123, hk124, hk125, hk126⟩ := gr_E
  obtain ⟨hk127, hk128, hk129, hk130, hk131, hk132, hk133, hk134⟩ := gr_F
  obtain ⟨w0, w1, w2, w3, w4, w5, w6, w7⟩ := gr_G
  obtain ⟨w8, w9, w10, w11, w12, w13, w14, w15, w16, w17⟩ := gr_H
  obtain ⟨w18, w19, w20, w21, w22, w23, w24, w25, w26, w27, w28, w29, w30, w31, w32⟩ := gr_K
  refine ⟨_, k_row ms mv mt mfa mtn mtk mlv mbd mgo mge mbk mtt mtl hm pm hb sb mfu mdm mla K co cd of rf7 ta w0 w24 w25 w18 (v_78230c730d w28 w29 hc) (v_abc45e8e68 w29 hc) w3 w1 w2 (v_49b8adab4a w28 w29 hc) w6 w28 hk98 hk100 hk99 hk110 hk111 hk117 hk104, fun rr h9 hp => ?_⟩
  obtain ⟨z1, f2, f3, z4, z5, z6, z7, z8, f9, f10, f11, rfl, rfl, h12, h13, h14, h15, h16, h17, h18, h19⟩ := hp
  dsimp only
  exact ⟨⟨_, rfl⟩, rfl, (fun _ kk => kk z4 z5 0 mfa mtn mtk mlv mbd mgo mge mbk mtt mtl z6 z7 z8 sb mfu mdm mla f3 f2 im hi wd ta fv cc va plc aq f9 f10 st tk sm cf cm f11 fa fm li le dn tg us wf wb ra rb en fg ak mi pol dt ⟨rfl, rfl, rfl, hk101, hk102, hk103, hk104, hk105⟩ ⟨hk106, hk107, hk108, hk109, rfl, rfl⟩ ⟨hk112, hk113, hk114, hk115, hk116, rfl⟩ ⟨hk118, hk119, hk120, hk121, hk122, hk123, hk124, hk125, hk126⟩ ⟨hk127, hk128, hk129, hk130, hk131, hk132, hk133, hk134⟩ ⟨h12, h15, h16, h17, w4, (fun w => by
        have a : sb ≤ mv := (v_d464d4c634 w7); have b : mv ≤ z5 := (v_d464d4c634 h13)
        have e : z5 = mv := by omega
        rw [h19 e]; exact w5 (by omega)), h18, (v_8fadc7eb76 w7 h13)⟩ ⟨w8, w9, w10, w11, w12, w13, w14, w15, w16, w17⟩ ⟨w18, w19, w20, w21, w22, w23, v_939070ca3f, v_5ab96f7b5e, w26, w27, (v_21976c7318 w28 h13), (v_08334df34c w29 h14), (v_da458fa48a w30), w31, (zeA_in v_2ca2bbca1f)⟩), (fun k a => hc_inM (L := [(98, .inr (12, (.int (zI z4) :: .int (zI z5) :: .ref 99 :: .ref 100 :: .ref 101 :: .ref 102 :: .ref 103 :: .ref 104 :: .ref 105 :: .int (zI 0) :: .int (zI mfa) :: .ref 106 :: .ref 107 :: .ref 108 :: .int (zI mtn) :: .int (zI mtk) :: .int (zI mlv) :: .int (zI mbd) :: .int (zI mgo) :: .int (zI mge) :: .int (zI mbk) :: .ref 109 :: .int (zI mtt) :: .int (zI mtl) :: .ref 110 :: .ref 111 :: .ref 112 :: .ref 113 :: .ref 114 :: .ref 115 :: .ref 116 :: .ref 117 :: .int (zI z6) :: .int (zI z7) :: .int (zI z8) :: .int (zI sb) :: .ref 118 :: .ref 119 :: .ref 120 :: .ref 121 :: .ref 122 :: .ref 123 :: .ref 124 :: .ref 125 :: .ref 126 :: .ref 127 :: .ref 128 :: .ref 129 :: .int (zI mfu) :: .ref 130 :: .ref 131 :: .ref 132 :: .ref 133 :: .ref 134 :: .int (zI mdm) :: .int (zI mla) :: []))), (100, .inl (0, 4870, .inl (zA f2))), (99, .inl (0, 7, .inl (zA f3))), (110, .inl (0, 8820, .inl (zA f9))), (111, .inl (0, 1260, .inl (zA f10))), (117, .inl (0, 7, .inl (zA f11)))]) ⟨(show InM 98 from ⟨by decide, by decide⟩), (show InM 100 from ⟨by decide, by decide⟩), (show InM 99 from ⟨by decide, by decide⟩), (show InM 110 from ⟨by decide, by decide⟩), (show InM 111 from ⟨by decide, by decide⟩), (show InM 117 from ⟨by decide, by decide⟩), True.intro⟩ k a)⟩
set_option maxHeartbeats 4000000 in
set_option maxRecDepth 100000 in
theorem M_law {l : Launch} {G : jG} {nh : Nat} {fh : Nat → Option va_E} {c : Int} {aa : Nat → Int}  (hc : c ≤ 599) (h : MI fh c aa) : ∃ Po : Option Value → jH → Prop, JM l G yX12_law MX12_law { frames := 35, cells := 0, slots := 0, locals := 750 } [.ref 98] (nh, fh) Po ∧ ∀ rr h9, Po rr h9 → (∃ z : Int, rr = some (.int (zI z))) ∧ h9.1 = nh ∧ MI h9.2 (c + 1) (zeA aa) ∧ ∀ k, OutM k → h9.2 k = fh k := by
  refine h _ (fun ms mv mt mfa mtn mtk mlv mbd mgo mge mbk mtt mtl hm pm hb sb mfu mdm mla rf7 K im hi wd ta fv cc va plc aq co cd st tk sm cf cm of fa fm li le dn tg us wf wb ra rb en fg ak mi pol dt gr_A gr_B gr_D gr_E gr_F gr_G gr_H gr_K => ?_)
  obtain ⟨hk98, hk99, hk100, hk101, hk102, hk103, hk104, hk105⟩ := gr_A
  obtain ⟨hk106, hk107, hk108, hk109, hk110, hk111⟩ := gr_B
  obtain ⟨hk112, hk113, hk114, hk115, hk116, hk117⟩ := gr_D
  obtain ⟨hk118, hk119, hk120, hk121, hk122, hk123, hk124, hk125, hk126⟩ := gr_E
  obtain ⟨hk127, hk128, hk129, hk130, hk131, hk132, hk133, hk134⟩ := gr_F
  obtain ⟨w0, w1, w2, w3, w4, w5, w6, w7⟩ := gr_G
  obtain ⟨w8, w9, w10, w11, w12, w13, w14, w15, w16, w17⟩ := gr_H
  obtain ⟨w18, w19, w20, w21, w22, w23, w24, w25, w26, w27, w28, w29, w30, w31, w32⟩ := gr_K
  refine ⟨_, k_law ms mv mt mfa mtn mtk mlv mbd mgo mge mbk mtt mtl hm pm hb sb mfu mdm mla cc va plc wd ta K rf7 w0 w24 w25 w21 w22 w23 w19 w20 w18 hk98 hk106 hk107 hk108 hk103 hk104 hk100 hk99, fun rr h9 hp => ?_⟩
  obtain ⟨z1, f2, f3, z4, z5, z6, z7, z8, z9, z10, f11, f12, f13, rfl, rfl, h14, h15, h16, h17, h18, h19, h20⟩ := hp
  dsimp only
  exact ⟨⟨_, rfl⟩, rfl, (fun _ kk => kk z4 z5 0 z10 z6 z7 z8 z9 mgo mge mbk mtt mtl hm pm hb sb mfu mdm mla f3 f2 im hi wd ta fv f11 f12 f13 aq co cd st tk sm cf cm of fa fm li le dn tg us wf wb ra rb en fg ak mi pol dt ⟨rfl, rfl, rfl, hk101, hk102, hk103, hk104, hk105⟩ ⟨rfl, rfl, rfl, hk109, hk110, hk111⟩ ⟨hk112, hk113, hk114, hk115, hk116, hk117⟩ ⟨hk118, hk119, hk120, hk121, hk122, hk123, hk124, hk125, hk126⟩ ⟨hk127, hk128, hk129, hk130, hk131, hk132, hk133, hk134⟩ ⟨h17, w1, w2, (fun w => by
        have a : hb ≤ mv := (v_d464d4c634 w6); have b : mv ≤ z5 := (v_d464d4c634 h18)
        have e : z5 = mv := by omega
        rw [h20 e]; exact w3 (by omega)), w4, (fun w => by
        have a : sb ≤ mv := (v_d464d4c634 w7); have b : mv ≤ z5 := (v_d464d4c634 h18)
        have e : z5 = mv := by omega
        rw [h20 e]; exact w5 (by omega)), (v_8fadc7eb76 w6 h18), (v_8fadc7eb76 w7 h18)⟩ ⟨w8, w9, w10, w11, w12, w13, w14, w15, w16, w17⟩ ⟨w18, w19, w20, h14, h15, h16, v_939070ca3f, v_5ab96f7b5e, w26, w27, (v_21976c7318 w28 h18), (v_08334df34c w29 h19), (v_da458fa48a w30), w31, (zeA_in v_2ca2bbca1f)⟩), (fun k a => hc_inM (L := [(98, .inr (12, (.int (zI z4) :: .int (zI z5) :: .ref 99 :: .ref 100 :: .ref 101 :: .ref 102 :: .ref 103 :: .ref 104 :: .ref 105 :: .int (zI 0) :: .int (zI z10) :: .ref 106 :: .ref 107 :: .ref 108 :: .int (zI z6) :: .int (zI z7) :: .int (zI z8) :: .int (zI z9) :: .int (zI mgo) :: .int (zI mge) :: .int (zI mbk) :: .ref 109 :: .int (zI mtt) :: .int (zI mtl) :: .ref 110 :: .ref 111 :: .ref 112 :: .ref 113 :: .ref 114 :: .ref 115 :: .ref 116 :: .ref 117 :: .int (zI hm) :: .int (zI pm) :: .int (zI hb) :: .int (zI sb) :: .ref 118 :: .ref 119 :: .ref 120 :: .ref 121 :: .ref 122 :: .ref 123 :: .ref 124 :: .ref 125 :: .ref 126 :: .ref 127 :: .ref 128 :: .ref 129 :: .int (zI mfu) :: .ref 130 :: .ref 131 :: .ref 132 :: .ref 133 :: .ref 134 :: .int (zI mdm) :: .int (zI mla) :: []))), (100, .inl (0, 4870, .inl (zA f2))), (106, .inl (0, 401, .inl (zA f11))), (107, .inl (0, 401, .inl (zA f12))), (108, .inl (0, 401, .inl (zA f13))), (99, .inl (0, 7, .inl (zA f3)))]) ⟨(show InM 98 from ⟨by decide, by decide⟩), (show InM 100 from ⟨by decide, by decide⟩), (show InM 106 from ⟨by decide, by decide⟩), (show InM 107 from ⟨by decide, by decide⟩), (show InM 108 from ⟨by decide, by decide⟩), (show InM 99 from ⟨by decide, by decide⟩), True.intro⟩ k a)⟩
set_option maxHeartbeats 4000000 in
set_option maxRecDepth 100000 in
theorem M_fault {l : Launch} {G : jG} {nh : Nat} {fh : Nat → Option va_E} {c : Int} {aa : Nat → Int}  (hc : c ≤ 599) (h : MI fh c aa) : ∃ Po : Option Value → jH → Prop, JM l G yX12_fault MX12_fault { frames := 0, cells := 0, slots := 0, locals := 0 } [.ref 98] (nh, fh) Po ∧ ∀ rr h9, Po rr h9 → (∃ z : Int, rr = some (.int (zI z))) ∧ h9.1 = nh ∧ MI h9.2 (c + 1) aa ∧ ∀ k, OutM k → h9.2 k = fh k := by
  refine h _ (fun ms mv mt mfa mtn mtk mlv mbd mgo mge mbk mtt mtl hm pm hb sb mfu mdm mla rf7 K im hi wd ta fv cc va plc aq co cd st tk sm cf cm of fa fm li le dn tg us wf wb ra rb en fg ak mi pol dt gr_A gr_B gr_D gr_E gr_F gr_G gr_H gr_K => ?_)
  obtain ⟨hk98, hk99, hk100, hk101, hk102, hk103, hk104, hk105⟩ := gr_A
  obtain ⟨hk106, hk107, hk108, hk109, hk110, hk111⟩ := gr_B
  obtain ⟨hk112, hk113, hk114, hk115, hk116, hk117⟩ := gr_D
  obtain ⟨hk118, hk119, hk120, hk121, hk122, hk123, hk124, hk125, hk126⟩ := gr_E
  obtain ⟨hk127, hk128, hk129, hk130, hk131, hk132, hk133, hk134⟩ := gr_F
  obtain ⟨w0, w1, w2, w3, w4, w5, w6, w7⟩ := gr_G
  obtain ⟨w8, w9, w10, w11, w12, w13, w14, w15, w16, w17⟩ := gr_H
  obtain ⟨w18, w19, w20, w21, w22, w23, w24, w25, w26, w27, w28, w29, w30, w31, w32⟩ := gr_K
  refine ⟨_, k_fault ms mv mt mfa mtn mtk mlv mbd mgo mge mbk mtt mtl hm pm hb sb mfu mdm mla hk98, fun rr h9 hp => ?_⟩
  obtain ⟨rfl, rfl⟩ := hp
  dsimp only
  exact ⟨⟨_, rfl⟩, rfl, (fun _ kk => kk ms mv mt mfa mtn mtk mlv mbd mgo mge mbk mtt mtl hm pm hb sb mfu mdm mla rf7 K im hi wd ta fv cc va plc aq co cd st tk sm cf cm of fa fm li le dn tg us wf wb ra rb en fg ak mi pol dt ⟨hk98, hk99, hk100, hk101, hk102, hk103, hk104, hk105⟩ ⟨hk106, hk107, hk108, hk109, hk110, hk111⟩ ⟨hk112, hk113, hk114, hk115, hk116, hk117⟩ ⟨hk118, hk119, hk120, hk121, hk122, hk123, hk124, hk125, hk126⟩ ⟨hk127, hk128, hk129, hk130, hk131, hk132, hk133, hk134⟩ ⟨w0, w1, w2, w3, w4, w5, w6, w7⟩ ⟨w8, w9, w10, w11, w12, w13, w14, w15, w16, w17⟩ ⟨w18, w19, w20, w21, w22, w23, w24, w25, w26, w27, w28, (v_d50281bace w29), (v_da458fa48a w30), w31, w32⟩), (fun _ _ => rfl)⟩
set_option maxHeartbeats 4000000 in
set_option maxRecDepth 100000 in
theorem M_force {l : Launch} {G : jG} {nh : Nat} {fh : Nat → Option va_E} {c : Int} {aa : Nat → Int} {x : Int} (zx : zr x)  (hc : c ≤ 599) (h : MI fh c aa) : ∃ Po : Option Value → jH → Prop, JM l G yX12_force MX12_force { frames := 1, cells := 0, slots := 0, locals := 22 } [.ref 98, .int (zI x)] (nh, fh) Po ∧ ∀ rr h9, Po rr h9 → (∃ z : Int, rr = some (.int (zI z))) ∧ h9.1 = nh ∧ MI h9.2 (c + 1) aa ∧ ∀ k, OutM k → h9.2 k = fh k := by
  refine h _ (fun ms mv mt mfa mtn mtk mlv mbd mgo mge mbk mtt mtl hm pm hb sb mfu mdm mla rf7 K im hi wd ta fv cc va plc aq co cd st tk sm cf cm of fa fm li le dn tg us wf wb ra rb en fg ak mi pol dt gr_A gr_B gr_D gr_E gr_F gr_G gr_H gr_K => ?_)
  obtain ⟨hk98, hk99, hk100, hk101, hk102, hk103, hk104, hk105⟩ := gr_A
  obtain ⟨hk106, hk107, hk108, hk109, hk110, hk111⟩ := gr_B
  obtain ⟨hk112, hk113, hk114, hk115, hk116, hk117⟩ := gr_D
  obtain ⟨hk118, hk119, hk120, hk121, hk122, hk123, hk124, hk125, hk126⟩ := gr_E
  obtain ⟨hk127, hk128, hk129, hk130, hk131, hk132, hk133, hk134⟩ := gr_F
  obtain ⟨w0, w1, w2, w3, w4, w5, w6, w7⟩ := gr_G
  obtain ⟨w8, w9, w10, w11, w12, w13, w14, w15, w16, w17⟩ := gr_H
  obtain ⟨w18, w19, w20, w21, w22, w23, w24, w25, w26, w27, w28, w29, w30, w31, w32⟩ := gr_K
  refine ⟨_, k_force x ms mv mt mfa mtn mtk mlv mbd mgo mge mbk mtt mtl hm pm hb sb mfu mdm mla K rf7 zx w0 hk98 hk100 hk99, fun rr h9 hp => ?_⟩
  obtain ⟨z1, f2, f3, z4, z5, rfl, rfl, h6, h7, h8, h9⟩ := hp
  dsimp only
  exact ⟨⟨_, rfl⟩, rfl, (fun _ kk => kk z4 z5 mt mfa mtn mtk mlv mbd mgo mge mbk mtt mtl hm pm hb sb mfu mdm mla f3 f2 im hi wd ta fv cc va plc aq co cd st tk sm cf cm of fa fm li le dn tg us wf wb ra rb en fg ak mi pol dt ⟨rfl, rfl, rfl, hk101, hk102, hk103, hk104, hk105⟩ ⟨hk106, hk107, hk108, hk109, hk110, hk111⟩ ⟨hk112, hk113, hk114, hk115, hk116, hk117⟩ ⟨hk118, hk119, hk120, hk121, hk122, hk123, hk124, hk125, hk126⟩ ⟨hk127, hk128, hk129, hk130, hk131, hk132, hk133, hk134⟩ ⟨h6, w1, w2, (fun w => by
        have a : hb ≤ mv := (v_d464d4c634 w6); have b : mv ≤ z5 := (v_d464d4c634 h7)
        have e : z5 = mv := by omega
        rw [h9 e]; exact w3 (by omega)), w4, (fun w => by
        have a : sb ≤ mv := (v_d464d4c634 w7); have b : mv ≤ z5 := (v_d464d4c634 h7)
        have e : z5 = mv := by omega
        rw [h9 e]; exact w5 (by omega)), (v_8fadc7eb76 w6 h7), (v_8fadc7eb76 w7 h7)⟩ ⟨w8, w9, w10, w11, w12, w13, w14, w15, w16, w17⟩ ⟨w18, w19, w20, w21, w22, w23, w24, w25, w26, w27, (v_21976c7318 w28 h7), (v_08334df34c w29 h8), (v_da458fa48a w30), w31, w32⟩), (fun k a => hc_inM (L := [(98, .inr (12, (.int (zI z4) :: .int (zI z5) :: .ref 99 :: .ref 100 :: .ref 101 :: .ref 102 :: .ref 103 :: .ref 104 :: .ref 105 :: .int (zI mt) :: .int (zI mfa) :: .ref 106 :: .ref 107 :: .ref 108 :: .int (zI mtn) :: .int (zI mtk) :: .int (zI mlv) :: .int (zI mbd) :: .int (zI mgo) :: .int (zI mge) :: .int (zI mbk) :: .ref 109 :: .int (zI mtt) :: .int (zI mtl) :: .ref 110 :: .ref 111 :: .ref 112 :: .ref 113 :: .ref 114 :: .ref 115 :: .ref 116 :: .ref 117 :: .int (zI hm) :: .int (zI pm) :: .int (zI hb) :: .int (zI sb) :: .ref 118 :: .ref 119 :: .ref 120 :: .ref 121 :: .ref 122 :: .ref 123 :: .ref 124 :: .ref 125 :: .ref 126 :: .ref 127 :: .ref 128 :: .ref 129 :: .int (zI mfu) :: .ref 130 :: .ref 131 :: .ref 132 :: .ref 133 :: .ref 134 :: .int (zI mdm) :: .int (zI mla) :: []))), (100, .inl (0, 4870, .inl (zA f2))), (99, .inl (0, 7, .inl (zA f3)))]) ⟨(show InM 98 from ⟨by decide, by decide⟩), (show InM 100 from ⟨by decide, by decide⟩), (show InM 99 from ⟨by decide, by decide⟩), True.intro⟩ k a)⟩
set_option maxHeartbeats 4000000 in
set_option maxRecDepth 100000 in
theorem M_wall {l : Launch} {G : jG} {nh : Nat} {fh : Nat → Option va_E} {c : Int} {aa : Nat → Int} {x : Int} (zx : zr x) {y : Int} (zy : zr y)  (hc : c ≤ 599) (h : MI fh c aa) : ∃ Po : Option Value → jH → Prop, JM l G yX12_wall MX12_wall { frames := 4, cells := 0, slots := 0, locals := 92 } [.ref 98, .int (zI x), .int (zI y)] (nh, fh) Po ∧ ∀ rr h9, Po rr h9 → (∃ z : Int, rr = some (.int (zI z))) ∧ h9.1 = nh ∧ MI h9.2 (c + 1) aa ∧ ∀ k, OutM k → h9.2 k = fh k := by
  refine h _ (fun ms mv mt mfa mtn mtk mlv mbd mgo mge mbk mtt mtl hm pm hb sb mfu mdm mla rf7 K im hi wd ta fv cc va plc aq co cd st tk sm cf cm of fa fm li le dn tg us wf wb ra rb en fg ak mi pol dt gr_A gr_B gr_D gr_E gr_F gr_G gr_H gr_K => ?_)
  obtain ⟨hk98, hk99, hk100, hk101, hk102, hk103, hk104, hk105⟩ := gr_A
  obtain ⟨hk106, hk107, hk108, hk109, hk110, hk111⟩ := gr_B
  obtain ⟨hk112, hk113, hk114, hk115, hk116, hk117⟩ := gr_D
  obtain ⟨hk118, hk119, hk120, hk121, hk122, hk123, hk124, hk125, hk126⟩ := gr_E
  obtain ⟨hk127, hk128, hk129, hk130, hk131, hk132, hk133, hk134⟩ := gr_F
  obtain ⟨w0, w1, w2, w3, w4, w5, w6, w7⟩ := gr_G
  obtain ⟨w8, w9, w10, w11, w12, w13, w14, w15, w16, w17⟩ := gr_H
  obtain ⟨w18, w19, w20, w21, w22, w23, w24, w25, w26, w27, w28, w29, w30, w31, w32⟩ := gr_K
  refine ⟨_, k_wall x y ms mv mt mfa mtn mtk mlv mbd mgo mge mbk mtt mtl hm pm hb sb mfu mdm mla K co cd of rf7 zx zy w0 w6 w1 w2 (v_78230c730d w28 w29 hc) w3 hk98 hk100 hk99 hk110 hk111 hk117, fun rr h9 hp => ?_⟩
  obtain ⟨z1, f2, f3, z4, z5, z6, z7, z8, f9, f10, f11, rfl, rfl, h12, h13, h14, h15, h16, h17, h18, h19⟩ := hp
  dsimp only
  exact ⟨⟨_, rfl⟩, rfl, (fun _ kk => kk z4 z5 mt mfa mtn mtk mlv mbd mgo mge mbk mtt mtl z6 z7 z8 sb mfu mdm mla f3 f2 im hi wd ta fv cc va plc aq f9 f10 st tk sm cf cm f11 fa fm li le dn tg us wf wb ra rb en fg ak mi pol dt ⟨rfl, rfl, rfl, hk101, hk102, hk103, hk104, hk105⟩ ⟨hk106, hk107, hk108, hk109, rfl, rfl⟩ ⟨hk112, hk113, hk114, hk115, hk116, rfl⟩ ⟨hk118, hk119, hk120, hk121, hk122, hk123, hk124, hk125, hk126⟩ ⟨hk127, hk128, hk129, hk130, hk131, hk132, hk133, hk134⟩ ⟨h12, h16, h17, (fun w => by
        have a : z8 ≤ mv := (v_d464d4c634 h19); have b : mv ≤ z5 := (v_d464d4c634 h13)
        have e : z5 = mv := by omega
        rw [h15 e]; exact h18 (by omega)), w4, (fun w => by
        have a : sb ≤ mv := (v_d464d4c634 w7); have b : mv ≤ z5 := (v_d464d4c634 h13)
        have e : z5 = mv := by omega
        rw [h15 e]; exact w5 (by omega)), (v_f57be7c965 h13 h19), (v_8fadc7eb76 w7 h13)⟩ ⟨w8, w9, w10, w11, w12, w13, w14, w15, w16, w17⟩ ⟨w18, w19, w20, w21, w22, w23, w24, w25, w26, w27, (v_21976c7318 w28 h13), (v_08334df34c w29 h14), (v_da458fa48a w30), w31, w32⟩), (fun k a => hc_inM (L := [(98, .inr (12, (.int (zI z4) :: .int (zI z5) :: .ref 99 :: .ref 100 :: .ref 101 :: .ref 102 :: .ref 103 :: .ref 104 :: .ref 105 :: .int (zI mt) :: .int (zI mfa) :: .ref 106 :: .ref 107 :: .ref 108 :: .int (zI mtn) :: .int (zI mtk) :: .int (zI mlv) :: .int (zI mbd) :: .int (zI mgo) :: .int (zI mge) :: .int (zI mbk) :: .ref 109 :: .int (zI mtt) :: .int (zI mtl) :: .ref 110 :: .ref 111 :: .ref 112 :: .ref 113 :: .ref 114 :: .ref 115 :: .ref 116 :: .ref 117 :: .int (zI z6) :: .int (zI z7) :: .int (zI z8) :: .int (zI sb) :: .ref 118 :: .ref 119 :: .ref 120 :: .ref 121 :: .ref 122 :: .ref 123 :: .ref 124 :: .ref 125 :: .ref 126 :: .ref 127 :: .ref 128 :: .ref 129 :: .int (zI mfu) :: .ref 130 :: .ref 131 :: .ref 132 :: .ref 133 :: .ref 134 :: .int (zI mdm) :: .int (zI mla) :: []))), (100, .inl (0, 4870, .inl (zA f2))), (99, .inl (0, 7, .inl (zA f3))), (110, .inl (0, 8820, .inl (zA f9))), (111, .inl (0, 1260, .inl (zA f10))), (117, .inl (0, 7, .inl (zA f11)))]) ⟨(show InM 98 from ⟨by decide, by decide⟩), (show InM 100 from ⟨by decide, by decide⟩), (show InM 99 from ⟨by decide, by decide⟩), (show InM 110 from ⟨by decide, by decide⟩), (show InM 111 from ⟨by decide, by decide⟩), (show InM 117 from ⟨by decide, by decide⟩), True.intro⟩ k a)⟩
set_option maxHeartbeats 4000000 in
set_option maxRecDepth 100000 in
theorem M_breach {l : Launch} {G : jG} {nh : Nat} {fh : Nat → Option va_E} {c : Int} {aa : Nat → Int} {x : Int} (zx : zr x) {y : Int} (zy : zr y)  (hc : c ≤ 599) (h : MI fh c aa) : ∃ Po : Option Value → jH → Prop, JM l G yX12_breach MX12_breach { frames := 4, cells := 0, slots := 0, locals := 92 } [.ref 98, .int (zI x), .int (zI y)] (nh, fh) Po ∧ ∀ rr h9, Po rr h9 → (∃ z : Int, rr = some (.int (zI z))) ∧ h9.1 = nh ∧ MI h9.2 (c + 1) aa ∧ ∀ k, OutM k → h9.2 k = fh k := by
  refine h _ (fun ms mv mt mfa mtn mtk mlv mbd mgo mge mbk mtt mtl hm pm hb sb mfu mdm mla rf7 K im hi wd ta fv cc va plc aq co cd st tk sm cf cm of fa fm li le dn tg us wf wb ra rb en fg ak mi pol dt gr_A gr_B gr_D gr_E gr_F gr_G gr_H gr_K => ?_)
  obtain ⟨hk98, hk99, hk100, hk101, hk102, hk103, hk104, hk105⟩ := gr_A
  obtain ⟨hk106, hk107, hk108, hk109, hk110, hk111⟩ := gr_B
  obtain ⟨hk112, hk113, hk114, hk115, hk116, hk117⟩ := gr_D
  obtain ⟨hk118, hk119, hk120, hk121, hk122, hk123, hk124, hk125, hk126⟩ := gr_E
  obtain ⟨hk127, hk128, hk129, hk130, hk131, hk132, hk133, hk134⟩ := gr_F
  obtain ⟨w0, w1, w2, w3, w4, w5, w6, w7⟩ := gr_G
  obtain ⟨w8, w9, w10, w11, w12, w13, w14, w15, w16, w17⟩ := gr_H
  obtain ⟨w18, w19, w20, w21, w22, w23, w24, w25, w26, w27, w28, w29, w30, w31, w32⟩ := gr_K
  refine ⟨_, k_breach x y ms mv mt mfa mtn mtk mlv mbd mgo mge mbk mtt mtl hm pm hb sb mfu mdm mla K co cd of rf7 zx zy w0 w6 w1 w2 (v_78230c730d w28 w29 hc) w3 hk98 hk100 hk99 hk110 hk111 hk117, fun rr h9 hp => ?_⟩
  obtain ⟨z1, f2, f3, z4, z5, z6, z7, z8, f9, f10, f11, rfl, rfl, h12, h13, h14, h15, h16, h17, h18, h19⟩ := hp
  dsimp only
  exact ⟨⟨_, rfl⟩, rfl, (fun _ kk => kk z4 z5 mt mfa mtn mtk mlv mbd mgo mge mbk mtt mtl z6 z7 z8 sb mfu mdm mla f3 f2 im hi wd ta fv cc va plc aq f9 f10 st tk sm cf cm f11 fa fm li le dn tg us wf wb ra rb en fg ak mi pol dt ⟨rfl, rfl, rfl, hk101, hk102, hk103, hk104, hk105⟩ ⟨hk106, hk107, hk108, hk109, rfl, rfl⟩ ⟨hk112, hk113, hk114, hk115, hk116, rfl⟩ ⟨hk118, hk119, hk120, hk121, hk122, hk123, hk124, hk125, hk126⟩ ⟨hk127, hk128, hk129, hk130, hk131, hk132, hk133, hk134⟩ ⟨h12, h16, h17, (fun w => by
        have a : z8 ≤ mv := (v_d464d4c634 h19); have b : mv ≤ z5 := (v_d464d4c634 h13)
        have e : z5 = mv := by omega
        rw [h15 e]; exact h18 (by omega)), w4, (fun w => by
        have a : sb ≤ mv := (v_d464d4c634 w7); have b : mv ≤ z5 := (v_d464d4c634 h13)
        have e : z5 = mv := by omega
        rw [h15 e]; exact w5 (by omega)), (v_f57be7c965 h13 h19), (v_8fadc7eb76 w7 h13)⟩ ⟨w8, w9, w10, w11, w12, w13, w14, w15, w16, w17⟩ ⟨w18, w19, w20, w21, w22, w23, w24, w25, w26, w27, (v_21976c7318 w28 h13), (v_08334df34c w29 h14), (v_da458fa48a w30), w31, w32⟩), (fun k a => hc_inM (L := [(98, .inr (12, (.int (zI z4) :: .int (zI z5) :: .ref 99 :: .ref 100 :: .ref 101 :: .ref 102 :: .ref 103 :: .ref 104 :: .ref 105 :: .int (zI mt) :: .int (zI mfa) :: .ref 106 :: .ref 107 :: .ref 108 :: .int (zI mtn) :: .int (zI mtk) :: .int (zI mlv) :: .int (zI mbd) :: .int (zI mgo) :: .int (zI mge) :: .int (zI mbk) :: .ref 109 :: .int (zI mtt) :: .int (zI mtl) :: .ref 110 :: .ref 111 :: .ref 112 :: .ref 113 :: .ref 114 :: .ref 115 :: .ref 116 :: .ref 117 :: .int (zI z6) :: .int (zI z7) :: .int (zI z8) :: .int (zI sb) :: .ref 118 :: .ref 119 :: .ref 120 :: .ref 121 :: .ref 122 :: .ref 123 :: .ref 124 :: .ref 125 :: .ref 126 :: .ref 127 :: .ref 128 :: .ref 129 :: .int (zI mfu) :: .ref 130 :: .ref 131 :: .ref 132 :: .ref 133 :: .ref 134 :: .int (zI mdm) :: .int (zI mla) :: []))), (100, .inl (0, 4870, .inl (zA f2))), (99, .inl (0, 7, .inl (zA f3))), (110, .inl (0, 8820, .inl (zA f9))), (111, .inl (0, 1260, .inl (zA f10))), (117, .inl (0, 7, .inl (zA f11)))]) ⟨(show InM 98 from ⟨by decide, by decide⟩), (show InM 100 from ⟨by decide, by decide⟩), (show InM 99 from ⟨by decide, by decide⟩), (show InM 110 from ⟨by decide, by decide⟩), (show InM 111 from ⟨by decide, by decide⟩), (show InM 117 from ⟨by decide, by decide⟩), True.intro⟩ k a)⟩
