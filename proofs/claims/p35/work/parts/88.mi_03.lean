set_option maxHeartbeats 4000000 in
set_option maxRecDepth 100000 in
theorem M_back {l : Launch} {G : jG} {nh : Nat} {fh : Nat → Option va_E} {c : Int} {aa : Nat → Int} {x : Int} (zx : zr x)  (hc : c ≤ 599) (h : MI fh c aa) : ∃ Po : Option Value → jH → Prop, JM l G yX12_back MX12_back { frames := 1, cells := 0, slots := 0, locals := 22 } [.ref 98, .int (zI x)] (nh, fh) Po ∧ ∀ rr h9, Po rr h9 → (rr = some (.int (zI (bkA x aa)))) ∧ h9.1 = nh ∧ MI h9.2 (c + 1) aa ∧ ∀ k, OutM k → h9.2 k = fh k := by
  refine h _ (fun ms mv mt mfa mtn mtk mlv mbd mgo mge mbk mtt mtl hm pm hb sb mfu mdm mla rf7 K im hi wd ta fv cc va plc aq co cd st tk sm cf cm of fa fm li le dn tg us wf wb ra rb en fg ak mi pol dt gr_A gr_B gr_D gr_E gr_F gr_G gr_H gr_K => ?_)
  obtain ⟨hk98, hk99, hk100, hk101, hk102, hk103, hk104, hk105⟩ := gr_A
  obtain ⟨hk106, hk107, hk108, hk109, hk110, hk111⟩ := gr_B
  obtain ⟨hk112, hk113, hk114, hk115, hk116, hk117⟩ := gr_D
  obtain ⟨hk118, hk119, hk120, hk121, hk122, hk123, hk124, hk125, hk126⟩ := gr_E
  obtain ⟨hk127, hk128, hk129, hk130, hk131, hk132, hk133, hk134⟩ := gr_F
  obtain ⟨w0, w1, w2, w3, w4, w5, w6, w7⟩ := gr_G
  obtain ⟨w8, w9, w10, w11, w12, w13, w14, w15, w16, w17⟩ := gr_H
  obtain ⟨w18, w19, w20, w21, w22, w23, w24, w25, w26, w27, w28, w29, w30, w31⟩ := gr_K
  refine ⟨_, k_back x ms mv mt mfa mtn mtk mlv mbd mgo mge mbk mtt mtl hm pm hb sb mfu mdm mla K rf7 im hi zx w0 w26 w27 hk98 hk100 hk99 hk101 hk102, fun rr h9 hp => ?_⟩
  obtain ⟨z1, f2, f3, z4, z5, rfl, rfl, h6, h7, h8, h9, h10⟩ := hp
  dsimp only
  exact ⟨(by rw [KbA.bk w31 h10]), rfl, (fun _ kk => kk z4 z5 mt mfa mtn mtk mlv mbd mgo mge mbk mtt mtl hm pm hb sb mfu mdm mla f3 f2 im hi wd ta fv cc va plc aq co cd st tk sm cf cm of fa fm li le dn tg us wf wb ra rb en fg ak mi pol dt ⟨rfl, rfl, rfl, hk101, hk102, hk103, hk104, hk105⟩ ⟨hk106, hk107, hk108, hk109, hk110, hk111⟩ ⟨hk112, hk113, hk114, hk115, hk116, hk117⟩ ⟨hk118, hk119, hk120, hk121, hk122, hk123, hk124, hk125, hk126⟩ ⟨hk127, hk128, hk129, hk130, hk131, hk132, hk133, hk134⟩ ⟨h6, w1, w2, (fun w => by
        have a : hb ≤ mv := (v_d464d4c634 w6); have b : mv ≤ z5 := (v_d464d4c634 h7)
        have e : z5 = mv := by omega
        rw [h9 e]; exact w3 (by omega)), w4, (fun w => by
        have a : sb ≤ mv := (v_d464d4c634 w7); have b : mv ≤ z5 := (v_d464d4c634 h7)
        have e : z5 = mv := by omega
        rw [h9 e]; exact w5 (by omega)), (v_8fadc7eb76 w6 h7), (v_8fadc7eb76 w7 h7)⟩ ⟨w8, w9, w10, w11, w12, w13, w14, w15, w16, w17⟩ ⟨w18, w19, w20, w21, w22, w23, w24, w25, w26, w27, (v_21976c7318 w28 h7), (v_08334df34c w29 h8), (v_da458fa48a w30), w31⟩), (fun k a => hc_inM (L := [(98, .inr (12, (.int (zI z4) :: .int (zI z5) :: .ref 99 :: .ref 100 :: .ref 101 :: .ref 102 :: .ref 103 :: .ref 104 :: .ref 105 :: .int (zI mt) :: .int (zI mfa) :: .ref 106 :: .ref 107 :: .ref 108 :: .int (zI mtn) :: .int (zI mtk) :: .int (zI mlv) :: .int (zI mbd) :: .int (zI mgo) :: .int (zI mge) :: .int (zI mbk) :: .ref 109 :: .int (zI mtt) :: .int (zI mtl) :: .ref 110 :: .ref 111 :: .ref 112 :: .ref 113 :: .ref 114 :: .ref 115 :: .ref 116 :: .ref 117 :: .int (zI hm) :: .int (zI pm) :: .int (zI hb) :: .int (zI sb) :: .ref 118 :: .ref 119 :: .ref 120 :: .ref 121 :: .ref 122 :: .ref 123 :: .ref 124 :: .ref 125 :: .ref 126 :: .ref 127 :: .ref 128 :: .ref 129 :: .int (zI mfu) :: .ref 130 :: .ref 131 :: .ref 132 :: .ref 133 :: .ref 134 :: .int (zI mdm) :: .int (zI mla) :: []))), (100, .inl (0, 4870, .inl (zA f2))), (99, .inl (0, 7, .inl (zA f3)))]) ⟨(show InM 98 from ⟨by decide, by decide⟩), (show InM 100 from ⟨by decide, by decide⟩), (show InM 99 from ⟨by decide, by decide⟩), True.intro⟩ k a)⟩
