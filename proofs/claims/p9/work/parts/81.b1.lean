abbrev MJ7_copyOf_59c91 : jM := (RJ7, cJ7_copyOf_59c91, 3, some (.array .int), false)
abbrev MX8_copyFrom : jM := (RX8, cX8_copyFrom, 3, none, false)
theorem fl_X8_9 : jFL RX8 9 8 0 := ⟨_, _, _, rfl, iX8, by decide, Or.inl (jt1 37 rfl rfl)⟩
theorem fl_X8_15 : jFL RX8 15 8 1 := ⟨_, _, _, rfl, iX8, by decide, Or.inl (jt1 40 rfl rfl)⟩
theorem fw_X8_23 : jFW RX8 23 8 3 (.int) false := ⟨_, _, _, tyX8, rfl, iX8, tyX8_ok, nmX8, by decide, rfl, rfl, (fun h => by cases h), Or.inl (jt1 46 rfl rfl)⟩
theorem fw_X8_27 : jFW RX8 27 8 4 (.int) false := ⟨_, _, _, tyX8, rfl, iX8, tyX8_ok, nmX8, by decide, rfl, rfl, (fun h => by cases h), Or.inl (jt1 48 rfl rfl)⟩
theorem fl_X8_20 : jFL RX8 20 8 2 := ⟨_, _, _, rfl, iX8, by decide, Or.inl (jt1 43 rfl rfl)⟩
theorem dJ7_copyOf_59c91_0 : decode cJ7_copyOf_59c91 0 = .ok (.iload_n 1, 1) := by decide +kernel
theorem dJ7_copyOf_59c91_1 : decode cJ7_copyOf_59c91 1 = .ok (.aload_n 0, 1) := by decide +kernel
theorem dJ7_copyOf_59c91_2 : decode cJ7_copyOf_59c91 2 = .ok (.arraylength, 1) := by decide +kernel
theorem dJ7_copyOf_59c91_3 : decode cJ7_copyOf_59c91 3 = .ok (.if_icmp .ne 11, 3) := by decide +kernel
theorem dJ7_copyOf_59c91_14 : decode cJ7_copyOf_59c91 14 = .ok (.iload_n 1, 1) := by decide +kernel
theorem dJ7_copyOf_59c91_15 : decode cJ7_copyOf_59c91 15 = .ok (.newarray .int, 2) := by decide +kernel
theorem dJ7_copyOf_59c91_17 : decode cJ7_copyOf_59c91 17 = .ok (.astore_n 2, 1) := by decide +kernel
theorem dJ7_copyOf_59c91_18 : decode cJ7_copyOf_59c91 18 = .ok (.aload_n 0, 1) := by decide +kernel
theorem dJ7_copyOf_59c91_19 : decode cJ7_copyOf_59c91 19 = .ok (.iconst 0, 1) := by decide +kernel
theorem dJ7_copyOf_59c91_20 : decode cJ7_copyOf_59c91 20 = .ok (.aload_n 2, 1) := by decide +kernel
theorem dJ7_copyOf_59c91_21 : decode cJ7_copyOf_59c91 21 = .ok (.iconst 0, 1) := by decide +kernel
theorem dJ7_copyOf_59c91_22 : decode cJ7_copyOf_59c91 22 = .ok (.aload_n 0, 1) := by decide +kernel
theorem dJ7_copyOf_59c91_23 : decode cJ7_copyOf_59c91 23 = .ok (.arraylength, 1) := by decide +kernel
theorem dJ7_copyOf_59c91_24 : decode cJ7_copyOf_59c91 24 = .ok (.iload_n 1, 1) := by decide +kernel
theorem dJ7_copyOf_59c91_25 : decode cJ7_copyOf_59c91 25 = .ok (.invokestatic 304, 3) := by decide +kernel
theorem dJ7_copyOf_59c91_28 : decode cJ7_copyOf_59c91 28 = .ok (.invokestatic 150, 3) := by decide +kernel
theorem dJ7_copyOf_59c91_31 : decode cJ7_copyOf_59c91 31 = .ok (.aload_n 2, 1) := by decide +kernel
theorem dJ7_copyOf_59c91_32 : decode cJ7_copyOf_59c91 32 = .ok (.areturn, 1) := by decide +kernel
theorem dX8_copyFrom_0 : decode cX8_copyFrom 0 = .ok (.aload_n 1, 1) := by decide +kernel
theorem dX8_copyFrom_1 : decode cX8_copyFrom 1 = .ok (.getfield 9, 3) := by decide +kernel
theorem dX8_copyFrom_4 : decode cX8_copyFrom 4 = .ok (.iconst 0, 1) := by decide +kernel
theorem dX8_copyFrom_5 : decode cX8_copyFrom 5 = .ok (.aload_n 0, 1) := by decide +kernel
theorem dX8_copyFrom_6 : decode cX8_copyFrom 6 = .ok (.getfield 9, 3) := by decide +kernel
theorem dX8_copyFrom_9 : decode cX8_copyFrom 9 = .ok (.iconst 0, 1) := by decide +kernel
theorem dX8_copyFrom_10 : decode cX8_copyFrom 10 = .ok (.iconst 5, 1) := by decide +kernel
theorem dX8_copyFrom_11 : decode cX8_copyFrom 11 = .ok (.invokestatic 57, 3) := by decide +kernel
theorem dX8_copyFrom_14 : decode cX8_copyFrom 14 = .ok (.aload_n 1, 1) := by decide +kernel
theorem dX8_copyFrom_15 : decode cX8_copyFrom 15 = .ok (.getfield 15, 3) := by decide +kernel
theorem dX8_copyFrom_18 : decode cX8_copyFrom 18 = .ok (.iconst 0, 1) := by decide +kernel
theorem dX8_copyFrom_19 : decode cX8_copyFrom 19 = .ok (.aload_n 0, 1) := by decide +kernel
theorem dX8_copyFrom_20 : decode cX8_copyFrom 20 = .ok (.getfield 15, 3) := by decide +kernel
theorem dX8_copyFrom_23 : decode cX8_copyFrom 23 = .ok (.iconst 0, 1) := by decide +kernel
theorem dX8_copyFrom_24 : decode cX8_copyFrom 24 = .ok (.iconst 2, 1) := by decide +kernel
theorem dX8_copyFrom_25 : decode cX8_copyFrom 25 = .ok (.invokestatic 57, 3) := by decide +kernel
theorem dX8_copyFrom_28 : decode cX8_copyFrom 28 = .ok (.iconst 0, 1) := by decide +kernel
theorem dX8_copyFrom_29 : decode cX8_copyFrom 29 = .ok (.istore_n 2, 1) := by decide +kernel
theorem dX8_copyFrom_30 : decode cX8_copyFrom 30 = .ok (.iload_n 2, 1) := by decide +kernel
theorem dX8_copyFrom_31 : decode cX8_copyFrom 31 = .ok (.bipush 6, 2) := by decide +kernel
theorem dX8_copyFrom_33 : decode cX8_copyFrom 33 = .ok (.if_icmp .ge 21, 3) := by decide +kernel
theorem dX8_copyFrom_54 : decode cX8_copyFrom 54 = .ok (.aload_n 0, 1) := by decide +kernel
theorem dX8_copyFrom_55 : decode cX8_copyFrom 55 = .ok (.aload_n 1, 1) := by decide +kernel
theorem dX8_copyFrom_56 : decode cX8_copyFrom 56 = .ok (.getfield 23, 3) := by decide +kernel
theorem dX8_copyFrom_59 : decode cX8_copyFrom 59 = .ok (.putfield 23, 3) := by decide +kernel
theorem dX8_copyFrom_62 : decode cX8_copyFrom 62 = .ok (.aload_n 0, 1) := by decide +kernel
theorem dX8_copyFrom_63 : decode cX8_copyFrom 63 = .ok (.aload_n 1, 1) := by decide +kernel
theorem dX8_copyFrom_64 : decode cX8_copyFrom 64 = .ok (.getfield 27, 3) := by decide +kernel
theorem dX8_copyFrom_67 : decode cX8_copyFrom 67 = .ok (.putfield 27, 3) := by decide +kernel
theorem dX8_copyFrom_70 : decode cX8_copyFrom 70 = .ok (.aload_n 1, 1) := by decide +kernel
theorem dX8_copyFrom_71 : decode cX8_copyFrom 71 = .ok (.getfield 30, 3) := by decide +kernel
theorem dX8_copyFrom_74 : decode cX8_copyFrom 74 = .ok (.iconst 0, 1) := by decide +kernel
theorem dX8_copyFrom_75 : decode cX8_copyFrom 75 = .ok (.aload_n 0, 1) := by decide +kernel
theorem dX8_copyFrom_76 : decode cX8_copyFrom 76 = .ok (.getfield 30, 3) := by decide +kernel
theorem dX8_copyFrom_79 : decode cX8_copyFrom 79 = .ok (.iconst 0, 1) := by decide +kernel
theorem dX8_copyFrom_80 : decode cX8_copyFrom 80 = .ok (.bipush 8, 2) := by decide +kernel
theorem dX8_copyFrom_82 : decode cX8_copyFrom 82 = .ok (.invokestatic 57, 3) := by decide +kernel
theorem dX8_copyFrom_85 : decode cX8_copyFrom 85 = .ok (.aload_n 1, 1) := by decide +kernel
theorem dX8_copyFrom_86 : decode cX8_copyFrom 86 = .ok (.getfield 33, 3) := by decide +kernel
theorem dX8_copyFrom_89 : decode cX8_copyFrom 89 = .ok (.iconst 0, 1) := by decide +kernel
theorem dX8_copyFrom_90 : decode cX8_copyFrom 90 = .ok (.aload_n 0, 1) := by decide +kernel
theorem dX8_copyFrom_91 : decode cX8_copyFrom 91 = .ok (.getfield 33, 3) := by decide +kernel
theorem dX8_copyFrom_94 : decode cX8_copyFrom 94 = .ok (.iconst 0, 1) := by decide +kernel
theorem dX8_copyFrom_95 : decode cX8_copyFrom 95 = .ok (.bipush 8, 2) := by decide +kernel
theorem dX8_copyFrom_97 : decode cX8_copyFrom 97 = .ok (.invokestatic 57, 3) := by decide +kernel
theorem dX8_copyFrom_100 : decode cX8_copyFrom 100 = .ok (.aload_n 0, 1) := by decide +kernel
theorem dX8_copyFrom_101 : decode cX8_copyFrom 101 = .ok (.aload_n 1, 1) := by decide +kernel
theorem dX8_copyFrom_102 : decode cX8_copyFrom 102 = .ok (.getfield 36, 3) := by decide +kernel
theorem dX8_copyFrom_105 : decode cX8_copyFrom 105 = .ok (.putfield 36, 3) := by decide +kernel
theorem dX8_copyFrom_108 : decode cX8_copyFrom 108 = .ok (.aload_n 1, 1) := by decide +kernel
theorem dX8_copyFrom_109 : decode cX8_copyFrom 109 = .ok (.getfield 39, 3) := by decide +kernel
theorem dX8_copyFrom_112 : decode cX8_copyFrom 112 = .ok (.iconst 0, 1) := by decide +kernel
theorem dX8_copyFrom_113 : decode cX8_copyFrom 113 = .ok (.aload_n 0, 1) := by decide +kernel
theorem dX8_copyFrom_114 : decode cX8_copyFrom 114 = .ok (.getfield 39, 3) := by decide +kernel
theorem dX8_copyFrom_117 : decode cX8_copyFrom 117 = .ok (.iconst 0, 1) := by decide +kernel
theorem dX8_copyFrom_118 : decode cX8_copyFrom 118 = .ok (.bipush 6, 2) := by decide +kernel
theorem dX8_copyFrom_120 : decode cX8_copyFrom 120 = .ok (.invokestatic 57, 3) := by decide +kernel
theorem dX8_copyFrom_123 : decode cX8_copyFrom 123 = .ok (.aload_n 1, 1) := by decide +kernel
theorem dX8_copyFrom_124 : decode cX8_copyFrom 124 = .ok (.getfield 42, 3) := by decide +kernel
theorem dX8_copyFrom_127 : decode cX8_copyFrom 127 = .ok (.iconst 0, 1) := by decide +kernel
theorem dX8_copyFrom_128 : decode cX8_copyFrom 128 = .ok (.aload_n 0, 1) := by decide +kernel
theorem dX8_copyFrom_129 : decode cX8_copyFrom 129 = .ok (.getfield 42, 3) := by decide +kernel
theorem dX8_copyFrom_132 : decode cX8_copyFrom 132 = .ok (.iconst 0, 1) := by decide +kernel
theorem dX8_copyFrom_133 : decode cX8_copyFrom 133 = .ok (.bipush 6, 2) := by decide +kernel
theorem dX8_copyFrom_135 : decode cX8_copyFrom 135 = .ok (.invokestatic 57, 3) := by decide +kernel
theorem dX8_copyFrom_138 : decode cX8_copyFrom 138 = .ok (.aload_n 0, 1) := by decide +kernel
theorem dX8_copyFrom_139 : decode cX8_copyFrom 139 = .ok (.aload_n 1, 1) := by decide +kernel
theorem dX8_copyFrom_140 : decode cX8_copyFrom 140 = .ok (.getfield 45, 3) := by decide +kernel
theorem dX8_copyFrom_143 : decode cX8_copyFrom 143 = .ok (.putfield 45, 3) := by decide +kernel
theorem dX8_copyFrom_146 : decode cX8_copyFrom 146 = .ok (.aload_n 1, 1) := by decide +kernel
theorem dX8_copyFrom_147 : decode cX8_copyFrom 147 = .ok (.getfield 48, 3) := by decide +kernel
theorem dX8_copyFrom_150 : decode cX8_copyFrom 150 = .ok (.iconst 0, 1) := by decide +kernel
theorem dX8_copyFrom_151 : decode cX8_copyFrom 151 = .ok (.aload_n 0, 1) := by decide +kernel
theorem dX8_copyFrom_152 : decode cX8_copyFrom 152 = .ok (.getfield 48, 3) := by decide +kernel
theorem dX8_copyFrom_155 : decode cX8_copyFrom 155 = .ok (.iconst 0, 1) := by decide +kernel
theorem dX8_copyFrom_156 : decode cX8_copyFrom 156 = .ok (.bipush 12, 2) := by decide +kernel
theorem dX8_copyFrom_158 : decode cX8_copyFrom 158 = .ok (.invokestatic 57, 3) := by decide +kernel
theorem dX8_copyFrom_161 : decode cX8_copyFrom 161 = .ok (.aload_n 1, 1) := by decide +kernel
theorem dX8_copyFrom_162 : decode cX8_copyFrom 162 = .ok (.getfield 51, 3) := by decide +kernel
theorem dX8_copyFrom_165 : decode cX8_copyFrom 165 = .ok (.iconst 0, 1) := by decide +kernel
theorem dX8_copyFrom_166 : decode cX8_copyFrom 166 = .ok (.aload_n 0, 1) := by decide +kernel
theorem dX8_copyFrom_167 : decode cX8_copyFrom 167 = .ok (.getfield 51, 3) := by decide +kernel
theorem dX8_copyFrom_170 : decode cX8_copyFrom 170 = .ok (.iconst 0, 1) := by decide +kernel
theorem dX8_copyFrom_171 : decode cX8_copyFrom 171 = .ok (.bipush 12, 2) := by decide +kernel
theorem dX8_copyFrom_173 : decode cX8_copyFrom 173 = .ok (.invokestatic 57, 3) := by decide +kernel
theorem dX8_copyFrom_176 : decode cX8_copyFrom 176 = .ok (.aload_n 0, 1) := by decide +kernel
theorem dX8_copyFrom_177 : decode cX8_copyFrom 177 = .ok (.aload_n 1, 1) := by decide +kernel
theorem dX8_copyFrom_178 : decode cX8_copyFrom 178 = .ok (.getfield 54, 3) := by decide +kernel
theorem dX8_copyFrom_181 : decode cX8_copyFrom 181 = .ok (.putfield 54, 3) := by decide +kernel
theorem dX8_copyFrom_184 : decode cX8_copyFrom 184 = .ok (.return_, 1) := by decide +kernel
theorem dX8_copyFrom_36 : decode cX8_copyFrom 36 = .ok (.aload_n 0, 1) := by decide +kernel
theorem dX8_copyFrom_37 : decode cX8_copyFrom 37 = .ok (.getfield 20, 3) := by decide +kernel
theorem dX8_copyFrom_40 : decode cX8_copyFrom 40 = .ok (.iload_n 2, 1) := by decide +kernel
theorem dX8_copyFrom_41 : decode cX8_copyFrom 41 = .ok (.aload_n 1, 1) := by decide +kernel
theorem dX8_copyFrom_42 : decode cX8_copyFrom 42 = .ok (.getfield 20, 3) := by decide +kernel
theorem dX8_copyFrom_45 : decode cX8_copyFrom 45 = .ok (.iload_n 2, 1) := by decide +kernel
theorem dX8_copyFrom_46 : decode cX8_copyFrom 46 = .ok (.aaload, 1) := by decide +kernel
theorem dX8_copyFrom_47 : decode cX8_copyFrom 47 = .ok (.aastore, 1) := by decide +kernel
theorem dX8_copyFrom_48 : decode cX8_copyFrom 48 = .ok (.iinc 2 1, 3) := by decide +kernel
theorem dX8_copyFrom_51 : decode cX8_copyFrom 51 = .ok (.goto (-21), 3) := by decide +kernel
theorem v_d31ff56b61 {a0 : Int} (h0 : 0 ≤ a0) (h1 : a0 ≤ 402) : zr a0 := by omega
theorem v_713d44a2ee {a0 : Int} (h0 : a0 ≤ 402) : ¬ a0 = 412 := by omega
theorem v_49f4764f0f {a0 : Int} (h0 : a0 ≤ 402) : a0 ≤ 100000000 := by omega
theorem v_f5aa77f9f0 {a0 : Int} (h0 : a0 ≤ 402) : a0 ≤ 2147483647 := by omega
theorem v_005213508d {a0 : Int} (h0 : a0 ≤ 412) : a0 ≤ 2147483647 := by omega
theorem v_e17147d6a9 {a0 : Int} (h0 : a0 ≤ 412) : a0 ≤ 412 := by omega
theorem v_7cd0fc6126 {a0 : Int} (h0 : a0 ≤ 402) : a0 ≤ 412 := by omega
theorem v_2ff7592577 : (5 : Int) ≤ 2147483647 := by omega
theorem v_b5d993ecaf : (5 : Int) ≤ 5 := by omega
theorem v_8780a91439 : (2 : Int) ≤ 2147483647 := by omega
theorem v_09118c4f05 : (0 : Int) ≤ 8 := by omega
theorem v_515d34f046 : (8 : Int) ≤ 2147483647 := by omega
theorem v_93241daa6a : (8 : Int) ≤ 8 := by omega
theorem v_09a374015a : (6 : Int) ≤ 2147483647 := by omega
theorem v_7131faf931 : (6 : Int) ≤ 6 := by omega
theorem v_cadf61df7b : (0 : Int) ≤ 12 := by omega
theorem v_1afe2cdcbf : (12 : Int) ≤ 2147483647 := by omega
theorem v_d48dba0ba1 : (12 : Int) ≤ 12 := by omega
theorem v_098d0f83dc {a0 : Int} (h0 : a0 ≤ 6) (h1 : 6 ≤ a0) : a0 = 6 := by omega
theorem v_4abb881ee0 {a0 : Int} (h0 : ¬ 6 ≤ a0) : (a0 + 1) ≤ 6 := by omega
theorem v_dd0449391d {a0 : Int} : 6 - (a0 + 1) < (6 - a0) := by omega
theorem v_3fa36d366b {a0 : Int} (h0 : ¬ 6 ≤ a0) : 0 < 6 - a0 := by omega
set_option maxHeartbeats 4000000 in
set_option maxRecDepth 100000 in
theorem b_copyOf {l : Launch} {G : jG} {nh : Nat} {fh : Nat → Option va_E} (n : Int) (dcd : Int → Int) (q0 : 0 ≤ n) (q1 : n ≤ 402) (q2 : NLe 135 nh) (q3 : Rg dcd 412 (-2147483648) 2147483647) (hk56 : fh 56 = some (.inl (0, 412, .inl (zA dcd)))) : JM l G yJ7_copyOf_59c91 MJ7_copyOf_59c91 { frames := 1, cells := 1, slots := (n).toNat, locals := 60 } [.ref 56, .int (zI n)] (nh, fh) (fun rr h9 => ∃ F2 : Int → Int, rr = some (.ref nh) ∧ h9 = (nh + 1, hc fh [(nh, .inl (0, (n).toNat, .inl (zA F2)))]) ∧ (Rg F2 n (-2147483648) 2147483647)) := by
  refine JM.of (by decide) rfl (fun h => by cases h) (Nat.le_of_ble_eq_true rfl) ⟨1, rfl⟩ ?_
  refine J_hc0 (J_ls (ls2 := [some (.ref 56), some (.int (zI n)), none]) rfl ?_)
  refine J_iload_n dJ7_copyOf_59c91_0 rfl rfl ?_
  refine J_aload_n dJ7_copyOf_59c91_1 rfl rfl ?_
  refine Y_alen 412 dJ7_copyOf_59c91_2 hk56 rfl rfl ?_
  refine Z_icmp_ne (tgt := 14) dJ7_copyOf_59c91_3 (by decide) (v_d31ff56b61 q0 q1) v_27e7d13956 (fun h1 => ?_) (fun h1 => absurd h1 (v_713d44a2ee q1))
  refine J_iload_n dJ7_copyOf_59c91_14 rfl rfl ?_
  refine Y_newi (nh2 := nh + 1) (ck2 := 1) (sk2 := n.toNat) dJ7_copyOf_59c91_15 (jt1 98 rfl rfl) (v_2b02420001 q0) (v_49f4764f0f q1) (Nat.le_of_ble_eq_true rfl) (by show (0 : Nat) + n.toNat ≤ (n).toNat; omega) rfl rfl (by omega) ?_
  refine J_astore_n dJ7_copyOf_59c91_17 rfl (Nat.le_of_ble_eq_true rfl) rfl ?_
  refine J_ls (ls2 := [some (.ref 56), some (.int (zI n)), some (.ref nh)]) rfl ?_
  refine J_aload_n dJ7_copyOf_59c91_18 rfl rfl ?_
  refine Z_iconst (n := 0) dJ7_copyOf_59c91_19 ?_
  refine J_aload_n dJ7_copyOf_59c91_20 rfl rfl ?_
  refine Z_iconst (n := 0) dJ7_copyOf_59c91_21 ?_
  refine J_aload_n dJ7_copyOf_59c91_22 rfl rfl ?_
  refine Y_alen 412 dJ7_copyOf_59c91_23 (hcn (Ne.symm ((Fx_of q2) 56 (by decide))) hk56) rfl rfl ?_
  refine J_iload_n dJ7_copyOf_59c91_24 rfl rfl ?_
  obtain ⟨z2, ez2⟩ : ∃ z : Int, min 412 n = z := ⟨_, rfl⟩
  refine J_mmin (z := zI z2) dJ7_copyOf_59c91_25 (jt4 50 rfl rfl) (jt3 222 rfl rfl) (jt1 19 rfl rfl) (jt3 223 rfl rfl) (Nat.le_of_ble_eq_true rfl) (Nat.le_of_ble_eq_true rfl) (Nat.le_of_ble_eq_true rfl) (by show (n.toNat : Nat) ≤ (n).toNat; omega) (by rw [zI_min v_27e7d13956 (v_d31ff56b61 q0 q1), ez2]) ?_
  have h3 : z2 ≤ 412 ∧ z2 ≤ n ∧ (z2 = 412 ∨ z2 = n) := by omega
  have h4 : 0 ≤ z2 := by omega
  refine Y_copy (n := z2) 412 n dJ7_copyOf_59c91_28 (jt4 51 rfl rfl) (jt4 53 rfl rfl) (jt4 52 rfl rfl) (jt1 20 rfl rfl) (hcn (Ne.symm ((Fx_of q2) 56 (by decide))) hk56) hch rfl (Int.toNat_of_nonneg (v_2b02420001 q0)) (v_2b02420001 h4) (v_005213508d h3.1) (v_e17147d6a9 h3.1) (v_d464d4c634 h3.2.1) (Nat.le_of_ble_eq_true rfl) (Nat.le_of_ble_eq_true rfl) ?_
  obtain ⟨f5, ef5⟩ : ∃ F : Int → Int, cpyf dcd (fun _ => 0) z2 = F := ⟨_, rfl⟩
  rw [ef5]
  refine J_aload_n dJ7_copyOf_59c91_31 rfl rfl ?_
  refine J_dupc (A := [(nh, .inl (0, (n).toNat, .inl (zA f5)))]) (B := []) (L2 := [(nh, .inl (0, (n).toNat, .inl (zA f5)))]) (k := nh) (c := .inl (0, (n).toNat, .inl (zA (fun _ => 0)))) (e := .inl (0, (n).toNat, .inl (zA f5))) rfl rfl (List.mem_of_getElem? (i := 0) rfl) ?_
  exact J_aret dJ7_copyOf_59c91_32 rfl (Or.inr ⟨_, rfl⟩) (Nat.le_of_ble_eq_true rfl) (by show (n.toNat : Nat) ≤ (n).toNat; omega) ⟨f5, rfl, rfl, (by rw [← ef5]; exact cpy_Rg2 (Rg.mono q3 (v_7cd0fc6126 q1) (Int.le_refl _) (Int.le_refl _)) (Rg.const (by decide) (by decide)))⟩
set_option maxHeartbeats 4000000 in
set_option maxRecDepth 100000 in
theorem b_copyFrom_18_1 {l : Launch} {G : jG} {nh : Nat} {fh : Nat → Option va_E} (ff1 : Int → Int) (tf1 : Int → Int) (lf1 : Nat → Option Nat) (wa1 : Int → Int) (wb1 : Int → Int) (ca1 : Int → Int) (cb1 : Int → Int) (sa1 : Int → Int) (sb1 : Int → Int) (lc1 : Int) (fo1 : Int) (wc1 : Int) (cc1 : Int) (sc1 : Int) (ff : Int → Int) (tf : Int → Int) (lf : Nat → Option Nat) (wa : Int → Int) (wb : Int → Int) (ca : Int → Int) (cb : Int → Int) (sa : Int → Int) (sb : Int → Int) (lc : Int) (fo : Int) (wc : Int) (cc : Int) (sc : Int) (q0 : okF ff) (q1 : 0 ≤ lc) (q2 : lc ≤ 6) (q3 : -1 ≤ fo) (q4 : fo < lc) (q5 : 0 ≤ wc) (q6 : wc ≤ 8) (q7 : 0 ≤ cc) (q8 : cc ≤ 6) (q9 : 0 ≤ sc) (q10 : sc ≤ 12) (q11 : Rg tf 2 (-2147483648) 2147483647) (q12 : Rg wa 8 (-2147483648) 2147483647) (q13 : Rg wb 8 (-2147483648) 2147483647) (q14 : Rg ca 6 (-2147483648) 2147483647) (q15 : Rg ca cc 0 (Hi ff - 1)) (q16 : Rg cb 6 (-2147483648) 2147483647) (q17 : Rg sa 12 0 6) (q18 : Rg sb 12 0 6) (q19 : Rg ff 5 (-2147483648) 2147483647) (q20 : LawsIn fh lf) (hk18 : fh 18 = some (.inr (8, [.ref 19, .ref 20, .ref 21, .int (zI lc1), .int (zI fo1), .ref 28, .ref 29, .int (zI wc1), .ref 30, .ref 31, .int (zI cc1), .ref 32, .ref 33, .int (zI sc1)]))) (hk19 : fh 19 = some (.inl (0, 5, .inl (zA ff1)))) (hk20 : fh 20 = some (.inl (0, 2, .inl (zA tf1)))) (hk21 : fh 21 = some (.inl (5, 6, .inr (.inr (.inr (.inr lf1)))))) (hk28 : fh 28 = some (.inl (0, 8, .inl (zA wa1)))) (hk29 : fh 29 = some (.inl (0, 8, .inl (zA wb1)))) (hk30 : fh 30 = some (.inl (0, 6, .inl (zA ca1)))) (hk31 : fh 31 = some (.inl (0, 6, .inl (zA cb1)))) (hk32 : fh 32 = some (.inl (0, 12, .inl (zA sa1)))) (hk33 : fh 33 = some (.inl (0, 12, .inl (zA sb1)))) (hk1 : fh 1 = some (.inr (8, [.ref 2, .ref 3, .ref 4, .int (zI lc), .int (zI fo), .ref 11, .ref 12, .int (zI wc), .ref 13, .ref 14, .int (zI cc), .ref 15, .ref 16, .int (zI sc)]))) (hk2 : fh 2 = some (.inl (0, 5, .inl (zA ff)))) (hk3 : fh 3 = some (.inl (0, 2, .inl (zA tf)))) (hk4 : fh 4 = some (.inl (5, 6, .inr (.inr (.inr (.inr lf)))))) (hk11 : fh 11 = some (.inl (0, 8, .inl (zA wa)))) (hk12 : fh 12 = some (.inl (0, 8, .inl (zA wb)))) (hk13 : fh 13 = some (.inl (0, 6, .inl (zA ca)))) (hk14 : fh 14 = some (.inl (0, 6, .inl (zA cb)))) (hk15 : fh 15 = some (.inl (0, 12, .inl (zA sa)))) (hk16 : fh 16 = some (.inl (0, 12, .inl (zA sb)))) : JM l G yX8_copyFrom MX8_copyFrom { frames := 1, cells := 0, slots := 0, locals := 60 } [.ref 18, .ref 1] (nh, fh) (fun rr h9 => ∃ ff9 : Int → Int, ∃ tf9 : Int → Int, ∃ lf9 : Nat → Option Nat, ∃ wa9 : Int → Int, ∃ wb9 : Int → Int, ∃ ca9 : Int → Int, ∃ cb9 : Int → Int, ∃ sa9 : Int → Int, ∃ sb9 : Int → Int, rr = none ∧ h9 = (nh, hc fh [(18, .inr (8, [.ref 19, .ref 20, .ref 21, .int (zI lc), .int (zI fo), .ref 28, .ref 29, .int (zI wc), .ref 30, .ref 31, .int (zI cc), .ref 32, .ref 33, .int (zI sc)])), (19, .inl (0, 5, .inl (zA ff9))), (20, .inl (0, 2, .inl (zA tf9))), (21, .inl (5, 6, .inr (.inr (.inr (.inr lf9))))), (28, .inl (0, 8, .inl (zA wa9))), (29, .inl (0, 8, .inl (zA wb9))), (30, .inl (0, 6, .inl (zA ca9))), (31, .inl (0, 6, .inl (zA cb9))), (32, .inl (0, 12, .inl (zA sa9))), (33, .inl (0, 12, .inl (zA sb9)))]) ∧ (Cp5 ff9 ff) ∧ (LwC lf9 lf 6) ∧ (Rg tf9 2 (-2147483648) 2147483647) ∧ (Rg wa9 8 (-2147483648) 2147483647) ∧ (Rg wb9 8 (-2147483648) 2147483647) ∧ (Rg ca9 6 (-2147483648) 2147483647) ∧ (Rg ca9 cc 0 (Hi ff - 1)) ∧ (Rg cb9 6 (-2147483648) 2147483647) ∧ (Rg sa9 12 0 6) ∧ (Rg sb9 12 0 6) ∧ (Rg ff9 5 (-2147483648) 2147483647) ∧ (EqN tf9 tf 2) ∧ (EqN wa9 wa 8) ∧ (EqN wb9 wb 8) ∧ (EqN ca9 ca 6) ∧ (EqN cb9 cb 6) ∧ (EqN sa9 sa 12) ∧ (EqN sb9 sb 12)) := by
  refine JM.of (by decide) rfl (fun h => by cases h) (Nat.le_of_ble_eq_true rfl) ⟨1, rfl⟩ ?_
  refine J_hc0 (J_ls (ls2 := [some (.ref 18), some (.ref 1), none]) rfl ?_)
  refine J_aload_n dX8_copyFrom_0 rfl rfl ?_
  refine J_get (v := .ref 2) dX8_copyFrom_1 fl_X8_9 hk1 rfl ?_
  refine Z_iconst (n := 0) dX8_copyFrom_4 ?_
  refine J_aload_n dX8_copyFrom_5 rfl rfl ?_
  refine J_get (v := .ref 19) dX8_copyFrom_6 fl_X8_9 hk18 rfl ?_
  refine Z_iconst (n := 0) dX8_copyFrom_9 ?_
  refine Z_iconst (n := 5) dX8_copyFrom_10 ?_
  refine Y_copy (n := 5) 5 5 dX8_copyFrom_11 (jt6 54 rfl rfl) (jt4 53 rfl rfl) (jt4 52 rfl rfl) (jt1 20 rfl rfl) hk2 hk19 rfl rfl v_17fcbbe8da v_2ff7592577 v_b5d993ecaf v_b5d993ecaf (Nat.le_of_ble_eq_true rfl) (Nat.le_of_ble_eq_true rfl) ?_
  obtain ⟨f1, ef1⟩ : ∃ F : Int → Int, cpyf ff ff1 5 = F := ⟨_, rfl⟩
  rw [ef1]
  have h2 : Rg f1 5 (-2147483648) 2147483647 := by rw [← ef1]; exact cpy_Rg q19 v_b5d993ecaf
  refine J_aload_n dX8_copyFrom_14 rfl rfl ?_
  refine J_get (v := .ref 3) dX8_copyFrom_15 fl_X8_15 hk1 rfl ?_
  refine Z_iconst (n := 0) dX8_copyFrom_18 ?_
  refine J_aload_n dX8_copyFrom_19 rfl rfl ?_
  refine J_get (v := .ref 20) dX8_copyFrom_20 fl_X8_15 hk18 rfl ?_
  refine Z_iconst (n := 0) dX8_copyFrom_23 ?_
  refine Z_iconst (n := 2) dX8_copyFrom_24 ?_
  refine Y_copy (n := 2) 2 2 dX8_copyFrom_25 (jt6 54 rfl rfl) (jt4 53 rfl rfl) (jt4 52 rfl rfl) (jt1 20 rfl rfl) hk3 hk20 rfl rfl v_06d31e7a75 v_8780a91439 v_3cd3e31367 v_3cd3e31367 (Nat.le_of_ble_eq_true rfl) (Nat.le_of_ble_eq_true rfl) ?_
  obtain ⟨f3, ef3⟩ : ∃ F : Int → Int, cpyf tf tf1 2 = F := ⟨_, rfl⟩
  rw [ef3]
  have h4 : Rg f3 2 (-2147483648) 2147483647 := by rw [← ef3]; exact cpy_Rg q11 v_3cd3e31367
  refine Z_iconst (n := 0) dX8_copyFrom_28 ?_
  refine J_istore_n dX8_copyFrom_29 rfl (Nat.le_of_ble_eq_true rfl) rfl ?_
  refine J_ls (ls2 := [some (.ref 18), some (.ref 1), some (.int (zI 0))]) rfl ?_
  refine J_touch (k := 21) (e := .inl (5, 6, .inr (.inr (.inr (.inr lf1))))) hk21 ?_
  have lp30 : ∀ (N30 : Nat) (i_30 : Int) (g_30 : Nat → Option Nat), (0 ≤ i_30) → (i_30 ≤ 6) → (LwC g_30 lf i_30) → (6 - i_30).toNat < N30 → J l G MX8_copyFrom { frames := 1, cells := 0, slots := 0, locals := 60 } jE (jMQ G { frames := 1, cells := 0, slots := 0, locals := 60 } (fun rr h9 => ∃ ff9 : Int → Int, ∃ tf9 : Int → Int, ∃ lf9 : Nat → Option Nat, ∃ wa9 : Int → Int, ∃ wb9 : Int → Int, ∃ ca9 : Int → Int, ∃ cb9 : Int → Int, ∃ sa9 : Int → Int, ∃ sb9 : Int → Int, rr = none ∧ h9 = (nh, hc fh [(18, .inr (8, [.ref 19, .ref 20, .ref 21, .int (zI lc), .int (zI fo), .ref 28, .ref 29, .int (zI wc), .ref 30, .ref 31, .int (zI cc), .ref 32, .ref 33, .int (zI sc)])), (19, .inl (0, 5, .inl (zA ff9))), (20, .inl (0, 2, .inl (zA tf9))), (21, .inl (5, 6, .inr (.inr (.inr (.inr lf9))))), (28, .inl (0, 8, .inl (zA wa9))), (29, .inl (0, 8, .inl (zA wb9))), (30, .inl (0, 6, .inl (zA ca9))), (31, .inl (0, 6, .inl (zA cb9))), (32, .inl (0, 12, .inl (zA sa9))), (33, .inl (0, 12, .inl (zA sb9)))]) ∧ (Cp5 ff9 ff) ∧ (LwC lf9 lf 6) ∧ (Rg tf9 2 (-2147483648) 2147483647) ∧ (Rg wa9 8 (-2147483648) 2147483647) ∧ (Rg wb9 8 (-2147483648) 2147483647) ∧ (Rg ca9 6 (-2147483648) 2147483647) ∧ (Rg ca9 cc 0 (Hi ff - 1)) ∧ (Rg cb9 6 (-2147483648) 2147483647) ∧ (Rg sa9 12 0 6) ∧ (Rg sb9 12 0 6) ∧ (Rg ff9 5 (-2147483648) 2147483647) ∧ (EqN tf9 tf 2) ∧ (EqN wa9 wa 8) ∧ (EqN wb9 wb 8) ∧ (EqN ca9 ca 6) ∧ (EqN cb9 cb 6) ∧ (EqN sa9 sa 12) ∧ (EqN sb9 sb 12))) (nh, hc fh [(21, .inl (5, 6, .inr (.inr (.inr (.inr g_30))))), (20, .inl (0, 2, .inl (zA f3))), (19, .inl (0, 5, .inl (zA f1)))]) 0 0 30 [some (.ref 18), some (.ref 1), some (.int (zI i_30))] [] := by
    intro N30
    induction N30 with
    | zero => intro i_30 g_30 i30_0 i30_1 i30_2 hm; exact absurd hm (Nat.not_lt_zero _)
    | succ N30 ih30 =>
      intro i_30 g_30 i30_0 i30_1 i30_2 hm30
      refine J_iload_n dX8_copyFrom_30 rfl rfl ?_
      refine Z_bipush (n := 6) dX8_copyFrom_31 (by decide +kernel) ?_
      refine Z_icmp_ge (tgt := 54) dX8_copyFrom_33 (by decide) (v_5fd3895a24 i30_0 i30_1) v_8f5ecbc95e (fun h5 => ?_) (fun h5 => ?_)
      · refine J_aload_n dX8_copyFrom_54 rfl rfl ?_
        refine J_aload_n dX8_copyFrom_55 rfl rfl ?_
        refine J_get (v := .int (zI lc)) dX8_copyFrom_56 fl_X8_23 hk1 rfl ?_
        refine K_put (fs2 := [.ref 19, .ref 20, .ref 21, .int (zI lc), .int (zI fo1), .ref 28, .ref 29, .int (zI wc1), .ref 30, .ref 31, .int (zI cc1), .ref 32, .ref 33, .int (zI sc1)]) dX8_copyFrom_59 fw_X8_23 hk18 (Nat.le_of_ble_eq_true rfl) (fun _ => ⟨rfl, rfl⟩) rfl ?_
        refine J_aload_n dX8_copyFrom_62 rfl rfl ?_
        refine J_aload_n dX8_copyFrom_63 rfl rfl ?_
        refine J_get (v := .int (zI fo)) dX8_copyFrom_64 fl_X8_27 hk1 rfl ?_
        refine K_put (fs2 := [.ref 19, .ref 20, .ref 21, .int (zI lc), .int (zI fo), .ref 28, .ref 29, .int (zI wc1), .ref 30, .ref 31, .int (zI cc1), .ref 32, .ref 33, .int (zI sc1)]) dX8_copyFrom_67 fw_X8_27 rfl (Nat.le_of_ble_eq_true rfl) (fun _ => ⟨rfl, rfl⟩) rfl ?_
        refine J_aload_n dX8_copyFrom_70 rfl rfl ?_
        refine J_get (v := .ref 11) dX8_copyFrom_71 fl_X8_30 hk1 rfl ?_
        refine Z_iconst (n := 0) dX8_copyFrom_74 ?_
        refine J_aload_n dX8_copyFrom_75 rfl rfl ?_
        refine J_get (v := .ref 28) dX8_copyFrom_76 fl_X8_30 rfl rfl ?_
        refine Z_iconst (n := 0) dX8_copyFrom_79 ?_
        refine Z_bipush (n := 8) dX8_copyFrom_80 (by decide +kernel) ?_
        refine Y_copy (n := 8) 8 8 dX8_copyFrom_82 (jt6 54 rfl rfl) (jt4 53 rfl rfl) (jt4 52 rfl rfl) (jt1 20 rfl rfl) hk11 hk28 rfl rfl v_09118c4f05 v_515d34f046 v_93241daa6a v_93241daa6a (Nat.le_of_ble_eq_true rfl) (Nat.le_of_ble_eq_true rfl) ?_
        obtain ⟨f6, ef6⟩ : ∃ F : Int → Int, cpyf wa wa1 8 = F := ⟨_, rfl⟩
        rw [ef6]
        have h7 : Rg f6 8 (-2147483648) 2147483647 := by rw [← ef6]; exact cpy_Rg q12 v_93241daa6a
        refine J_aload_n dX8_copyFrom_85 rfl rfl ?_
        refine J_get (v := .ref 12) dX8_copyFrom_86 fl_X8_33 hk1 rfl ?_
        refine Z_iconst (n := 0) dX8_copyFrom_89 ?_
        refine J_aload_n dX8_copyFrom_90 rfl rfl ?_
        refine J_get (v := .ref 29) dX8_copyFrom_91 fl_X8_33 rfl rfl ?_
        refine Z_iconst (n := 0) dX8_copyFrom_94 ?_
        refine Z_bipush (n := 8) dX8_copyFrom_95 (by decide +kernel) ?_
        refine Y_copy (n := 8) 8 8 dX8_copyFrom_97 (jt6 54 rfl rfl) (jt4 53 rfl rfl) (jt4 52 rfl rfl) (jt1 20 rfl rfl) hk12 hk29 rfl rfl v_09118c4f05 v_515d34f046 v_93241daa6a v_93241daa6a (Nat.le_of_ble_eq_true rfl) (Nat.le_of_ble_eq_true rfl) ?_
        obtain ⟨f8, ef8⟩ : ∃ F : Int → Int, cpyf wb wb1 8 = F := ⟨_, rfl⟩
        rw [ef8]
        have h9 : Rg f8 8 (-2147483648) 2147483647 := by rw [← ef8]; exact cpy_Rg q13 v_93241daa6a
        refine J_aload_n dX8_copyFrom_100 rfl rfl ?_
        refine J_aload_n dX8_copyFrom_101 rfl rfl ?_
        refine J_get (v := .int (zI wc)) dX8_copyFrom_102 fl_X8_36 hk1 rfl ?_
        refine K_put (fs2 := [.ref 19, .ref 20, .ref 21, .int (zI lc), .int (zI fo), .ref 28, .ref 29, .int (zI wc), .ref 30, .ref 31, .int (zI cc1), .ref 32, .ref 33, .int (zI sc1)]) dX8_copyFrom_105 fw_X8_36 rfl (Nat.le_of_ble_eq_true rfl) (fun _ => ⟨rfl, rfl⟩) rfl ?_
        refine J_aload_n dX8_copyFrom_108 rfl rfl ?_
        refine J_get (v := .ref 13) dX8_copyFrom_109 fl_X8_39 hk1 rfl ?_
        refine Z_iconst (n := 0) dX8_copyFrom_112 ?_
        refine J_aload_n dX8_copyFrom_113 rfl rfl ?_
        refine J_get (v := .ref 30) dX8_copyFrom_114 fl_X8_39 rfl rfl ?_
        refine Z_iconst (n := 0) dX8_copyFrom_117 ?_
        refine Z_bipush (n := 6) dX8_copyFrom_118 (by decide +kernel) ?_
        refine Y_copy (n := 6) 6 6 dX8_copyFrom_120 (jt6 54 rfl rfl) (jt4 53 rfl rfl) (jt4 52 rfl rfl) (jt1 20 rfl rfl) hk13 hk30 rfl rfl v_54997b3cd8 v_09a374015a v_7131faf931 v_7131faf931 (Nat.le_of_ble_eq_true rfl) (Nat.le_of_ble_eq_true rfl) ?_
        obtain ⟨f10, ef10⟩ : ∃ F : Int → Int, cpyf ca ca1 6 = F := ⟨_, rfl⟩
        rw [ef10]
        have h11 : Rg f10 6 (-2147483648) 2147483647 := by rw [← ef10]; exact cpy_Rg q14 v_7131faf931
        have h12 : Rg f10 cc 0 (Hi ff - 1) := by rw [← ef10]; exact cpy_Rg q15 (v_61f36a8678 q8)
        refine J_aload_n dX8_copyFrom_123 rfl rfl ?_
        refine J_get (v := .ref 14) dX8_copyFrom_124 fl_X8_42 hk1 rfl ?_
        refine Z_iconst (n := 0) dX8_copyFrom_127 ?_
        refine J_aload_n dX8_copyFrom_128 rfl rfl ?_
        refine J_get (v := .ref 31) dX8_copyFrom_129 fl_X8_42 rfl rfl ?_
        refine Z_iconst (n := 0) dX8_copyFrom_132 ?_
        refine Z_bipush (n := 6) dX8_copyFrom_133 (by decide +kernel) ?_
        refine Y_copy (n := 6) 6 6 dX8_copyFrom_135 (jt6 54 rfl rfl) (jt4 53 rfl rfl) (jt4 52 rfl rfl) (jt1 20 rfl rfl) hk14 hk31 rfl rfl v_54997b3cd8 v_09a374015a v_7131faf931 v_7131faf931 (Nat.le_of_ble_eq_true rfl) (Nat.le_of_ble_eq_true rfl) ?_
        obtain ⟨f13, ef13⟩ : ∃ F : Int → Int, cpyf cb cb1 6 = F := ⟨_, rfl⟩
        rw [ef13]
        have h14 : Rg f13 6 (-2147483648) 2147483647 := by rw [← ef13]; exact cpy_Rg q16 v_7131faf931
        refine J_aload_n dX8_copyFrom_138 rfl rfl ?_
        refine J_aload_n dX8_copyFrom_139 rfl rfl ?_
        refine J_get (v := .int (zI cc)) dX8_copyFrom_140 fl_X8_45 hk1 rfl ?_
        refine K_put (fs2 := [.ref 19, .ref 20, .ref 21, .int (zI lc), .int (zI fo), .ref 28, .ref 29, .int (zI wc), .ref 30, .ref 31, .int (zI cc), .ref 32, .ref 33, .int (zI sc1)]) dX8_copyFrom_143 fw_X8_45 rfl (Nat.le_of_ble_eq_true rfl) (fun _ => ⟨rfl, rfl⟩) rfl ?_
        refine J_aload_n dX8_copyFrom_146 rfl rfl ?_
        refine J_get (v := .ref 15) dX8_copyFrom_147 fl_X8_48 hk1 rfl ?_
        refine Z_iconst (n := 0) dX8_copyFrom_150 ?_
        refine J_aload_n dX8_copyFrom_151 rfl rfl ?_
        refine J_get (v := .ref 32) dX8_copyFrom_152 fl_X8_48 rfl rfl ?_
        refine Z_iconst (n := 0) dX8_copyFrom_155 ?_
        refine Z_bipush (n := 12) dX8_copyFrom_156 (by decide +kernel) ?_
        refine Y_copy (n := 12) 12 12 dX8_copyFrom_158 (jt6 54 rfl rfl) (jt4 53 rfl rfl) (jt4 52 rfl rfl) (jt1 20 rfl rfl) hk15 hk32 rfl rfl v_cadf61df7b v_1afe2cdcbf v_d48dba0ba1 v_d48dba0ba1 (Nat.le_of_ble_eq_true rfl) (Nat.le_of_ble_eq_true rfl) ?_
        obtain ⟨f15, ef15⟩ : ∃ F : Int → Int, cpyf sa sa1 12 = F := ⟨_, rfl⟩
        rw [ef15]
        have h16 : Rg f15 12 0 6 := by rw [← ef15]; exact cpy_Rg q17 v_d48dba0ba1
        refine J_aload_n dX8_copyFrom_161 rfl rfl ?_
        refine J_get (v := .ref 16) dX8_copyFrom_162 fl_X8_51 hk1 rfl ?_
        refine Z_iconst (n := 0) dX8_copyFrom_165 ?_
        refine J_aload_n dX8_copyFrom_166 rfl rfl ?_
        refine J_get (v := .ref 33) dX8_copyFrom_167 fl_X8_51 rfl rfl ?_
        refine Z_iconst (n := 0) dX8_copyFrom_170 ?_
        refine Z_bipush (n := 12) dX8_copyFrom_171 (by decide +kernel) ?_
        refine Y_copy (n := 12) 12 12 dX8_copyFrom_173 (jt6 54 rfl rfl) (jt4 53 rfl rfl) (jt4 52 rfl rfl) (jt1 20 rfl rfl) hk16 hk33 rfl rfl v_cadf61df7b v_1afe2cdcbf v_d48dba0ba1 v_d48dba0ba1 (Nat.le_of_ble_eq_true rfl) (Nat.le_of_ble_eq_true rfl) ?_
        obtain ⟨f17, ef17⟩ : ∃ F : Int → Int, cpyf sb sb1 12 = F := ⟨_, rfl⟩
        rw [ef17]
        have h18 : Rg f17 12 0 6 := by rw [← ef17]; exact cpy_Rg q18 v_d48dba0ba1
        refine J_aload_n dX8_copyFrom_176 rfl rfl ?_
        refine J_aload_n dX8_copyFrom_177 rfl rfl ?_
        refine J_get (v := .int (zI sc)) dX8_copyFrom_178 fl_X8_54 hk1 rfl ?_
        refine K_put (fs2 := [.ref 19, .ref 20, .ref 21, .int (zI lc), .int (zI fo), .ref 28, .ref 29, .int (zI wc), .ref 30, .ref 31, .int (zI cc), .ref 32, .ref 33, .int (zI sc)]) dX8_copyFrom_181 fw_X8_54 rfl (Nat.le_of_ble_eq_true rfl) (fun _ => ⟨rfl, rfl⟩) rfl ?_
        refine J_mask (L2 := [(18, .inr (8, [.ref 19, .ref 20, .ref 21, .int (zI lc), .int (zI fo), .ref 28, .ref 29, .int (zI wc), .ref 30, .ref 31, .int (zI cc), .ref 32, .ref 33, .int (zI sc)])), (33, .inl (0, 12, .inl (zA f17))), (32, .inl (0, 12, .inl (zA f15))), (31, .inl (0, 6, .inl (zA f13))), (30, .inl (0, 6, .inl (zA f10))), (29, .inl (0, 8, .inl (zA f8))), (28, .inl (0, 8, .inl (zA f6))), (21, .inl (5, 6, .inr (.inr (.inr (.inr g_30))))), (20, .inl (0, 2, .inl (zA f3))), (19, .inl (0, 5, .inl (zA f1)))]) (ks := [18, 33, 32, 18, 31, 30, 18, 29, 28, 18, 18, 21, 20, 19]) [true, true, true, false, true, true, false, true, true, false, false, true, true, true] rfl (by decide +kernel) rfl ?_
        refine J_touch (k := 33) (e := .inl (0, 12, .inl (zA f17))) rfl ?_
        refine J_touch (k := 32) (e := .inl (0, 12, .inl (zA f15))) rfl ?_
        refine J_touch (k := 31) (e := .inl (0, 6, .inl (zA f13))) rfl ?_
        refine J_touch (k := 30) (e := .inl (0, 6, .inl (zA f10))) rfl ?_
        refine J_touch (k := 29) (e := .inl (0, 8, .inl (zA f8))) rfl ?_
        refine J_touch (k := 28) (e := .inl (0, 8, .inl (zA f6))) rfl ?_
        refine J_touch (k := 21) (e := .inl (5, 6, .inr (.inr (.inr (.inr g_30))))) rfl ?_
        refine J_touch (k := 20) (e := .inl (0, 2, .inl (zA f3))) rfl ?_
        refine J_touch (k := 19) (e := .inl (0, 5, .inl (zA f1))) rfl ?_
        refine J_touch (k := 18) (e := .inr (8, [.ref 19, .ref 20, .ref 21, .int (zI lc), .int (zI fo), .ref 28, .ref 29, .int (zI wc), .ref 30, .ref 31, .int (zI cc), .ref 32, .ref 33, .int (zI sc)])) rfl ?_
        refine J_mask (L2 := [(18, .inr (8, [.ref 19, .ref 20, .ref 21, .int (zI lc), .int (zI fo), .ref 28, .ref 29, .int (zI wc), .ref 30, .ref 31, .int (zI cc), .ref 32, .ref 33, .int (zI sc)])), (19, .inl (0, 5, .inl (zA f1))), (20, .inl (0, 2, .inl (zA f3))), (21, .inl (5, 6, .inr (.inr (.inr (.inr g_30))))), (28, .inl (0, 8, .inl (zA f6))), (29, .inl (0, 8, .inl (zA f8))), (30, .inl (0, 6, .inl (zA f10))), (31, .inl (0, 6, .inl (zA f13))), (32, .inl (0, 12, .inl (zA f15))), (33, .inl (0, 12, .inl (zA f17)))]) (ks := [18, 19, 20, 21, 28, 29, 30, 31, 32, 33, 18, 33, 32, 31, 30, 29, 28, 21, 20, 19]) [true, true, true, true, true, true, true, true, true, true, false, false, false, false, false, false, false, false, false, false] rfl (by decide +kernel) rfl ?_
        exact J_vret dX8_copyFrom_184 rfl (Nat.le_of_ble_eq_true rfl) (Nat.le_of_ble_eq_true rfl) ⟨f1, f3, g_30, f6, f8, f10, f13, f15, f17, rfl, rfl, (fun j a b => by rw [← ef1]; exact cpy_at a b), (by have e : i_30 = 6 := (v_098d0f83dc i30_1 h5); rw [← e]; exact i30_2), h4, h7, h9, h11, h12, h14, h16, h18, h2, (fun j a b => by rw [← ef3]; exact cpy_at a b), (fun j a b => by rw [← ef6]; exact cpy_at a b), (fun j a b => by rw [← ef8]; exact cpy_at a b), (fun j a b => by rw [← ef10]; exact cpy_at a b), (fun j a b => by rw [← ef13]; exact cpy_at a b), (fun j a b => by rw [← ef15]; exact cpy_at a b), (fun j a b => by rw [← ef17]; exact cpy_at a b)⟩
      · refine J_aload_n dX8_copyFrom_36 rfl rfl ?_
        refine J_get (v := .ref 21) dX8_copyFrom_37 fl_X8_20 hk18 rfl ?_
        refine J_iload_n dX8_copyFrom_40 rfl rfl ?_
        refine J_aload_n dX8_copyFrom_41 rfl rfl ?_
        refine J_get (v := .ref 4) dX8_copyFrom_42 fl_X8_20 hk1 rfl ?_
        refine J_iload_n dX8_copyFrom_45 rfl rfl ?_
        obtain ⟨k19, k19a, k19b, k19n, k19f, k19c, k19d, k19e, k19g⟩ := q20 i_30.toNat (by omega)
        refine Y_aald 6 dX8_copyFrom_46 hk4 rfl (by decide) (v_2b02420001 i30_0) (v_abec2aeab4 h5) k19a ?_
        refine Y_aastA (i := i_30) 6 dX8_copyFrom_47 rfl rfl (by decide) (v_2b02420001 i30_0) (v_abec2aeab4 h5) (hcn (k19b 21 (by decide)) (hcn (k19b 20 (by decide)) (hcn (k19b 19 (by decide)) k19c))) ?_
        obtain ⟨f21, ef21⟩ : ∃ F : Nat → Option Nat, va_up g_30 i_30.toNat (some k19) = F := ⟨_, rfl⟩
        rw [ef21]
        refine Z_iinc (c := i_30 + 1) (ls2 := [some (.ref 18), some (.ref 1), some (.int (zI (i_30 + 1)))]) dX8_copyFrom_48 rfl (Nat.le_of_ble_eq_true rfl) rfl rfl rfl ?_
        refine J_goto (tgt := 30) dX8_copyFrom_51 (by decide) ?_
        refine J_mask (L2 := [(21, .inl (5, 6, .inr (.inr (.inr (.inr f21))))), (20, .inl (0, 2, .inl (zA f3))), (19, .inl (0, 5, .inl (zA f1)))]) (ks := [21, 21, 20, 19]) [true, false, true, true] rfl (by decide +kernel) rfl ?_
        exact ih30 (i_30 + 1) f21 (v_da458fa48a i30_0) (v_4abb881ee0 h5) (by rw [← ef21]; exact LwC.step i30_2 i30_0 k19a) (meas_lt v_dd0449391d (v_3fa36d366b h5) hm30)
  exact lp30 _ 0 lf1 v_939070ca3f v_54997b3cd8 (LwC_0) (Nat.lt_succ_self _)
set_option maxHeartbeats 4000000 in
set_option maxRecDepth 100000 in
theorem b_copyFrom_34_1 {l : Launch} {G : jG} {nh : Nat} {fh : Nat → Option va_E} (ff2 : Int → Int) (tf2 : Int → Int) (lf2 : Nat → Option Nat) (wa2 : Int → Int) (wb2 : Int → Int) (ca2 : Int → Int) (cb2 : Int → Int) (sa2 : Int → Int) (sb2 : Int → Int) (lc2 : Int) (fo2 : Int) (wc2 : Int) (cc2 : Int) (sc2 : Int) (ff : Int → Int) (tf : Int → Int) (lf : Nat → Option Nat) (wa : Int → Int) (wb : Int → Int) (ca : Int → Int) (cb : Int → Int) (sa : Int → Int) (sb : Int → Int) (lc : Int) (fo : Int) (wc : Int) (cc : Int) (sc : Int) (q0 : okF ff) (q1 : 0 ≤ lc) (q2 : lc ≤ 6) (q3 : -1 ≤ fo) (q4 : fo < lc) (q5 : 0 ≤ wc) (q6 : wc ≤ 8) (q7 : 0 ≤ cc) (q8 : cc ≤ 6) (q9 : 0 ≤ sc) (q10 : sc ≤ 12) (q11 : Rg tf 2 (-2147483648) 2147483647) (q12 : Rg wa 8 (-2147483648) 2147483647) (q13 : Rg wb 8 (-2147483648) 2147483647) (q14 : Rg ca 6 (-2147483648) 2147483647) (q15 : Rg ca cc 0 (Hi ff - 1)) (q16 : Rg cb 6 (-2147483648) 2147483647) (q17 : Rg sa 12 0 6) (q18 : Rg sb 12 0 6) (q19 : Rg ff 5 (-2147483648) 2147483647) (q20 : LawsIn fh lf) (hk34 : fh 34 = some (.inr (8, [.ref 35, .ref 36, .ref 37, .int (zI lc2), .int (zI fo2), .ref 44, .ref 45, .int (zI wc2), .ref 46, .ref 47, .int (zI cc2), .ref 48, .ref 49, .int (zI sc2)]))) (hk35 : fh 35 = some (.inl (0, 5, .inl (zA ff2)))) (hk36 : fh 36 = some (.inl (0, 2, .inl (zA tf2)))) (hk37 : fh 37 = some (.inl (5, 6, .inr (.inr (.inr (.inr lf2)))))) (hk44 : fh 44 = some (.inl (0, 8, .inl (zA wa2)))) (hk45 : fh 45 = some (.inl (0, 8, .inl (zA wb2)))) (hk46 : fh 46 = some (.inl (0, 6, .inl (zA ca2)))) (hk47 : fh 47 = some (.inl (0, 6, .inl (zA cb2)))) (hk48 : fh 48 = some (.inl (0, 12, .inl (zA sa2)))) (hk49 : fh 49 = some (.inl (0, 12, .inl (zA sb2)))) (hk1 : fh 1 = some (.inr (8, [.ref 2, .ref 3, .ref 4, .int (zI lc), .int (zI fo), .ref 11, .ref 12, .int (zI wc), .ref 13, .ref 14, .int (zI cc), .ref 15, .ref 16, .int (zI sc)]))) (hk2 : fh 2 = some (.inl (0, 5, .inl (zA ff)))) (hk3 : fh 3 = some (.inl (0, 2, .inl (zA tf)))) (hk4 : fh 4 = some (.inl (5, 6, .inr (.inr (.inr (.inr lf)))))) (hk11 : fh 11 = some (.inl (0, 8, .inl (zA wa)))) (hk12 : fh 12 = some (.inl (0, 8, .inl (zA wb)))) (hk13 : fh 13 = some (.inl (0, 6, .inl (zA ca)))) (hk14 : fh 14 = some (.inl (0, 6, .inl (zA cb)))) (hk15 : fh 15 = some (.inl (0, 12, .inl (zA sa)))) (hk16 : fh 16 = some (.inl (0, 12, .inl (zA sb)))) : JM l G yX8_copyFrom MX8_copyFrom { frames := 1, cells := 0, slots := 0, locals := 60 } [.ref 34, .ref 1] (nh, fh) (fun rr h9 => ∃ ff9 : Int → Int, ∃ tf9 : Int → Int, ∃ lf9 : Nat → Option Nat, ∃ wa9 : Int → Int, ∃ wb9 : Int → Int, ∃ ca9 : Int → Int, ∃ cb9 : Int → Int, ∃ sa9 : Int → Int, ∃ sb9 : Int → Int, rr = none ∧ h9 = (nh, hc fh [(34, .inr (8, [.ref 35, .ref 36, .ref 37, .int (zI lc), .int (zI fo), .ref 44, .ref 45, .int (zI wc), .ref 46, .ref 47, .int (zI cc), .ref 48, .ref 49, .int (zI sc)])), (35, .inl (0, 5, .inl (zA ff9))), (36, .inl (0, 2, .inl (zA tf9))), (37, .inl (5, 6, .inr (.inr (.inr (.inr lf9))))), (44, .inl (0, 8, .inl (zA wa9))), (45, .inl (0, 8, .inl (zA wb9))), (46, .inl (0, 6, .inl (zA ca9))), (47, .inl (0, 6, .inl (zA cb9))), (48, .inl (0, 12, .inl (zA sa9))), (49, .inl (0, 12, .inl (zA sb9)))]) ∧ (Cp5 ff9 ff) ∧ (LwC lf9 lf 6) ∧ (Rg tf9 2 (-2147483648) 2147483647) ∧ (Rg wa9 8 (-2147483648) 2147483647) ∧ (Rg wb9 8 (-2147483648) 2147483647) ∧ (Rg ca9 6 (-2147483648) 2147483647) ∧ (Rg ca9 cc 0 (Hi ff - 1)) ∧ (Rg cb9 6 (-2147483648) 2147483647) ∧ (Rg sa9 12 0 6) ∧ (Rg sb9 12 0 6) ∧ (Rg ff9 5 (-2147483648) 2147483647) ∧ (EqN tf9 tf 2) ∧ (EqN wa9 wa 8) ∧ (EqN wb9 wb 8) ∧ (EqN ca9 ca 6) ∧ (EqN cb9 cb 6) ∧ (EqN sa9 sa 12) ∧ (EqN sb9 sb 12)) := by
  refine JM.of (by decide) rfl (fun h => by cases h) (Nat.le_of_ble_eq_true rfl) ⟨1, rfl⟩ ?_
  refine J_hc0 (J_ls (ls2 := [some (.ref 34), some (.ref 1), none]) rfl ?_)
  refine J_aload_n dX8_copyFrom_0 rfl rfl ?_
  refine J_get (v := .ref 2) dX8_copyFrom_1 fl_X8_9 hk1 rfl ?_
  refine Z_iconst (n := 0) dX8_copyFrom_4 ?_
  refine J_aload_n dX8_copyFrom_5 rfl rfl ?_
  refine J_get (v := .ref 35) dX8_copyFrom_6 fl_X8_9 hk34 rfl ?_
  refine Z_iconst (n := 0) dX8_copyFrom_9 ?_
  refine Z_iconst (n := 5) dX8_copyFrom_10 ?_
  refine Y_copy (n := 5) 5 5 dX8_copyFrom_11 (jt6 54 rfl rfl) (jt4 53 rfl rfl) (jt4 52 rfl rfl) (jt1 20 rfl rfl) hk2 hk35 rfl rfl v_17fcbbe8da v_2ff7592577 v_b5d993ecaf v_b5d993ecaf (Nat.le_of_ble_eq_true rfl) (Nat.le_of_ble_eq_true rfl) ?_
  obtain ⟨f1, ef1⟩ : ∃ F : Int → Int, cpyf ff ff2 5 = F := ⟨_, rfl⟩
  rw [ef1]
  have h2 : Rg f1 5 (-2147483648) 2147483647 := by rw [← ef1]; exact cpy_Rg q19 v_b5d993ecaf
  refine J_aload_n dX8_copyFrom_14 rfl rfl ?_
  refine J_get (v := .ref 3) dX8_copyFrom_15 fl_X8_15 hk1 rfl ?_
  refine Z_iconst (n := 0) dX8_copyFrom_18 ?_
  refine J_aload_n dX8_copyFrom_19 rfl rfl ?_
  refine J_get (v := .ref 36) dX8_copyFrom_20 fl_X8_15 hk34 rfl ?_
  refine Z_iconst (n := 0) dX8_copyFrom_23 ?_
  refine Z_iconst (n := 2) dX8_copyFrom_24 ?_
  refine Y_copy (n := 2) 2 2 dX8_copyFrom_25 (jt6 54 rfl rfl) (jt4 53 rfl rfl) (jt4 52 rfl rfl) (jt1 20 rfl rfl) hk3 hk36 rfl rfl v_06d31e7a75 v_8780a91439 v_3cd3e31367 v_3cd3e31367 (Nat.le_of_ble_eq_true rfl) (Nat.le_of_ble_eq_true rfl) ?_
  obtain ⟨f3, ef3⟩ : ∃ F : Int → Int, cpyf tf tf2 2 = F := ⟨_, rfl⟩
  rw [ef3]
  have h4 : Rg f3 2 (-2147483648) 2147483647 := by rw [← ef3]; exact cpy_Rg q11 v_3cd3e31367
  refine Z_iconst (n := 0) dX8_copyFrom_28 ?_
  refine J_istore_n dX8_copyFrom_29 rfl (Nat.le_of_ble_eq_true rfl) rfl ?_
  refine J_ls (ls2 := [some (.ref 34), some (.ref 1), some (.int (zI 0))]) rfl ?_
  refine J_touch (k := 37) (e := .inl (5, 6, .inr (.inr (.inr (.inr lf2))))) hk37 ?_
  have lp30 : ∀ (N30 : Nat) (i_30 : Int) (g_30 : Nat → Option Nat), (0 ≤ i_30) → (i_30 ≤ 6) → (LwC g_30 lf i_30) → (6 - i_30).toNat < N30 → J l G MX8_copyFrom { frames := 1, cells := 0, slots := 0, locals := 60 } jE (jMQ G { frames := 1, cells := 0, slots := 0, locals := 60 } (fun rr h9 => ∃ ff9 : Int → Int, ∃ tf9 : Int → Int, ∃ lf9 : Nat → Option Nat, ∃ wa9 : Int → Int, ∃ wb9 : Int → Int, ∃ ca9 : Int → Int, ∃ cb9 : Int → Int, ∃ sa9 : Int → Int, ∃ sb9 : Int → Int, rr = none ∧ h9 = (nh, hc fh [(34, .inr (8, [.ref 35, .ref 36, .ref 37, .int (zI lc), .int (zI fo), .ref 44, .ref 45, .int (zI wc), .ref 46, .ref 47, .int (zI cc), .ref 48, .ref 49, .int (zI sc)])), (35, .inl (0, 5, .inl (zA ff9))), (36, .inl (0, 2, .inl (zA tf9))), (37, .inl (5, 6, .inr (.inr (.inr (.inr lf9))))), (44, .inl (0, 8, .inl (zA wa9))), (45, .inl (0, 8, .inl (zA wb9))), (46, .inl (0, 6, .inl (zA ca9))), (47, .inl (0, 6, .inl (zA cb9))), (48, .inl (0, 12, .inl (zA sa9))), (49, .inl (0, 12, .inl (zA sb9)))]) ∧ (Cp5 ff9 ff) ∧ (LwC lf9 lf 6) ∧ (Rg tf9 2 (-2147483648) 2147483647) ∧ (Rg wa9 8 (-2147483648) 2147483647) ∧ (Rg wb9 8 (-2147483648) 2147483647) ∧ (Rg ca9 6 (-2147483648) 2147483647) ∧ (Rg ca9 cc 0 (Hi ff - 1)) ∧ (Rg cb9 6 (-2147483648) 2147483647) ∧ (Rg sa9 12 0 6) ∧ (Rg sb9 12 0 6) ∧ (Rg ff9 5 (-2147483648) 2147483647) ∧ (EqN tf9 tf 2) ∧ (EqN wa9 wa 8) ∧ (EqN wb9 wb 8) ∧ (EqN ca9 ca 6) ∧ (EqN cb9 cb 6) ∧ (EqN sa9 sa 12) ∧ (EqN sb9 sb 12))) (nh, hc fh [(37, .inl (5, 6, .inr (.inr (.inr (.inr g_30))))), (36, .inl (0, 2, .inl (zA f3))), (35, .inl (0, 5, .inl (zA f1)))]) 0 0 30 [some (.ref 34), some (.ref 1), some (.int (zI i_30))] [] := by
    intro N30
    induction N30 with
    | zero => intro i_30 g_30 i30_0 i30_1 i30_2 hm; exact absurd hm (Nat.not_lt_zero _)
    | succ N30 ih30 =>
      intro i_30 g_30 i30_0 i30_1 i30_2 hm30
      refine J_iload_n dX8_copyFrom_30 rfl rfl ?_
      refine Z_bipush (n := 6) dX8_copyFrom_31 (by decide +kernel) ?_
      refine Z_icmp_ge (tgt := 54) dX8_copyFrom_33 (by decide) (v_5fd3895a24 i30_0 i30_1) v_8f5ecbc95e (fun h5 => ?_) (fun h5 => ?_)
      · refine J_aload_n dX8_copyFrom_54 rfl rfl ?_
        refine J_aload_n dX8_copyFrom_55 rfl rfl ?_
        refine J_get (v := .int (zI lc)) dX8_copyFrom_56 fl_X8_23 hk1 rfl ?_
        refine K_put (fs2 := [.ref 35, .ref 36, .ref 37, .int (zI lc), .int (zI fo2), .ref 44, .ref 45, .int (zI wc2), .ref 46, .ref 47, .int (zI cc2), .ref 48, .ref 49, .int (zI sc2)]) dX8_copyFrom_59 fw_X8_23 hk34 (Nat.le_of_ble_eq_true rfl) (fun _ => ⟨rfl, rfl⟩) rfl ?_
        refine J_aload_n dX8_copyFrom_62 rfl rfl ?_
        refine J_aload_n dX8_copyFrom_63 rfl rfl ?_
        refine J_get (v := .int (zI fo)) dX8_copyFrom_64 fl_X8_27 hk1 rfl ?_
        refine K_put (fs2 := [.ref 35, .ref 36, .ref 37, .int (zI lc), .int (zI fo), .ref 44, .ref 45, .int (zI wc2), .ref 46, .ref 47, .int (zI cc2), .ref 48, .ref 49, .int (zI sc2)]) dX8_copyFrom_67 fw_X8_27 rfl (Nat.le_of_ble_eq_true rfl) (fun _ => ⟨rfl, rfl⟩) rfl ?_
        refine J_aload_n dX8_copyFrom_70 rfl rfl ?_
        refine J_get (v := .ref 11) dX8_copyFrom_71 fl_X8_30 hk1 rfl ?_
        refine Z_iconst (n := 0) dX8_copyFrom_74 ?_
        refine J_aload_n dX8_copyFrom_75 rfl rfl ?_
        refine J_get (v := .ref 44) dX8_copyFrom_76 fl_X8_30 rfl rfl ?_
        refine Z_iconst (n := 0) dX8_copyFrom_79 ?_
        refine Z_bipush (n := 8) dX8_copyFrom_80 (by decide +kernel) ?_
        refine Y_copy (n := 8) 8 8 dX8_copyFrom_82 (jt6 54 rfl rfl) (jt4 53 rfl rfl) (jt4 52 rfl rfl) (jt1 20 rfl rfl) hk11 hk44 rfl rfl v_09118c4f05 v_515d34f046 v_93241daa6a v_93241daa6a (Nat.le_of_ble_eq_true rfl) (Nat.le_of_ble_eq_true rfl) ?_
        obtain ⟨f6, ef6⟩ : ∃ F : Int → Int, cpyf wa wa2 8 = F := ⟨_, rfl⟩
        rw [ef6]
        have h7 : Rg f6 8 (-2147483648) 2147483647 := by rw [← ef6]; exact cpy_Rg q12 v_93241daa6a
        refine J_aload_n dX8_copyFrom_85 rfl rfl ?_
        refine J_get (v := .ref 12) dX8_copyFrom_86 fl_X8_33 hk1 rfl ?_
        refine Z_iconst (n := 0) dX8_copyFrom_89 ?_
        refine J_aload_n dX8_copyFrom_90 rfl rfl ?_
        refine J_get (v := .ref 45) dX8_copyFrom_91 fl_X8_33 rfl rfl ?_
        refine Z_iconst (n := 0) dX8_copyFrom_94 ?_
        refine Z_bipush (n := 8) dX8_copyFrom_95 (by decide +kernel) ?_
        refine Y_copy (n := 8) 8 8 dX8_copyFrom_97 (jt6 54 rfl rfl) (jt4 53 rfl rfl) (jt4 52 rfl rfl) (jt1 20 rfl rfl) hk12 hk45 rfl rfl v_09118c4f05 v_515d34f046 v_93241daa6a v_93241daa6a (Nat.le_of_ble_eq_true rfl) (Nat.le_of_ble_eq_true rfl) ?_
        obtain ⟨f8, ef8⟩ : ∃ F : Int → Int, cpyf wb wb2 8 = F := ⟨_, rfl⟩
        rw [ef8]
        have h9 : Rg f8 8 (-2147483648) 2147483647 := by rw [← ef8]; exact cpy_Rg q13 v_93241daa6a
        refine J_aload_n dX8_copyFrom_100 rfl rfl ?_
        refine J_aload_n dX8_copyFrom_101 rfl rfl ?_
        refine J_get (v := .int (zI wc)) dX8_copyFrom_102 fl_X8_36 hk1 rfl ?_
        refine K_put (fs2 := [.ref 35, .ref 36, .ref 37, .int (zI lc), .int (zI fo), .ref 44, .ref 45, .int (zI wc), .ref 46, .ref 47, .int (zI cc2), .ref 48, .ref 49, .int (zI sc2)]) dX8_copyFrom_105 fw_X8_36 rfl (Nat.le_of_ble_eq_true rfl) (fun _ => ⟨rfl, rfl⟩) rfl ?_
        refine J_aload_n dX8_copyFrom_108 rfl rfl ?_
        refine J_get (v := .ref 13) dX8_copyFrom_109 fl_X8_39 hk1 rfl ?_
        refine Z_iconst (n := 0) dX8_copyFrom_112 ?_
        refine J_aload_n dX8_copyFrom_113 rfl rfl ?_
        refine J_get (v := .ref 46) dX8_copyFrom_114 fl_X8_39 rfl rfl ?_
        refine Z_iconst (n := 0) dX8_copyFrom_117 ?_
        refine Z_bipush (n := 6) dX8_copyFrom_118 (by decide +kernel) ?_
        refine Y_copy (n := 6) 6 6 dX8_copyFrom_120 (jt6 54 rfl rfl) (jt4 53 rfl rfl) (jt4 52 rfl rfl) (jt1 20 rfl rfl) hk13 hk46 rfl rfl v_54997b3cd8 v_09a374015a v_7131faf931 v_7131faf931 (Nat.le_of_ble_eq_true rfl) (Nat.le_of_ble_eq_true rfl) ?_
        obtain ⟨f10, ef10⟩ : ∃ F : Int → Int, cpyf ca ca2 6 = F := ⟨_, rfl⟩
        rw [ef10]
        have h11 : Rg f10 6 (-2147483648) 2147483647 := by rw [← ef10]; exact cpy_Rg q14 v_7131faf931
        have h12 : Rg f10 cc 0 (Hi ff - 1) := by rw [← ef10]; exact cpy_Rg q15 (v_61f36a8678 q8)
        refine J_aload_n dX8_copyFrom_123 rfl rfl ?_
        refine J_get (v := .ref 14) dX8_copyFrom_124 fl_X8_42 hk1 rfl ?_
        refine Z_iconst (n := 0) dX8_copyFrom_127 ?_
        refine J_aload_n dX8_copyFrom_128 rfl rfl ?_
        refine J_get (v := .ref 47) dX8_copyFrom_129 fl_X8_42 rfl rfl ?_
        refine Z_iconst (n := 0) dX8_copyFrom_132 ?_
        refine Z_bipush (n := 6) dX8_copyFrom_133 (by decide +kernel) ?_
        refine Y_copy (n := 6) 6 6 dX8_copyFrom_135 (jt6 54 rfl rfl) (jt4 53 rfl rfl) (jt4 52 rfl rfl) (jt1 20 rfl rfl) hk14 hk47 rfl rfl v_54997b3cd8 v_09a374015a v_7131faf931 v_7131faf931 (Nat.le_of_ble_eq_true rfl) (Nat.le_of_ble_eq_true rfl) ?_
        obtain ⟨f13, ef13⟩ : ∃ F : Int → Int, cpyf cb cb2 6 = F := ⟨_, rfl⟩
        rw [ef13]
        have h14 : Rg f13 6 (-2147483648) 2147483647 := by rw [← ef13]; exact cpy_Rg q16 v_7131faf931
        refine J_aload_n dX8_copyFrom_138 rfl rfl ?_
        refine J_aload_n dX8_copyFrom_139 rfl rfl ?_
        refine J_get (v := .int (zI cc)) dX8_copyFrom_140 fl_X8_45 hk1 rfl ?_
        refine K_put (fs2 := [.ref 35, .ref 36, .ref 37, .int (zI lc), .int (zI fo), .ref 44, .ref 45, .int (zI wc), .ref 46, .ref 47, .int (zI cc), .ref 48, .ref 49, .int (zI sc2)]) dX8_copyFrom_143 fw_X8_45 rfl (Nat.le_of_ble_eq_true rfl) (fun _ => ⟨rfl, rfl⟩) rfl ?_
        refine J_aload_n dX8_copyFrom_146 rfl rfl ?_
        refine J_get (v := .ref 15) dX8_copyFrom_147 fl_X8_48 hk1 rfl ?_
        refine Z_iconst (n := 0) dX8_copyFrom_150 ?_
        refine J_aload_n dX8_copyFrom_151 rfl rfl ?_
        refine J_get (v := .ref 48) dX8_copyFrom_152 fl_X8_48 rfl rfl ?_
        refine Z_iconst (n := 0) dX8_copyFrom_155 ?_
        refine Z_bipush (n := 12) dX8_copyFrom_156 (by decide +kernel) ?_
        refine Y_copy (n := 12) 12 12 dX8_copyFrom_158 (jt6 54 rfl rfl) (jt4 53 rfl rfl) (jt4 52 rfl rfl) (jt1 20 rfl rfl) hk15 hk48 rfl rfl v_cadf61df7b v_1afe2cdcbf v_d48dba0ba1 v_d48dba0ba1 (Nat.le_of_ble_eq_true rfl) (Nat.le_of_ble_eq_true rfl) ?_
        obtain ⟨f15, ef15⟩ : ∃ F : Int → Int, cpyf sa sa2 12 = F := ⟨_, rfl⟩
        rw [ef15]
        have h16 : Rg f15 12 0 6 := by rw [← ef15]; exact cpy_Rg q17 v_d48dba0ba1
        refine J_aload_n dX8_copyFrom_161 rfl rfl ?_
        refine J_get (v := .ref 16) dX8_copyFrom_162 fl_X8_51 hk1 rfl ?_
        refine Z_iconst (n := 0) dX8_copyFrom_165 ?_
        refine J_aload_n dX8_copyFrom_166 rfl rfl ?_
        refine J_get (v := .ref 49) dX8_copyFrom_167 fl_X8_51 rfl rfl ?_
        refine Z_iconst (n := 0) dX8_copyFrom_170 ?_
        refine Z_bipush (n := 12) dX8_copyFrom_171 (by decide +kernel) ?_
        refine Y_copy (n := 12) 12 12 dX8_copyFrom_173 (jt6 54 rfl rfl) (jt4 53 rfl rfl) (jt4 52 rfl rfl) (jt1 20 rfl rfl) hk16 hk49 rfl rfl v_cadf61df7b v_1afe2cdcbf v_d48dba0ba1 v_d48dba0ba1 (Nat.le_of_ble_eq_true rfl) (Nat.le_of_ble_eq_true rfl) ?_
        obtain ⟨f17, ef17⟩ : ∃ F : Int → Int, cpyf sb sb2 12 = F := ⟨_, rfl⟩
        rw [ef17]
        have h18 : Rg f17 12 0 6 := by rw [← ef17]; exact cpy_Rg q18 v_d48dba0ba1
        refine J_aload_n dX8_copyFrom_176 rfl rfl ?_
        refine J_aload_n dX8_copyFrom_177 rfl rfl ?_
        refine J_get (v := .int (zI sc)) dX8_copyFrom_178 fl_X8_54 hk1 rfl ?_
        refine K_put (fs2 := [.ref 35, .ref 36, .ref 37, .int (zI lc), .int (zI fo), .ref 44, .ref 45, .int (zI wc), .ref 46, .ref 47, .int (zI cc), .ref 48, .ref 49, .int (zI sc)]) dX8_copyFrom_181 fw_X8_54 rfl (Nat.le_of_ble_eq_true rfl) (fun _ => ⟨rfl, rfl⟩) rfl ?_
        refine J_mask (L2 := [(34, .inr (8, [.ref 35, .ref 36, .ref 37, .int (zI lc), .int (zI fo), .ref 44, .ref 45, .int (zI wc), .ref 46, .ref 47, .int (zI cc), .ref 48, .ref 49, .int (zI sc)])), (49, .inl (0, 12, .inl (zA f17))), (48, .inl (0, 12, .inl (zA f15))), (47, .inl (0, 6, .inl (zA f13))), (46, .inl (0, 6, .inl (zA f10))), (45, .inl (0, 8, .inl (zA f8))), (44, .inl (0, 8, .inl (zA f6))), (37, .inl (5, 6, .inr (.inr (.inr (.inr g_30))))), (36, .inl (0, 2, .inl (zA f3))), (35, .inl (0, 5, .inl (zA f1)))]) (ks := [34, 49, 48, 34, 47, 46, 34, 45, 44, 34, 34, 37, 36, 35]) [true, true, true, false, true, true, false, true, true, false, false, true, true, true] rfl (by decide +kernel) rfl ?_
        refine J_touch (k := 49) (e := .inl (0, 12, .inl (zA f17))) rfl ?_
        refine J_touch (k := 48) (e := .inl (0, 12, .inl (zA f15))) rfl ?_
        refine J_touch (k := 47) (e := .inl (0, 6, .inl (zA f13))) rfl ?_
        refine J_touch (k := 46) (e := .inl (0, 6, .inl (zA f10))) rfl ?_
        refine J_touch (k := 45) (e := .inl (0, 8, .inl (zA f8))) rfl ?_
        refine J_touch (k := 44) (e := .inl (0, 8, .inl (zA f6))) rfl ?_
        refine J_touch (k := 37) (e := .inl (5, 6, .inr (.inr (.inr (.inr g_30))))) rfl ?_
        refine J_touch (k := 36) (e := .inl (0, 2, .inl (zA f3))) rfl ?_
        refine J_touch (k := 35) (e := .inl (0, 5, .inl (zA f1))) rfl ?_
        refine J_touch (k := 34) (e := .inr (8, [.ref 35, .ref 36, .ref 37, .int (zI lc), .int (zI fo), .ref 44, .ref 45, .int (zI wc), .ref 46, .ref 47, .int (zI cc), .ref 48, .ref 49, .int (zI sc)])) rfl ?_
        refine J_mask (L2 := [(34, .inr (8, [.ref 35, .ref 36, .ref 37, .int (zI lc), .int (zI fo), .ref 44, .ref 45, .int (zI wc), .ref 46, .ref 47, .int (zI cc), .ref 48, .ref 49, .int (zI sc)])), (35, .inl (0, 5, .inl (zA f1))), (36, .inl (0, 2, .inl (zA f3))), (37, .inl (5, 6, .inr (.inr (.inr (.inr g_30))))), (44, .inl (0, 8, .inl (zA f6))), (45, .inl (0, 8, .inl (zA f8))), (46, .inl (0, 6, .inl (zA f10))), (47, .inl (0, 6, .inl (zA f13))), (48, .inl (0, 12, .inl (zA f15))), (49, .inl (0, 12, .inl (zA f17)))]) (ks := [34, 35, 36, 37, 44, 45, 46, 47, 48, 49, 34, 49, 48, 47, 46, 45, 44, 37, 36, 35]) [true, true, true, true, true, true, true, true, true, true, false, false, false, false, false, false, false, false, false, false] rfl (by decide +kernel) rfl ?_
        exact J_vret dX8_copyFrom_184 rfl (Nat.le_of_ble_eq_true rfl) (Nat.le_of_ble_eq_true rfl) ⟨f1, f3, g_30, f6, f8, f10, f13, f15, f17, rfl, rfl, (fun j a b => by rw [← ef1]; exact cpy_at a b), (by have e : i_30 = 6 := (v_098d0f83dc i30_1 h5); rw [← e]; exact i30_2), h4, h7, h9, h11, h12, h14, h16, h18, h2, (fun j a b => by rw [← ef3]; exact cpy_at a b), (fun j a b => by rw [← ef6]; exact cpy_at a b), (fun j a b => by rw [← ef8]; exact cpy_at a b), (fun j a b => by rw [← ef10]; exact cpy_at a b), (fun j a b => by rw [← ef13]; exact cpy_at a b), (fun j a b => by rw [← ef15]; exact cpy_at a b), (fun j a b => by rw [← ef17]; exact cpy_at a b)⟩
      · refine J_aload_n dX8_copyFrom_36 rfl rfl ?_
        refine J_get (v := .ref 37) dX8_copyFrom_37 fl_X8_20 hk34 rfl ?_
        refine J_iload_n dX8_copyFrom_40 rfl rfl ?_
        refine J_aload_n dX8_copyFrom_41 rfl rfl ?_
        refine J_get (v := .ref 4) dX8_copyFrom_42 fl_X8_20 hk1 rfl ?_
        refine J_iload_n dX8_copyFrom_45 rfl rfl ?_
        obtain ⟨k19, k19a, k19b, k19n, k19f, k19c, k19d, k19e, k19g⟩ := q20 i_30.toNat (by omega)
        refine Y_aald 6 dX8_copyFrom_46 hk4 rfl (by decide) (v_2b02420001 i30_0) (v_abec2aeab4 h5) k19a ?_
        refine Y_aastA (i := i_30) 6 dX8_copyFrom_47 rfl rfl (by decide) (v_2b02420001 i30_0) (v_abec2aeab4 h5) (hcn (k19b 37 (by decide)) (hcn (k19b 36 (by decide)) (hcn (k19b 35 (by decide)) k19c))) ?_
        obtain ⟨f21, ef21⟩ : ∃ F : Nat → Option Nat, va_up g_30 i_30.toNat (some k19) = F := ⟨_, rfl⟩
        rw [ef21]
        refine Z_iinc (c := i_30 + 1) (ls2 := [some (.ref 34), some (.ref 1), some (.int (zI (i_30 + 1)))]) dX8_copyFrom_48 rfl (Nat.le_of_ble_eq_true rfl) rfl rfl rfl ?_
        refine J_goto (tgt := 30) dX8_copyFrom_51 (by decide) ?_
        refine J_mask (L2 := [(37, .inl (5, 6, .inr (.inr (.inr (.inr f21))))), (36, .inl (0, 2, .inl (zA f3))), (35, .inl (0, 5, .inl (zA f1)))]) (ks := [37, 37, 36, 35]) [true, false, true, true] rfl (by decide +kernel) rfl ?_
        exact ih30 (i_30 + 1) f21 (v_da458fa48a i30_0) (v_4abb881ee0 h5) (by rw [← ef21]; exact LwC.step i30_2 i30_0 k19a) (meas_lt v_dd0449391d (v_3fa36d366b h5) hm30)
  exact lp30 _ 0 lf2 v_939070ca3f v_54997b3cd8 (LwC_0) (Nat.lt_succ_self _)
set_option maxHeartbeats 4000000 in
set_option maxRecDepth 100000 in
theorem b_copyFrom_1_18 {l : Launch} {G : jG} {nh : Nat} {fh : Nat → Option va_E} (ff : Int → Int) (tf : Int → Int) (lf : Nat → Option Nat) (wa : Int → Int) (wb : Int → Int) (ca : Int → Int) (cb : Int → Int) (sa : Int → Int) (sb : Int → Int) (lc : Int) (fo : Int) (wc : Int) (cc : Int) (sc : Int) (ff1 : Int → Int) (tf1 : Int → Int) (lf1 : Nat → Option Nat) (wa1 : Int → Int) (wb1 : Int → Int) (ca1 : Int → Int) (cb1 : Int → Int) (sa1 : Int → Int) (sb1 : Int → Int) (lc1 : Int) (fo1 : Int) (wc1 : Int) (cc1 : Int) (sc1 : Int) (q0 : okF ff1) (q1 : 0 ≤ lc1) (q2 : lc1 ≤ 6) (q3 : -1 ≤ fo1) (q4 : fo1 < lc1) (q5 : 0 ≤ wc1) (q6 : wc1 ≤ 8) (q7 : 0 ≤ cc1) (q8 : cc1 ≤ 6) (q9 : 0 ≤ sc1) (q10 : sc1 ≤ 12) (q11 : Rg tf1 2 (-2147483648) 2147483647) (q12 : Rg wa1 8 (-2147483648) 2147483647) (q13 : Rg wb1 8 (-2147483648) 2147483647) (q14 : Rg ca1 6 (-2147483648) 2147483647) (q15 : Rg ca1 cc1 0 (Hi ff1 - 1)) (q16 : Rg cb1 6 (-2147483648) 2147483647) (q17 : Rg sa1 12 0 6) (q18 : Rg sb1 12 0 6) (q19 : Rg ff1 5 (-2147483648) 2147483647) (q20 : LawsIn fh lf1) (hk1 : fh 1 = some (.inr (8, [.ref 2, .ref 3, .ref 4, .int (zI lc), .int (zI fo), .ref 11, .ref 12, .int (zI wc), .ref 13, .ref 14, .int (zI cc), .ref 15, .ref 16, .int (zI sc)]))) (hk2 : fh 2 = some (.inl (0, 5, .inl (zA ff)))) (hk3 : fh 3 = some (.inl (0, 2, .inl (zA tf)))) (hk4 : fh 4 = some (.inl (5, 6, .inr (.inr (.inr (.inr lf)))))) (hk11 : fh 11 = some (.inl (0, 8, .inl (zA wa)))) (hk12 : fh 12 = some (.inl (0, 8, .inl (zA wb)))) (hk13 : fh 13 = some (.inl (0, 6, .inl (zA ca)))) (hk14 : fh 14 = some (.inl (0, 6, .inl (zA cb)))) (hk15 : fh 15 = some (.inl (0, 12, .inl (zA sa)))) (hk16 : fh 16 = some (.inl (0, 12, .inl (zA sb)))) (hk18 : fh 18 = some (.inr (8, [.ref 19, .ref 20, .ref 21, .int (zI lc1), .int (zI fo1), .ref 28, .ref 29, .int (zI wc1), .ref 30, .ref 31, .int (zI cc1), .ref 32, .ref 33, .int (zI sc1)]))) (hk19 : fh 19 = some (.inl (0, 5, .inl (zA ff1)))) (hk20 : fh 20 = some (.inl (0, 2, .inl (zA tf1)))) (hk21 : fh 21 = some (.inl (5, 6, .inr (.inr (.inr (.inr lf1)))))) (hk28 : fh 28 = some (.inl (0, 8, .inl (zA wa1)))) (hk29 : fh 29 = some (.inl (0, 8, .inl (zA wb1)))) (hk30 : fh 30 = some (.inl (0, 6, .inl (zA ca1)))) (hk31 : fh 31 = some (.inl (0, 6, .inl (zA cb1)))) (hk32 : fh 32 = some (.inl (0, 12, .inl (zA sa1)))) (hk33 : fh 33 = some (.inl (0, 12, .inl (zA sb1)))) : JM l G yX8_copyFrom MX8_copyFrom { frames := 1, cells := 0, slots := 0, locals := 60 } [.ref 1, .ref 18] (nh, fh) (fun rr h9 => ∃ ff9 : Int → Int, ∃ tf9 : Int → Int, ∃ lf9 : Nat → Option Nat, ∃ wa9 : Int → Int, ∃ wb9 : Int → Int, ∃ ca9 : Int → Int, ∃ cb9 : Int → Int, ∃ sa9 : Int → Int, ∃ sb9 : Int → Int, rr = none ∧ h9 = (nh, hc fh [(1, .inr (8, [.ref 2, .ref 3, .ref 4, .int (zI lc1), .int (zI fo1), .ref 11, .ref 12, .int (zI wc1), .ref 13, .ref 14, .int (zI cc1), .ref 15, .ref 16, .int (zI sc1)])), (2, .inl (0, 5, .inl (zA ff9))), (3, .inl (0, 2, .inl (zA tf9))), (4, .inl (5, 6, .inr (.inr (.inr (.inr lf9))))), (11, .inl (0, 8, .inl (zA wa9))), (12, .inl (0, 8, .inl (zA wb9))), (13, .inl (0, 6, .inl (zA ca9))), (14, .inl (0, 6, .inl (zA cb9))), (15, .inl (0, 12, .inl (zA sa9))), (16, .inl (0, 12, .inl (zA sb9)))]) ∧ (Cp5 ff9 ff1) ∧ (LwC lf9 lf1 6) ∧ (Rg tf9 2 (-2147483648) 2147483647) ∧ (Rg wa9 8 (-2147483648) 2147483647) ∧ (Rg wb9 8 (-2147483648) 2147483647) ∧ (Rg ca9 6 (-2147483648) 2147483647) ∧ (Rg ca9 cc1 0 (Hi ff1 - 1)) ∧ (Rg cb9 6 (-2147483648) 2147483647) ∧ (Rg sa9 12 0 6) ∧ (Rg sb9 12 0 6) ∧ (Rg ff9 5 (-2147483648) 2147483647) ∧ (EqN tf9 tf1 2) ∧ (EqN wa9 wa1 8) ∧ (EqN wb9 wb1 8) ∧ (EqN ca9 ca1 6) ∧ (EqN cb9 cb1 6) ∧ (EqN sa9 sa1 12) ∧ (EqN sb9 sb1 12)) := by
  refine JM.of (by decide) rfl (fun h => by cases h) (Nat.le_of_ble_eq_true rfl) ⟨1, rfl⟩ ?_
  refine J_hc0 (J_ls (ls2 := [some (.ref 1), some (.ref 18), none]) rfl ?_)
  refine J_aload_n dX8_copyFrom_0 rfl rfl ?_
  refine J_get (v := .ref 19) dX8_copyFrom_1 fl_X8_9 hk18 rfl ?_
  refine Z_iconst (n := 0) dX8_copyFrom_4 ?_
  refine J_aload_n dX8_copyFrom_5 rfl rfl ?_
  refine J_get (v := .ref 2) dX8_copyFrom_6 fl_X8_9 hk1 rfl ?_
  refine Z_iconst (n := 0) dX8_copyFrom_9 ?_
  refine Z_iconst (n := 5) dX8_copyFrom_10 ?_
  refine Y_copy (n := 5) 5 5 dX8_copyFrom_11 (jt6 54 rfl rfl) (jt4 53 rfl rfl) (jt4 52 rfl rfl) (jt1 20 rfl rfl) hk19 hk2 rfl rfl v_17fcbbe8da v_2ff7592577 v_b5d993ecaf v_b5d993ecaf (Nat.le_of_ble_eq_true rfl) (Nat.le_of_ble_eq_true rfl) ?_
  obtain ⟨f1, ef1⟩ : ∃ F : Int → Int, cpyf ff1 ff 5 = F := ⟨_, rfl⟩
  rw [ef1]
  have h2 : Rg f1 5 (-2147483648) 2147483647 := by rw [← ef1]; exact cpy_Rg q19 v_b5d993ecaf
  refine J_aload_n dX8_copyFrom_14 rfl rfl ?_
  refine J_get (v := .ref 20) dX8_copyFrom_15 fl_X8_15 hk18 rfl ?_
  refine Z_iconst (n := 0) dX8_copyFrom_18 ?_
  refine J_aload_n dX8_copyFrom_19 rfl rfl ?_
  refine J_get (v := .ref 3) dX8_copyFrom_20 fl_X8_15 hk1 rfl ?_
  refine Z_iconst (n := 0) dX8_copyFrom_23 ?_
  refine Z_iconst (n := 2) dX8_copyFrom_24 ?_
  refine Y_copy (n := 2) 2 2 dX8_copyFrom_25 (jt6 54 rfl rfl) (jt4 53 rfl rfl) (jt4 52 rfl rfl) (jt1 20 rfl rfl) hk20 hk3 rfl rfl v_06d31e7a75 v_8780a91439 v_3cd3e31367 v_3cd3e31367 (Nat.le_of_ble_eq_true rfl) (Nat.le_of_ble_eq_true rfl) ?_
  obtain ⟨f3, ef3⟩ : ∃ F : Int → Int, cpyf tf1 tf 2 = F := ⟨_, rfl⟩
  rw [ef3]
  have h4 : Rg f3 2 (-2147483648) 2147483647 := by rw [← ef3]; exact cpy_Rg q11 v_3cd3e31367
  refine Z_iconst (n := 0) dX8_copyFrom_28 ?_
  refine J_istore_n dX8_copyFrom_29 rfl (Nat.le_of_ble_eq_true rfl) rfl ?_
  refine J_ls (ls2 := [some (.ref 1), some (.ref 18), some (.int (zI 0))]) rfl ?_
  refine J_touch (k := 4) (e := .inl (5, 6, .inr (.inr (.inr (.inr lf))))) hk4 ?_
  have lp30 : ∀ (N30 : Nat) (i_30 : Int) (g_30 : Nat → Option Nat), (0 ≤ i_30) → (i_30 ≤ 6) → (LwC g_30 lf1 i_30) → (6 - i_30).toNat < N30 → J l G MX8_copyFrom { frames := 1, cells := 0, slots := 0, locals := 60 } jE (jMQ G { frames := 1, cells := 0, slots := 0, locals := 60 } (fun rr h9 => ∃ ff9 : Int → Int, ∃ tf9 : Int → Int, ∃ lf9 : Nat → Option Nat, ∃ wa9 : Int → Int, ∃ wb9 : Int → Int, ∃ ca9 : Int → Int, ∃ cb9 : Int → Int, ∃ sa9 : Int → Int, ∃ sb9 : Int → Int, rr = none ∧ h9 = (nh, hc fh [(1, .inr (8, [.ref 2, .ref 3, .ref 4, .int (zI lc1), .int (zI fo1), .ref 11, .ref 12, .int (zI wc1), .ref 13, .ref 14, .int (zI cc1), .ref 15, .ref 16, .int (zI sc1)])), (2, .inl (0, 5, .inl (zA ff9))), (3, .inl (0, 2, .inl (zA tf9))), (4, .inl (5, 6, .inr (.inr (.inr (.inr lf9))))), (11, .inl (0, 8, .inl (zA wa9))), (12, .inl (0, 8, .inl (zA wb9))), (13, .inl (0, 6, .inl (zA ca9))), (14, .inl (0, 6, .inl (zA cb9))), (15, .inl (0, 12, .inl (zA sa9))), (16, .inl (0, 12, .inl (zA sb9)))]) ∧ (Cp5 ff9 ff1) ∧ (LwC lf9 lf1 6) ∧ (Rg tf9 2 (-2147483648) 2147483647) ∧ (Rg wa9 8 (-2147483648) 2147483647) ∧ (Rg wb9 8 (-2147483648) 2147483647) ∧ (Rg ca9 6 (-2147483648) 2147483647) ∧ (Rg ca9 cc1 0 (Hi ff1 - 1)) ∧ (Rg cb9 6 (-2147483648) 2147483647) ∧ (Rg sa9 12 0 6) ∧ (Rg sb9 12 0 6) ∧ (Rg ff9 5 (-2147483648) 2147483647) ∧ (EqN tf9 tf1 2) ∧ (EqN wa9 wa1 8) ∧ (EqN wb9 wb1 8) ∧ (EqN ca9 ca1 6) ∧ (EqN cb9 cb1 6) ∧ (EqN sa9 sa1 12) ∧ (EqN sb9 sb1 12))) (nh, hc fh [(4, .inl (5, 6, .inr (.inr (.inr (.inr g_30))))), (3, .inl (0, 2, .inl (zA f3))), (2, .inl (0, 5, .inl (zA f1)))]) 0 0 30 [some (.ref 1), some (.ref 18), some (.int (zI i_30))] [] := by
    intro N30
    induction N30 with
    | zero => intro i_30 g_30 i30_0 i30_1 i30_2 hm; exact absurd hm (Nat.not_lt_zero _)
    | succ N30 ih30 =>
      intro i_30 g_30 i30_0 i30_1 i30_2 hm30
      refine J_iload_n dX8_copyFrom_30 rfl rfl ?_
      refine Z_bipush (n := 6) dX8_copyFrom_31 (by decide +kernel) ?_
      refine Z_icmp_ge (tgt := 54) dX8_copyFrom_33 (by decide) (v_5fd3895a24 i30_0 i30_1) v_8f5ecbc95e (fun h5 => ?_) (fun h5 => ?_)
      · refine J_aload_n dX8_copyFrom_54 rfl rfl ?_
        refine J_aload_n dX8_copyFrom_55 rfl rfl ?_
        refine J_get (v := .int (zI lc1)) dX8_copyFrom_56 fl_X8_23 hk18 rfl ?_
        refine K_put (fs2 := [.ref 2, .ref 3, .ref 4, .int (zI lc1), .int (zI fo), .ref 11, .ref 12, .int (zI wc), .ref 13, .ref 14, .int (zI cc), .ref 15, .ref 16, .int (zI sc)]) dX8_copyFrom_59 fw_X8_23 hk1 (Nat.le_of_ble_eq_true rfl) (fun _ => ⟨rfl, rfl⟩) rfl ?_
        refine J_aload_n dX8_copyFrom_62 rfl rfl ?_
        refine J_aload_n dX8_copyFrom_63 rfl rfl ?_
        refine J_get (v := .int (zI fo1)) dX8_copyFrom_64 fl_X8_27 hk18 rfl ?_
        refine K_put (fs2 := [.ref 2, .ref 3, .ref 4, .int (zI lc1), .int (zI fo1), .ref 11, .ref 12, .int (zI wc), .ref 13, .ref 14, .int (zI cc), .ref 15, .ref 16, .int (zI sc)]) dX8_copyFrom_67 fw_X8_27 rfl (Nat.le_of_ble_eq_true rfl) (fun _ => ⟨rfl, rfl⟩) rfl ?_
        refine J_aload_n dX8_copyFrom_70 rfl rfl ?_
        refine J_get (v := .ref 28) dX8_copyFrom_71 fl_X8_30 hk18 rfl ?_
        refine Z_iconst (n := 0) dX8_copyFrom_74 ?_
        refine J_aload_n dX8_copyFrom_75 rfl rfl ?_
        refine J_get (v := .ref 11) dX8_copyFrom_76 fl_X8_30 rfl rfl ?_
        refine Z_iconst (n := 0) dX8_copyFrom_79 ?_
        refine Z_bipush (n := 8) dX8_copyFrom_80 (by decide +kernel) ?_
        refine Y_copy (n := 8) 8 8 dX8_copyFrom_82 (jt6 54 rfl rfl) (jt4 53 rfl rfl) (jt4 52 rfl rfl) (jt1 20 rfl rfl) hk28 hk11 rfl rfl v_09118c4f05 v_515d34f046 v_93241daa6a v_93241daa6a (Nat.le_of_ble_eq_true rfl) (Nat.le_of_ble_eq_true rfl) ?_
        obtain ⟨f6, ef6⟩ : ∃ F : Int → Int, cpyf wa1 wa 8 = F := ⟨_, rfl⟩
        rw [ef6]
        have h7 : Rg f6 8 (-2147483648) 2147483647 := by rw [← ef6]; exact cpy_Rg q12 v_93241daa6a
        refine J_aload_n dX8_copyFrom_85 rfl rfl ?_
        refine J_get (v := .ref 29) dX8_copyFrom_86 fl_X8_33 hk18 rfl ?_
        refine Z_iconst (n := 0) dX8_copyFrom_89 ?_
        refine J_aload_n dX8_copyFrom_90 rfl rfl ?_
        refine J_get (v := .ref 12) dX8_copyFrom_91 fl_X8_33 rfl rfl ?_
        refine Z_iconst (n := 0) dX8_copyFrom_94 ?_
        refine Z_bipush (n := 8) dX8_copyFrom_95 (by decide +kernel) ?_
        refine Y_copy (n := 8) 8 8 dX8_copyFrom_97 (jt6 54 rfl rfl) (jt4 53 rfl rfl) (jt4 52 rfl rfl) (jt1 20 rfl rfl) hk29 hk12 rfl rfl v_09118c4f05 v_515d34f046 v_93241daa6a v_93241daa6a (Nat.le_of_ble_eq_true rfl) (Nat.le_of_ble_eq_true rfl) ?_
        obtain ⟨f8, ef8⟩ : ∃ F : Int → Int, cpyf wb1 wb 8 = F := ⟨_, rfl⟩
        rw [ef8]
        have h9 : Rg f8 8 (-2147483648) 2147483647 := by rw [← ef8]; exact cpy_Rg q13 v_93241daa6a
        refine J_aload_n dX8_copyFrom_100 rfl rfl ?_
        refine J_aload_n dX8_copyFrom_101 rfl rfl ?_
        refine J_get (v := .int (zI wc1)) dX8_copyFrom_102 fl_X8_36 hk18 rfl ?_
        refine K_put (fs2 := [.ref 2, .ref 3, .ref 4, .int (zI lc1), .int (zI fo1), .ref 11, .ref 12, .int (zI wc1), .ref 13, .ref 14, .int (zI cc), .ref 15, .ref 16, .int (zI sc)]) dX8_copyFrom_105 fw_X8_36 rfl (Nat.le_of_ble_eq_true rfl) (fun _ => ⟨rfl, rfl⟩) rfl ?_
        refine J_aload_n dX8_copyFrom_108 rfl rfl ?_
        refine J_get (v := .ref 30) dX8_copyFrom_109 fl_X8_39 hk18 rfl ?_
        refine Z_iconst (n := 0) dX8_copyFrom_112 ?_
        refine J_aload_n dX8_copyFrom_113 rfl rfl ?_
        refine J_get (v := .ref 13) dX8_copyFrom_114 fl_X8_39 rfl rfl ?_
        refine Z_iconst (n := 0) dX8_copyFrom_117 ?_
        refine Z_bipush (n := 6) dX8_copyFrom_118 (by decide +kernel) ?_
        refine Y_copy (n := 6) 6 6 dX8_copyFrom_120 (jt6 54 rfl rfl) (jt4 53 rfl rfl) (jt4 52 rfl rfl) (jt1 20 rfl rfl) hk30 hk13 rfl rfl v_54997b3cd8 v_09a374015a v_7131faf931 v_7131faf931 (Nat.le_of_ble_eq_true rfl) (Nat.le_of_ble_eq_true rfl) ?_
        obtain ⟨f10, ef10⟩ : ∃ F : Int → Int, cpyf ca1 ca 6 = F := ⟨_, rfl⟩
        rw [ef10]
        have h11 : Rg f10 6 (-2147483648) 2147483647 := by rw [← ef10]; exact cpy_Rg q14 v_7131faf931
        have h12 : Rg f10 cc1 0 (Hi ff1 - 1) := by rw [← ef10]; exact cpy_Rg q15 (v_61f36a8678 q8)
        refine J_aload_n dX8_copyFrom_123 rfl rfl ?_
        refine J_get (v := .ref 31) dX8_copyFrom_124 fl_X8_42 hk18 rfl ?_
        refine Z_iconst (n := 0) dX8_copyFrom_127 ?_
        refine J_aload_n dX8_copyFrom_128 rfl rfl ?_
        refine J_get (v := .ref 14) dX8_copyFrom_129 fl_X8_42 rfl rfl ?_
        refine Z_iconst (n := 0) dX8_copyFrom_132 ?_
        refine Z_bipush (n := 6) dX8_copyFrom_133 (by decide +kernel) ?_
        refine Y_copy (n := 6) 6 6 dX8_copyFrom_135 (jt6 54 rfl rfl) (jt4 53 rfl rfl) (jt4 52 rfl rfl) (jt1 20 rfl rfl) hk31 hk14 rfl rfl v_54997b3cd8 v_09a374015a v_7131faf931 v_7131faf931 (Nat.le_of_ble_eq_true rfl) (Nat.le_of_ble_eq_true rfl) ?_
        obtain ⟨f13, ef13⟩ : ∃ F : Int → Int, cpyf cb1 cb 6 = F := ⟨_, rfl⟩
        rw [ef13]
        have h14 : Rg f13 6 (-2147483648) 2147483647 := by rw [← ef13]; exact cpy_Rg q16 v_7131faf931
        refine J_aload_n dX8_copyFrom_138 rfl rfl ?_
        refine J_aload_n dX8_copyFrom_139 rfl rfl ?_
        refine J_get (v := .int (zI cc1)) dX8_copyFrom_140 fl_X8_45 hk18 rfl ?_
        refine K_put (fs2 := [.ref 2, .ref 3, .ref 4, .int (zI lc1), .int (zI fo1), .ref 11, .ref 12, .int (zI wc1), .ref 13, .ref 14, .int (zI cc1), .ref 15, .ref 16, .int (zI sc)]) dX8_copyFrom_143 fw_X8_45 rfl (Nat.le_of_ble_eq_true rfl) (fun _ => ⟨rfl, rfl⟩) rfl ?_
        refine J_aload_n dX8_copyFrom_146 rfl rfl ?_
        refine J_get (v := .ref 32) dX8_copyFrom_147 fl_X8_48 hk18 rfl ?_
        refine Z_iconst (n := 0) dX8_copyFrom_150 ?_
        refine J_aload_n dX8_copyFrom_151 rfl rfl ?_
        refine J_get (v := .ref 15) dX8_copyFrom_152 fl_X8_48 rfl rfl ?_
        refine Z_iconst (n := 0) dX8_copyFrom_155 ?_
        refine Z_bipush (n := 12) dX8_copyFrom_156 (by decide +kernel) ?_
        refine Y_copy (n := 12) 12 12 dX8_copyFrom_158 (jt6 54 rfl rfl) (jt4 53 rfl rfl) (jt4 52 rfl rfl) (jt1 20 rfl rfl) hk32 hk15 rfl rfl v_cadf61df7b v_1afe2cdcbf v_d48dba0ba1 v_d48dba0ba1 (Nat.le_of_ble_eq_true rfl) (Nat.le_of_ble_eq_true rfl) ?_
        obtain ⟨f15, ef15⟩ : ∃ F : Int → Int, cpyf sa1 sa 12 = F := ⟨_, rfl⟩
        rw [ef15]
        have h16 : Rg f15 12 0 6 := by rw [← ef15]; exact cpy_Rg q17 v_d48dba0ba1
        refine J_aload_n dX8_copyFrom_161 rfl rfl ?_
        refine J_get (v := .ref 33) dX8_copyFrom_162 fl_X8_51 hk18 rfl ?_
        refine Z_iconst (n := 0) dX8_copyFrom_165 ?_
        refine J_aload_n dX8_copyFrom_166 rfl rfl ?_
        refine J_get (v := .ref 16) dX8_copyFrom_167 fl_X8_51 rfl rfl ?_
        refine Z_iconst (n := 0) dX8_copyFrom_170 ?_
        refine Z_bipush (n := 12) dX8_copyFrom_171 (by decide +kernel) ?_
        refine Y_copy (n := 12) 12 12 dX8_copyFrom_173 (jt6 54 rfl rfl) (jt4 53 rfl rfl) (jt4 52 rfl rfl) (jt1 20 rfl rfl) hk33 hk16 rfl rfl v_cadf61df7b v_1afe2cdcbf v_d48dba0ba1 v_d48dba0ba1 (Nat.le_of_ble_eq_true rfl) (Nat.le_of_ble_eq_true rfl) ?_
        obtain ⟨f17, ef17⟩ : ∃ F : Int → Int, cpyf sb1 sb 12 = F := ⟨_, rfl⟩
        rw [ef17]
        have h18 : Rg f17 12 0 6 := by rw [← ef17]; exact cpy_Rg q18 v_d48dba0ba1
        refine J_aload_n dX8_copyFrom_176 rfl rfl ?_
        refine J_aload_n dX8_copyFrom_177 rfl rfl ?_
        refine J_get (v := .int (zI sc1)) dX8_copyFrom_178 fl_X8_54 hk18 rfl ?_
        refine K_put (fs2 := [.ref 2, .ref 3, .ref 4, .int (zI lc1), .int (zI fo1), .ref 11, .ref 12, .int (zI wc1), .ref 13, .ref 14, .int (zI cc1), .ref 15, .ref 16, .int (zI sc1)]) dX8_copyFrom_181 fw_X8_54 rfl (Nat.le_of_ble_eq_true rfl) (fun _ => ⟨rfl, rfl⟩) rfl ?_
        refine J_mask (L2 := [(1, .inr (8, [.ref 2, .ref 3, .ref 4, .int (zI lc1), .int (zI fo1), .ref 11, .ref 12, .int (zI wc1), .ref 13, .ref 14, .int (zI cc1), .ref 15, .ref 16, .int (zI sc1)])), (16, .inl (0, 12, .inl (zA f17))), (15, .inl (0, 12, .inl (zA f15))), (14, .inl (0, 6, .inl (zA f13))), (13, .inl (0, 6, .inl (zA f10))), (12, .inl (0, 8, .inl (zA f8))), (11, .inl (0, 8, .inl (zA f6))), (4, .inl (5, 6, .inr (.inr (.inr (.inr g_30))))), (3, .inl (0, 2, .inl (zA f3))), (2, .inl (0, 5, .inl (zA f1)))]) (ks := [1, 16, 15, 1, 14, 13, 1, 12, 11, 1, 1, 4, 3, 2]) [true, true, true, false, true, true, false, true, true, false, false, true, true, true] rfl (by decide +kernel) rfl ?_
        refine J_touch (k := 16) (e := .inl (0, 12, .inl (zA f17))) rfl ?_
        refine J_touch (k := 15) (e := .inl (0, 12, .inl (zA f15))) rfl ?_
        refine J_touch (k := 14) (e := .inl (0, 6, .inl (zA f13))) rfl ?_
        refine J_touch (k := 13) (e := .inl (0, 6, .inl (zA f10))) rfl ?_
        refine J_touch (k := 12) (e := .inl (0, 8, .inl (zA f8))) rfl ?_
        refine J_touch (k := 11) (e := .inl (0, 8, .inl (zA f6))) rfl ?_
        refine J_touch (k := 4) (e := .inl (5, 6, .inr (.inr (.inr (.inr g_30))))) rfl ?_
        refine J_touch (k := 3) (e := .inl (0, 2, .inl (zA f3))) rfl ?_
        refine J_touch (k := 2) (e := .inl (0, 5, .inl (zA f1))) rfl ?_
        refine J_touch (k := 1) (e := .inr (8, [.ref 2, .ref 3, .ref 4, .int (zI lc1), .int (zI fo1), .ref 11, .ref 12, .int (zI wc1), .ref 13, .ref 14, .int (zI cc1), .ref 15, .ref 16, .int (zI sc1)])) rfl ?_
        refine J_mask (L2 := [(1, .inr (8, [.ref 2, .ref 3, .ref 4, .int (zI lc1), .int (zI fo1), .ref 11, .ref 12, .int (zI wc1), .ref 13, .ref 14, .int (zI cc1), .ref 15, .ref 16, .int (zI sc1)])), (2, .inl (0, 5, .inl (zA f1))), (3, .inl (0, 2, .inl (zA f3))), (4, .inl (5, 6, .inr (.inr (.inr (.inr g_30))))), (11, .inl (0, 8, .inl (zA f6))), (12, .inl (0, 8, .inl (zA f8))), (13, .inl (0, 6, .inl (zA f10))), (14, .inl (0, 6, .inl (zA f13))), (15, .inl (0, 12, .inl (zA f15))), (16, .inl (0, 12, .inl (zA f17)))]) (ks := [1, 2, 3, 4, 11, 12, 13, 14, 15, 16, 1, 16, 15, 14, 13, 12, 11, 4, 3, 2]) [true, true, true, true, true, true, true, true, true, true, false, false, false, false, false, false, false, false, false, false] rfl (by decide +kernel) rfl ?_
        exact J_vret dX8_copyFrom_184 rfl (Nat.le_of_ble_eq_true rfl) (Nat.le_of_ble_eq_true rfl) ⟨f1, f3, g_30, f6, f8, f10, f13, f15, f17, rfl, rfl, (fun j a b => by rw [← ef1]; exact cpy_at a b), (by have e : i_30 = 6 := (v_098d0f83dc i30_1 h5); rw [← e]; exact i30_2), h4, h7, h9, h11, h12, h14, h16, h18, h2, (fun j a b => by rw [← ef3]; exact cpy_at a b), (fun j a b => by rw [← ef6]; exact cpy_at a b), (fun j a b => by rw [← ef8]; exact cpy_at a b), (fun j a b => by rw [← ef10]; exact cpy_at a b), (fun j a b => by rw [← ef13]; exact cpy_at a b), (fun j a b => by rw [← ef15]; exact cpy_at a b), (fun j a b => by rw [← ef17]; exact cpy_at a b)⟩
      · refine J_aload_n dX8_copyFrom_36 rfl rfl ?_
        refine J_get (v := .ref 4) dX8_copyFrom_37 fl_X8_20 hk1 rfl ?_
        refine J_iload_n dX8_copyFrom_40 rfl rfl ?_
        refine J_aload_n dX8_copyFrom_41 rfl rfl ?_
        refine J_get (v := .ref 21) dX8_copyFrom_42 fl_X8_20 hk18 rfl ?_
        refine J_iload_n dX8_copyFrom_45 rfl rfl ?_
        obtain ⟨k19, k19a, k19b, k19n, k19f, k19c, k19d, k19e, k19g⟩ := q20 i_30.toNat (by omega)
        refine Y_aald 6 dX8_copyFrom_46 hk21 rfl (by decide) (v_2b02420001 i30_0) (v_abec2aeab4 h5) k19a ?_
        refine Y_aastA (i := i_30) 6 dX8_copyFrom_47 rfl rfl (by decide) (v_2b02420001 i30_0) (v_abec2aeab4 h5) (hcn (k19b 4 (by decide)) (hcn (k19b 3 (by decide)) (hcn (k19b 2 (by decide)) k19c))) ?_
        obtain ⟨f21, ef21⟩ : ∃ F : Nat → Option Nat, va_up g_30 i_30.toNat (some k19) = F := ⟨_, rfl⟩
        rw [ef21]
        refine Z_iinc (c := i_30 + 1) (ls2 := [some (.ref 1), some (.ref 18), some (.int (zI (i_30 + 1)))]) dX8_copyFrom_48 rfl (Nat.le_of_ble_eq_true rfl) rfl rfl rfl ?_
        refine J_goto (tgt := 30) dX8_copyFrom_51 (by decide) ?_
        refine J_mask (L2 := [(4, .inl (5, 6, .inr (.inr (.inr (.inr f21))))), (3, .inl (0, 2, .inl (zA f3))), (2, .inl (0, 5, .inl (zA f1)))]) (ks := [4, 4, 3, 2]) [true, false, true, true] rfl (by decide +kernel) rfl ?_
        exact ih30 (i_30 + 1) f21 (v_da458fa48a i30_0) (v_4abb881ee0 h5) (by rw [← ef21]; exact LwC.step i30_2 i30_0 k19a) (meas_lt v_dd0449391d (v_3fa36d366b h5) hm30)
  exact lp30 _ 0 lf v_939070ca3f v_54997b3cd8 (LwC_0) (Nat.lt_succ_self _)
set_option maxHeartbeats 4000000 in
set_option maxRecDepth 100000 in
theorem b_copyFrom_1_34 {l : Launch} {G : jG} {nh : Nat} {fh : Nat → Option va_E} (ff : Int → Int) (tf : Int → Int) (lf : Nat → Option Nat) (wa : Int → Int) (wb : Int → Int) (ca : Int → Int) (cb : Int → Int) (sa : Int → Int) (sb : Int → Int) (lc : Int) (fo : Int) (wc : Int) (cc : Int) (sc : Int) (ff2 : Int → Int) (tf2 : Int → Int) (lf2 : Nat → Option Nat) (wa2 : Int → Int) (wb2 : Int → Int) (ca2 : Int → Int) (cb2 : Int → Int) (sa2 : Int → Int) (sb2 : Int → Int) (lc2 : Int) (fo2 : Int) (wc2 : Int) (cc2 : Int) (sc2 : Int) (q0 : okF ff2) (q1 : 0 ≤ lc2) (q2 : lc2 ≤ 6) (q3 : -1 ≤ fo2) (q4 : fo2 < lc2) (q5 : 0 ≤ wc2) (q6 : wc2 ≤ 8) (q7 : 0 ≤ cc2) (q8 : cc2 ≤ 6) (q9 : 0 ≤ sc2) (q10 : sc2 ≤ 12) (q11 : Rg tf2 2 (-2147483648) 2147483647) (q12 : Rg wa2 8 (-2147483648) 2147483647) (q13 : Rg wb2 8 (-2147483648) 2147483647) (q14 : Rg ca2 6 (-2147483648) 2147483647) (q15 : Rg ca2 cc2 0 (Hi ff2 - 1)) (q16 : Rg cb2 6 (-2147483648) 2147483647) (q17 : Rg sa2 12 0 6) (q18 : Rg sb2 12 0 6) (q19 : Rg ff2 5 (-2147483648) 2147483647) (q20 : LawsIn fh lf2) (hk1 : fh 1 = some (.inr (8, [.ref 2, .ref 3, .ref 4, .int (zI lc), .int (zI fo), .ref 11, .ref 12, .int (zI wc), .ref 13, .ref 14, .int (zI cc), .ref 15, .ref 16, .int (zI sc)]))) (hk2 : fh 2 = some (.inl (0, 5, .inl (zA ff)))) (hk3 : fh 3 = some (.inl (0, 2, .inl (zA tf)))) (hk4 : fh 4 = some (.inl (5, 6, .inr (.inr (.inr (.inr lf)))))) (hk11 : fh 11 = some (.inl (0, 8, .inl (zA wa)))) (hk12 : fh 12 = some (.inl (0, 8, .inl (zA wb)))) (hk13 : fh 13 = some (.inl (0, 6, .inl (zA ca)))) (hk14 : fh 14 = some (.inl (0, 6, .inl (zA cb)))) (hk15 : fh 15 = some (.inl (0, 12, .inl (zA sa)))) (hk16 : fh 16 = some (.inl (0, 12, .inl (zA sb)))) (hk34 : fh 34 = some (.inr (8, [.ref 35, .ref 36, .ref 37, .int (zI lc2), .int (zI fo2), .ref 44, .ref 45, .int (zI wc2), .ref 46, .ref 47, .int (zI cc2), .ref 48, .ref 49, .int (zI sc2)]))) (hk35 : fh 35 = some (.inl (0, 5, .inl (zA ff2)))) (hk36 : fh 36 = some (.inl (0, 2, .inl (zA tf2)))) (hk37 : fh 37 = some (.inl (5, 6, .inr (.inr (.inr (.inr lf2)))))) (hk44 : fh 44 = some (.inl (0, 8, .inl (zA wa2)))) (hk45 : fh 45 = some (.inl (0, 8, .inl (zA wb2)))) (hk46 : fh 46 = some (.inl (0, 6, .inl (zA ca2)))) (hk47 : fh 47 = some (.inl (0, 6, .inl (zA cb2)))) (hk48 : fh 48 = some (.inl (0, 12, .inl (zA sa2)))) (hk49 : fh 49 = some (.inl (0, 12, .inl (zA sb2)))) : JM l G yX8_copyFrom MX8_copyFrom { frames := 1, cells := 0, slots := 0, locals := 60 } [.ref 1, .ref 34] (nh, fh) (fun rr h9 => ∃ ff9 : Int → Int, ∃ tf9 : Int → Int, ∃ lf9 : Nat → Option Nat, ∃ wa9 : Int → Int, ∃ wb9 : Int → Int, ∃ ca9 : Int → Int, ∃ cb9 : Int → Int, ∃ sa9 : Int → Int, ∃ sb9 : Int → Int, rr = none ∧ h9 = (nh, hc fh [(1, .inr (8, [.ref 2, .ref 3, .ref 4, .int (zI lc2), .int (zI fo2), .ref 11, .ref 12, .int (zI wc2), .ref 13, .ref 14, .int (zI cc2), .ref 15, .ref 16, .int (zI sc2)])), (2, .inl (0, 5, .inl (zA ff9))), (3, .inl (0, 2, .inl (zA tf9))), (4, .inl (5, 6, .inr (.inr (.inr (.inr lf9))))), (11, .inl (0, 8, .inl (zA wa9))), (12, .inl (0, 8, .inl (zA wb9))), (13, .inl (0, 6, .inl (zA ca9))), (14, .inl (0, 6, .inl (zA cb9))), (15, .inl (0, 12, .inl (zA sa9))), (16, .inl (0, 12, .inl (zA sb9)))]) ∧ (Cp5 ff9 ff2) ∧ (LwC lf9 lf2 6) ∧ (Rg tf9 2 (-2147483648) 2147483647) ∧ (Rg wa9 8 (-2147483648) 2147483647) ∧ (Rg wb9 8 (-2147483648) 2147483647) ∧ (Rg ca9 6 (-2147483648) 2147483647) ∧ (Rg ca9 cc2 0 (Hi ff2 - 1)) ∧ (Rg cb9 6 (-2147483648) 2147483647) ∧ (Rg sa9 12 0 6) ∧ (Rg sb9 12 0 6) ∧ (Rg ff9 5 (-2147483648) 2147483647) ∧ (EqN tf9 tf2 2) ∧ (EqN wa9 wa2 8) ∧ (EqN wb9 wb2 8) ∧ (EqN ca9 ca2 6) ∧ (EqN cb9 cb2 6) ∧ (EqN sa9 sa2 12) ∧ (EqN sb9 sb2 12)) := by
  refine JM.of (by decide) rfl (fun h => by cases h) (Nat.le_of_ble_eq_true rfl) ⟨1, rfl⟩ ?_
  refine J_hc0 (J_ls (ls2 := [some (.ref 1), some (.ref 34), none]) rfl ?_)
  refine J_aload_n dX8_copyFrom_0 rfl rfl ?_
  refine J_get (v := .ref 35) dX8_copyFrom_1 fl_X8_9 hk34 rfl ?_
  refine Z_iconst (n := 0) dX8_copyFrom_4 ?_
  refine J_aload_n dX8_copyFrom_5 rfl rfl ?_
  refine J_get (v := .ref 2) dX8_copyFrom_6 fl_X8_9 hk1 rfl ?_
  refine Z_iconst (n := 0) dX8_copyFrom_9 ?_
  refine Z_iconst (n := 5) dX8_copyFrom_10 ?_
  refine Y_copy (n := 5) 5 5 dX8_copyFrom_11 (jt6 54 rfl rfl) (jt4 53 rfl rfl) (jt4 52 rfl rfl) (jt1 20 rfl rfl) hk35 hk2 rfl rfl v_17fcbbe8da v_2ff7592577 v_b5d993ecaf v_b5d993ecaf (Nat.le_of_ble_eq_true rfl) (Nat.le_of_ble_eq_true rfl) ?_
  obtain ⟨f1, ef1⟩ : ∃ F : Int → Int, cpyf ff2 ff 5 = F := ⟨_, rfl⟩
  rw [ef1]
  have h2 : Rg f1 5 (-2147483648) 2147483647 := by rw [← ef1]; exact cpy_Rg q19 v_b5d993ecaf
  refine J_aload_n dX8_copyFrom_14 rfl rfl ?_
  refine J_get (v := .ref 36) dX8_copyFrom_15 fl_X8_15 hk34 rfl ?_
  refine Z_iconst (n := 0) dX8_copyFrom_18 ?_
  refine J_aload_n dX8_copyFrom_19 rfl rfl ?_
  refine J_get (v := .ref 3) dX8_copyFrom_20 fl_X8_15 hk1 rfl ?_
  refine Z_iconst (n := 0) dX8_copyFrom_23 ?_
  refine Z_iconst (n := 2) dX8_copyFrom_24 ?_
  refine Y_copy (n := 2) 2 2 dX8_copyFrom_25 (jt6 54 rfl rfl) (jt4 53 rfl rfl) (jt4 52 rfl rfl) (jt1 20 rfl rfl) hk36 hk3 rfl rfl v_06d31e7a75 v_8780a91439 v_3cd3e31367 v_3cd3e31367 (Nat.le_of_ble_eq_true rfl) (Nat.le_of_ble_eq_true rfl) ?_
  obtain ⟨f3, ef3⟩ : ∃ F : Int → Int, cpyf tf2 tf 2 = F := ⟨_, rfl⟩
  rw [ef3]
  have h4 : Rg f3 2 (-2147483648) 2147483647 := by rw [← ef3]; exact cpy_Rg q11 v_3cd3e31367
  refine Z_iconst (n := 0) dX8_copyFrom_28 ?_
  refine J_istore_n dX8_copyFrom_29 rfl (Nat.le_of_ble_eq_true rfl) rfl ?_
  refine J_ls (ls2 := [some (.ref 1), some (.ref 34), some (.int (zI 0))]) rfl ?_
  refine J_touch (k := 4) (e := .inl (5, 6, .inr (.inr (.inr (.inr lf))))) hk4 ?_
  have lp30 : ∀ (N30 : Nat) (i_30 : Int) (g_30 : Nat → Option Nat), (0 ≤ i_30) → (i_30 ≤ 6) → (LwC g_30 lf2 i_30) → (6 - i_30).toNat < N30 → J l G MX8_copyFrom { frames := 1, cells := 0, slots := 0, locals := 60 } jE (jMQ G { frames := 1, cells := 0, slots := 0, locals := 60 } (fun rr h9 => ∃ ff9 : Int → Int, ∃ tf9 : Int → Int, ∃ lf9 : Nat → Option Nat, ∃ wa9 : Int → Int, ∃ wb9 : Int → Int, ∃ ca9 : Int → Int, ∃ cb9 : Int → Int, ∃ sa9 : Int → Int, ∃ sb9 : Int → Int, rr = none ∧ h9 = (nh, hc fh [(1, .inr (8, [.ref 2, .ref 3, .ref 4, .int (zI lc2), .int (zI fo2), .ref 11, .ref 12, .int (zI wc2), .ref 13, .ref 14, .int (zI cc2), .ref 15, .ref 16, .int (zI sc2)])), (2, .inl (0, 5, .inl (zA ff9))), (3, .inl (0, 2, .inl (zA tf9))), (4, .inl (5, 6, .inr (.inr (.inr (.inr lf9))))), (11, .inl (0, 8, .inl (zA wa9))), (12, .inl (0, 8, .inl (zA wb9))), (13, .inl (0, 6, .inl (zA ca9))), (14, .inl (0, 6, .inl (zA cb9))), (15, .inl (0, 12, .inl (zA sa9))), (16, .inl (0, 12, .inl (zA sb9)))]) ∧ (Cp5 ff9 ff2) ∧ (LwC lf9 lf2 6) ∧ (Rg tf9 2 (-2147483648) 2147483647) ∧ (Rg wa9 8 (-2147483648) 2147483647) ∧ (Rg wb9 8 (-2147483648) 2147483647) ∧ (Rg ca9 6 (-2147483648) 2147483647) ∧ (Rg ca9 cc2 0 (Hi ff2 - 1)) ∧ (Rg cb9 6 (-2147483648) 2147483647) ∧ (Rg sa9 12 0 6) ∧ (Rg sb9 12 0 6) ∧ (Rg ff9 5 (-2147483648) 2147483647) ∧ (EqN tf9 tf2 2) ∧ (EqN wa9 wa2 8) ∧ (EqN wb9 wb2 8) ∧ (EqN ca9 ca2 6) ∧ (EqN cb9 cb2 6) ∧ (EqN sa9 sa2 12) ∧ (EqN sb9 sb2 12))) (nh, hc fh [(4, .inl (5, 6, .inr (.inr (.inr (.inr g_30))))), (3, .inl (0, 2, .inl (zA f3))), (2, .inl (0, 5, .inl (zA f1)))]) 0 0 30 [some (.ref 1), some (.ref 34), some (.int (zI i_30))] [] := by
    intro N30
    induction N30 with
    | zero => intro i_30 g_30 i30_0 i30_1 i30_2 hm; exact absurd hm (Nat.not_lt_zero _)
    | succ N30 ih30 =>
      intro i_30 g_30 i30_0 i30_1 i30_2 hm30
      refine J_iload_n dX8_copyFrom_30 rfl rfl ?_
      refine Z_bipush (n := 6) dX8_copyFrom_31 (by decide +kernel) ?_
      refine Z_icmp_ge (tgt := 54) dX8_copyFrom_33 (by decide) (v_5fd3895a24 i30_0 i30_1) v_8f5ecbc95e (fun h5 => ?_) (fun h5 => ?_)
      · refine J_aload_n dX8_copyFrom_54 rfl rfl ?_
        refine J_aload_n dX8_copyFrom_55 rfl rfl ?_
        refine J_get (v := .int (zI lc2)) dX8_copyFrom_56 fl_X8_23 hk34 rfl ?_
        refine K_put (fs2 := [.ref 2, .ref 3, .ref 4, .int (zI lc2), .int (zI fo), .ref 11, .ref 12, .int (zI wc), .ref 13, .ref 14, .int (zI cc), .ref 15, .ref 16, .int (zI sc)]) dX8_copyFrom_59 fw_X8_23 hk1 (Nat.le_of_ble_eq_true rfl) (fun _ => ⟨rfl, rfl⟩) rfl ?_
        refine J_aload_n dX8_copyFrom_62 rfl rfl ?_
        refine J_aload_n dX8_copyFrom_63 rfl rfl ?_
        refine J_get (v := .int (zI fo2)) dX8_copyFrom_64 fl_X8_27 hk34 rfl ?_
        refine K_put (fs2 := [.ref 2, .ref 3, .ref 4, .int (zI lc2), .int (zI fo2), .ref 11, .ref 12, .int (zI wc), .ref 13, .ref 14, .int (zI cc), .ref 15, .ref 16, .int (zI sc)]) dX8_copyFrom_67 fw_X8_27 rfl (Nat.le_of_ble_eq_true rfl) (fun _ => ⟨rfl, rfl⟩) rfl ?_
        refine J_aload_n dX8_copyFrom_70 rfl rfl ?_
        refine J_get (v := .ref 44) dX8_copyFrom_71 fl_X8_30 hk34 rfl ?_
        refine Z_iconst (n := 0) dX8_copyFrom_74 ?_
        refine J_aload_n dX8_copyFrom_75 rfl rfl ?_
        refine J_get (v := .ref 11) dX8_copyFrom_76 fl_X8_30 rfl rfl ?_
        refine Z_iconst (n := 0) dX8_copyFrom_79 ?_
        refine Z_bipush (n := 8) dX8_copyFrom_80 (by decide +kernel) ?_
        refine Y_copy (n := 8) 8 8 dX8_copyFrom_82 (jt6 54 rfl rfl) (jt4 53 rfl rfl) (jt4 52 rfl rfl) (jt1 20 rfl rfl) hk44 hk11 rfl rfl v_09118c4f05 v_515d34f046 v_93241daa6a v_93241daa6a (Nat.le_of_ble_eq_true rfl) (Nat.le_of_ble_eq_true rfl) ?_
        obtain ⟨f6, ef6⟩ : ∃ F : Int → Int, cpyf wa2 wa 8 = F := ⟨_, rfl⟩
        rw [ef6]
        have h7 : Rg f6 8 (-2147483648) 2147483647 := by rw [← ef6]; exact cpy_Rg q12 v_93241daa6a
        refine J_aload_n dX8_copyFrom_85 rfl rfl ?_
        refine J_get (v := .ref 45) dX8_copyFrom_86 fl_X8_33 hk34 rfl ?_
        refine Z_iconst (n := 0) dX8_copyFrom_89 ?_
        refine J_aload_n dX8_copyFrom_90 rfl rfl ?_
        refine J_get (v := .ref 12) dX8_copyFrom_91 fl_X8_33 rfl rfl ?_
        refine Z_iconst (n := 0) dX8_copyFrom_94 ?_
        refine Z_bipush (n := 8) dX8_copyFrom_95 (by decide +kernel) ?_
        refine Y_copy (n := 8) 8 8 dX8_copyFrom_97 (jt6 54 rfl rfl) (jt4 53 rfl rfl) (jt4 52 rfl rfl) (jt1 20 rfl rfl) hk45 hk12 rfl rfl v_09118c4f05 v_515d34f046 v_93241daa6a v_93241daa6a (Nat.le_of_ble_eq_true rfl) (Nat.le_of_ble_eq_true rfl) ?_
        obtain ⟨f8, ef8⟩ : ∃ F : Int → Int, cpyf wb2 wb 8 = F := ⟨_, rfl⟩
        rw [ef8]
        have h9 : Rg f8 8 (-2147483648) 2147483647 := by rw [← ef8]; exact cpy_Rg q13 v_93241daa6a
        refine J_aload_n dX8_copyFrom_100 rfl rfl ?_
        refine J_aload_n dX8_copyFrom_101 rfl rfl ?_
        refine J_get (v := .int (zI wc2)) dX8_copyFrom_102 fl_X8_36 hk34 rfl ?_
        refine K_put (fs2 := [.ref 2, .ref 3, .ref 4, .int (zI lc2), .int (zI fo2), .ref 11, .ref 12, .int (zI wc2), .ref 13, .ref 14, .int (zI cc), .ref 15, .ref 16, .int (zI sc)]) dX8_copyFrom_105 fw_X8_36 rfl (Nat.le_of_ble_eq_true rfl) (fun _ => ⟨rfl, rfl⟩) rfl ?_
        refine J_aload_n dX8_copyFrom_108 rfl rfl ?_
        refine J_get (v := .ref 46) dX8_copyFrom_109 fl_X8_39 hk34 rfl ?_
        refine Z_iconst (n := 0) dX8_copyFrom_112 ?_
        refine J_aload_n dX8_copyFrom_113 rfl rfl ?_
        refine J_get (v := .ref 13) dX8_copyFrom_114 fl_X8_39 rfl rfl ?_
        refine Z_iconst (n := 0) dX8_copyFrom_117 ?_
        refine Z_bipush (n := 6) dX8_copyFrom_118 (by decide +kernel) ?_
        refine Y_copy (n := 6) 6 6 dX8_copyFrom_120 (jt6 54 rfl rfl) (jt4 53 rfl rfl) (jt4 52 rfl rfl) (jt1 20 rfl rfl) hk46 hk13 rfl rfl v_54997b3cd8 v_09a374015a v_7131faf931 v_7131faf931 (Nat.le_of_ble_eq_true rfl) (Nat.le_of_ble_eq_true rfl) ?_
        obtain ⟨f10, ef10⟩ : ∃ F : Int → Int, cpyf ca2 ca 6 = F := ⟨_, rfl⟩
        rw [ef10]
        have h11 : Rg f10 6 (-2147483648) 2147483647 := by rw [← ef10]; exact cpy_Rg q14 v_7131faf931
        have h12 : Rg f10 cc2 0 (Hi ff2 - 1) := by rw [← ef10]; exact cpy_Rg q15 (v_61f36a8678 q8)
        refine J_aload_n dX8_copyFrom_123 rfl rfl ?_
        refine J_get (v := .ref 47) dX8_copyFrom_124 fl_X8_42 hk34 rfl ?_
        refine Z_iconst (n := 0) dX8_copyFrom_127 ?_
        refine J_aload_n dX8_copyFrom_128 rfl rfl ?_
        refine J_get (v := .ref 14) dX8_copyFrom_129 fl_X8_42 rfl rfl ?_
        refine Z_iconst (n := 0) dX8_copyFrom_132 ?_
        refine Z_bipush (n := 6) dX8_copyFrom_133 (by decide +kernel) ?_
        refine Y_copy (n := 6) 6 6 dX8_copyFrom_135 (jt6 54 rfl rfl) (jt4 53 rfl rfl) (jt4 52 rfl rfl) (jt1 20 rfl rfl) hk47 hk14 rfl rfl v_54997b3cd8 v_09a374015a v_7131faf931 v_7131faf931 (Nat.le_of_ble_eq_true rfl) (Nat.le_of_ble_eq_true rfl) ?_
        obtain ⟨f13, ef13⟩ : ∃ F : Int → Int, cpyf cb2 cb 6 = F := ⟨_, rfl⟩
        rw [ef13]
        have h14 : Rg f13 6 (-2147483648) 2147483647 := by rw [← ef13]; exact cpy_Rg q16 v_7131faf931
        refine J_aload_n dX8_copyFrom_138 rfl rfl ?_
        refine J_aload_n dX8_copyFrom_139 rfl rfl ?_
        refine J_get (v := .int (zI cc2)) dX8_copyFrom_140 fl_X8_45 hk34 rfl ?_
        refine K_put (fs2 := [.ref 2, .ref 3, .ref 4, .int (zI lc2), .int (zI fo2), .ref 11, .ref 12, .int (zI wc2), .ref 13, .ref 14, .int (zI cc2), .ref 15, .ref 16, .int (zI sc)]) dX8_copyFrom_143 fw_X8_45 rfl (Nat.le_of_ble_eq_true rfl) (fun _ => ⟨rfl, rfl⟩) rfl ?_
        refine J_aload_n dX8_copyFrom_146 rfl rfl ?_
        refine J_get (v := .ref 48) dX8_copyFrom_147 fl_X8_48 hk34 rfl ?_
        refine Z_iconst (n := 0) dX8_copyFrom_150 ?_
        refine J_aload_n dX8_copyFrom_151 rfl rfl ?_
        refine J_get (v := .ref 15) dX8_copyFrom_152 fl_X8_48 rfl rfl ?_
        refine Z_iconst (n := 0) dX8_copyFrom_155 ?_
        refine Z_bipush (n := 12) dX8_copyFrom_156 (by decide +kernel) ?_
        refine Y_copy (n := 12) 12 12 dX8_copyFrom_158 (jt6 54 rfl rfl) (jt4 53 rfl rfl) (jt4 52 rfl rfl) (jt1 20 rfl rfl) hk48 hk15 rfl rfl v_cadf61df7b v_1afe2cdcbf v_d48dba0ba1 v_d48dba0ba1 (Nat.le_of_ble_eq_true rfl) (Nat.le_of_ble_eq_true rfl) ?_
        obtain ⟨f15, ef15⟩ : ∃ F : Int → Int, cpyf sa2 sa 12 = F := ⟨_, rfl⟩
        rw [ef15]
        have h16 : Rg f15 12 0 6 := by rw [← ef15]; exact cpy_Rg q17 v_d48dba0ba1
        refine J_aload_n dX8_copyFrom_161 rfl rfl ?_
        refine J_get (v := .ref 49) dX8_copyFrom_162 fl_X8_51 hk34 rfl ?_
        refine Z_iconst (n := 0) dX8_copyFrom_165 ?_
        refine J_aload_n dX8_copyFrom_166 rfl rfl ?_
        refine J_get (v := .ref 16) dX8_copyFrom_167 fl_X8_51 rfl rfl ?_
        refine Z_iconst (n := 0) dX8_copyFrom_170 ?_
        refine Z_bipush (n := 12) dX8_copyFrom_171 (by decide +kernel) ?_
        refine Y_copy (n := 12) 12 12 dX8_copyFrom_173 (jt6 54 rfl rfl) (jt4 53 rfl rfl) (jt4 52 rfl rfl) (jt1 20 rfl rfl) hk49 hk16 rfl rfl v_cadf61df7b v_1afe2cdcbf v_d48dba0ba1 v_d48dba0ba1 (Nat.le_of_ble_eq_true rfl) (Nat.le_of_ble_eq_true rfl) ?_
        obtain ⟨f17, ef17⟩ : ∃ F : Int → Int, cpyf sb2 sb 12 = F := ⟨_, rfl⟩
        rw [ef17]
        have h18 : Rg f17 12 0 6 := by rw [← ef17]; exact cpy_Rg q18 v_d48dba0ba1
        refine J_aload_n dX8_copyFrom_176 rfl rfl ?_
        refine J_aload_n dX8_copyFrom_177 rfl rfl ?_
        refine J_get (v := .int (zI sc2)) dX8_copyFrom_178 fl_X8_54 hk34 rfl ?_
        refine K_put (fs2 := [.ref 2, .ref 3, .ref 4, .int (zI lc2), .int (zI fo2), .ref 11, .ref 12, .int (zI wc2), .ref 13, .ref 14, .int (zI cc2), .ref 15, .ref 16, .int (zI sc2)]) dX8_copyFrom_181 fw_X8_54 rfl (Nat.le_of_ble_eq_true rfl) (fun _ => ⟨rfl, rfl⟩) rfl ?_
        refine J_mask (L2 := [(1, .inr (8, [.ref 2, .ref 3, .ref 4, .int (zI lc2), .int (zI fo2), .ref 11, .ref 12, .int (zI wc2), .ref 13, .ref 14, .int (zI cc2), .ref 15, .ref 16, .int (zI sc2)])), (16, .inl (0, 12, .inl (zA f17))), (15, .inl (0, 12, .inl (zA f15))), (14, .inl (0, 6, .inl (zA f13))), (13, .inl (0, 6, .inl (zA f10))), (12, .inl (0, 8, .inl (zA f8))), (11, .inl (0, 8, .inl (zA f6))), (4, .inl (5, 6, .inr (.inr (.inr (.inr g_30))))), (3, .inl (0, 2, .inl (zA f3))), (2, .inl (0, 5, .inl (zA f1)))]) (ks := [1, 16, 15, 1, 14, 13, 1, 12, 11, 1, 1, 4, 3, 2]) [true, true, true, false, true, true, false, true, true, false, false, true, true, true] rfl (by decide +kernel) rfl ?_
        refine J_touch (k := 16) (e := .inl (0, 12, .inl (zA f17))) rfl ?_
        refine J_touch (k := 15) (e := .inl (0, 12, .inl (zA f15))) rfl ?_
        refine J_touch (k := 14) (e := .inl (0, 6, .inl (zA f13))) rfl ?_
        refine J_touch (k := 13) (e := .inl (0, 6, .inl (zA f10))) rfl ?_
        refine J_touch (k := 12) (e := .inl (0, 8, .inl (zA f8))) rfl ?_
        refine J_touch (k := 11) (e := .inl (0, 8, .inl (zA f6))) rfl ?_
        refine J_touch (k := 4) (e := .inl (5, 6, .inr (.inr (.inr (.inr g_30))))) rfl ?_
        refine J_touch (k := 3) (e := .inl (0, 2, .inl (zA f3))) rfl ?_
        refine J_touch (k := 2) (e := .inl (0, 5, .inl (zA f1))) rfl ?_
        refine J_touch (k := 1) (e := .inr (8, [.ref 2, .ref 3, .ref 4, .int (zI lc2), .int (zI fo2), .ref 11, .ref 12, .int (zI wc2), .ref 13, .ref 14, .int (zI cc2), .ref 15, .ref 16, .int (zI sc2)])) rfl ?_
        refine J_mask (L2 := [(1, .inr (8, [.ref 2, .ref 3, .ref 4, .int (zI lc2), .int (zI fo2), .ref 11, .ref 12, .int (zI wc2), .ref 13, .ref 14, .int (zI cc2), .ref 15, .ref 16, .int (zI sc2)])), (2, .inl (0, 5, .inl (zA f1))), (3, .inl (0, 2, .inl (zA f3))), (4, .inl (5, 6, .inr (.inr (.inr (.inr g_30))))), (11, .inl (0, 8, .inl (zA f6))), (12, .inl (0, 8, .inl (zA f8))), (13, .inl (0, 6, .inl (zA f10))), (14, .inl (0, 6, .inl (zA f13))), (15, .inl (0, 12, .inl (zA f15))), (16, .inl (0, 12, .inl (zA f17)))]) (ks := [1, 2, 3, 4, 11, 12, 13, 14, 15, 16, 1, 16, 15, 14, 13, 12, 11, 4, 3, 2]) [true, true, true, true, true, true, true, true, true, true, false, false, false, false, false, false, false, false, false, false] rfl (by decide +kernel) rfl ?_
        exact J_vret dX8_copyFrom_184 rfl (Nat.le_of_ble_eq_true rfl) (Nat.le_of_ble_eq_true rfl) ⟨f1, f3, g_30, f6, f8, f10, f13, f15, f17, rfl, rfl, (fun j a b => by rw [← ef1]; exact cpy_at a b), (by have e : i_30 = 6 := (v_098d0f83dc i30_1 h5); rw [← e]; exact i30_2), h4, h7, h9, h11, h12, h14, h16, h18, h2, (fun j a b => by rw [← ef3]; exact cpy_at a b), (fun j a b => by rw [← ef6]; exact cpy_at a b), (fun j a b => by rw [← ef8]; exact cpy_at a b), (fun j a b => by rw [← ef10]; exact cpy_at a b), (fun j a b => by rw [← ef13]; exact cpy_at a b), (fun j a b => by rw [← ef15]; exact cpy_at a b), (fun j a b => by rw [← ef17]; exact cpy_at a b)⟩
      · refine J_aload_n dX8_copyFrom_36 rfl rfl ?_
        refine J_get (v := .ref 4) dX8_copyFrom_37 fl_X8_20 hk1 rfl ?_
        refine J_iload_n dX8_copyFrom_40 rfl rfl ?_
        refine J_aload_n dX8_copyFrom_41 rfl rfl ?_
        refine J_get (v := .ref 37) dX8_copyFrom_42 fl_X8_20 hk34 rfl ?_
        refine J_iload_n dX8_copyFrom_45 rfl rfl ?_
        obtain ⟨k19, k19a, k19b, k19n, k19f, k19c, k19d, k19e, k19g⟩ := q20 i_30.toNat (by omega)
        refine Y_aald 6 dX8_copyFrom_46 hk37 rfl (by decide) (v_2b02420001 i30_0) (v_abec2aeab4 h5) k19a ?_
        refine Y_aastA (i := i_30) 6 dX8_copyFrom_47 rfl rfl (by decide) (v_2b02420001 i30_0) (v_abec2aeab4 h5) (hcn (k19b 4 (by decide)) (hcn (k19b 3 (by decide)) (hcn (k19b 2 (by decide)) k19c))) ?_
        obtain ⟨f21, ef21⟩ : ∃ F : Nat → Option Nat, va_up g_30 i_30.toNat (some k19) = F := ⟨_, rfl⟩
        rw [ef21]
        refine Z_iinc (c := i_30 + 1) (ls2 := [some (.ref 1), some (.ref 34), some (.int (zI (i_30 + 1)))]) dX8_copyFrom_48 rfl (Nat.le_of_ble_eq_true rfl) rfl rfl rfl ?_
        refine J_goto (tgt := 30) dX8_copyFrom_51 (by decide) ?_
        refine J_mask (L2 := [(4, .inl (5, 6, .inr (.inr (.inr (.inr f21))))), (3, .inl (0, 2, .inl (zA f3))), (2, .inl (0, 5, .inl (zA f1)))]) (ks := [4, 4, 3, 2]) [true, false, true, true] rfl (by decide +kernel) rfl ?_
        exact ih30 (i_30 + 1) f21 (v_da458fa48a i30_0) (v_4abb881ee0 h5) (by rw [← ef21]; exact LwC.step i30_2 i30_0 k19a) (meas_lt v_dd0449391d (v_3fa36d366b h5) hm30)
  exact lp30 _ 0 lf v_939070ca3f v_54997b3cd8 (LwC_0) (Nat.lt_succ_self _)
