
def wdf : Nat → Int32 := (upd (upd (upd (upd (upd (upd (upd (upd (upd (upd (upd (upd (upd (upd (upd (upd (upd (upd (upd (upd (upd (upd (upd (upd (upd (upd (upd (upd (upd (upd (upd (upd (upd (upd (upd (upd (upd (upd (upd (upd (upd (upd (upd (upd (upd (upd (upd (upd (upd (upd (upd (upd (upd (upd (upd (upd (upd (upd (upd (upd (upd (upd (upd (upd (upd (upd (upd (upd (upd (upd (upd (upd (upd (fun _ => 0) 0 116) 1 97) 2 107) 3 101) 4 115) 5 32) 6 108) 7 101) 8 116) 9 115) 10 32) 11 98) 12 97) 13 114) 14 115) 15 32) 16 105) 17 102) 18 32) 19 111) 20 114) 21 32) 22 97) 23 110) 24 100) 25 32) 26 110) 27 111) 28 116) 29 32) 30 108) 31 101) 32 102) 33 116) 34 32) 35 114) 36 105) 37 103) 38 104) 39 116) 40 32) 41 111) 42 110) 43 101) 44 32) 45 111) 46 116) 47 104) 48 101) 49 114) 50 32) 51 97) 52 112) 53 97) 54 114) 55 116) 56 32) 57 102) 58 105) 59 114) 60 115) 61 116) 62 32) 63 98) 64 101) 65 97) 66 110) 67 115) 68 32) 69 100) 70 97) 71 121) 72 32)
def wd0 : Int → Int := fun j => (wdf j.toNat).toInt
theorem wd0_z : wdf = zA wd0 := by
  funext j
  show wdf j = zI (wdf ((j : Int).toNat)).toInt
  rw [Int.toNat_natCast]
  exact (Int32.ofInt_toInt _).symm
set_option maxRecDepth 100000 in
theorem wd0_rg : Rg wd0 73 (-128) 127 := fun j a b => by
  have w : ∀ k : Fin 73, -128 ≤ (wdf k.val).toInt ∧ (wdf k.val).toInt ≤ 127 := by decide +kernel
  exact w ⟨j.toNat, by omega⟩
set_option maxRecDepth 100000 in
theorem wd0_72 : wd0 72 = 32 := by decide +kernel
def K00 : Int → Int := up (fun _ => 0) 63 (-1)
theorem K00_ne {j : Int} (h : ¬ j = 63) : K00 j = 0 := up_ne h
theorem K00_ok : KOK K00 := by
  have b : bsum K00 = 0 := by unfold bsum; rw [K00_ne (by decide), K00_ne (by decide), K00_ne (by decide), K00_ne (by decide), K00_ne (by decide)]; rfl
  refine ⟨⟨by rw [K00_ne (by decide)]; decide, by rw [K00_ne (by decide)]; decide, by rw [K00_ne (by decide)]; decide, by rw [K00_ne (by decide)]; decide, by rw [K00_ne (by decide)]; decide, by rw [b]; decide⟩, by rw [K00_ne (by decide)]; decide, by rw [K00_ne (by decide)]; decide, ?_, by rw [K00_ne (by decide)]; decide, ?_, by rw [K00_ne (by decide)]; decide, ?_, ?_, ?_⟩
  · intro k a c
    rw [K00_ne (by decide)] at c
    omega
  · intro k a c
    rw [K00_ne (by decide)] at c
    omega
  · rw [K00_ne (j := 62) (by decide), show K00 63 = -1 from up_same _ _ _]
    decide
  · exact Rg.ups (Rg.const (by decide) (by decide)) rfl (by decide) (by decide)
  · intro t a c
    rw [K00_ne (by decide)] at c
    omega
def z00 : Int → Int := fun _ => 0
theorem z00_Hi : Hi z00 = 1 := by
  have : Hn z00 = 1 := by decide +kernel
  unfold Hi
  rw [this]
  rfl
theorem z00_ok : okF z00 := ⟨by decide, by decide, by decide, by decide, by decide, by decide⟩
def aa0 : jAA := (K00, fun _ => 0, fun _ => 0, fun _ => 0, fun _ => 0)
theorem SC_z {S : Int → Int} (h : ∀ j, 0 ≤ j → j < 62 → S j = 0) : SC (fun _ => 0) (fun _ => 0) (fun _ => 0) (fun _ => 0) (fun _ => 0) (fun _ => 0) (fun _ => 0) (fun _ => 0) 0 0 0 S :=
  ⟨fun j a b => (h j a (by omega)).symm, fun j a b => (h (5 + j) (by omega) (by omega)).symm, ⟨fun j a b => (h (2 * j + 23) (by omega) (by omega)).symm, fun j a b => (h (2 * j + 24) (by omega) (by omega)).symm, (h 60 (by decide) (by decide)).symm⟩, ⟨fun j a b => (h (2 * j + 47) (by omega) (by omega)).symm, fun j a b => (h (2 * j + 48) (by omega) (by omega)).symm, (h 61 (by decide) (by decide)).symm⟩, WS_0 (h 59 (by decide) (by decide))⟩
theorem rf0_ok {n : Int} (hn : n ≤ 1) : RowsTo (up (fun _ => 0) 0 0) z00 n := fun j a b => by
  have e : j = 0 := by omega
  subst e
  rfl
set_option maxRecDepth 100000 in
theorem lwA_in : LawsIn H0 (fun i => if i < 6 then some (4 + 1 + i) else none) := fun i hi => by
  match i, hi with
  | 0, _ => exact ⟨5, rfl, (by unfold Fx; decide), 0, fun _ => 0, H0_5, by decide, by decide, Rg.nil (by decide)⟩
  | 1, _ => exact ⟨6, rfl, (by unfold Fx; decide), 0, fun _ => 0, H0_6, by decide, by decide, Rg.nil (by decide)⟩
  | 2, _ => exact ⟨7, rfl, (by unfold Fx; decide), 0, fun _ => 0, H0_7, by decide, by decide, Rg.nil (by decide)⟩
  | 3, _ => exact ⟨8, rfl, (by unfold Fx; decide), 0, fun _ => 0, H0_8, by decide, by decide, Rg.nil (by decide)⟩
  | 4, _ => exact ⟨9, rfl, (by unfold Fx; decide), 0, fun _ => 0, H0_9, by decide, by decide, Rg.nil (by decide)⟩
  | 5, _ => exact ⟨10, rfl, (by unfold Fx; decide), 0, fun _ => 0, H0_10, by decide, by decide, Rg.nil (by decide)⟩
  | i + 6, hi => exact absurd hi (by omega)
theorem lwA_x : LawsX (fun i => if i < 6 then some (4 + 1 + i) else none) 135 63 76 77 84 94 95 := fun i hi r e => by
  have e2 : some (4 + 1 + i) = some r := by rw [← e]; exact (if_pos hi).symm
  cases e2
  omega
set_option maxRecDepth 100000 in
theorem lwB_in : LawsIn H0 (fun i => if i < 6 then some (21 + 1 + i) else none) := fun i hi => by
  match i, hi with
  | 0, _ => exact ⟨22, rfl, (by unfold Fx; decide), 0, fun _ => 0, H0_22, by decide, by decide, Rg.nil (by decide)⟩
  | 1, _ => exact ⟨23, rfl, (by unfold Fx; decide), 0, fun _ => 0, H0_23, by decide, by decide, Rg.nil (by decide)⟩
  | 2, _ => exact ⟨24, rfl, (by unfold Fx; decide), 0, fun _ => 0, H0_24, by decide, by decide, Rg.nil (by decide)⟩
  | 3, _ => exact ⟨25, rfl, (by unfold Fx; decide), 0, fun _ => 0, H0_25, by decide, by decide, Rg.nil (by decide)⟩
  | 4, _ => exact ⟨26, rfl, (by unfold Fx; decide), 0, fun _ => 0, H0_26, by decide, by decide, Rg.nil (by decide)⟩
  | 5, _ => exact ⟨27, rfl, (by unfold Fx; decide), 0, fun _ => 0, H0_27, by decide, by decide, Rg.nil (by decide)⟩
  | i + 6, hi => exact absurd hi (by omega)
theorem lwB_x : LawsX (fun i => if i < 6 then some (21 + 1 + i) else none) 135 63 76 77 84 94 95 := fun i hi r e => by
  have e2 : some (21 + 1 + i) = some r := by rw [← e]; exact (if_pos hi).symm
  cases e2
  omega
set_option maxRecDepth 100000 in
theorem lwC_in : LawsIn H0 (fun i => if i < 6 then some (37 + 1 + i) else none) := fun i hi => by
  match i, hi with
  | 0, _ => exact ⟨38, rfl, (by unfold Fx; decide), 0, fun _ => 0, H0_38, by decide, by decide, Rg.nil (by decide)⟩
  | 1, _ => exact ⟨39, rfl, (by unfold Fx; decide), 0, fun _ => 0, H0_39, by decide, by decide, Rg.nil (by decide)⟩
  | 2, _ => exact ⟨40, rfl, (by unfold Fx; decide), 0, fun _ => 0, H0_40, by decide, by decide, Rg.nil (by decide)⟩
  | 3, _ => exact ⟨41, rfl, (by unfold Fx; decide), 0, fun _ => 0, H0_41, by decide, by decide, Rg.nil (by decide)⟩
  | 4, _ => exact ⟨42, rfl, (by unfold Fx; decide), 0, fun _ => 0, H0_42, by decide, by decide, Rg.nil (by decide)⟩
  | 5, _ => exact ⟨43, rfl, (by unfold Fx; decide), 0, fun _ => 0, H0_43, by decide, by decide, Rg.nil (by decide)⟩
  | i + 6, hi => exact absurd hi (by omega)
theorem lwC_x : LawsX (fun i => if i < 6 then some (37 + 1 + i) else none) 135 63 76 77 84 94 95 := fun i hi r e => by
  have e2 : some (37 + 1 + i) = some r := by rw [← e]; exact (if_pos hi).symm
  cases e2
  omega
set_option maxHeartbeats 4000000 in
set_option maxRecDepth 100000 in
theorem MI_0 : MI H0 0 aa0 := fun _ kk => kk 0 0 0 ((-1)) 0 0 0 0 0 0 0 0 0 0 0 ((-1)) ((-1)) 0 0 0 ((fun _ => 0)) K00 ((fun _ => 0)) ((fun _ => 0)) wd0 ((fun _ => 0)) ((fun _ => 0)) ((fun _ => 0)) ((fun _ => 0)) ((fun _ => 0)) ((fun _ => 0)) ((fun _ => 0)) ((fun _ => 0)) ((fun _ => 0)) ((fun _ => 0)) ((fun _ => 0)) ((fun _ => 0)) ((fun _ => 0)) ((fun _ => 0)) ((fun _ => 0)) ((fun _ => 0)) ((fun _ => 0)) ((fun _ => 0)) ((fun _ => 0)) ((fun _ => 0)) ((fun _ => 0)) ((fun _ => 0)) ((fun _ => 0)) ((fun _ => 0)) ((fun _ => 0)) ((fun _ => 0)) ((fun _ => 0)) ((fun _ => 0)) ((fun _ => 0)) ((fun _ => 0)) ((fun _ => 0)) ⟨(by exact H0_98), (by exact H0_99), (by rw [H0_100]; have k : upd (fun _ => 0) 63 (-1) = zA (up (fun _ => 0) 63 (-1)) := (by exact zA_upd (F := fun _ => 0) (i := 63) (v := (-1)) (by decide)); exact congrArg (fun f => some (Sum.inl (0, 4870, Sum.inl f))) k), (by exact H0_101), (by exact H0_102), (by rw [H0_103]; exact congrArg some (congrArg Sum.inl (congrArg (fun f => (3, 73, Sum.inl f)) wd0_z))), (by exact H0_104), (by exact H0_105)⟩ ⟨(by exact H0_106), (by exact H0_107), (by exact H0_108), (by exact H0_109), (by exact H0_110), (by exact H0_111)⟩ ⟨(by exact H0_112), (by exact H0_113), (by exact H0_114), (by exact H0_115), (by exact H0_116), (by exact H0_117)⟩ ⟨(by exact H0_118), (by exact H0_119), (by exact H0_120), (by exact H0_121), (by exact H0_122), (by exact H0_123), (by exact H0_124), (by exact H0_125), (by exact H0_126)⟩ ⟨(by exact H0_127), (by exact H0_128), (by exact H0_129), (by exact H0_130), (by exact H0_131), (by exact H0_132), (by exact H0_133), (by exact H0_134)⟩ ⟨K00_ok, (Rg.const (by decide) (by decide)), (by decide), (fun w => absurd w (by decide)), (by decide), (fun w => absurd w (by decide)), (by decide), (by decide)⟩ ⟨(by decide), (by decide), (Rg.const (by decide) (by decide)), (Rg.const (by decide) (by decide)), (Rg.const (by decide) (by decide)), (Rg.const (by decide) (by decide)), (Rg.const (by decide) (by decide)), (Rg.const (by decide) (by decide)), (by decide), (by decide)⟩ ⟨(Rg.const (by decide) (by decide)), wd0_rg, wd0_72, (Rg.const (by decide) (by decide)), (Rg.const (by decide) (by decide)), (Rg.const (by decide) (by decide)), (by decide), (by decide), (fun k a b w => absurd rfl w), (Rg.const (by decide) (by decide)), (by decide), (by decide), (by decide), EqN.rf, (fun _ _ _ => rfl), (fun _ _ _ => rfl), (fun _ _ _ => ⟨rfl, Int.le_refl 0, (show (0 : Int) ≤ 255 by decide)⟩), ⟨rfl, rfl, rfl⟩⟩
set_option maxHeartbeats 4000000 in
set_option maxRecDepth 100000 in
theorem CI_0 : CI H0 135 0 0 aa0 := fun _ kk => kk 63 73 74 76 77 84 94 95 0 ((-1)) 0 0 ((-1)) 0 0 0 0 ((-1)) 0 0 0 0 ((-1)) 0 0 0 1 0 0 17 0 0 0 0 ((-1)) 0 0 1 1 0 0 0 0 0 1 0 0 ((-1)) ((-1)) 0 ((-1)) ((-1)) 0 0 0 0 ((-1)) 0 0 ((-1)) ((-1)) ((-1)) ((-1)) 0 0 0 ((fun _ => 0)) z00 ((fun _ => 0)) ((fun _ => 0)) ((fun _ => 0)) ((fun _ => 0)) ((fun _ => 0)) ((fun _ => 0)) ((fun _ => 0)) z00 ((fun _ => 0)) ((fun _ => 0)) ((fun _ => 0)) ((fun _ => 0)) ((fun _ => 0)) ((fun _ => 0)) ((fun _ => 0)) z00 ((fun _ => 0)) ((fun _ => 0)) ((fun _ => 0)) ((fun _ => 0)) ((fun _ => 0)) ((fun _ => 0)) ((fun _ => 0)) ((fun _ => 0)) ((up (fun _ => 0) 0 0)) ((fun _ => 0)) ((fun _ => 0)) ((fun _ => 0)) ((fun _ => 0)) ((fun _ => 0)) ((fun _ => 0)) ((fun _ => 0)) ((fun _ => 0)) ((fun _ => 0)) ((fun _ => 0)) ((fun _ => 0)) ((fun _ => 0)) ((fun _ => 0)) ((fun _ => 0)) ((fun _ => 0)) ((fun _ => 0)) ((fun _ => 0)) ((fun _ => 0)) ((fun _ => 0)) ((fun _ => 0)) ((fun _ => 0)) ((fun _ => 0)) ((fun _ => 0)) ((fun _ => 0)) ((fun _ => 0)) ((fun _ => 0)) ((fun _ => 0)) ((fun _ => 0)) ((fun _ => 0)) ((fun _ => 0)) ((fun _ => 0)) ((fun _ => 0)) ((fun _ => 0)) ((fun _ => 0)) ((fun _ => 0)) ((fun i => if i < 6 then some (4 + 1 + i) else none)) ((fun i => if i < 6 then some (21 + 1 + i) else none)) ((fun i => if i < 6 then some (37 + 1 + i) else none)) ⟨(by exact H0_0), (by decide), (by decide)⟩ (by exact H0_96) ⟨(by exact H0_1), (by exact H0_2), (by exact H0_3), (by exact H0_4), (by exact H0_11), (by exact H0_12), (by exact H0_13), (by exact H0_14), (by exact H0_15), (by exact H0_16), z00_ok, (by decide), (by decide), (by decide), (by decide), (by decide), (by decide), (by decide), (by decide), (by decide), (by decide), (Rg.const (by decide) (by decide)), (Rg.const (by decide) (by decide)), (Rg.const (by decide) (by decide)), (Rg.const (by decide) (by decide)), (Rg.nil (by decide)), (Rg.const (by decide) (by decide)), (Rg.const (by decide) (by decide)), (Rg.const (by decide) (by decide)), (Rg.const (by decide) (by decide)), lwA_in⟩ ⟨(by exact H0_18), (by exact H0_19), (by exact H0_20), (by exact H0_21), (by exact H0_28), (by exact H0_29), (by exact H0_30), (by exact H0_31), (by exact H0_32), (by exact H0_33), z00_ok, (by decide), (by decide), (by decide), (by decide), (by decide), (by decide), (by decide), (by decide), (by decide), (by decide), (Rg.const (by decide) (by decide)), (Rg.const (by decide) (by decide)), (Rg.const (by decide) (by decide)), (Rg.const (by decide) (by decide)), (Rg.nil (by decide)), (Rg.const (by decide) (by decide)), (Rg.const (by decide) (by decide)), (Rg.const (by decide) (by decide)), (Rg.const (by decide) (by decide)), lwB_in⟩ ⟨(by exact H0_34), (by exact H0_35), (by exact H0_36), (by exact H0_37), (by exact H0_44), (by exact H0_45), (by exact H0_46), (by exact H0_47), (by exact H0_48), (by exact H0_49), z00_ok, (by decide), (by decide), (by decide), (by decide), (by decide), (by decide), (by decide), (by decide), (by decide), (by decide), (Rg.const (by decide) (by decide)), (Rg.const (by decide) (by decide)), (Rg.const (by decide) (by decide)), (Rg.const (by decide) (by decide)), (Rg.nil (by decide)), (Rg.const (by decide) (by decide)), (Rg.const (by decide) (by decide)), (Rg.const (by decide) (by decide)), (Rg.const (by decide) (by decide)), lwC_in⟩ ⟨(by exact H0_17), (by exact H0_50), (Rg.const (by decide) (by decide))⟩ ⟨(by exact H0_51), (by rw [H0_52]; have k : upd (fun _ => 0) 0 0 = zA (up (fun _ => 0) 0 0) := (by exact zA_upd (F := fun _ => 0) (i := 0) (v := 0) (by decide)); exact congrArg (fun f => some (Sum.inl (0, 1260, Sum.inl f))) k), (by exact H0_53), (by decide), (by decide), (by decide), (by decide), z00_Hi.symm, (by decide), rf0_ok (by decide), (Rg.ups (Rg.const (by decide) (by decide)) rfl (by decide) (by decide)), (Rg.const (by decide) (by decide))⟩ ⟨(by exact H0_54), (by exact H0_55), (by exact H0_56), (by decide), (by decide), (by decide), (by decide), (by decide), (by decide), (Rg.const (by decide) (by decide)), (Rg.const (by decide) (by decide))⟩ ⟨(by exact H0_57), (by exact H0_58), (by exact H0_59), (by exact H0_60), (by exact H0_61), (by exact H0_62), (by exact H0_63), (by exact H0_64), (by unfold Fx; decide), (by show (_ : Nat) < _; decide), (by show (_ : Nat) ≤ _; decide), (by decide), (by decide), (by decide), (by decide), (by decide), (by decide), (Rg.const (by decide) (by decide)), (by decide), (by decide), (Rg.const (by decide) (by decide)), (Rg.const (by decide) (by decide)), (fun w => absurd w (by decide)), (by decide), (by decide), (by decide), (by decide), (by decide), (by decide), (by decide), (by decide), (by decide), (by decide), (by decide), (by decide)⟩ ⟨(by exact H0_65), (by exact H0_66), (by exact H0_67), (by exact H0_68), (by exact H0_69), (by exact H0_70), (by exact H0_71), (by exact H0_72), (by exact H0_73), (by exact H0_74), (Rg.const (by decide) (by decide)), (by decide), (by decide), (by decide), (fun w => absurd w (by decide)), (Rg.const (by decide) (by decide)), (Rg.const (by decide) (by decide)), (by decide), (by decide), (Or.inl ⟨rfl, rfl⟩)⟩ ⟨(by exact H0_75), (by exact H0_76), (by exact H0_77), (by exact H0_78), (by exact H0_79), (by exact H0_80), (by unfold Fx; decide), (by unfold Fx; decide), (by show (_ : Nat) < _; decide), (by show (_ : Nat) < _; decide), (by show (_ : Nat) ≠ _; decide), (by show (_ : Nat) ≠ _; decide), (by show (_ : Nat) ≠ _; decide), (by decide), (by decide), (by decide), (by decide), (Rg.const (by decide) (by decide)), (Rg.const (by decide) (by decide))⟩ ⟨(by exact H0_81), (by exact H0_82), (by exact H0_83), (by exact H0_84), (by unfold Fx; decide), (by show (_ : Nat) < _; decide), (by show (_ : Nat) ≠ _; decide), (by decide), (by decide), (Rg.const (by decide) (by decide)), (Rg.const (by decide) (by decide)), (by decide), (by decide), (by decide)⟩ ⟨(by exact H0_85), (by exact H0_86), (by exact H0_87), (Rg.const (by decide) (by decide)), (Rg.const (by decide) (by decide))⟩ ⟨(by exact H0_88), (by exact H0_89), (by exact H0_90), (by exact H0_91), (by exact H0_92), (by decide), (by decide), (by decide), (Rg.const (by decide) (by decide)), (by decide), (by decide)⟩ ⟨(by exact H0_93), (by exact H0_94), (by exact H0_95), (by unfold Fx; decide), (by unfold Fx; decide), (by show (_ : Nat) < _; decide), (by show (_ : Nat) < _; decide), (by show (_ : Nat) ≠ _; decide), (by show (_ : Nat) ≠ _; decide), (by show (_ : Nat) ≠ _; decide), (by decide), (by decide), (by decide), (by decide)⟩ (by exact H0_97) ⟨(by decide), (by decide), (fun w => absurd w (by decide)), (by show (_ : Nat) ≠ _; decide), (by show (_ : Nat) ≠ _; decide), (by show (_ : Nat) ≠ _; decide), (by show (_ : Nat) ≠ _; decide), (by show (_ : Nat) ≠ _; decide), (by show (_ : Nat) ≠ _; decide), (by show (_ : Nat) ≠ _; decide), (by show (_ : Nat) ≠ _; decide), (by show (_ : Nat) ≠ _; decide), (by show (_ : Nat) ≠ _; decide), (by show (_ : Nat) ≠ _; decide), (by show (_ : Nat) ≠ _; decide), (by show (_ : Nat) ≠ _; decide), (by show (_ : Nat) ≠ _; decide), (SC_z (fun j a b => K00_ne (by omega))), (SC_z (fun _ _ _ => rfl)), (SC_z (fun _ _ _ => rfl)), (fun _ _ _ => rfl), ⟨rfl, rfl, rfl⟩, lwA_x, lwB_x, lwC_x, (by decide)⟩
set_option maxHeartbeats 4000000 in
set_option maxRecDepth 100000 in
theorem CI.obj {fh : Nat → Option va_E} {nh : Nat} {c ph : Int} {aa : jAA} (h : CI fh nh c ph aa) : (∃ fs, fh 0 = some (.inr (11, fs))) ∧ 0 ≤ ph ∧ ph ≤ 600000 := by
  refine h _ (fun ks rn rx ku ki ke km ko cst cfa cdk lc fo wc cc sc lc1 fo1 wc1 cc1 sc1 lc2 fo2 wc2 cc2 sc2 many places dln dtk dst dbh dva dpa dfl dsz ve ss vs ht br hl le ba tk ns rc wso wv wt wls wlv se nu ni fd rv ne rm fv be wrs av pt nm no_ rfs ff tf wa wb ca cb sa sb ff1 tf1 wa1 wb1 ca1 cb1 sa1 sb1 ff2 tf2 wa2 wb2 ca2 cb2 sa2 sb2 kb rf bf dtp dcd wf kf nf df sf vf fa wy od lt hd nx bb ra rb uf it psa pbf pod rnx rrd ef gla gra qbt qft qsb qoo mf oof vis lf lf1 lf2 gr_o gr_rf gr_s gr_s1 gr_s2 gr_im gr_c gr_d gr_t gr_w gr_p gr_r gr_m gr_q gr_y gr_v gr_x => ?_)
  obtain ⟨hk0, w0, w1⟩ := gr_o
  have hk96 := gr_rf
  obtain ⟨hk1, hk2, hk3, hk4, hk11, hk12, hk13, hk14, hk15, hk16, w2, w3, w4, w5, w6, w7, w8, w9, w10, w11, w12, w13, w14, w15, w16, w17, w18, w19, w20, w21, w22⟩ := gr_s
  obtain ⟨hk18, hk19, hk20, hk21, hk28, hk29, hk30, hk31, hk32, hk33, w23, w24, w25, w26, w27, w28, w29, w30, w31, w32, w33, w34, w35, w36, w37, w38, w39, w40, w41, w42, w43⟩ := gr_s1
  obtain ⟨hk34, hk35, hk36, hk37, hk44, hk45, hk46, hk47, hk48, hk49, w44, w45, w46, w47, w48, w49, w50, w51, w52, w53, w54, w55, w56, w57, w58, w59, w60, w61, w62, w63, w64⟩ := gr_s2
  obtain ⟨hk17, hk50, w65⟩ := gr_im
  obtain ⟨hk51, hk52, hk53, w66, w67, w68, w69, w70, w71, w72, w73, w74⟩ := gr_c
  obtain ⟨hk54, hk55, hk56, w75, w76, w77, w78, w79, w80, w81, w82⟩ := gr_d
  obtain ⟨hk57, hk58, hk59, hk60, hk61, hk62, hkks, hk64, w83, w84, w85, w86, w87, w88, w89, w90, w91, w92, w93, w94, w95, w96, w97, w98, w99, w100, w101, w102, w103, w104, w105, w106, w107, w108, w109⟩ := gr_t
  obtain ⟨hk65, hk66, hk67, hk68, hk69, hk70, hk71, hk72, hk73, hk74, w110, w111, w112, w113, w114, w115, w116, w117, w118, w119⟩ := gr_w
  obtain ⟨hk75, hkku, hkki, hk78, hk79, hk80, w120, w121, w122, w123, w124, w125, w126, w127, w128, w129, w130, w131, w132⟩ := gr_p
  obtain ⟨hk81, hk82, hk83, hkke, w133, w134, w135, w136, w137, w138, w139, w140, w141, w142⟩ := gr_r
  obtain ⟨hk85, hk86, hk87, w143, w144⟩ := gr_m
  obtain ⟨hk88, hk89, hk90, hk91, hk92, w145, w146, w147, w148, w149, w150⟩ := gr_q
  obtain ⟨hk93, hkkm, hkko, w151, w152, w153, w154, w155, w156, w157, w158, w159, w160, w161⟩ := gr_y
  have hk97 := gr_v
  obtain ⟨w162, w163, w164, w165, w166, w167, w168, w169, w170, w171, w172, w173, w174, w175, w176, w177, w178, w179, w180, w181, w182, w183, w184, w185, w186, w187⟩ := gr_x
  exact ⟨⟨_, hk0⟩, by omega, by omega⟩
set_option maxHeartbeats 4000000 in
set_option maxRecDepth 100000 in
theorem CI.rg {fh : Nat → Option va_E} {nh : Nat} {c ph : Int} {aa : jAA} (h : CI fh nh c ph aa) : RgX aa := by
  refine h _ (fun ks rn rx ku ki ke km ko cst cfa cdk lc fo wc cc sc lc1 fo1 wc1 cc1 sc1 lc2 fo2 wc2 cc2 sc2 many places dln dtk dst dbh dva dpa dfl dsz ve ss vs ht br hl le ba tk ns rc wso wv wt wls wlv se nu ni fd rv ne rm fv be wrs av pt nm no_ rfs ff tf wa wb ca cb sa sb ff1 tf1 wa1 wb1 ca1 cb1 sa1 sb1 ff2 tf2 wa2 wb2 ca2 cb2 sa2 sb2 kb rf bf dtp dcd wf kf nf df sf vf fa wy od lt hd nx bb ra rb uf it psa pbf pod rnx rrd ef gla gra qbt qft qsb qoo mf oof vis lf lf1 lf2 gr_o gr_rf gr_s gr_s1 gr_s2 gr_im gr_c gr_d gr_t gr_w gr_p gr_r gr_m gr_q gr_y gr_v gr_x => ?_)
  obtain ⟨hk0, w0, w1⟩ := gr_o
  have hk96 := gr_rf
  obtain ⟨hk1, hk2, hk3, hk4, hk11, hk12, hk13, hk14, hk15, hk16, w2, w3, w4, w5, w6, w7, w8, w9, w10, w11, w12, w13, w14, w15, w16, w17, w18, w19, w20, w21, w22⟩ := gr_s
  obtain ⟨hk18, hk19, hk20, hk21, hk28, hk29, hk30, hk31, hk32, hk33, w23, w24, w25, w26, w27, w28, w29, w30, w31, w32, w33, w34, w35, w36, w37, w38, w39, w40, w41, w42, w43⟩ := gr_s1
  obtain ⟨hk34, hk35, hk36, hk37, hk44, hk45, hk46, hk47, hk48, hk49, w44, w45, w46, w47, w48, w49, w50, w51, w52, w53, w54, w55, w56, w57, w58, w59, w60, w61, w62, w63, w64⟩ := gr_s2
  obtain ⟨hk17, hk50, w65⟩ := gr_im
  obtain ⟨hk51, hk52, hk53, w66, w67, w68, w69, w70, w71, w72, w73, w74⟩ := gr_c
  obtain ⟨hk54, hk55, hk56, w75, w76, w77, w78, w79, w80, w81, w82⟩ := gr_d
  obtain ⟨hk57, hk58, hk59, hk60, hk61, hk62, hkks, hk64, w83, w84, w85, w86, w87, w88, w89, w90, w91, w92, w93, w94, w95, w96, w97, w98, w99, w100, w101, w102, w103, w104, w105, w106, w107, w108, w109⟩ := gr_t
  obtain ⟨hk65, hk66, hk67, hk68, hk69, hk70, hk71, hk72, hk73, hk74, w110, w111, w112, w113, w114, w115, w116, w117, w118, w119⟩ := gr_w
  obtain ⟨hk75, hkku, hkki, hk78, hk79, hk80, w120, w121, w122, w123, w124, w125, w126, w127, w128, w129, w130, w131, w132⟩ := gr_p
  obtain ⟨hk81, hk82, hk83, hkke, w133, w134, w135, w136, w137, w138, w139, w140, w141, w142⟩ := gr_r
  obtain ⟨hk85, hk86, hk87, w143, w144⟩ := gr_m
  obtain ⟨hk88, hk89, hk90, hk91, hk92, w145, w146, w147, w148, w149, w150⟩ := gr_q
  obtain ⟨hk93, hkkm, hkko, w151, w152, w153, w154, w155, w156, w157, w158, w159, w160, w161⟩ := gr_y
  have hk97 := gr_v
  obtain ⟨w162, w163, w164, w165, w166, w167, w168, w169, w170, w171, w172, w173, w174, w175, w176, w177, w178, w179, w180, w181, w182, w183, w184, w185, w186, w187⟩ := gr_x
  exact RgX_of w179 w2 w183 w13 w7 w8 w11 w12 w9 w10 w75 w76
set_option maxHeartbeats 4000000 in
set_option maxRecDepth 100000 in
theorem MI.obj {fh : Nat → Option va_E} {c : Int} {aa : jAA} (h : MI fh c aa) : ∃ fs, fh 98 = some (.inr (12, fs)) := by
  refine h _ (fun ms mv mt mfa mtn mtk mlv mbd mgo mge mbk mtt mtl hm pm hb sb mfu mdm mla rf7 K im hi wd ta fv cc va plc aq co cd st tk sm cf cm of fa fm li le dn tg us wf wb ra rb en fg ak mi pol dt gr_A gr_B gr_D gr_E gr_F gr_G gr_H gr_K => ?_)
  obtain ⟨hk98, hk99, hk100, hk101, hk102, hk103, hk104, hk105⟩ := gr_A
  obtain ⟨hk106, hk107, hk108, hk109, hk110, hk111⟩ := gr_B
  obtain ⟨hk112, hk113, hk114, hk115, hk116, hk117⟩ := gr_D
  obtain ⟨hk118, hk119, hk120, hk121, hk122, hk123, hk124, hk125, hk126⟩ := gr_E
  obtain ⟨hk127, hk128, hk129, hk130, hk131, hk132, hk133, hk134⟩ := gr_F
  obtain ⟨w0, w1, w2, w3, w4, w5, w6, w7⟩ := gr_G
  obtain ⟨w8, w9, w10, w11, w12, w13, w14, w15, w16, w17⟩ := gr_H
  obtain ⟨w18, w19, w20, w21, w22, w23, w24, w25, w26, w27, w28, w29, w30, w31, w32, w33, w34, w35⟩ := gr_K
  exact ⟨_, hk98⟩
set_option maxHeartbeats 4000000 in
set_option maxRecDepth 100000 in
theorem MI.vx {fh : Nat → Option va_E} {c : Int} {aa : jAA} (h : MI fh c aa) : VX aa := by
  refine h _ (fun ms mv mt mfa mtn mtk mlv mbd mgo mge mbk mtt mtl hm pm hb sb mfu mdm mla rf7 K im hi wd ta fv cc va plc aq co cd st tk sm cf cm of fa fm li le dn tg us wf wb ra rb en fg ak mi pol dt gr_A gr_B gr_D gr_E gr_F gr_G gr_H gr_K => ?_)
  obtain ⟨hk98, hk99, hk100, hk101, hk102, hk103, hk104, hk105⟩ := gr_A
  obtain ⟨hk106, hk107, hk108, hk109, hk110, hk111⟩ := gr_B
  obtain ⟨hk112, hk113, hk114, hk115, hk116, hk117⟩ := gr_D
  obtain ⟨hk118, hk119, hk120, hk121, hk122, hk123, hk124, hk125, hk126⟩ := gr_E
  obtain ⟨hk127, hk128, hk129, hk130, hk131, hk132, hk133, hk134⟩ := gr_F
  obtain ⟨w0, w1, w2, w3, w4, w5, w6, w7⟩ := gr_G
  obtain ⟨w8, w9, w10, w11, w12, w13, w14, w15, w16, w17⟩ := gr_H
  obtain ⟨w18, w19, w20, w21, w22, w23, w24, w25, w26, w27, w28, w29, w30, w31, w32, w33, w34, w35⟩ := gr_K
  exact VX_of w0.2.2.2.1 w0.2.2.1.2 w31
