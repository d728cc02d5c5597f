/-! the text of the words: a String constant below the base; its length and its letters, by the JDK's own code -/
theorem jBy_all : ∀ j, j < 73 → (((jBy j &&& 255).toUInt32 % 65536).toInt32 = jBy j ∧ 32 ≤ (jBy j).toInt ∧ (jBy j).toInt ≤ 122) := by decide +kernel
theorem jBy_nar : ∀ j, j < 73 → narrow .char (.int (jBy j)) = .int (jBy j) := by decide +kernel
/-- the letter at a place, as a number -/
def wch (i : Int) : Int := (jBy i.toNat).toInt
theorem wch_zI (i : Int) : jBy i.toNat = zI (wch i) := (Int32.ofInt_toInt _).symm
theorem wch_rg {i : Int} (h0 : 0 ≤ i) (h1 : i < 73) : 32 ≤ wch i ∧ wch i ≤ 122 := (jBy_all i.toNat (by omega)).2
/-- how many blanks stand ahead of a place -/
def wbl : Nat → Int
  | 0 => 0
  | n + 1 => wbl n + if jBy n = 32 then 1 else 0
theorem wbl_all : ∀ n, n < 74 → wbl n ≤ 15 := by decide +kernel
def wbi (i : Int) : Int := wbl i.toNat
theorem wbi_le {i : Int} (h1 : i ≤ 73) : wbi i ≤ 15 := wbl_all i.toNat (by omega)
theorem wbi_next {i : Int} (h0 : 0 ≤ i) (e : wch i = 32) : wbi (i + 1) = wbi i + 1 := by
  unfold wbi
  rw [show (i + 1).toNat = i.toNat + 1 by omega]
  have h : jBy i.toNat = 32 := by rw [wch_zI, e]; decide
  show wbl i.toNat + (if jBy i.toNat = 32 then 1 else 0) = _
  rw [if_pos h]
theorem wbi_same {i : Int} (h0 : 0 ≤ i) : wbi i ≤ wbi (i + 1) := by
  unfold wbi
  rw [show (i + 1).toNat = i.toNat + 1 by omega]
  show wbl i.toNat ≤ wbl i.toNat + (if jBy i.toNat = 32 then 1 else 0)
  split <;> omega
abbrev jStr : String := "java/lang/String"
abbrev yS_len : MethodName := ⟨"java/lang/String", "length", "()I"⟩
abbrev MS_len : jM := ("java/lang/String", prog_17_method_54_code, 1, some .int, false)
abbrev yS_cod : MethodName := ⟨"java/lang/String", "coder", "()B"⟩
abbrev MS_cod : jM := ("java/lang/String", prog_17_method_152_code, 1, some .byte, false)
abbrev yS_cha : MethodName := ⟨"java/lang/String", "charAt", "(I)C"⟩
abbrev MS_cha : jM := ("java/lang/String", prog_17_method_56_code, 2, some .char, false)
abbrev yS_lat : MethodName := ⟨"java/lang/String", "isLatin1", "()Z"⟩
abbrev MS_lat : jM := ("java/lang/String", prog_17_method_154_code, 1, some .boolean, false)
abbrev yS_l1c : MethodName := ⟨"java/lang/StringLatin1", "charAt", "([BI)C"⟩
abbrev MS_l1c : jM := ("java/lang/StringLatin1", prog_18_method_2_code, 2, some .char, false)
abbrev yS_chk : MethodName := ⟨"java/lang/String", "checkIndex", "(II)V"⟩
abbrev MS_chk : jM := ("java/lang/String", prog_17_method_155_code, 2, none, false)
abbrev yS_pre : MethodName := ⟨"jdk/internal/util/Preconditions", "checkIndex", "(IILjava/util/function/BiFunction;)I"⟩
abbrev MS_pre : jM := ("jdk/internal/util/Preconditions", prog_22_method_11_code, 3, some .int, false)
theorem dS_len_0 : decode prog_17_method_54_code 0 = .ok (.aload_n 0, 1) := by decide +kernel
theorem dS_len_1 : decode prog_17_method_54_code 1 = .ok (.getfield 9, 3) := by decide +kernel
theorem dS_len_4 : decode prog_17_method_54_code 4 = .ok (.arraylength, 1) := by decide +kernel
theorem dS_len_5 : decode prog_17_method_54_code 5 = .ok (.aload_n 0, 1) := by decide +kernel
theorem dS_len_6 : decode prog_17_method_54_code 6 = .ok (.invokevirtual 335, 3) := by decide +kernel
theorem dS_len_9 : decode prog_17_method_54_code 9 = .ok (.ishr, 1) := by decide +kernel
theorem dS_len_10 : decode prog_17_method_54_code 10 = .ok (.ireturn, 1) := by decide +kernel
theorem dS_cod_0 : decode prog_17_method_152_code 0 = .ok (.getstatic 38, 3) := by decide +kernel
theorem dS_cod_3 : decode prog_17_method_152_code 3 = .ok (.ifCond .eq 10, 3) := by decide +kernel
theorem dS_cod_6 : decode prog_17_method_152_code 6 = .ok (.aload_n 0, 1) := by decide +kernel
theorem dS_cod_7 : decode prog_17_method_152_code 7 = .ok (.getfield 15, 3) := by decide +kernel
theorem dS_cod_10 : decode prog_17_method_152_code 10 = .ok (.goto 4, 3) := by decide +kernel
theorem dS_cod_14 : decode prog_17_method_152_code 14 = .ok (.ireturn, 1) := by decide +kernel
theorem dS_lat_0 : decode prog_17_method_154_code 0 = .ok (.getstatic 38, 3) := by decide +kernel
theorem dS_lat_3 : decode prog_17_method_154_code 3 = .ok (.ifCond .eq 14, 3) := by decide +kernel
theorem dS_lat_6 : decode prog_17_method_154_code 6 = .ok (.aload_n 0, 1) := by decide +kernel
theorem dS_lat_7 : decode prog_17_method_154_code 7 = .ok (.getfield 15, 3) := by decide +kernel
theorem dS_lat_10 : decode prog_17_method_154_code 10 = .ok (.ifCond .ne 7, 3) := by decide +kernel
theorem dS_lat_13 : decode prog_17_method_154_code 13 = .ok (.iconst 1, 1) := by decide +kernel
theorem dS_lat_14 : decode prog_17_method_154_code 14 = .ok (.goto 4, 3) := by decide +kernel
theorem dS_lat_18 : decode prog_17_method_154_code 18 = .ok (.ireturn, 1) := by decide +kernel
theorem dS_cha_0 : decode prog_17_method_56_code 0 = .ok (.aload_n 0, 1) := by decide +kernel
theorem dS_cha_1 : decode prog_17_method_56_code 1 = .ok (.invokevirtual 492, 3) := by decide +kernel
theorem dS_cha_4 : decode prog_17_method_56_code 4 = .ok (.ifCond .eq 12, 3) := by decide +kernel
theorem dS_cha_7 : decode prog_17_method_56_code 7 = .ok (.aload_n 0, 1) := by decide +kernel
theorem dS_cha_8 : decode prog_17_method_56_code 8 = .ok (.getfield 9, 3) := by decide +kernel
theorem dS_cha_11 : decode prog_17_method_56_code 11 = .ok (.iload_n 1, 1) := by decide +kernel
theorem dS_cha_12 : decode prog_17_method_56_code 12 = .ok (.invokestatic 495, 3) := by decide +kernel
theorem dS_cha_15 : decode prog_17_method_56_code 15 = .ok (.ireturn, 1) := by decide +kernel
theorem dS_l1c_0 : decode prog_18_method_2_code 0 = .ok (.iload_n 1, 1) := by decide +kernel
theorem dS_l1c_1 : decode prog_18_method_2_code 1 = .ok (.aload_n 0, 1) := by decide +kernel
theorem dS_l1c_2 : decode prog_18_method_2_code 2 = .ok (.arraylength, 1) := by decide +kernel
theorem dS_l1c_3 : decode prog_18_method_2_code 3 = .ok (.invokestatic 9, 3) := by decide +kernel
theorem dS_l1c_6 : decode prog_18_method_2_code 6 = .ok (.aload_n 0, 1) := by decide +kernel
theorem dS_l1c_7 : decode prog_18_method_2_code 7 = .ok (.iload_n 1, 1) := by decide +kernel
theorem dS_l1c_8 : decode prog_18_method_2_code 8 = .ok (.baload, 1) := by decide +kernel
theorem dS_l1c_9 : decode prog_18_method_2_code 9 = .ok (.sipush 255, 3) := by decide +kernel
theorem dS_l1c_12 : decode prog_18_method_2_code 12 = .ok (.iand, 1) := by decide +kernel
theorem dS_l1c_13 : decode prog_18_method_2_code 13 = .ok (.i2c, 1) := by decide +kernel
theorem dS_l1c_14 : decode prog_18_method_2_code 14 = .ok (.ireturn, 1) := by decide +kernel
theorem dS_chk_0 : decode prog_17_method_155_code 0 = .ok (.iload_n 0, 1) := by decide +kernel
theorem dS_chk_1 : decode prog_17_method_155_code 1 = .ok (.iload_n 1, 1) := by decide +kernel
theorem dS_chk_2 : decode prog_17_method_155_code 2 = .ok (.getstatic 1053, 3) := by decide +kernel
theorem dS_chk_5 : decode prog_17_method_155_code 5 = .ok (.invokestatic 1059, 3) := by decide +kernel
theorem dS_chk_8 : decode prog_17_method_155_code 8 = .ok (.pop, 1) := by decide +kernel
theorem dS_chk_9 : decode prog_17_method_155_code 9 = .ok (.return_, 1) := by decide +kernel
theorem dS_pre_0 : decode prog_22_method_11_code 0 = .ok (.iload_n 0, 1) := by decide +kernel
theorem dS_pre_1 : decode prog_22_method_11_code 1 = .ok (.ifCond .lt 8, 3) := by decide +kernel
theorem dS_pre_4 : decode prog_22_method_11_code 4 = .ok (.iload_n 0, 1) := by decide +kernel
theorem dS_pre_5 : decode prog_22_method_11_code 5 = .ok (.iload_n 1, 1) := by decide +kernel
theorem dS_pre_6 : decode prog_22_method_11_code 6 = .ok (.if_icmp .lt 10, 3) := by decide +kernel
theorem dS_pre_16 : decode prog_22_method_11_code 16 = .ok (.iload_n 0, 1) := by decide +kernel
theorem dS_pre_17 : decode prog_22_method_11_code 17 = .ok (.ireturn, 1) := by decide +kernel
/-- what a call of a method of the text needs of the tables -/
def jCX (own : String) (idx : Nat) (y : MethodName) (M : jM) (n : Nat) : Prop := y.cls = jStr ∧ Cond.code y M.2.1 M.2.2.1 M.2.2.2.1 ∈ jtb ∧ Cond.instanceMethod y ∈ jtb ∧ Cond.selects y.cls y y ∈ jtb ∧ Cond.initialized y.cls ∈ jtb ∧ (y.cls ≠ "java/lang/invoke/MethodHandle" ∧ y.cls ≠ "java/lang/invoke/VarHandle" ∧ (parseMethodDescriptor y.desc).map (fun d => d.parameters.length) = some n) ∧ Cond.methodLink own idx y ∈ jtb
theorem cx_len : jCX RX5 115 yS_len MS_len 0 := ⟨rfl, jt3 173 rfl rfl, jt3 171 rfl rfl, jt3 172 rfl rfl, jt1 15 rfl rfl, ⟨by decide, by decide, by decide +kernel⟩, jt3 170 rfl rfl⟩
theorem cx_cha : jCX RX5 119 yS_cha MS_cha 1 := ⟨rfl, jt3 183 rfl rfl, jt3 181 rfl rfl, jt3 182 rfl rfl, jt1 15 rfl rfl, ⟨by decide, by decide, by decide +kernel⟩, jt3 180 rfl rfl⟩
theorem cx_cod : jCX jStr 335 yS_cod MS_cod 0 := ⟨rfl, jt3 177 rfl rfl, jt3 175 rfl rfl, jt3 176 rfl rfl, jt1 15 rfl rfl, ⟨by decide, by decide, by decide +kernel⟩, jt3 174 rfl rfl⟩
theorem cx_lat : jCX jStr 492 yS_lat MS_lat 0 := ⟨rfl, jt3 187 rfl rfl, jt3 185 rfl rfl, jt3 186 rfl rfl, jt1 15 rfl rfl, ⟨by decide, by decide, by decide +kernel⟩, jt3 184 rfl rfl⟩
theorem cx_l1c : jCS jStr 495 yS_l1c MS_l1c 2 := ⟨jt3 190 rfl rfl, jt3 189 rfl rfl, jt1 16 rfl rfl, ⟨by decide, by decide, by decide +kernel⟩, Or.inl (jt3 188 rfl rfl)⟩
theorem cx_chk : jCS "java/lang/StringLatin1" 9 yS_chk MS_chk 2 := ⟨jt3 193 rfl rfl, jt3 192 rfl rfl, jt1 15 rfl rfl, ⟨by decide, by decide, by decide +kernel⟩, Or.inl (jt3 191 rfl rfl)⟩
theorem cx_pre : jCS jStr 1059 yS_pre MS_pre 3 := ⟨jt3 198 rfl rfl, jt3 197 rfl rfl, jt1 17 rfl rfl, ⟨by decide, by decide, by decide +kernel⟩, Or.inl (jt3 196 rfl rfl)⟩
section JSR
variable {l : Launch} {G : jG} {M : jM} {R : Room} {E : State → Array Value → Prop} {Q : List Frame → Array Value → State → State → Prop} {h : jH} {nh : Nat} {fh : Nat → Option va_E} {ck sk pc : Nat} {ls : List (Option Value)} {st : List Value}
theorem J_xldc (hM : M.1 = "BeanStreet$Reader") (hdg : decode M.2.1 pc = .ok (.ldc 113, 2)) (k : J l G M R E Q h ck sk (pc + 2) ls (.retAddr 1 :: st)) : J l G M R E Q h ck sk pc ls st := by
  intro p e s m args below meth c H locs la X hE hP hS hL
  have hN := X.2.2.2.2.2.2.2.2.2.2.2.2.2
  exact va_ldcS X.1 X.2.1 (own := "BeanStreet$Reader") (by rw [← hM]; exact X.2.2.2.2.1) hN.1 hdg (k p e s m args below meth c H locs la X hE hP hS hL)
theorem J_xcod {idx : Nat} {v : Int32} (hdg : decode M.2.1 pc = .ok (.getfield idx, 3)) (hlink : Cond.fieldLink M.1 idx jStr "coder" "B" ∈ jtb) (hv : (0 : Int32) = v) (k : J l G M R E Q h ck sk (pc + 3) ls (.int v :: st)) : J l G M R E Q h ck sk pc ls (.retAddr 1 :: st) := by
  intro p e s m args below meth c H locs la X hE hP hS hL
  subst hv
  have hN := X.2.2.2.2.2.2.2.2.2.2.2.2.2
  exact vk_getf X.1 X.2.1 hN.2.2.1 hS X.2.2.2.2.1 (X.2.2.2.2.2.1 _ hlink) (fun _ h => h) hdg (k p e s m args below meth c H locs la X hE hP hS hL)
theorem J_xval {idx : Nat} (hdg : decode M.2.1 pc = .ok (.getfield idx, 3)) (hlink : Cond.fieldLink M.1 idx jStr "value" "[B" ∈ jtb) (k : J l G M R E Q h ck sk (pc + 3) ls (.retAddr 2 :: st)) : J l G M R E Q h ck sk pc ls (.retAddr 1 :: st) := by
  intro p e s m args below meth c H locs la X hE hP hS hL
  have hN := X.2.2.2.2.2.2.2.2.2.2.2.2.2
  exact vk_getf X.1 X.2.1 hN.2.2.2.1 hS X.2.2.2.2.1 (X.2.2.2.2.2.1 _ hlink) (fun _ h => h) hdg (k p e s m args below meth c H locs la X hE hP hS hL)
theorem J_xlen {v : Int32} (hdg : decode M.2.1 pc = .ok (.arraylength, 1)) (hv : Int32.ofNat 73 = v) (k : J l G M R E Q h ck sk (pc + 1) ls (.int v :: st)) : J l G M R E Q h ck sk pc ls (.retAddr 2 :: st) := by
  intro p e s m args below meth c H locs la X hE hP hS hL
  have hN := X.2.2.2.2.2.2.2.2.2.2.2.2.2
  exact va_tlen X.1 X.2.1 hN.2.2.2.2.1 hS hv hdg (k p e s m args below meth c H locs la X hE hP hS hL)
theorem J_xbald {i : Int} (h0 : 0 ≤ i) (h1 : i < 73) (hdg : decode M.2.1 pc = .ok (.baload, 1)) (k : J l G M R E Q h ck sk (pc + 1) ls (.int (jBy i.toNat) :: st)) : J l G M R E Q h ck sk pc ls (.int (zI i) :: .retAddr 2 :: st) := by
  intro p e s m args below meth c H locs la X hE hP hS hL
  have hN := X.2.2.2.2.2.2.2.2.2.2.2.2.2
  exact va_tb X.1 X.2.1 hN.2.2.2.2.1 hS (zI_in (by omega) h0 (by omega)) (v := .int (jBy i.toNat)) (by rw [zI_clamp (by omega)]) hdg (k p e s m args below meth c H locs la X hE hP hS hL)
theorem J_xcs {idx : Nat} {v : Int32} (hdg : decode M.2.1 pc = .ok (.getstatic idx, 3)) (hlink : Cond.fieldLink M.1 idx jStr "COMPACT_STRINGS" "Z" ∈ jtb) (hv : (1 : Int32) = v) (k : J l G M R E Q h ck sk (pc + 3) ls (.int v :: st)) : J l G M R E Q h ck sk pc ls st := by
  intro p e s m args below meth c H locs la X hE hP hS hL
  subst hv
  have hN := X.2.2.2.2.2.2.2.2.2.2.2.2.2
  exact va_gets X.1 X.2.1 hN.2.2.2.2.2.1 hS X.2.2.2.2.1 (X.2.2.2.2.2.1 _ hlink) (fun _ h => h) hdg (k p e s m args below meth c H locs la X hE hP hS hL)
theorem J_xfm {idx : Nat} (hdg : decode M.2.1 pc = .ok (.getstatic idx, 3)) (hlink : Cond.fieldLink M.1 idx "jdk/internal/util/Preconditions" "SIOOBE_FORMATTER" "Ljava/util/function/BiFunction;" ∈ jtb) (k : ∀ v : Value, (v = .null ∨ v = .retAddr 3) → J l G M R E Q h ck sk (pc + 3) ls (v :: st)) : J l G M R E Q h ck sk pc ls st := by
  intro p e s m args below meth c H locs la X hE hP hS hL
  have hN := X.2.2.2.2.2.2.2.2.2.2.2.2.2
  rcases hN.2.2.2.2.2.2 with hz | hz
  · exact va_gets X.1 X.2.1 hz hS X.2.2.2.2.1 (X.2.2.2.2.2.1 _ hlink) (fun _ h => h) hdg (k .null (Or.inl rfl) p e s m args below meth c H locs la X hE hP hS hL)
  · exact va_gets X.1 X.2.1 hz hS X.2.2.2.2.1 (X.2.2.2.2.2.1 _ hlink) (fun _ h => h) hdg (k (.retAddr 3) (Or.inr rfl) p e s m args below meth c H locs la X hE hP hS hL)
theorem J_callX {idx n : Nat} {y : MethodName} {M' : jM} {rm : Room} {av st0 : List Value} {Po : Option Value → jH → Prop} (hdg : decode M.2.1 pc = .ok (.invokevirtual idx, 3)) (L : jCX M.1 idx y M' n) (hM : JM l G y M' rm (.retAddr 1 :: av) (nh, fh) Po) (hn : av.length = n) (hst : st0 = av.reverse ++ .retAddr 1 :: st) (hW : (st.map fun v => v.category).sum ≤ 8) (hR : rm.frames + 1 ≤ R.frames ∧ 8 + (M'.2.2.1 + 11) + rm.locals ≤ R.locals) (hc : ck + rm.cells ≤ R.cells ∧ sk + rm.slots ≤ R.slots)
    (kk : ∀ (r : Option Value) (h' : jH), Po r h' → J l G M R E Q h' (ck + rm.cells) (sk + rm.slots) (pc + 3) ls (r.toList ++ st)) : J l G M R E Q (nh, fh) ck sk pc ls st0 := by
  intro p e s m args below meth c H locs la X hE hP hS hL
  obtain ⟨hcl, hcode, hinst, hsel, hini, hd, hlk⟩ := L
  have hts := X.2.2.2.2.2.1
  have hK := X.2.2.2.2.2.2.1
  have hN := X.2.2.2.2.2.2.2.2.2.2
  subst hst
  have hrc : ∃ cell : Cell, H[G.2.2.2 1]? = some cell ∧ cell.vm.isStatics = false ∧ s.vm.findClass y.cls = some cell.cls := by
    obtain ⟨cell, h1, h2, h3, -⟩ := hN.2.2.2.2.1.kept hS.2.1
    exact ⟨cell, h1, h2, by rw [hcl]; exact h3⟩
  have hpre : PreV s H y.cls (G.2.2.2 1) (jPc G (.retAddr 1 :: av) (nh, fh)) (av.map (pv G)) := ⟨jPc_blind, hrc, fun U hU hW => ⟨rfl, by rw [hU]; exact hP, va_K.moved hW.alike hK, hN.moved hW (fun a h1 h2 => by rw [hU]; exact hS.2.1 a h1 h2)⟩⟩
  have hstk : (av.reverse ++ .retAddr 1 :: st).map (pv G) = (av.map (pv G)).reverse ++ .ref (G.2.2.2 1) :: st.map (pv G) := by
    rw [List.map_append, List.map_reverse]; rfl
  have hroom : 2 * (F0 m pc la ((av.reverse ++ .retAddr 1 :: st).map (pv G))).monitorRoom + ((st.map (pv G)).map fun v => v.category).sum ≤ 8 := lv_room (by rw [j_cats]; exact hW)
  have fin : va_Run p l e R s m args below meth c H locs ck sk rm.cells rm.slots (F0 m pc la ((av.reverse ++ .retAddr 1 :: st).map (pv G))) (st.map (pv G)) (jQ G Po (Value.ref (G.2.2.2 1) :: av.map (pv G)).toArray) (jA G) :=
    va_runV (Ts := jtb) ⟨X.1, X.2.1, X.2.2.2.1, X.2.2.2.2.1, hts⟩ hM (cwV n hts (fun w hw => by
        rcases List.mem_append.mp hw with hw | hw
        · simp only [List.mem_cons, List.not_mem_nil, or_false] at hw
          rcases hw with rfl | rfl | rfl | rfl
          · exact jtb_good hlk
          · exact jtb_good hinst
          · exact jtb_good hsel
          · exact jtb_good hini
        · exact jGood hcode w hw) rfl rfl rfl ⟨rfl, hd⟩ hR) hpre rfl (by rw [List.length_map]; exact hn) hL.1 hstk hroom hdg hc
  refine j_after fin hS (fun r h' H1 locs1 hp hP1 hS1 => ?_)
  rw [← j_toList]
  exact kk r h' hp p e s m args below meth c H1 locs1 la X hE hP1 hS1 hL
theorem s_pre (i : Int) (v : Value) (hv : v = .null ∨ v = .retAddr 3) (h0 : 0 ≤ i) (h1 : i < 73) : JM l G yS_pre MS_pre { frames := 0, cells := 0, slots := 0, locals := 0 } [.int (zI i), .int (zI 73), v] (nh, fh) (fun rr h9 => rr = some (.int (zI i)) ∧ h9 = (nh, fh)) := by
  rcases hv with rfl | rfl
  · refine JM.of (by decide) rfl (fun h => by cases h) (Nat.le_of_ble_eq_true rfl) ⟨0, rfl⟩ ?_
    refine J_ls (ls2 := [some (.int (zI i)), some (.int (zI 73)), some .null]) rfl ?_
    refine J_iload_n dS_pre_0 rfl rfl ?_
    refine Z_if_lt (tgt := 9) dS_pre_1 (by decide) ⟨by omega, by omega⟩ (fun w => absurd w (by omega)) (fun _ => ?_)
    refine J_iload_n dS_pre_4 rfl rfl ?_
    refine J_iload_n dS_pre_5 rfl rfl ?_
    refine Z_icmp_lt (tgt := 16) dS_pre_6 (by decide) ⟨by omega, by omega⟩ ⟨by omega, by omega⟩ (fun _ => ?_) (fun w => absurd h1 w)
    refine J_iload_n dS_pre_16 rfl rfl ?_
    exact J_iret dS_pre_17 rfl rfl (Nat.le_of_ble_eq_true rfl) (Nat.le_of_ble_eq_true rfl) ⟨rfl, rfl⟩
  · refine JM.of (by decide) rfl (fun h => by cases h) (Nat.le_of_ble_eq_true rfl) ⟨0, rfl⟩ ?_
    refine J_ls (ls2 := [some (.int (zI i)), some (.int (zI 73)), some (.retAddr 3)]) rfl ?_
    refine J_iload_n dS_pre_0 rfl rfl ?_
    refine Z_if_lt (tgt := 9) dS_pre_1 (by decide) ⟨by omega, by omega⟩ (fun w => absurd w (by omega)) (fun _ => ?_)
    refine J_iload_n dS_pre_4 rfl rfl ?_
    refine J_iload_n dS_pre_5 rfl rfl ?_
    refine Z_icmp_lt (tgt := 16) dS_pre_6 (by decide) ⟨by omega, by omega⟩ ⟨by omega, by omega⟩ (fun _ => ?_) (fun w => absurd h1 w)
    refine J_iload_n dS_pre_16 rfl rfl ?_
    exact J_iret dS_pre_17 rfl rfl (Nat.le_of_ble_eq_true rfl) (Nat.le_of_ble_eq_true rfl) ⟨rfl, rfl⟩
theorem s_chk (i : Int) (h0 : 0 ≤ i) (h1 : i < 73) : JM l G yS_chk MS_chk { frames := 1, cells := 0, slots := 0, locals := 22 } [.int (zI i), .int (zI 73)] (nh, fh) (fun rr h9 => rr = none ∧ h9 = (nh, fh)) := by
  refine JM.of (by decide) rfl (fun h => by cases h) (Nat.le_of_ble_eq_true rfl) ⟨0, rfl⟩ ?_
  refine J_ls (ls2 := [some (.int (zI i)), some (.int (zI 73))]) rfl ?_
  refine J_iload_n dS_chk_0 rfl rfl ?_
  refine J_iload_n dS_chk_1 rfl rfl ?_
  refine J_xfm dS_chk_2 (jt3 194 rfl rfl) (fun v hv => ?_)
  refine J_callS (st := []) dS_chk_5 cx_pre (s_pre i v hv h0 h1) rfl rfl (Nat.le_of_ble_eq_true rfl) ⟨(Nat.le_of_ble_eq_true rfl), (Nat.le_of_ble_eq_true rfl)⟩ ⟨(Nat.le_of_ble_eq_true rfl), (Nat.le_of_ble_eq_true rfl)⟩ (fun r h9 hp => ?_)
  obtain ⟨rfl, rfl⟩ := hp
  refine J_pop dS_chk_8 rfl ?_
  exact J_vret dS_chk_9 rfl (Nat.le_of_ble_eq_true rfl) (Nat.le_of_ble_eq_true rfl) ⟨rfl, rfl⟩
theorem s_l1c (i : Int) (h0 : 0 ≤ i) (h1 : i < 73) : JM l G yS_l1c MS_l1c { frames := 2, cells := 0, slots := 0, locals := 43 } [.retAddr 2, .int (zI i)] (nh, fh) (fun rr h9 => rr = some (.int (zI (wch i))) ∧ h9 = (nh, fh)) := by
  refine JM.of (by decide) rfl (fun h => by cases h) (Nat.le_of_ble_eq_true rfl) ⟨0, rfl⟩ ?_
  refine J_ls (ls2 := [some (.retAddr 2), some (.int (zI i))]) rfl ?_
  refine J_iload_n dS_l1c_0 rfl rfl ?_
  refine J_sload_n dS_l1c_1 rfl rfl ?_
  refine J_xlen (v := zI 73) dS_l1c_2 (by decide) ?_
  refine J_callS (st := []) dS_l1c_3 cx_chk (s_chk i h0 h1) rfl rfl (Nat.le_of_ble_eq_true rfl) ⟨(Nat.le_of_ble_eq_true rfl), (Nat.le_of_ble_eq_true rfl)⟩ ⟨(Nat.le_of_ble_eq_true rfl), (Nat.le_of_ble_eq_true rfl)⟩ (fun r h9 hp => ?_)
  obtain ⟨rfl, rfl⟩ := hp
  refine J_sload_n dS_l1c_6 rfl rfl ?_
  refine J_iload_n dS_l1c_7 rfl rfl ?_
  refine J_xbald h0 h1 dS_l1c_8 ?_
  refine J_sipush (v := 255) dS_l1c_9 (by decide) ?_
  refine J_iand (z := jBy i.toNat &&& 255) dS_l1c_12 rfl ?_
  refine J_i2c (z := jBy i.toNat) dS_l1c_13 (jBy_all i.toNat (by omega)).1 ?_
  exact J_iret dS_l1c_14 rfl (jBy_nar i.toNat (by omega)) (Nat.le_of_ble_eq_true rfl) (Nat.le_of_ble_eq_true rfl) ⟨by rw [wch_zI], rfl⟩
theorem s_cod : JM l G yS_cod MS_cod { frames := 0, cells := 0, slots := 0, locals := 0 } [.retAddr 1] (nh, fh) (fun rr h9 => rr = some (.int (zI 0)) ∧ h9 = (nh, fh)) := by
  refine JM.of (by decide) rfl (fun h => by cases h) (Nat.le_of_ble_eq_true rfl) ⟨0, rfl⟩ ?_
  refine J_ls (ls2 := [some (.retAddr 1)]) rfl ?_
  refine J_xcs (v := zI 1) dS_cod_0 (jt3 178 rfl rfl) (by decide) ?_
  refine Z_if_eq (tgt := 13) dS_cod_3 (by decide) ⟨by decide, by decide⟩ (fun w => absurd w (by decide)) (fun _ => ?_)
  refine J_sload_n dS_cod_6 rfl rfl ?_
  refine J_xcod (v := zI 0) dS_cod_7 (jt8 136 rfl rfl) (by decide) ?_
  refine J_goto (tgt := 14) dS_cod_10 (by decide) ?_
  exact J_iret dS_cod_14 rfl rfl (Nat.le_of_ble_eq_true rfl) (Nat.le_of_ble_eq_true rfl) ⟨rfl, rfl⟩
theorem s_len : JM l G yS_len MS_len { frames := 1, cells := 0, slots := 0, locals := 20 } [.retAddr 1] (nh, fh) (fun rr h9 => rr = some (.int (zI 73)) ∧ h9 = (nh, fh)) := by
  refine JM.of (by decide) rfl (fun h => by cases h) (Nat.le_of_ble_eq_true rfl) ⟨0, rfl⟩ ?_
  refine J_ls (ls2 := [some (.retAddr 1)]) rfl ?_
  refine J_sload_n dS_len_0 rfl rfl ?_
  refine J_xval dS_len_1 (jt8 135 rfl rfl) ?_
  refine J_xlen (v := zI 73) dS_len_4 (by decide) ?_
  refine J_sload_n dS_len_5 rfl rfl ?_
  refine J_callX (av := []) (st := [.int (zI 73)]) dS_len_6 cx_cod s_cod rfl rfl (Nat.le_of_ble_eq_true rfl) ⟨(Nat.le_of_ble_eq_true rfl), (Nat.le_of_ble_eq_true rfl)⟩ ⟨(Nat.le_of_ble_eq_true rfl), (Nat.le_of_ble_eq_true rfl)⟩ (fun r h9 hp => ?_)
  obtain ⟨rfl, rfl⟩ := hp
  refine J_ishr (z := zI 73) dS_len_9 (by decide) ?_
  exact J_iret dS_len_10 rfl rfl (Nat.le_of_ble_eq_true rfl) (Nat.le_of_ble_eq_true rfl) ⟨rfl, rfl⟩
theorem s_lat : JM l G yS_lat MS_lat { frames := 0, cells := 0, slots := 0, locals := 0 } [.retAddr 1] (nh, fh) (fun rr h9 => rr = some (.int (zI 1)) ∧ h9 = (nh, fh)) := by
  refine JM.of (by decide) rfl (fun h => by cases h) (Nat.le_of_ble_eq_true rfl) ⟨0, rfl⟩ ?_
  refine J_ls (ls2 := [some (.retAddr 1)]) rfl ?_
  refine J_xcs (v := zI 1) dS_lat_0 (jt3 178 rfl rfl) (by decide) ?_
  refine Z_if_eq (tgt := 17) dS_lat_3 (by decide) ⟨by decide, by decide⟩ (fun w => absurd w (by decide)) (fun _ => ?_)
  refine J_sload_n dS_lat_6 rfl rfl ?_
  refine J_xcod (v := zI 0) dS_lat_7 (jt8 136 rfl rfl) (by decide) ?_
  refine Z_if_ne (tgt := 17) dS_lat_10 (by decide) ⟨by decide, by decide⟩ (fun w => absurd rfl w) (fun _ => ?_)
  refine Z_iconst (n := 1) dS_lat_13 ?_
  refine J_goto (tgt := 18) dS_lat_14 (by decide) ?_
  exact J_iret dS_lat_18 rfl rfl (Nat.le_of_ble_eq_true rfl) (Nat.le_of_ble_eq_true rfl) ⟨rfl, rfl⟩
theorem s_cha (i : Int) (h0 : 0 ≤ i) (h1 : i < 73) : JM l G yS_cha MS_cha { frames := 3, cells := 0, slots := 0, locals := 64 } [.retAddr 1, .int (zI i)] (nh, fh) (fun rr h9 => rr = some (.int (zI (wch i))) ∧ h9 = (nh, fh)) := by
  refine JM.of (by decide) rfl (fun h => by cases h) (Nat.le_of_ble_eq_true rfl) ⟨0, rfl⟩ ?_
  refine J_ls (ls2 := [some (.retAddr 1), some (.int (zI i))]) rfl ?_
  refine J_sload_n dS_cha_0 rfl rfl ?_
  refine J_callX (av := []) (st := []) dS_cha_1 cx_lat s_lat rfl rfl (Nat.le_of_ble_eq_true rfl) ⟨(Nat.le_of_ble_eq_true rfl), (Nat.le_of_ble_eq_true rfl)⟩ ⟨(Nat.le_of_ble_eq_true rfl), (Nat.le_of_ble_eq_true rfl)⟩ (fun r h9 hp => ?_)
  obtain ⟨rfl, rfl⟩ := hp
  refine Z_if_eq (tgt := 16) dS_cha_4 (by decide) ⟨by decide, by decide⟩ (fun w => absurd w (by decide)) (fun _ => ?_)
  refine J_sload_n dS_cha_7 rfl rfl ?_
  refine J_xval dS_cha_8 (jt8 135 rfl rfl) ?_
  refine J_iload_n dS_cha_11 rfl rfl ?_
  refine J_callS (st := []) dS_cha_12 cx_l1c (s_l1c i h0 h1) rfl rfl (Nat.le_of_ble_eq_true rfl) ⟨(Nat.le_of_ble_eq_true rfl), (Nat.le_of_ble_eq_true rfl)⟩ ⟨(Nat.le_of_ble_eq_true rfl), (Nat.le_of_ble_eq_true rfl)⟩ (fun r h9 hp => ?_)
  obtain ⟨rfl, rfl⟩ := hp
  exact J_iret dS_cha_15 rfl (by have u := jBy_nar i.toNat (by omega); rw [wch_zI] at u; exact u) (Nat.le_of_ble_eq_true rfl) (Nat.le_of_ble_eq_true rfl) ⟨rfl, rfl⟩
end JSR
