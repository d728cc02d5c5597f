/-! THE LOGIC J, methods: contracts, calls, returns -/
def jPc (G : jG) (av : List Value) (h : jH) : Array Value → State → Prop := va_Pc (av.map (pv G)) (fun U => HP G h U.heap ∧ va_K G.1 vwCl (jTys G) U ∧ jN G U)
theorem jPc_blind {G : jG} {av : List Value} {h : jH} : FrameBlind (jPc G av h) := fun a U g mk q => by
  obtain ⟨q0, qP, qK, qN⟩ := q
  exact ⟨q0, qP, va_K.moved (u := U) (U := U.calling g mk a) (Vm.Alike.refl U.vm) qK, jN.moved (s := U) (U := U.calling g mk a) (State.WarmedH.refl U) (fun _ _ _ => rfl) qN⟩
def jWs (y : MethodName) (M : jM) : List Cond := Cond.code y M.2.1 M.2.2.1 M.2.2.2.1 :: jtb
/-- a method's contract: from the picture h, with the arguments av, it ends with Po -/
def JM (l : Launch) (G : jG) (y : MethodName) (M : jM) (rm : Room) (av : List Value) (h : jH) (Po : Option Value → jH → Prop) : Prop := Met l y (jWs y M) rm (jPc G av h) (jQ G Po) rm.cells rm.slots (jA G)
def jEn : List Value → List (Option Value)
  | [] => []
  | v :: vs => if v.category = 2 then some v :: none :: jEn vs else some v :: jEn vs
theorem jEn_in : ∀ (vs : List Value) (i0 j : Nat) (v : Value), (jEn vs)[j]? = some (some v) → (i0 + j, v) ∈ lv_args i0 vs
  | [], i0, j, v, h => by simp [jEn] at h
  | w :: vs, i0, j, v, h => by
    unfold jEn at h
    unfold lv_args
    by_cases hc : w.category = 2
    · rw [if_pos hc] at h ⊢
      match j, h with
      | 0, h => simp at h; subst h; exact List.mem_cons_self
      | 1, h => simp at h
      | j + 2, h =>
        have h : (jEn vs)[j]? = some (some v) := by simpa using h
        have := jEn_in vs (i0 + 2) j v h
        refine List.mem_cons_of_mem _ ?_
        rw [show i0 + (j + 2) = i0 + 2 + j by omega]
        exact this
    · rw [if_neg hc] at h ⊢
      match j, h with
      | 0, h => simp at h; subst h; exact List.mem_cons_self
      | j + 1, h =>
        have h : (jEn vs)[j]? = some (some v) := by simpa using h
        have := jEn_in vs (i0 + 1) j v h
        refine List.mem_cons_of_mem _ ?_
        rw [show i0 + (j + 1) = i0 + 1 + j by omega]
        exact this
theorem lv_args_map (G : jG) : ∀ (vs : List Value) (i0 : Nat) (i : Nat) (v : Value), (i, v) ∈ lv_args i0 vs → (i, pv G v) ∈ lv_args i0 (vs.map (pv G))
  | [], i0, i, v, h => by simp [lv_args] at h
  | w :: vs, i0, i, v, h => by
    unfold lv_args at h
    show (i, pv G v) ∈ lv_args i0 (pv G w :: vs.map (pv G))
    unfold lv_args
    rw [pv_cat]
    rcases List.mem_cons.mp h with e | h
    · cases e
      exact List.mem_cons_self
    · exact List.mem_cons_of_mem _ (lv_args_map G vs _ i v h)
theorem JM.of {l : Launch} {G : jG} {y : MethodName} {M : jM} {rm : Room} {av : List Value} {h : jH} {Po : Option Value → jH → Prop} {ls : List (Option Value)} (hy : plainName y.cls = true) (hc : y.cls = M.1) (hi : M.2.2.2.2 = true → y.name = "<init>") (hlen : (lg_sl (av.map (pv G))).length ≤ M.2.2.1) (hls : ∃ k, ls = jEn av ++ List.replicate k none)
    (k : J l G M rm jE (jMQ G rm Po) h 0 0 0 ls []) : JM l G y M rm av h Po := by
  refine Met.ofW (cc := M.2.1) (maxL := M.2.2.1) (ret := M.2.2.2.1) hy rfl ?_
  intro p e s m args below meth c s₁ B hml hv
  obtain ⟨rfl, hP, hK, hN⟩ := hv
  have hts := atoms_spec (ws := jWs y M) B.pre
  have hown : s.vm.findClass y.cls = some m.cls := findClass_of_methodNamed B.named
  have hl := lv_entry (av.map (pv G)) (n := M.2.2.1) hlen
  rw [lg_entry_eq]
  refine k p e s m _ below meth c s.heap [] _ ⟨B.exec, B.bytes, B.returns, hml, hc ▸ hown, fun w hw => hts w (List.mem_cons_of_mem _ hw), hK, B.notSynchronized, fun h9 => (name_of_methodNamed B.named B.method).1.trans (hi h9), by rw [hP.1]; omega, hN⟩ trivial hP va_S.rf ⟨hl.1, hl.2.1, fun i v hv => ?_⟩
  obtain ⟨kk, rfl⟩ := hls
  have hv2 : (jEn av)[i]? = some (some v) := by
    by_cases hlt : i < (jEn av).length
    · rw [List.getElem?_append_left hlt] at hv
      exact hv
    · rw [List.getElem?_append_right (by omega)] at hv
      obtain ⟨h1, h2⟩ := List.getElem?_eq_some_iff.mp hv
      simp at h2
  have h3 := jEn_in av 0 i v hv2
  rw [Nat.zero_add] at h3
  exact hl.2.2 _ (lv_args_map G av 0 i v h3)
/-- what a call of an instance method needs of the tables -/
def jCV (own : String) (idx ci : Nat) (y : MethodName) (M : jM) (n : Nat) : Prop := ∃ (T : u_T) (N : Nat), vwCl[ci]? = some (y.cls, T, N) ∧ Cond.code y M.2.1 M.2.2.1 M.2.2.2.1 ∈ jtb ∧ Cond.instanceMethod y ∈ jtb ∧ Cond.selects y.cls y y ∈ jtb ∧ Cond.initialized y.cls ∈ jtb ∧ (y.cls ≠ "java/lang/invoke/MethodHandle" ∧ y.cls ≠ "java/lang/invoke/VarHandle" ∧ (parseMethodDescriptor y.desc).map (fun d => d.parameters.length) = some n) ∧ (Cond.methodLink own idx y ∈ jtb ∨ ∃ host, Cond.methodLinkNest own idx y host ∈ jNest)
def jCS (own : String) (idx : Nat) (y : MethodName) (M : jM) (n : Nat) : Prop := Cond.code y M.2.1 M.2.2.1 M.2.2.2.1 ∈ jtb ∧ Cond.static y ∈ jtb ∧ Cond.initialized y.cls ∈ jtb ∧ (y.cls ≠ "java/lang/invoke/MethodHandle" ∧ y.cls ≠ "java/lang/invoke/VarHandle" ∧ (parseMethodDescriptor y.desc).map (fun d => d.parameters.length) = some n) ∧ (Cond.methodLink own idx y ∈ jtb ∨ ∃ host, Cond.methodLinkNest own idx y host ∈ jNest)
def jCI (own : String) (idx : Nat) (y : MethodName) (M : jM) (n : Nat) : Prop := Cond.code y M.2.1 M.2.2.1 none ∈ jtb ∧ M.2.2.2.1 = none ∧ Cond.instanceMethod y ∈ jtb ∧ Cond.initialized y.cls ∈ jtb ∧ y.name = "<init>" ∧ (y.cls ≠ "java/lang/invoke/MethodHandle" ∧ y.cls ≠ "java/lang/invoke/VarHandle" ∧ (parseMethodDescriptor y.desc).map (fun d => d.parameters.length) = some n) ∧ (Cond.methodLink own idx y ∈ jtb ∨ ∃ host, Cond.methodLinkNest own idx y host ∈ jNest)
theorem jGood {y : MethodName} {M : jM} (hc : Cond.code y M.2.1 M.2.2.1 M.2.2.2.1 ∈ jtb) : GoodIn jtb (jWs y M) := fun w hw => by
  rcases List.mem_cons.mp hw with e | hw
  · rw [e]; exact jtb_good hc
  · exact jtb_good hw
section JK
variable {p : Program} {l : Launch} {e : Env} {R : Room} {s : State} {m : MethodId} {args : Array Value} {below : List Frame} {meth : Method} {c : Code} {H : Heap} {locs : List Loc} {Qw : State → Prop} {la : Array Slot}
theorem j_after {G : jG} {pc ck sk mc ms : Nat} {st0 rest : List Value} {a : Array Value} {Po : Option Value → jH → Prop} (hr : va_Run p l e R s m args below meth c H locs ck sk mc ms (F0 m pc la st0) rest (jQ G Po a) (jA G)) (hS : va_S (jA G) s.heap H locs)
    (kk : ∀ (r : Option Value) (h' : jH) (H1 : Heap) (locs1 : List Loc), Po r h' → HP G h' H1 → va_S (jA G) s.heap H1 locs1 → W p l e R s m args below meth c H1 locs1 (ck + mc) (sk + ms) Qw (F0 m (pc + 3) la ((r.map (pv G)).toList ++ rest))) : W p l e R s m args below meth c H locs ck sk Qw (F0 m pc la st0) := by
  intro T hT X
  obtain ⟨v, st₀, t, T', L, h0, X', hL, e1, e2, ⟨⟨r, h', hv, hp, hb⟩, hz, hk⟩, stp⟩ := hr T hT X
  cases hv
  rw [h0] at hz hk
  obtain ⟨t2, a1, b1⟩ := kk r h' T'.heap (locs ++ L) hp (by rw [e1]; exact hb)
    ⟨Nat.le_trans hS.1 (by rw [e1]; exact hz), fun q h1 h2 => by rw [e1, hk q (Nat.lt_of_lt_of_le h1 hS.1) h2]; exact hS.2.1 q h1 h2, fun q hq => by
      rcases List.mem_append.mp hq with h | h
      · exact hS.2.2 q h
      · exact hL q h⟩ T' rfl X'
  exact ⟨t2, stp t2 a1, b1⟩
end JK
section JC
variable {l : Launch} {G : jG} {M : jM} {R : Room} {E : State → Array Value → Prop} {Q : List Frame → Array Value → State → State → Prop} {h : jH} {nh : Nat} {fh : Nat → Option va_E} {ck sk pc : Nat} {ls : List (Option Value)} {st : List Value}
theorem j_cats (G : jG) (st : List Value) : ((st.map (pv G)).map fun v => v.category) = st.map fun v => v.category := by
  rw [List.map_map]
  exact List.map_congr_left (fun v _ => pv_cat G v)
theorem j_toList (G : jG) (r : Option Value) (st : List Value) : (r.toList ++ st).map (pv G) = (r.map (pv G)).toList ++ st.map (pv G) := by
  cases r <;> simp
theorem J_callV {idx ci k n : Nat} {fs : List Value} {y : MethodName} {M' : jM} {rm : Room} {av st0 : List Value} {Po : Option Value → jH → Prop} (hdg : decode M.2.1 pc = .ok (.invokevirtual idx, 3)) (L : jCV M.1 idx ci y M' n) (hM : JM l G y M' rm (.ref k :: av) (nh, fh) Po) (hf : fh k = some (.inr (ci, fs))) (hn : av.length = n) (hst : st0 = av.reverse ++ .ref k :: st) (hW : (st.map fun v => v.category).sum ≤ 8) (hR : rm.frames + 1 ≤ R.frames ∧ 8 + (M'.2.2.1 + 11) + rm.locals ≤ R.locals) (hc : ck + rm.cells ≤ R.cells ∧ sk + rm.slots ≤ R.slots)
    (kk : ∀ (r : Option Value) (h' : jH), Po r h' → J l G M R E Q h' (ck + rm.cells) (sk + rm.slots) (pc + 3) ls (r.toList ++ st)) : J l G M R E Q (nh, fh) ck sk pc ls st0 := by
  intro p e s m args below meth c H locs la X hE hP hS hL
  obtain ⟨T, N, hcl, hcode, hinst, hsel, hini, hd, hlk⟩ := L
  have hts := X.2.2.2.2.2.1
  have hK := X.2.2.2.2.2.2.1
  have hN := X.2.2.2.2.2.2.2.2.2.2
  subst hst
  have hpre : PreV s H y.cls (G.2.2.1 + k) (jPc G (.ref k :: av) (nh, fh)) (av.map (pv G)) := ⟨jPc_blind, va_recv hK (hP.one hf) hcl (q0 := 0) rfl, fun U hU hW => ⟨rfl, by rw [hU]; exact hP, va_K.moved hW.alike hK, hN.moved hW (fun a h1 h2 => by rw [hU]; exact hS.2.1 a h1 h2)⟩⟩
  have hstk : (av.reverse ++ .ref k :: st).map (pv G) = (av.map (pv G)).reverse ++ .ref (G.2.2.1 + k) :: st.map (pv G) := by
    rw [List.map_append, List.map_reverse]; rfl
  have hroom : 2 * (F0 m pc la ((av.reverse ++ .ref k :: st).map (pv G))).monitorRoom + ((st.map (pv G)).map fun v => v.category).sum ≤ 8 := lv_room (by rw [j_cats]; exact hW)
  have fin : va_Run p l e R s m args below meth c H locs ck sk rm.cells rm.slots (F0 m pc la ((av.reverse ++ .ref k :: st).map (pv G))) (st.map (pv G)) (jQ G Po (Value.ref (G.2.2.1 + k) :: av.map (pv G)).toArray) (jA G) := by
    rcases hlk with hlk | ⟨host, hlk⟩
    · exact va_runV (Ts := jtb) ⟨X.1, X.2.1, X.2.2.2.1, X.2.2.2.2.1, hts⟩ hM (cwV n hts (fun w hw => by
        rcases List.mem_append.mp hw with hw | hw
        · simp only [List.mem_cons, List.not_mem_nil, or_false] at hw
          rcases hw with rfl | rfl | rfl | rfl
          · exact jtb_good hlk
          · exact jtb_good hinst
          · exact jtb_good hsel
          · exact jtb_good hini
        · exact jGood hcode w hw) rfl rfl rfl ⟨rfl, hd⟩ hR) hpre rfl (by rw [List.length_map]; exact hn) hL.1 hstk hroom hdg hc
    · exact va_runVN (Ts := jtb) ⟨X.1, X.2.1, X.2.2.2.1, X.2.2.2.2.1, hts⟩ hM ⟨va_cnB n hts (jGood hcode) rfl rfl rfl (hN.1 _ hlk) (hts _ hini) hd hR, hts _ hinst, hts _ hsel⟩ hpre rfl (by rw [List.length_map]; exact hn) hL.1 hstk hroom hdg hc
  refine j_after fin hS (fun r h' H1 locs1 hp hP1 hS1 => ?_)
  rw [← j_toList]
  exact kk r h' hp p e s m args below meth c H1 locs1 la X hE hP1 hS1 hL
theorem J_callS {idx n : Nat} {y : MethodName} {M' : jM} {rm : Room} {av st0 : List Value} {Po : Option Value → jH → Prop} (hdg : decode M.2.1 pc = .ok (.invokestatic idx, 3)) (L : jCS M.1 idx y M' n) (hM : JM l G y M' rm av h Po) (hn : av.length = n) (hst : st0 = av.reverse ++ st) (hW : (st.map fun v => v.category).sum ≤ 8) (hR : rm.frames + 1 ≤ R.frames ∧ 8 + (M'.2.2.1 + 11) + rm.locals ≤ R.locals) (hc : ck + rm.cells ≤ R.cells ∧ sk + rm.slots ≤ R.slots)
    (kk : ∀ (r : Option Value) (h' : jH), Po r h' → J l G M R E Q h' (ck + rm.cells) (sk + rm.slots) (pc + 3) ls (r.toList ++ st)) : J l G M R E Q h ck sk pc ls st0 := by
  intro p e s m args below meth c H locs la X hE hP hS hL
  obtain ⟨hcode, hstat, hini, hd, hlk⟩ := L
  have hts := X.2.2.2.2.2.1
  have hK := X.2.2.2.2.2.2.1
  have hN := X.2.2.2.2.2.2.2.2.2.2
  subst hst
  have hpre : PreS s H (jPc G av h) (av.map (pv G)) := ⟨jPc_blind, fun U hU hW => ⟨rfl, by rw [hU]; exact hP, va_K.moved hW.alike hK, hN.moved hW (fun a h1 h2 => by rw [hU]; exact hS.2.1 a h1 h2)⟩⟩
  have hstk : (av.reverse ++ st).map (pv G) = (av.map (pv G)).reverse ++ st.map (pv G) := by
    rw [List.map_append, List.map_reverse]
  have hroom : 2 * (F0 m pc la ((av.reverse ++ st).map (pv G))).monitorRoom + ((st.map (pv G)).map fun v => v.category).sum ≤ 8 := lv_room (by rw [j_cats]; exact hW)
  have fin : va_Run p l e R s m args below meth c H locs ck sk rm.cells rm.slots (F0 m pc la ((av.reverse ++ st).map (pv G))) (st.map (pv G)) (jQ G Po (av.map (pv G)).toArray) (jA G) := by
    rcases hlk with hlk | ⟨host, hlk⟩
    · exact va_runS (Ts := jtb) ⟨X.1, X.2.1, X.2.2.2.1, X.2.2.2.2.1, hts⟩ hM ⟨callB_of n hts (jGood hcode) rfl rfl rfl (hts _ hini) (hts _ hlk) hd hR, hts _ hstat⟩ hpre rfl (by rw [List.length_map]; exact hn) hL.1 hstk hroom hdg hc
    · exact va_runSN (Ts := jtb) ⟨X.1, X.2.1, X.2.2.2.1, X.2.2.2.2.1, hts⟩ hM ⟨va_cnB n hts (jGood hcode) rfl rfl rfl (hN.1 _ hlk) (hts _ hini) hd hR, hts _ hstat, trivial⟩ hpre rfl (by rw [List.length_map]; exact hn) hL.1 hstk hroom hdg hc
  refine j_after fin hS (fun r h' H1 locs1 hp hP1 hS1 => ?_)
  rw [← j_toList]
  exact kk r h' hp p e s m args below meth c H1 locs1 la X hE hP1 hS1 hL
theorem J_callI {idx k n : Nat} {y : MethodName} {M' : jM} {rm : Room} {av st0 : List Value} {Po : Option Value → jH → Prop} (hdg : decode M.2.1 pc = .ok (.invokespecial idx, 3)) (L : jCI M.1 idx y M' n) (hM : JM l G y M' rm (.ref k :: av) h Po) (hn : av.length = n) (hst : st0 = av.reverse ++ .ref k :: st) (hW : (st.map fun v => v.category).sum ≤ 8) (hR : rm.frames + 1 ≤ R.frames ∧ 8 + (M'.2.2.1 + 11) + rm.locals ≤ R.locals) (hc : ck + rm.cells ≤ R.cells ∧ sk + rm.slots ≤ R.slots)
    (kk : ∀ (r : Option Value) (h' : jH), Po r h' → J l G M R E Q h' (ck + rm.cells) (sk + rm.slots) (pc + 3) ls (r.toList ++ st)) : J l G M R E Q h ck sk pc ls st0 := by
  intro p e s m args below meth c H locs la X hE hP hS hL
  obtain ⟨hcode, hret, hinst, hini, hy1, hd, hlk⟩ := L
  have hts := X.2.2.2.2.2.1
  have hK := X.2.2.2.2.2.2.1
  have hN := X.2.2.2.2.2.2.2.2.2.2
  subst hst
  have hpre : PreS s H (jPc G (.ref k :: av) h) (.ref (G.2.2.1 + k) :: av.map (pv G)) := ⟨jPc_blind, fun U hU hW => ⟨rfl, by rw [hU]; exact hP, va_K.moved hW.alike hK, hN.moved hW (fun a h1 h2 => by rw [hU]; exact hS.2.1 a h1 h2)⟩⟩
  have hstk : (av.reverse ++ .ref k :: st).map (pv G) = (av.map (pv G)).reverse ++ .ref (G.2.2.1 + k) :: st.map (pv G) := by
    rw [List.map_append, List.map_reverse]; rfl
  have hroom : 2 * (F0 m pc la ((av.reverse ++ .ref k :: st).map (pv G))).monitorRoom + ((st.map (pv G)).map fun v => v.category).sum ≤ 8 := lv_room (by rw [j_cats]; exact hW)
  have hcode' : Cond.code y M'.2.1 M'.2.2.1 M'.2.2.2.1 ∈ jtb := by rw [hret]; exact hcode
  have hws : jWs y M' = Cond.code y M'.2.1 M'.2.2.1 none :: jtb := by unfold jWs; rw [hret]
  have fin : va_Run p l e R s m args below meth c H locs ck sk rm.cells rm.slots (F0 m pc la ((av.reverse ++ .ref k :: st).map (pv G))) (st.map (pv G)) (jQ G Po (Value.ref (G.2.2.1 + k) :: av.map (pv G)).toArray) (jA G) := by
    rcases hlk with hlk | ⟨host, hlk⟩
    · exact va_runI (Ts := jtb) ⟨X.1, X.2.1, X.2.2.2.1, X.2.2.2.2.1, hts⟩ hM (cwI n hts (jGood hcode') hws rfl rfl (hts _ hini) (hts _ hlk) (hts _ hinst) hy1 hd hR) hpre rfl (by rw [List.length_map]; exact hn) hL.1 hstk hroom hdg hc
    · exact va_runIN (Ts := jtb) ⟨X.1, X.2.1, X.2.2.2.1, X.2.2.2.2.1, hts⟩ hM ⟨va_cnB n hts (jGood hcode') hws rfl rfl (hN.1 _ hlk) (hts _ hini) hd hR, hy1, hts _ hinst⟩ hpre rfl (by rw [List.length_map]; exact hn) hL.1 hstk hroom hdg hc
  refine j_after fin hS (fun r h' H1 locs1 hp hP1 hS1 => ?_)
  rw [← j_toList]
  exact kk r h' hp p e s m args below meth c H1 locs1 la X hE hP1 hS1 hL
theorem J_objInit {idx k : Nat} (hdg : decode M.2.1 pc = .ok (.invokespecial idx, 3)) (hlink : Cond.methodLink M.1 idx Lib.objectInit ∈ jtb) (hinst : Cond.instanceMethod Lib.objectInit ∈ jtb) (hcode : Cond.code Lib.objectInit ⟨#[0xb1]⟩ 1 none ∈ jtb) (hfr : 1 ≤ R.frames) (hlo : (st.map fun v => v.category).sum + 12 ≤ R.locals) (kk : J l G M R E Q h ck sk (pc + 3) ls st) : J l G M R E Q h ck sk pc ls (.ref k :: st) := by
  intro p e s m args below meth c H locs la X hE hP hS hL
  have hts := X.2.2.2.2.2.1
  refine W.objInit X.1 X.2.1 X.2.2.2.2.1 (hts _ hlink) (hts _ hinst) (hts _ hcode) rfl (by rw [X.2.2.2.1]; exact hL.1) rfl hdg hfr ?_ (kk p e s m args below meth c H locs la X hE hP hS hL)
  have hz : (F0 m pc la ((.ref k :: st).map (pv G))).monitorRoom = 0 := rfl
  rw [hz, j_cats]
  omega
theorem J_iret {v : Int32} {ty : FieldType} {Po : Option Value → jH → Prop} (hdg : decode M.2.1 pc = .ok (.ireturn, 1)) (hr : M.2.2.2.1 = some ty) (hn : narrow ty (.int v) = .int v) (hc : ck ≤ R.cells) (hs : sk ≤ R.slots) (hq : Po (some (.int v)) h) : J l G M R E (jMQ G R Po) h ck sk pc ls [.int v] := by
  intro p e s m args below meth c H locs la X hE hP hS hL
  refine W.widen hc hs ?_
  exact W.zret X.1 X.2.1 (X.2.2.1.trans hr) hn (fun t ht hW => ⟨⟨some (.int v), h, rfl, hq, by rw [ht]; exact hP⟩, hS.F ht⟩) hS.2.2 hdg (hlocks := X.2.2.2.2.2.2.2.1)
theorem J_lret {v : Int64} {Po : Option Value → jH → Prop} (hdg : decode M.2.1 pc = .ok (.lreturn, 1)) (hr : M.2.2.2.1 = some .long) (hc : ck ≤ R.cells) (hs : sk ≤ R.slots) (hq : Po (some (.long v)) h) : J l G M R E (jMQ G R Po) h ck sk pc ls [.long v] := by
  intro p e s m args below meth c H locs la X hE hP hS hL
  refine W.widen hc hs ?_
  exact W.lret X.1 X.2.1 (X.2.2.1.trans hr) (fun t ht hW => ⟨⟨some (.long v), h, rfl, hq, by rw [ht]; exact hP⟩, hS.F ht⟩) hS.2.2 hdg (hlocks := X.2.2.2.2.2.2.2.1)
theorem J_vret {Po : Option Value → jH → Prop} (hdg : decode M.2.1 pc = .ok (.return_, 1)) (hr : M.2.2.2.1 = none) (hc : ck ≤ R.cells) (hs : sk ≤ R.slots) (hq : Po none h) : J l G M R E (jMQ G R Po) h ck sk pc ls [] := by
  intro p e s m args below meth c H locs la X hE hP hS hL
  refine W.widen hc hs ?_
  exact W.vret X.1 X.2.1 (X.2.2.1.trans hr) (fun t ht hW => ⟨⟨none, h, rfl, hq, by rw [ht]; exact hP⟩, hS.F ht⟩) hS.2.2 hdg (hlocks := X.2.2.2.2.2.2.2.1)
theorem J_aret {k : Nat} {rt : FieldType} {Po : Option Value → jH → Prop} (hdg : decode M.2.1 pc = .ok (.areturn, 1)) (hr : M.2.2.2.1 = some rt) (hrt : (∃ n, rt = .object n) ∨ ∃ t, rt = .array t) (hc : ck ≤ R.cells) (hs : sk ≤ R.slots) (hq : Po (some (.ref k)) h) : J l G M R E (jMQ G R Po) h ck sk pc ls [.ref k] := by
  intro p e s m args below meth c H locs la X hE hP hS hL
  refine W.widen hc hs ?_
  exact W.aret X.1 X.2.1 (X.2.2.1.trans hr) hrt (Or.inr ⟨_, rfl⟩) (fun t ht hW => ⟨⟨some (.ref k), h, rfl, hq, by rw [ht]; exact hP⟩, hS.F ht⟩) hS.2.2 hdg (hlocks := X.2.2.2.2.2.2.2.1)
theorem J_mmax {idx : Nat} {x y z : Int32} (hdg : decode M.2.1 pc = .ok (.invokestatic idx, 3)) (hlink : Cond.methodLink M.1 idx Lib.Math.max.name ∈ jtb) (hstat : Cond.static Lib.Math.max.name ∈ jtb) (hini : Cond.initialized "java/lang/Math" ∈ jtb) (hcode : Cond.code Lib.Math.max.name Lib.Math.max.code 2 (some .int) ∈ jtb) (hfr : 1 ≤ R.frames) (hlo : (st.map fun v => v.category).sum + 13 ≤ R.locals) (hc : ck ≤ R.cells) (hs : sk ≤ R.slots) (hz : (if x < y then y else x) = z) (kk : J l G M R E Q h ck sk (pc + 3) ls (.int z :: st)) : J l G M R E Q h ck sk pc ls (.int y :: .int x :: st) := by
  intro p e s m args below meth c H locs la X hE hP hS hL
  subst hz
  have hts := X.2.2.2.2.2.1
  exact va_mmax X.1 X.2.1 (by rw [X.2.2.2.1]; exact hL.1.symm) X.2.2.2.2.1 (hts _ hlink) (hts _ hstat) (hts _ hini) (hts _ hcode) hfr (by rw [j_cats]; exact hlo) hc hs hdg (kk p e s m args below meth c H locs la X hE hP hS hL)
end JC
