/-! THE LOGIC J: total correctness over a picture of the heap. Cells are numbered from a base on: number k stands at the address base + k.
A picture is a number of cells and a partial function from numbers to cells (va_E, whose references are numbers, whose array classes are places in jT). -/
abbrev jH : Type := Nat × (Nat → Option va_E)
/-- what is fixed in a run: classes and slots, the array classes, the base, and what lies below it: 0 the script, 1 the text of the words, 2 its bytes, 3 what words a wrong index -/
abbrev jG : Type := va_G × (Nat → ClassId) × Nat × (Nat → Nat)
/-- a method: its class, its bytes, its locals, what it returns, whether it is a constructor -/
abbrev jM : Type := String × ByteArray × Nat × Option FieldType × Bool
def hu (f : Nat → Option va_E) (k : Nat) (e : va_E) : Nat → Option va_E := fun j => bif Nat.beq j k then some e else f j
theorem hu_same {f : Nat → Option va_E} {k : Nat} {e : va_E} : hu f k e k = some e := by
  unfold hu
  rw [Nat.beq_refl]
  rfl
theorem hu_ne {f : Nat → Option va_E} {k j : Nat} {e : va_E} (h : j ≠ k) : hu f k e j = f j := by
  unfold hu
  have h1 : Nat.beq j k = false := by
    cases hb : Nat.beq j k with
    | false => rfl
    | true => exact absurd (Nat.eq_of_beq_eq_true hb) h
  rw [h1]
  rfl
def pv (G : jG) : Value → Value
  | .ref k => .ref (G.2.2.1 + k)
  | .retAddr k => .ref (G.2.2.2 k)
  | v => v
theorem pv_cat (G : jG) (v : Value) : (pv G v).category = v.category := by cases v <;> rfl
def pe (G : jG) : va_E → va_E
  | .inl (t, n, .inl f) => .inl (G.2.1 t, n, .inl f)
  | .inl (t, n, .inr (.inl f)) => .inl (G.2.1 t, n, .inr (.inl f))
  | .inl (t, n, .inr (.inr (.inl f))) => .inl (G.2.1 t, n, .inr (.inr (.inl f)))
  | .inl (t, n, .inr (.inr (.inr (.inl f)))) => .inl (G.2.1 t, n, .inr (.inr (.inr (.inl f))))
  | .inl (t, n, .inr (.inr (.inr (.inr f)))) => .inl (G.2.1 t, n, .inr (.inr (.inr (.inr (fun j => (f j).map (fun k => G.2.2.1 + k))))))
  | .inr (ci, fs) => .inr (ci, fs.map (pv G))
/-- the cells from the base on may change -/
def jA (G : jG) : Nat → Prop := fun q => G.2.2.1 ≤ q
/-- the bytes of the words' text -/
def jByL : List Int32 := [116, 97, 107, 101, 115, 32, 108, 101, 116, 115, 32, 98, 97, 114, 115, 32, 105, 102, 32, 111, 114, 32, 97, 110, 100, 32, 110, 111, 116, 32, 108, 101, 102, 116, 32, 114, 105, 103, 104, 116, 32, 111, 110, 101, 32, 111, 116, 104, 101, 114, 32, 97, 112, 97, 114, 116, 32, 102, 105, 114, 115, 116, 32, 98, 101, 97, 110, 115, 32, 100, 97, 121, 32]
def jBy (j : Nat) : Int32 := jByL.getD j 0
/-- the text of the words, below the base -/
def jS (G : jG) (U : State) (H : Heap) : Prop :=
  vk_R "BeanStreet$Reader" 113 "takes lets bars if or and not left right one other apart first beans day " (G.2.2.2 1) U ∧ va_O "java/lang/String" (G.2.2.2 1) (jA G) U H ∧ va_OF "java/lang/String" "coder" "B" (.int 0) (G.2.2.2 1) (jA G) U H ∧ va_OF "java/lang/String" "value" "[B" (.ref (G.2.2.2 2)) (G.2.2.2 1) (jA G) U H ∧ va_T .byte (G.2.2.2 2) 73 (fun j => .int (jBy j)) (jA G) U H ∧ va_Z "java/lang/String" "COMPACT_STRINGS" "Z" (.int 1) (jA G) U H ∧ (va_Z "jdk/internal/util/Preconditions" "SIOOBE_FORMATTER" "Ljava/util/function/BiFunction;" .null (jA G) U H ∨ va_Z "jdk/internal/util/Preconditions" "SIOOBE_FORMATTER" "Ljava/util/function/BiFunction;" (.ref (G.2.2.2 3)) (jA G) U H)
theorem jS.moved {G : jG} {s U : State} (hW : s.WarmedH U.vm) (hk : ∀ a : Nat, a < s.heap.size → ¬ jA G a → U.heap[a]? = s.heap[a]?) (h : jS G s s.heap) : jS G U U.heap :=
  ⟨h.1.warm hW, (va_O.moved hW.alike h.2.1).kept hk, (va_OF.moved hW.alike h.2.2.1).kept hk, (va_OF.moved hW.alike h.2.2.2.1).kept hk, (va_T.moved hW.alike h.2.2.2.2.1).kept hk, (va_Z.moved hW.alike h.2.2.2.2.2.1).kept hk, h.2.2.2.2.2.2.elim (fun q => Or.inl ((va_Z.moved hW.alike q).kept hk)) (fun q => Or.inr ((va_Z.moved hW.alike q).kept hk))⟩
/-- the words that no list of a callee may hold, carried by hand -/
def jN (G : jG) (U : State) : Prop := (∀ w ∈ jNest, va_Nw w U) ∧ va_AO "BeanStreet$State" U ∧ (Cond.arrayOver (.array .int)).before #[] U = true ∧ jS G U U.heap
theorem jN.moved {G : jG} {s U : State} (hW : s.WarmedH U.vm) (hk : ∀ a : Nat, a < s.heap.size → ¬ jA G a → U.heap[a]? = s.heap[a]?) (h : jN G s) : jN G U := by
  obtain ⟨h1, h2, h3, h4⟩ := h
  refine ⟨fun w hw => ?_, va_AO.moved hW.alike h2, ?_, h4.moved hW hk⟩
  · have hn := (List.mem_filter.mp hw).2
    have hs := h1 w hw
    cases w <;> first | (simp [jIsNest] at hn; done) | exact va_Nw.warmF hW hs | exact va_Nw.warmM hW hs
  · exact j_over_moved hW.alike h3
def jTys (G : jG) : List (ClassId × FieldType) := (List.range jT.length).map (fun k => (G.2.1 k, jT.getD k .int))
/-- the heap holds the picture -/
def HP (G : jG) (h : jH) (H : Heap) : Prop := H.size = G.2.2.1 + h.1 ∧ ∀ (k : Nat) (e : va_E), h.2 k = some e → va_at G.1 vwCl (G.2.2.1 + k, pe G e) H
def jX (G : jG) (M : jM) (p : Program) (s : State) (m : MethodId) (args : Array Value) (meth : Method) (c : Code) : Prop :=
  p.tables.exec = Jvm.exec ∧ c.code = M.2.1 ∧ meth.sig.returnType = M.2.2.2.1 ∧ c.maxLocals = M.2.2.1 ∧ s.vm.findClass M.1 = some m.cls ∧ (∀ w ∈ jtb, w.before args s = true) ∧ va_K G.1 vwCl (jTys G) s ∧ meth.locks = false ∧ (M.2.2.2.2 = true → meth.name = "<init>") ∧ G.2.2.1 ≤ s.heap.size ∧ jN G s
/-- the locals: 'none' is one of which nothing is said -/
def jL (G : jG) (nL : Nat) (la : Array Slot) (ls : List (Option Value)) : Prop := la.size = nL ∧ lv_wf la ∧ ∀ (i : Nat) (v : Value), ls[i]? = some (some v) → la[i]? = some (.val (pv G v))
/-- behind a method -/
def jQ (G : jG) (Po : Option Value → jH → Prop) : Array Value → State → Outcome → State → Prop := fun _ st oc t => (∃ (r : Option Value) (h' : jH), oc = .returned (r.map (pv G)) ∧ Po r h' ∧ HP G h' t.heap) ∧ va_F (jA G) st t
/-- the judgement: E: what else is known of the start; Q: what is wanted at the end -/
def J (l : Launch) (G : jG) (M : jM) (R : Room) (E : State → Array Value → Prop) (Q : List Frame → Array Value → State → State → Prop) (h : jH) (ck sk pc : Nat) (ls : List (Option Value)) (st : List Value) : Prop :=
  ∀ (p : Program) (e : Env) (s : State) (m : MethodId) (args : Array Value) (below : List Frame) (meth : Method) (c : Code) (H : Heap) (locs : List Loc) (la : Array Slot),
    jX G M p s m args meth c → E s args → HP G h H → va_S (jA G) s.heap H locs → jL G M.2.2.1 la ls →
    W p l e R s m args below meth c H locs ck sk (Q below args s) (F0 m pc la (st.map (pv G)))
/-- a method's own end -/
def jMQ (G : jG) (R : Room) (Po : Option Value → jH → Prop) : List Frame → Array Value → State → State → Prop := fun below args s => MQ below (jQ G Po) args s R.cells R.slots (jA G)
def jE : State → Array Value → Prop := fun _ _ => True
section JR
variable {l : Launch} {G : jG} {M : jM} {R : Room} {E : State → Array Value → Prop} {Q : List Frame → Array Value → State → State → Prop} {h : jH} {ck sk pc : Nat} {ls : List (Option Value)} {st : List Value}
/-- weakening of what is known of the locals -/
theorem J_forget {ls' : List (Option Value)} (hw : ∀ (i : Nat) (v : Value), ls'[i]? = some (some v) → ls[i]? = some (some v)) (k : J l G M R E Q h ck sk pc ls' st) : J l G M R E Q h ck sk pc ls st := by
  intro p e s m args below meth c H locs la X hE hP hS hL
  exact k p e s m args below meth c H locs la X hE hP hS ⟨hL.1, hL.2.1, fun i v hi => hL.2.2 i v (hw i v hi)⟩
theorem J_iconst {n : Int} {v : Int32} (hdg : decode M.2.1 pc = .ok (.iconst n, 1)) (hv : Int32.ofInt n = v) (k : J l G M R E Q h ck sk (pc + 1) ls (.int v :: st)) : J l G M R E Q h ck sk pc ls st := by
  intro p e s m args below meth c H locs la X hE hP hS hL
  exact lv_iconst X.1 X.2.1 hdg hv (k p e s m args below meth c H locs la X hE hP hS hL)
theorem J_bipush {n : Int} {v : Int32} (hdg : decode M.2.1 pc = .ok (.bipush n, 2)) (hv : (Int8.ofInt n).toInt32 = v) (k : J l G M R E Q h ck sk (pc + 2) ls (.int v :: st)) : J l G M R E Q h ck sk pc ls st := by
  intro p e s m args below meth c H locs la X hE hP hS hL
  exact lv_bipush X.1 X.2.1 hdg hv (k p e s m args below meth c H locs la X hE hP hS hL)
theorem J_sipush {n : Int} {v : Int32} (hdg : decode M.2.1 pc = .ok (.sipush n, 3)) (hv : (Int16.ofInt n).toInt32 = v) (k : J l G M R E Q h ck sk (pc + 3) ls (.int v :: st)) : J l G M R E Q h ck sk pc ls st := by
  intro p e s m args below meth c H locs la X hE hP hS hL
  exact lv_sipush X.1 X.2.1 hdg hv (k p e s m args below meth c H locs la X hE hP hS hL)
theorem J_lconst {n : Fin 2} {v : Int64} (hdg : decode M.2.1 pc = .ok (.lconst n, 1)) (hv : Int64.ofNat (n : Nat) = v) (k : J l G M R E Q h ck sk (pc + 1) ls (.long v :: st)) : J l G M R E Q h ck sk pc ls st := by
  intro p e s m args below meth c H locs la X hE hP hS hL
  exact lv_lconst X.1 X.2.1 hdg hv (k p e s m args below meth c H locs la X hE hP hS hL)
theorem J_ldc {index : Nat} {v : Int32} (hdg : decode M.2.1 pc = .ok (.ldc index, 2)) (hc : Jvm.Cond.constant M.1 index v ∈ jtb) (k : J l G M R E Q h ck sk (pc + 2) ls (.int v :: st)) : J l G M R E Q h ck sk pc ls st := by
  intro p e s m args below meth c H locs la X hE hP hS hL
  exact lv_ldc X.1 X.2.1 X.2.2.2.2.1 (X.2.2.2.2.2.1 _ hc) hdg (k p e s m args below meth c H locs la X hE hP hS hL)
theorem J_ldc2 {index : Nat} {v : Int64} (hdg : decode M.2.1 pc = .ok (.ldc2_w index, 3)) (hc : Jvm.Cond.constantLong M.1 index v ∈ jtb) (k : J l G M R E Q h ck sk (pc + 3) ls (.long v :: st)) : J l G M R E Q h ck sk pc ls st := by
  intro p e s m args below meth c H locs la X hE hP hS hL
  exact lv_ldc2 X.1 X.2.1 X.2.2.2.2.1 (X.2.2.2.2.2.1 _ hc) hdg (k p e s m args below meth c H locs la X hE hP hS hL)
theorem J_iload_n {n : Fin 4} {i : Nat} {x : Int32} (hdg : decode M.2.1 pc = .ok (.iload_n n, 1)) (hi : (n : Nat) = i) (hl : ls[i]? = some (some (.int x))) (k : J l G M R E Q h ck sk (pc + 1) ls (.int x :: st)) : J l G M R E Q h ck sk pc ls st := by
  intro p e s m args below meth c H locs la X hE hP hS hL
  exact lv_iload_n X.1 X.2.1 hdg hi (hL.2.2 _ _ hl) (k p e s m args below meth c H locs la X hE hP hS hL)
theorem J_iload {i : Nat} {x : Int32} (hdg : decode M.2.1 pc = .ok (.iload i, 2)) (hl : ls[i]? = some (some (.int x))) (k : J l G M R E Q h ck sk (pc + 2) ls (.int x :: st)) : J l G M R E Q h ck sk pc ls st := by
  intro p e s m args below meth c H locs la X hE hP hS hL
  exact lv_iload X.1 X.2.1 hdg (hL.2.2 _ _ hl) (k p e s m args below meth c H locs la X hE hP hS hL)
theorem J_lload_n {n : Fin 4} {i : Nat} {x : Int64} (hdg : decode M.2.1 pc = .ok (.lload_n n, 1)) (hi : (n : Nat) = i) (hl : ls[i]? = some (some (.long x))) (k : J l G M R E Q h ck sk (pc + 1) ls (.long x :: st)) : J l G M R E Q h ck sk pc ls st := by
  intro p e s m args below meth c H locs la X hE hP hS hL
  exact lv_lload_n X.1 X.2.1 hdg hi (hL.2.2 _ _ hl) (k p e s m args below meth c H locs la X hE hP hS hL)
theorem J_lload {i : Nat} {x : Int64} (hdg : decode M.2.1 pc = .ok (.lload i, 2)) (hl : ls[i]? = some (some (.long x))) (k : J l G M R E Q h ck sk (pc + 2) ls (.long x :: st)) : J l G M R E Q h ck sk pc ls st := by
  intro p e s m args below meth c H locs la X hE hP hS hL
  exact lv_lload X.1 X.2.1 hdg (hL.2.2 _ _ hl) (k p e s m args below meth c H locs la X hE hP hS hL)
theorem J_aload_n {n : Fin 4} {i : Nat} {x : Nat} (hdg : decode M.2.1 pc = .ok (.aload_n n, 1)) (hi : (n : Nat) = i) (hl : ls[i]? = some (some (.ref x))) (k : J l G M R E Q h ck sk (pc + 1) ls (.ref x :: st)) : J l G M R E Q h ck sk pc ls st := by
  intro p e s m args below meth c H locs la X hE hP hS hL
  exact lv_aload_n X.1 X.2.1 hdg hi (hL.2.2 _ _ hl) (k p e s m args below meth c H locs la X hE hP hS hL)
theorem J_aload {i : Nat} {x : Nat} (hdg : decode M.2.1 pc = .ok (.aload i, 2)) (hl : ls[i]? = some (some (.ref x))) (k : J l G M R E Q h ck sk (pc + 2) ls (.ref x :: st)) : J l G M R E Q h ck sk pc ls st := by
  intro p e s m args below meth c H locs la X hE hP hS hL
  exact lv_aload X.1 X.2.1 hdg (hL.2.2 _ _ hl) (k p e s m args below meth c H locs la X hE hP hS hL)
/-- the script's reference -/
theorem J_sload_n {n : Fin 4} {i : Nat} {x : Nat} (hdg : decode M.2.1 pc = .ok (.aload_n n, 1)) (hi : (n : Nat) = i) (hl : ls[i]? = some (some (.retAddr x))) (k : J l G M R E Q h ck sk (pc + 1) ls (.retAddr x :: st)) : J l G M R E Q h ck sk pc ls st := by
  intro p e s m args below meth c H locs la X hE hP hS hL
  exact lv_aload_n X.1 X.2.1 hdg hi (hL.2.2 _ _ hl) (k p e s m args below meth c H locs la X hE hP hS hL)
def jP (G : jG) (ls : List (Option Value)) : List (Nat × Value) := (List.range ls.length).filterMap (fun i => match ls[i]? with | some (some v) => some (i, pv G v) | _ => none)
theorem jP_in {G : jG} {ls : List (Option Value)} {i : Nat} {v : Value} (h : ls[i]? = some (some v)) : (i, pv G v) ∈ jP G ls :=
  List.mem_filterMap.mpr ⟨i, List.mem_range.mpr (List.getElem?_eq_some_iff.mp h).1, by rw [h]⟩
theorem jP_of {G : jG} {ls : List (Option Value)} {q : Nat × Value} (h : q ∈ jP G ls) : ∃ v, ls[q.1]? = some (some v) ∧ q.2 = pv G v := by
  obtain ⟨i, -, hi⟩ := List.mem_filterMap.mp h
  split at hi
  · rename_i v hv
    cases hi
    exact ⟨v, hv, rfl⟩
  · cases hi
theorem jL_has {G : jG} {nL : Nat} {la : Array Slot} {ls : List (Option Value)} (h : jL G nL la ls) : lv_has la nL (jP G ls) := by
  refine ⟨h.1, h.2.1, fun q hq => ?_⟩
  obtain ⟨v, h1, h2⟩ := jP_of hq
  rw [h2]
  exact h.2.2 _ _ h1
/-- what stands before place i isn't a long -/
def jok (ls : List (Option Value)) (i : Nat) : Bool := match i with
  | 0 => true
  | j + 1 => match ls[j]? with
    | some (some v) => v.category == 1
    | _ => true
theorem jok_of {ls : List (Option Value)} {j i : Nat} {v : Value} (h : jok ls i = true) (hv : ls[j]? = some (some v)) (hj : j + 1 = i) : v.category = 1 := by
  subst hj
  have h : (match ls[j]? with | some (some v) => v.category == 1 | _ => true) = true := h
  rw [hv] at h
  simpa using h
theorem jL_store1 {G : jG} {nL : Nat} {la : Array Slot} {ls : List (Option Value)} {i : Nat} {v : Value} (hok : jok ls i = true) (h : lv_has la nL ((i, pv G v) :: (jP G ls).filter (fun q => !(q.1 == i) && !(q.1 + 1 == i && q.2.category == 2)))) : jL G nL la (ls.set i (some v)) := by
  refine ⟨h.1, h.2.1, fun j w hj => ?_⟩
  by_cases e : j = i
  · subst e
    have hl : j < (ls.set j (some v)).length := (List.getElem?_eq_some_iff.mp hj).1
    rw [List.length_set] at hl
    rw [List.getElem?_set_self hl] at hj
    cases hj
    exact h.2.2 (j, pv G v) List.mem_cons_self
  · rw [List.getElem?_set_ne (Ne.symm e)] at hj
    refine h.2.2 (j, pv G w) (List.mem_cons_of_mem _ (List.mem_filter.mpr ⟨jP_in hj, ?_⟩))
    by_cases e2 : j + 1 = i
    · have hc := jok_of hok hj e2
      simp [e, e2, pv_cat, hc]
    · simp [e, e2]
theorem jL_store2 {G : jG} {nL : Nat} {la : Array Slot} {ls : List (Option Value)} {i : Nat} {v : Value} (hok : jok ls i = true) (h : lv_has la nL ((i, pv G v) :: (jP G ls).filter (fun q => !(q.1 == i) && (!(q.1 == i + 1) && !(q.1 + 1 == i && q.2.category == 2))))) : jL G nL la ((ls.set i (some v)).set (i + 1) none) := by
  refine ⟨h.1, h.2.1, fun j w hj => ?_⟩
  by_cases e1 : j = i + 1
  · subst e1
    have hl : i + 1 < ((ls.set i (some v)).set (i + 1) none).length := (List.getElem?_eq_some_iff.mp hj).1
    rw [List.length_set] at hl
    rw [List.getElem?_set_self hl] at hj
    cases hj
  · rw [List.getElem?_set_ne (Ne.symm e1)] at hj
    by_cases e : j = i
    · subst e
      have hl : j < (ls.set j (some v)).length := (List.getElem?_eq_some_iff.mp hj).1
      rw [List.length_set] at hl
      rw [List.getElem?_set_self hl] at hj
      cases hj
      exact h.2.2 (j, pv G v) List.mem_cons_self
    · rw [List.getElem?_set_ne (Ne.symm e)] at hj
      refine h.2.2 (j, pv G w) (List.mem_cons_of_mem _ (List.mem_filter.mpr ⟨jP_in hj, ?_⟩))
      by_cases e2 : j + 1 = i
      · have hc := jok_of hok hj e2
        simp [e, e1, e2, pv_cat, hc]
      · simp [e, e1, e2]
theorem J_istore_n {n : Fin 4} {i : Nat} {x : Int32} (hdg : decode M.2.1 pc = .ok (.istore_n n, 1)) (hi : (n : Nat) = i) (hn : i < M.2.2.1) (hok : jok ls i = true) (k : J l G M R E Q h ck sk (pc + 1) (ls.set i (some (.int x))) st) : J l G M R E Q h ck sk pc ls (.int x :: st) := by
  intro p e s m args below meth c H locs la X hE hP hS hL
  exact lv_istore_n X.1 X.2.1 hdg hi (jL_has hL) hn rfl (fun la' hl' => k p e s m args below meth c H locs la' X hE hP hS (jL_store1 hok hl'))
theorem J_istore {i : Nat} {x : Int32} (hdg : decode M.2.1 pc = .ok (.istore i, 2)) (hn : i < M.2.2.1) (hok : jok ls i = true) (k : J l G M R E Q h ck sk (pc + 2) (ls.set i (some (.int x))) st) : J l G M R E Q h ck sk pc ls (.int x :: st) := by
  intro p e s m args below meth c H locs la X hE hP hS hL
  exact lv_istore X.1 X.2.1 hdg (jL_has hL) hn rfl (fun la' hl' => k p e s m args below meth c H locs la' X hE hP hS (jL_store1 hok hl'))
theorem J_astore_n {n : Fin 4} {i : Nat} {x : Nat} (hdg : decode M.2.1 pc = .ok (.astore_n n, 1)) (hi : (n : Nat) = i) (hn : i < M.2.2.1) (hok : jok ls i = true) (k : J l G M R E Q h ck sk (pc + 1) (ls.set i (some (.ref x))) st) : J l G M R E Q h ck sk pc ls (.ref x :: st) := by
  intro p e s m args below meth c H locs la X hE hP hS hL
  exact lv_astore_n X.1 X.2.1 hdg hi (jL_has hL) hn rfl (fun la' hl' => k p e s m args below meth c H locs la' X hE hP hS (jL_store1 hok hl'))
theorem J_astore {i : Nat} {x : Nat} (hdg : decode M.2.1 pc = .ok (.astore i, 2)) (hn : i < M.2.2.1) (hok : jok ls i = true) (k : J l G M R E Q h ck sk (pc + 2) (ls.set i (some (.ref x))) st) : J l G M R E Q h ck sk pc ls (.ref x :: st) := by
  intro p e s m args below meth c H locs la X hE hP hS hL
  exact lv_astore X.1 X.2.1 hdg (jL_has hL) hn rfl (fun la' hl' => k p e s m args below meth c H locs la' X hE hP hS (jL_store1 hok hl'))
theorem J_lstore_n {n : Fin 4} {i : Nat} {x : Int64} (hdg : decode M.2.1 pc = .ok (.lstore_n n, 1)) (hi : (n : Nat) = i) (hn : i + 1 < M.2.2.1) (hok : jok ls i = true) (k : J l G M R E Q h ck sk (pc + 1) ((ls.set i (some (.long x))).set (i + 1) none) st) : J l G M R E Q h ck sk pc ls (.long x :: st) := by
  intro p e s m args below meth c H locs la X hE hP hS hL
  exact lv_lstore_n X.1 X.2.1 hdg hi (jL_has hL) hn rfl (fun la' hl' => k p e s m args below meth c H locs la' X hE hP hS (jL_store2 hok hl'))
theorem J_lstore {i : Nat} {x : Int64} (hdg : decode M.2.1 pc = .ok (.lstore i, 2)) (hn : i + 1 < M.2.2.1) (hok : jok ls i = true) (k : J l G M R E Q h ck sk (pc + 2) ((ls.set i (some (.long x))).set (i + 1) none) st) : J l G M R E Q h ck sk pc ls (.long x :: st) := by
  intro p e s m args below meth c H locs la X hE hP hS hL
  exact lv_lstore X.1 X.2.1 hdg (jL_has hL) hn rfl (fun la' hl' => k p e s m args below meth c H locs la' X hE hP hS (jL_store2 hok hl'))
theorem J_iinc {i : Nat} {n : Int} {x v : Int32} (hdg : decode M.2.1 pc = .ok (.iinc i n, 3)) (hl : ls[i]? = some (some (.int x))) (hv : x + Int32.ofInt n = v) (hn : i < M.2.2.1) (hok : jok ls i = true) (k : J l G M R E Q h ck sk (pc + 3) (ls.set i (some (.int v))) st) : J l G M R E Q h ck sk pc ls st := by
  intro p e s m args below meth c H locs la X hE hP hS hL
  obtain ⟨kk, hk⟩ := List.getElem?_of_mem (jP_in (G := G) hl)
  exact lv_iinc X.1 X.2.1 hdg (jL_has hL) hk hv hn rfl (fun la' hl' => k p e s m args below meth c H locs la' X hE hP hS (jL_store1 (v := .int v) hok hl'))
theorem J_iadd {x y z : Int32} (hdg : decode M.2.1 pc = .ok (.iadd, 1)) (hz : x + y = z) (k : J l G M R E Q h ck sk (pc + 1) ls (.int z :: st)) : J l G M R E Q h ck sk pc ls (.int y :: .int x :: st) := by
  intro p e s m args below meth c H locs la X hE hP hS hL
  subst hz
  exact lv_iadd X.1 X.2.1 hdg (k p e s m args below meth c H locs la X hE hP hS hL)
theorem J_isub {x y z : Int32} (hdg : decode M.2.1 pc = .ok (.isub, 1)) (hz : x - y = z) (k : J l G M R E Q h ck sk (pc + 1) ls (.int z :: st)) : J l G M R E Q h ck sk pc ls (.int y :: .int x :: st) := by
  intro p e s m args below meth c H locs la X hE hP hS hL
  subst hz
  exact lv_isub X.1 X.2.1 hdg (k p e s m args below meth c H locs la X hE hP hS hL)
theorem J_imul {x y z : Int32} (hdg : decode M.2.1 pc = .ok (.imul, 1)) (hz : x * y = z) (k : J l G M R E Q h ck sk (pc + 1) ls (.int z :: st)) : J l G M R E Q h ck sk pc ls (.int y :: .int x :: st) := by
  intro p e s m args below meth c H locs la X hE hP hS hL
  subst hz
  exact lv_imul X.1 X.2.1 hdg (k p e s m args below meth c H locs la X hE hP hS hL)
theorem J_iand {x y z : Int32} (hdg : decode M.2.1 pc = .ok (.iand, 1)) (hz : x &&& y = z) (k : J l G M R E Q h ck sk (pc + 1) ls (.int z :: st)) : J l G M R E Q h ck sk pc ls (.int y :: .int x :: st) := by
  intro p e s m args below meth c H locs la X hE hP hS hL
  subst hz
  exact lv_iand X.1 X.2.1 hdg (k p e s m args below meth c H locs la X hE hP hS hL)
theorem J_ior {x y z : Int32} (hdg : decode M.2.1 pc = .ok (.ior, 1)) (hz : x ||| y = z) (k : J l G M R E Q h ck sk (pc + 1) ls (.int z :: st)) : J l G M R E Q h ck sk pc ls (.int y :: .int x :: st) := by
  intro p e s m args below meth c H locs la X hE hP hS hL
  subst hz
  exact lv_ior X.1 X.2.1 hdg (k p e s m args below meth c H locs la X hE hP hS hL)
theorem J_ixor {x y z : Int32} (hdg : decode M.2.1 pc = .ok (.ixor, 1)) (hz : x ^^^ y = z) (k : J l G M R E Q h ck sk (pc + 1) ls (.int z :: st)) : J l G M R E Q h ck sk pc ls (.int y :: .int x :: st) := by
  intro p e s m args below meth c H locs la X hE hP hS hL
  subst hz
  exact lv_ixor X.1 X.2.1 hdg (k p e s m args below meth c H locs la X hE hP hS hL)
theorem J_ishl {x y z : Int32} (hdg : decode M.2.1 pc = .ok (.ishl, 1)) (hz : x <<< (y &&& 31) = z) (k : J l G M R E Q h ck sk (pc + 1) ls (.int z :: st)) : J l G M R E Q h ck sk pc ls (.int y :: .int x :: st) := by
  intro p e s m args below meth c H locs la X hE hP hS hL
  subst hz
  exact lv_ishl X.1 X.2.1 hdg (k p e s m args below meth c H locs la X hE hP hS hL)
theorem J_ishr {x y z : Int32} (hdg : decode M.2.1 pc = .ok (.ishr, 1)) (hz : x >>> (y &&& 31) = z) (k : J l G M R E Q h ck sk (pc + 1) ls (.int z :: st)) : J l G M R E Q h ck sk pc ls (.int y :: .int x :: st) := by
  intro p e s m args below meth c H locs la X hE hP hS hL
  subst hz
  exact lv_ishr X.1 X.2.1 hdg (k p e s m args below meth c H locs la X hE hP hS hL)
theorem J_idiv {x y z : Int32} (hdg : decode M.2.1 pc = .ok (.idiv, 1)) (hne : ¬ y = 0) (hz : x / y = z) (k : J l G M R E Q h ck sk (pc + 1) ls (.int z :: st)) : J l G M R E Q h ck sk pc ls (.int y :: .int x :: st) := by
  intro p e s m args below meth c H locs la X hE hP hS hL
  subst hz
  exact lv_idiv X.1 X.2.1 hdg hne (k p e s m args below meth c H locs la X hE hP hS hL)
theorem J_irem {x y z : Int32} (hdg : decode M.2.1 pc = .ok (.irem, 1)) (hne : ¬ y = 0) (hz : x - x / y * y = z) (k : J l G M R E Q h ck sk (pc + 1) ls (.int z :: st)) : J l G M R E Q h ck sk pc ls (.int y :: .int x :: st) := by
  intro p e s m args below meth c H locs la X hE hP hS hL
  subst hz
  exact lv_irem X.1 X.2.1 hdg hne (k p e s m args below meth c H locs la X hE hP hS hL)
theorem J_ladd {x y z : Int64} (hdg : decode M.2.1 pc = .ok (.ladd, 1)) (hz : x + y = z) (k : J l G M R E Q h ck sk (pc + 1) ls (.long z :: st)) : J l G M R E Q h ck sk pc ls (.long y :: .long x :: st) := by
  intro p e s m args below meth c H locs la X hE hP hS hL
  subst hz
  exact lv_ladd X.1 X.2.1 hdg (k p e s m args below meth c H locs la X hE hP hS hL)
theorem J_lsub {x y z : Int64} (hdg : decode M.2.1 pc = .ok (.lsub, 1)) (hz : x - y = z) (k : J l G M R E Q h ck sk (pc + 1) ls (.long z :: st)) : J l G M R E Q h ck sk pc ls (.long y :: .long x :: st) := by
  intro p e s m args below meth c H locs la X hE hP hS hL
  subst hz
  exact lv_lsub X.1 X.2.1 hdg (k p e s m args below meth c H locs la X hE hP hS hL)
theorem J_lmul {x y z : Int64} (hdg : decode M.2.1 pc = .ok (.lmul, 1)) (hz : x * y = z) (k : J l G M R E Q h ck sk (pc + 1) ls (.long z :: st)) : J l G M R E Q h ck sk pc ls (.long y :: .long x :: st) := by
  intro p e s m args below meth c H locs la X hE hP hS hL
  subst hz
  exact lv_lmul X.1 X.2.1 hdg (k p e s m args below meth c H locs la X hE hP hS hL)
theorem J_ldiv {x y z : Int64} (hdg : decode M.2.1 pc = .ok (.ldiv, 1)) (hne : ¬ y = 0) (hz : x / y = z) (k : J l G M R E Q h ck sk (pc + 1) ls (.long z :: st)) : J l G M R E Q h ck sk pc ls (.long y :: .long x :: st) := by
  intro p e s m args below meth c H locs la X hE hP hS hL
  subst hz
  exact lv_ldiv X.1 X.2.1 hdg hne (k p e s m args below meth c H locs la X hE hP hS hL)
theorem J_lrem {x y z : Int64} (hdg : decode M.2.1 pc = .ok (.lrem, 1)) (hne : ¬ y = 0) (hz : x - x / y * y = z) (k : J l G M R E Q h ck sk (pc + 1) ls (.long z :: st)) : J l G M R E Q h ck sk pc ls (.long y :: .long x :: st) := by
  intro p e s m args below meth c H locs la X hE hP hS hL
  subst hz
  exact lv_lrem X.1 X.2.1 hdg hne (k p e s m args below meth c H locs la X hE hP hS hL)
theorem J_lcmp {x y : Int64} {z : Int32} (hdg : decode M.2.1 pc = .ok (.lcmp, 1)) (hz : lg_cmp x y = z) (k : J l G M R E Q h ck sk (pc + 1) ls (.int z :: st)) : J l G M R E Q h ck sk pc ls (.long y :: .long x :: st) := by
  intro p e s m args below meth c H locs la X hE hP hS hL
  subst hz
  exact W.lcmp X.1 X.2.1 hdg (k p e s m args below meth c H locs la X hE hP hS hL)
theorem J_ineg {x z : Int32} (hdg : decode M.2.1 pc = .ok (.ineg, 1)) (hz : -x = z) (k : J l G M R E Q h ck sk (pc + 1) ls (.int z :: st)) : J l G M R E Q h ck sk pc ls (.int x :: st) := by
  intro p e s m args below meth c H locs la X hE hP hS hL
  subst hz
  exact lv_ineg X.1 X.2.1 hdg (k p e s m args below meth c H locs la X hE hP hS hL)
theorem J_i2l {x : Int32} {z : Int64} (hdg : decode M.2.1 pc = .ok (.i2l, 1)) (hz : x.toInt64 = z) (k : J l G M R E Q h ck sk (pc + 1) ls (.long z :: st)) : J l G M R E Q h ck sk pc ls (.int x :: st) := by
  intro p e s m args below meth c H locs la X hE hP hS hL
  exact lv_i2l X.1 X.2.1 hdg hz (k p e s m args below meth c H locs la X hE hP hS hL)
theorem J_l2i {x : Int64} {z : Int32} (hdg : decode M.2.1 pc = .ok (.l2i, 1)) (hz : x.toInt32 = z) (k : J l G M R E Q h ck sk (pc + 1) ls (.int z :: st)) : J l G M R E Q h ck sk pc ls (.long x :: st) := by
  intro p e s m args below meth c H locs la X hE hP hS hL
  exact lv_l2i X.1 X.2.1 hdg hz (k p e s m args below meth c H locs la X hE hP hS hL)
theorem J_i2b {x : Int32} {z : Int32} (hdg : decode M.2.1 pc = .ok (.i2b, 1)) (hz : x.toInt8.toInt32 = z) (k : J l G M R E Q h ck sk (pc + 1) ls (.int z :: st)) : J l G M R E Q h ck sk pc ls (.int x :: st) := by
  intro p e s m args below meth c H locs la X hE hP hS hL
  exact lv_i2b X.1 X.2.1 hdg hz (k p e s m args below meth c H locs la X hE hP hS hL)
theorem J_i2c {x : Int32} {z : Int32} (hdg : decode M.2.1 pc = .ok (.i2c, 1)) (hz : (x.toUInt32 % 65536).toInt32 = z) (k : J l G M R E Q h ck sk (pc + 1) ls (.int z :: st)) : J l G M R E Q h ck sk pc ls (.int x :: st) := by
  intro p e s m args below meth c H locs la X hE hP hS hL
  exact lv_i2c X.1 X.2.1 hdg hz (k p e s m args below meth c H locs la X hE hP hS hL)
theorem J_dup {va : Value} (hdg : decode M.2.1 pc = .ok (.dup, 1)) (hva : va.category = 1) (k : J l G M R E Q h ck sk (pc + 1) ls (va :: va :: st)) : J l G M R E Q h ck sk pc ls (va :: st) := by
  intro p e s m args below meth c H locs la X hE hP hS hL
  exact lv_dup X.1 X.2.1 hdg ((pv_cat G va).trans hva) (k p e s m args below meth c H locs la X hE hP hS hL)
theorem J_pop {va : Value} (hdg : decode M.2.1 pc = .ok (.pop, 1)) (hva : va.category = 1) (k : J l G M R E Q h ck sk (pc + 1) ls st) : J l G M R E Q h ck sk pc ls (va :: st) := by
  intro p e s m args below meth c H locs la X hE hP hS hL
  exact lv_pop X.1 X.2.1 hdg ((pv_cat G va).trans hva) (k p e s m args below meth c H locs la X hE hP hS hL)
theorem J_dup_x1 {va vb : Value} (hdg : decode M.2.1 pc = .ok (.dup_x1, 1)) (hva : va.category = 1) (hvb : vb.category = 1) (k : J l G M R E Q h ck sk (pc + 1) ls (va :: vb :: va :: st)) : J l G M R E Q h ck sk pc ls (va :: vb :: st) := by
  intro p e s m args below meth c H locs la X hE hP hS hL
  exact lv_dup_x1 X.1 X.2.1 hdg ((pv_cat G va).trans hva) ((pv_cat G vb).trans hvb) (k p e s m args below meth c H locs la X hE hP hS hL)
theorem J_dup_x2 {va vb vd : Value} (hdg : decode M.2.1 pc = .ok (.dup_x2, 1)) (hva : va.category = 1) (hvb : vb.category = 1) (hvd : vd.category = 1) (k : J l G M R E Q h ck sk (pc + 1) ls (va :: vb :: vd :: va :: st)) : J l G M R E Q h ck sk pc ls (va :: vb :: vd :: st) := by
  intro p e s m args below meth c H locs la X hE hP hS hL
  exact lv_dup_x2 X.1 X.2.1 hdg ((pv_cat G va).trans hva) ((pv_cat G vb).trans hvb) ((pv_cat G vd).trans hvd) (k p e s m args below meth c H locs la X hE hP hS hL)
theorem J_dup2_11 {va vb : Value} (hdg : decode M.2.1 pc = .ok (.dup2, 1)) (hva : va.category = 1) (hvb : vb.category = 1) (k : J l G M R E Q h ck sk (pc + 1) ls (va :: vb :: va :: vb :: st)) : J l G M R E Q h ck sk pc ls (va :: vb :: st) := by
  intro p e s m args below meth c H locs la X hE hP hS hL
  exact lv_dup2_11 X.1 X.2.1 hdg ((pv_cat G va).trans hva) ((pv_cat G vb).trans hvb) (k p e s m args below meth c H locs la X hE hP hS hL)
theorem J_dup2_2 {va : Value} (hdg : decode M.2.1 pc = .ok (.dup2, 1)) (hva : va.category = 2) (k : J l G M R E Q h ck sk (pc + 1) ls (va :: va :: st)) : J l G M R E Q h ck sk pc ls (va :: st) := by
  intro p e s m args below meth c H locs la X hE hP hS hL
  exact lv_dup2_2 X.1 X.2.1 hdg ((pv_cat G va).trans hva) (k p e s m args below meth c H locs la X hE hP hS hL)
theorem J_pop2_2 {va : Value} (hdg : decode M.2.1 pc = .ok (.pop2, 1)) (hva : va.category = 2) (k : J l G M R E Q h ck sk (pc + 1) ls st) : J l G M R E Q h ck sk pc ls (va :: st) := by
  intro p e s m args below meth c H locs la X hE hP hS hL
  exact lv_pop2_2 X.1 X.2.1 hdg ((pv_cat G va).trans hva) (k p e s m args below meth c H locs la X hE hP hS hL)
theorem J_dup2_x1_2 {va vb : Value} (hdg : decode M.2.1 pc = .ok (.dup2_x1, 1)) (hva : va.category = 2) (hvb : vb.category = 1) (k : J l G M R E Q h ck sk (pc + 1) ls (va :: vb :: va :: st)) : J l G M R E Q h ck sk pc ls (va :: vb :: st) := by
  intro p e s m args below meth c H locs la X hE hP hS hL
  exact lv_dup2_x1_2 X.1 X.2.1 hdg ((pv_cat G va).trans hva) ((pv_cat G vb).trans hvb) (k p e s m args below meth c H locs la X hE hP hS hL)
theorem J_if_eq {x : Int32} {off : Int} {tgt : Nat} (hdg : decode M.2.1 pc = .ok (.ifCond .eq off, 3)) (ht : (pc : Int) + off = (tgt : Int)) (kt : x = 0 → J l G M R E Q h ck sk tgt ls st) (kf : ¬ x = 0 → J l G M R E Q h ck sk (pc + 3) ls st) : J l G M R E Q h ck sk pc ls (.int x :: st) := by
  intro p e s m args below meth c H locs la X hE hP hS hL
  exact lv_if_eq X.1 X.2.1 hdg ht (fun q => kt q p e s m args below meth c H locs la X hE hP hS hL) (fun q => kf q p e s m args below meth c H locs la X hE hP hS hL)
theorem J_icmp_eq {x y : Int32} {off : Int} {tgt : Nat} (hdg : decode M.2.1 pc = .ok (.if_icmp .eq off, 3)) (ht : (pc : Int) + off = (tgt : Int)) (kt : x = y → J l G M R E Q h ck sk tgt ls st) (kf : ¬ x = y → J l G M R E Q h ck sk (pc + 3) ls st) : J l G M R E Q h ck sk pc ls (.int y :: .int x :: st) := by
  intro p e s m args below meth c H locs la X hE hP hS hL
  exact lv_icmp_eq X.1 X.2.1 hdg ht (fun q => kt q p e s m args below meth c H locs la X hE hP hS hL) (fun q => kf q p e s m args below meth c H locs la X hE hP hS hL)
theorem J_if_ne {x : Int32} {off : Int} {tgt : Nat} (hdg : decode M.2.1 pc = .ok (.ifCond .ne off, 3)) (ht : (pc : Int) + off = (tgt : Int)) (kt : ¬ x = 0 → J l G M R E Q h ck sk tgt ls st) (kf : x = 0 → J l G M R E Q h ck sk (pc + 3) ls st) : J l G M R E Q h ck sk pc ls (.int x :: st) := by
  intro p e s m args below meth c H locs la X hE hP hS hL
  exact lv_if_ne X.1 X.2.1 hdg ht (fun q => kt q p e s m args below meth c H locs la X hE hP hS hL) (fun q => kf q p e s m args below meth c H locs la X hE hP hS hL)
theorem J_icmp_ne {x y : Int32} {off : Int} {tgt : Nat} (hdg : decode M.2.1 pc = .ok (.if_icmp .ne off, 3)) (ht : (pc : Int) + off = (tgt : Int)) (kt : ¬ x = y → J l G M R E Q h ck sk tgt ls st) (kf : x = y → J l G M R E Q h ck sk (pc + 3) ls st) : J l G M R E Q h ck sk pc ls (.int y :: .int x :: st) := by
  intro p e s m args below meth c H locs la X hE hP hS hL
  exact lv_icmp_ne X.1 X.2.1 hdg ht (fun q => kt q p e s m args below meth c H locs la X hE hP hS hL) (fun q => kf q p e s m args below meth c H locs la X hE hP hS hL)
theorem J_if_lt {x : Int32} {off : Int} {tgt : Nat} (hdg : decode M.2.1 pc = .ok (.ifCond .lt off, 3)) (ht : (pc : Int) + off = (tgt : Int)) (kt : x < 0 → J l G M R E Q h ck sk tgt ls st) (kf : ¬ x < 0 → J l G M R E Q h ck sk (pc + 3) ls st) : J l G M R E Q h ck sk pc ls (.int x :: st) := by
  intro p e s m args below meth c H locs la X hE hP hS hL
  exact lv_if_lt X.1 X.2.1 hdg ht (fun q => kt q p e s m args below meth c H locs la X hE hP hS hL) (fun q => kf q p e s m args below meth c H locs la X hE hP hS hL)
theorem J_icmp_lt {x y : Int32} {off : Int} {tgt : Nat} (hdg : decode M.2.1 pc = .ok (.if_icmp .lt off, 3)) (ht : (pc : Int) + off = (tgt : Int)) (kt : x < y → J l G M R E Q h ck sk tgt ls st) (kf : ¬ x < y → J l G M R E Q h ck sk (pc + 3) ls st) : J l G M R E Q h ck sk pc ls (.int y :: .int x :: st) := by
  intro p e s m args below meth c H locs la X hE hP hS hL
  exact lv_icmp_lt X.1 X.2.1 hdg ht (fun q => kt q p e s m args below meth c H locs la X hE hP hS hL) (fun q => kf q p e s m args below meth c H locs la X hE hP hS hL)
theorem J_if_ge {x : Int32} {off : Int} {tgt : Nat} (hdg : decode M.2.1 pc = .ok (.ifCond .ge off, 3)) (ht : (pc : Int) + off = (tgt : Int)) (kt : 0 ≤ x → J l G M R E Q h ck sk tgt ls st) (kf : ¬ 0 ≤ x → J l G M R E Q h ck sk (pc + 3) ls st) : J l G M R E Q h ck sk pc ls (.int x :: st) := by
  intro p e s m args below meth c H locs la X hE hP hS hL
  exact lv_if_ge X.1 X.2.1 hdg ht (fun q => kt q p e s m args below meth c H locs la X hE hP hS hL) (fun q => kf q p e s m args below meth c H locs la X hE hP hS hL)
theorem J_icmp_ge {x y : Int32} {off : Int} {tgt : Nat} (hdg : decode M.2.1 pc = .ok (.if_icmp .ge off, 3)) (ht : (pc : Int) + off = (tgt : Int)) (kt : y ≤ x → J l G M R E Q h ck sk tgt ls st) (kf : ¬ y ≤ x → J l G M R E Q h ck sk (pc + 3) ls st) : J l G M R E Q h ck sk pc ls (.int y :: .int x :: st) := by
  intro p e s m args below meth c H locs la X hE hP hS hL
  exact lv_icmp_ge X.1 X.2.1 hdg ht (fun q => kt q p e s m args below meth c H locs la X hE hP hS hL) (fun q => kf q p e s m args below meth c H locs la X hE hP hS hL)
theorem J_if_gt {x : Int32} {off : Int} {tgt : Nat} (hdg : decode M.2.1 pc = .ok (.ifCond .gt off, 3)) (ht : (pc : Int) + off = (tgt : Int)) (kt : 0 < x → J l G M R E Q h ck sk tgt ls st) (kf : ¬ 0 < x → J l G M R E Q h ck sk (pc + 3) ls st) : J l G M R E Q h ck sk pc ls (.int x :: st) := by
  intro p e s m args below meth c H locs la X hE hP hS hL
  exact lv_if_gt X.1 X.2.1 hdg ht (fun q => kt q p e s m args below meth c H locs la X hE hP hS hL) (fun q => kf q p e s m args below meth c H locs la X hE hP hS hL)
theorem J_icmp_gt {x y : Int32} {off : Int} {tgt : Nat} (hdg : decode M.2.1 pc = .ok (.if_icmp .gt off, 3)) (ht : (pc : Int) + off = (tgt : Int)) (kt : y < x → J l G M R E Q h ck sk tgt ls st) (kf : ¬ y < x → J l G M R E Q h ck sk (pc + 3) ls st) : J l G M R E Q h ck sk pc ls (.int y :: .int x :: st) := by
  intro p e s m args below meth c H locs la X hE hP hS hL
  exact lv_icmp_gt X.1 X.2.1 hdg ht (fun q => kt q p e s m args below meth c H locs la X hE hP hS hL) (fun q => kf q p e s m args below meth c H locs la X hE hP hS hL)
theorem J_if_le {x : Int32} {off : Int} {tgt : Nat} (hdg : decode M.2.1 pc = .ok (.ifCond .le off, 3)) (ht : (pc : Int) + off = (tgt : Int)) (kt : x ≤ 0 → J l G M R E Q h ck sk tgt ls st) (kf : ¬ x ≤ 0 → J l G M R E Q h ck sk (pc + 3) ls st) : J l G M R E Q h ck sk pc ls (.int x :: st) := by
  intro p e s m args below meth c H locs la X hE hP hS hL
  exact lv_if_le X.1 X.2.1 hdg ht (fun q => kt q p e s m args below meth c H locs la X hE hP hS hL) (fun q => kf q p e s m args below meth c H locs la X hE hP hS hL)
theorem J_icmp_le {x y : Int32} {off : Int} {tgt : Nat} (hdg : decode M.2.1 pc = .ok (.if_icmp .le off, 3)) (ht : (pc : Int) + off = (tgt : Int)) (kt : x ≤ y → J l G M R E Q h ck sk tgt ls st) (kf : ¬ x ≤ y → J l G M R E Q h ck sk (pc + 3) ls st) : J l G M R E Q h ck sk pc ls (.int y :: .int x :: st) := by
  intro p e s m args below meth c H locs la X hE hP hS hL
  exact lv_icmp_le X.1 X.2.1 hdg ht (fun q => kt q p e s m args below meth c H locs la X hE hP hS hL) (fun q => kf q p e s m args below meth c H locs la X hE hP hS hL)
theorem J_goto {off : Int} {tgt : Nat} (hdg : decode M.2.1 pc = .ok (.goto off, 3)) (ht : (pc : Int) + off = (tgt : Int)) (k : J l G M R E Q h ck sk tgt ls st) : J l G M R E Q h ck sk pc ls st := by
  intro p e s m args below meth c H locs la X hE hP hS hL
  exact lv_goto X.1 X.2.1 hdg ht (k p e s m args below meth c H locs la X hE hP hS hL)
theorem J_lookup {dflt : Int} {ps : Array (Int × Int)} {len : Nat} {x : Int32} {off : Int} {tgt : Nat} (hdg : decode M.2.1 pc = .ok (.lookupswitch dflt ps, len)) (hp : (ps.toList.zip (ps.toList.drop 1)).all (fun (a, next) => a.1 < next.1) = true) (ho : Op.lookupswitch.offset ps.toList dflt x.toInt = off) (ht : (pc : Int) + off = (tgt : Int)) (k : J l G M R E Q h ck sk tgt ls st) : J l G M R E Q h ck sk pc ls (.int x :: st) := by
  intro p e s m args below meth c H locs la X hE hP hS hL
  exact lv_lookup X.1 X.2.1 hdg hp ho ht (k p e s m args below meth c H locs la X hE hP hS hL)
theorem J_tableOut {dflt lo hi : Int} {offs : Array Int} {len : Nat} {x : Int32} {tgt : Nat} (hdg : decode M.2.1 pc = .ok (.tableswitch dflt lo hi offs, len)) (hx : x.toInt < lo ∨ hi < x.toInt) (ht : (pc : Int) + dflt = (tgt : Int)) (k : J l G M R E Q h ck sk tgt ls st) : J l G M R E Q h ck sk pc ls (.int x :: st) := by
  intro p e s m args below meth c H locs la X hE hP hS hL
  exact lv_tableOut X.1 X.2.1 hdg hx ht (k p e s m args below meth c H locs la X hE hP hS hL)
theorem J_tableIn {dflt lo hi : Int} {offs : Array Int} {len : Nat} {x : Int32} {off : Int} {tgt : Nat} (hdg : decode M.2.1 pc = .ok (.tableswitch dflt lo hi offs, len)) (h1 : ¬ x.toInt < lo) (h2 : ¬ hi < x.toInt) (ho : offs[(x.toInt - lo).toNat]? = some off) (ht : (pc : Int) + off = (tgt : Int)) (k : J l G M R E Q h ck sk tgt ls st) : J l G M R E Q h ck sk pc ls (.int x :: st) := by
  intro p e s m args below meth c H locs la X hE hP hS hL
  exact lv_tableIn X.1 X.2.1 hdg h1 h2 ho ht (k p e s m args below meth c H locs la X hE hP hS hL)
end JR
