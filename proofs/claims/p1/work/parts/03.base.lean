/-! What the logic rests on: the words that a callee may be handed (jtb), the nest words (jNest), the arrays' component types (jT) -/
def jT : List FieldType := [.int, .long, .boolean, .byte, .object "BeanStreet$State", .array .int]
def jtb : List Cond := lw_tbl.filter goodWord
def jIsNest : Cond → Bool
  | .fieldLinkNest .. => true
  | .methodLinkNest .. => true
  | _ => false
def jNest : List Cond := lw_tbl.filter jIsNest
theorem jtb_in {w : Cond} (h : w ∈ lw_tbl) (g : goodWord w = true) : w ∈ jtb := List.mem_filter.mpr ⟨h, g⟩
theorem jtb_good {w : Cond} (h : w ∈ jtb) : w ∈ jtb ∧ ((w.onTables && w.keeps) = true ∨ ∃ ty, w = .arrayClass ty) := ⟨h, good_of_word (List.mem_filter.mp h).2⟩
theorem jtb_tbl {w : Cond} (h : w ∈ jtb) : w ∈ lw_tbl := (List.mem_filter.mp h).1
theorem jt_all {w : Cond} (h : w ∈ tables_1) (g : goodWord w = true) : w ∈ jtb := jtb_in (List.mem_append_right _ h) g
theorem jt1 {w : Cond} (i : Nat) (h : tables_1_1[i]? = some w) (g : goodWord w = true) : w ∈ jtb := jt_all (List.mem_append_left _ (List.mem_of_getElem? h)) g
theorem jt2 {w : Cond} (i : Nat) (h : tables_1_2[i]? = some w) (g : goodWord w = true) : w ∈ jtb := jt_all (List.mem_append_right _ (List.mem_append_left _ (List.mem_of_getElem? h))) g
theorem jt3 {w : Cond} (i : Nat) (h : tables_1_3[i]? = some w) (g : goodWord w = true) : w ∈ jtb := jt_all (List.mem_append_right _ (List.mem_append_right _ (List.mem_append_left _ (List.mem_of_getElem? h)))) g
theorem jt4 {w : Cond} (i : Nat) (h : tables_1_4[i]? = some w) (g : goodWord w = true) : w ∈ jtb := jt_all (List.mem_append_right _ (List.mem_append_right _ (List.mem_append_right _ (List.mem_append_left _ (List.mem_of_getElem? h))))) g
theorem jt5 {w : Cond} (i : Nat) (h : tables_1_5[i]? = some w) (g : goodWord w = true) : w ∈ jtb := jt_all (List.mem_append_right _ (List.mem_append_right _ (List.mem_append_right _ (List.mem_append_right _ (List.mem_append_left _ (List.mem_of_getElem? h)))))) g
theorem jt6 {w : Cond} (i : Nat) (h : tables_1_6[i]? = some w) (g : goodWord w = true) : w ∈ jtb := jt_all (List.mem_append_right _ (List.mem_append_right _ (List.mem_append_right _ (List.mem_append_right _ (List.mem_append_right _ (List.mem_append_left _ (List.mem_of_getElem? h))))))) g
theorem jt7 {w : Cond} (i : Nat) (h : tables_1_7[i]? = some w) (g : goodWord w = true) : w ∈ jtb := jt_all (List.mem_append_right _ (List.mem_append_right _ (List.mem_append_right _ (List.mem_append_right _ (List.mem_append_right _ (List.mem_append_right _ (List.mem_append_left _ (List.mem_of_getElem? h)))))))) g
theorem jt8 {w : Cond} (i : Nat) (h : tables_1_8[i]? = some w) (g : goodWord w = true) : w ∈ jtb := jt_all (List.mem_append_right _ (List.mem_append_right _ (List.mem_append_right _ (List.mem_append_right _ (List.mem_append_right _ (List.mem_append_right _ (List.mem_append_right _ (List.mem_of_getElem? h)))))))) g
/-- 'selects' of a private method -/
theorem jtp {q : MethodName × Nat} (h : q ∈ lw_privs) : Cond.selects q.1.cls q.1 q.1 ∈ jtb := jtb_in (List.mem_append_left _ (List.mem_map.mpr ⟨q, h, rfl⟩)) rfl
theorem jn_all {w : Cond} (h : w ∈ tables_1) (g : jIsNest w = true) : w ∈ jNest := List.mem_filter.mpr ⟨List.mem_append_right _ h, g⟩
theorem jn1 {w : Cond} (i : Nat) (h : tables_1_1[i]? = some w) (g : jIsNest w = true) : w ∈ jNest := jn_all (List.mem_append_left _ (List.mem_of_getElem? h)) g
theorem jn2 {w : Cond} (i : Nat) (h : tables_1_2[i]? = some w) (g : jIsNest w = true) : w ∈ jNest := jn_all (List.mem_append_right _ (List.mem_append_left _ (List.mem_of_getElem? h))) g
theorem jn3 {w : Cond} (i : Nat) (h : tables_1_3[i]? = some w) (g : jIsNest w = true) : w ∈ jNest := jn_all (List.mem_append_right _ (List.mem_append_right _ (List.mem_append_left _ (List.mem_of_getElem? h)))) g
theorem jn4 {w : Cond} (i : Nat) (h : tables_1_4[i]? = some w) (g : jIsNest w = true) : w ∈ jNest := jn_all (List.mem_append_right _ (List.mem_append_right _ (List.mem_append_right _ (List.mem_append_left _ (List.mem_of_getElem? h))))) g
theorem jn5 {w : Cond} (i : Nat) (h : tables_1_5[i]? = some w) (g : jIsNest w = true) : w ∈ jNest := jn_all (List.mem_append_right _ (List.mem_append_right _ (List.mem_append_right _ (List.mem_append_right _ (List.mem_append_left _ (List.mem_of_getElem? h)))))) g
theorem jn6 {w : Cond} (i : Nat) (h : tables_1_6[i]? = some w) (g : jIsNest w = true) : w ∈ jNest := jn_all (List.mem_append_right _ (List.mem_append_right _ (List.mem_append_right _ (List.mem_append_right _ (List.mem_append_right _ (List.mem_append_left _ (List.mem_of_getElem? h))))))) g
theorem jn7 {w : Cond} (i : Nat) (h : tables_1_7[i]? = some w) (g : jIsNest w = true) : w ∈ jNest := jn_all (List.mem_append_right _ (List.mem_append_right _ (List.mem_append_right _ (List.mem_append_right _ (List.mem_append_right _ (List.mem_append_right _ (List.mem_append_left _ (List.mem_of_getElem? h)))))))) g
theorem jn8 {w : Cond} (i : Nat) (h : tables_1_8[i]? = some w) (g : jIsNest w = true) : w ∈ jNest := jn_all (List.mem_append_right _ (List.mem_append_right _ (List.mem_append_right _ (List.mem_append_right _ (List.mem_append_right _ (List.mem_append_right _ (List.mem_append_right _ (List.mem_of_getElem? h)))))))) g
/-- the words that no list of a callee may hold, carried by hand -/
def jN (U : State) : Prop := (∀ w ∈ jNest, va_Nw w U) ∧ va_AO "BeanStreet$State" U ∧ (Cond.arrayOver (.array .int)).before #[] U = true
theorem jN.moved {s U : State} (hW : s.WarmedH U.vm) (h : jN s) : jN U := by
  obtain ⟨h1, h2, h3⟩ := h
  refine ⟨fun w hw => ?_, va_AO.moved hW.alike h2, ?_⟩
  · have hn := (List.mem_filter.mp hw).2
    have hs := h1 w hw
    cases w <;> first | (simp [jIsNest] at hn; done) | exact va_Nw.warmF hW hs | exact va_Nw.warmM hW hs
  · sorry
