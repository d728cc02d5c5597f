/-! rows for the reference: clauses, words -/
theorem Cla1 {C : Int → Int} {a x m : Int} (e : C a = 1) (ex : x = a + 1) (p : SumG C 8 x m) (h : x < m) : (C a = 1 ∧ SumG C 8 (a + 1) m ∧ a + 1 < m) ∨ (¬ C a = 1 ∧ m = a + 1) := by
  subst ex
  exact .inl ⟨e, p, h⟩
theorem Cla2 {C : Int → Int} {a m : Int} (e : ¬ C a = 1) (ex : m = a + 1) : (C a = 1 ∧ SumG C 8 (a + 1) m ∧ a + 1 < m) ∨ (¬ C a = 1 ∧ m = a + 1) := .inr ⟨e, ex⟩
theorem Cla3 {C : Int → Int} {m x b : Int} (e : C m = 4) (ex : x = m + 1) (p : TestG C 8 x b) (h : x < b) : (C m = 4 ∧ TestG C 8 (m + 1) b ∧ m + 1 < b) ∨ (¬ C m = 4 ∧ b = m) := by
  subst ex
  exact .inl ⟨e, p, h⟩
theorem Cla4 {C : Int → Int} {m b : Int} (e : ¬ C m = 4) (ex : b = m) : (C m = 4 ∧ TestG C 8 (m + 1) b ∧ m + 1 < b) ∨ (¬ C m = 4 ∧ b = m) := .inr ⟨e, ex⟩
theorem Cla.mk {C : Int → Int} {a m b : Int} (p : (C a = 1 ∧ SumG C 8 (a + 1) m ∧ a + 1 < m) ∨ (¬ C a = 1 ∧ m = a + 1)) (q : (C m = 4 ∧ TestG C 8 (m + 1) b ∧ m + 1 < b) ∨ (¬ C m = 4 ∧ b = m)) : ClauG C a b := ⟨m, p, q⟩
def WoK (s n a b : Int) : Prop := s = 1 → n = b - a
