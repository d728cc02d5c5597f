/-! rows for Reader -/
def TokL (tk st bh : Int) : Prop := tk = 17 ∨ st + 1 ≤ bh
theorem TokL.lt {tk st bh : Int} (h : TokL tk st bh) (hn : ¬ tk = 17) : st + 1 ≤ bh := h.resolve_left hn
theorem RgE_push {F : Int → Int} {n lo hi z : Int} (h : Rg F n lo hi) (e : F n = z) (h1 : lo ≤ z) (h2 : z ≤ hi) : Rg F (n + 1) lo hi := fun j a b => by
  by_cases q : j = n
  · rw [q, e]; exact ⟨h1, h2⟩
  · exact h j a (by omega)
theorem at_lt {F : Int → Int} {s b z w : Int} (e1 : F s = z) (e2 : F b = w) (h : ¬ z = w) (hb : s ≤ b) : s + 1 ≤ b := by
  by_cases q : b = s
  · subst q
    rw [e1] at e2
    exact absurd e2 h
  · omega
