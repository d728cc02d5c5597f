/-! what may be a house -/
abbrev isA (x m : Int) : Prop := 0 ≤ x ∧ x < m
