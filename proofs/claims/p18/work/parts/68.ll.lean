/-! what may be a house; how a drunk may be asked -/
abbrev isA (x m : Int) : Prop := 0 ≤ x ∧ x < m
abbrev dkk (x v : Int) : Prop := 0 ≤ x ∧ x ≤ 1000000 ∧ 0 ≤ v ∧ v ≤ 500
