/-- the reading told by the rows is the reading told by the bytes -/
theorem LwR.conv {C C2 : Int → Int} {F F2 En : Int → Prop} {ok t : Int} (e1 : C = C2) (e2 : F = F2) (h : LwR C F En ok t) : LwR C2 F2 En ok t := by
  subst e1
  subst e2
  exact h
