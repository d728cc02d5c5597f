/-! The row writer's words: states named anew; numbers as integers -/
section JN
variable {l : Launch} {G : jG} {M : jM} {R : Room} {E : State → Array Value → Prop} {Q : List Frame → Array Value → State → State → Prop} {nh : Nat} {fh : Nat → Option va_E} {ck sk pc : Nat} {ls : List (Option Value)} {st : List Value}
theorem J_nf {nh2 ck2 sk2 : Nat} {st2 : List Value} (h1 : nh = nh2) (h2 : ck = ck2) (h3 : sk = sk2) (h4 : st = st2) (k : J l G M R E Q (nh2, fh) ck2 sk2 pc ls st2) : J l G M R E Q (nh, fh) ck sk pc ls st := by
  subst h1 h2 h3 h4
  exact k
theorem J_ls {h : jH} {ls2 : List (Option Value)} (h1 : ls = ls2) (k : J l G M R E Q h ck sk pc ls2 st) : J l G M R E Q h ck sk pc ls st := h1 ▸ k
theorem J_hp {fh2 : Nat → Option va_E} (h1 : fh = fh2) (k : J l G M R E Q (nh, fh2) ck sk pc ls st) : J l G M R E Q (nh, fh) ck sk pc ls st := h1 ▸ k
end JN
theorem fa_lt (a b : Int32) : a < b ↔ a.toInt < b.toInt := Int32.lt_iff_toInt_lt
theorem fa_le (a b : Int32) : a ≤ b ↔ a.toInt ≤ b.toInt := Int32.le_iff_toInt_le
theorem fa_eq (a b : Int32) : a = b ↔ a.toInt = b.toInt := ⟨fun h => by rw [h], fun h => Int32.toInt_inj.mp h⟩
