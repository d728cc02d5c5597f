section JML
variable {l : Launch} {G : jG} {M : jM} {R : Room} {E : State → Array Value → Prop} {Q : List Frame → Array Value → State → State → Prop} {h : jH} {ck sk pc : Nat} {ls : List (Option Value)} {st : List Value}
theorem J_mmaxl {idx : Nat} {x y : Int64} (hdg : decode M.2.1 pc = .ok (.invokestatic idx, 3)) (hlink : Cond.methodLink M.1 idx Lib.MathLoose.max_long.x ∈ jtb) (hstat : Cond.static Lib.MathLoose.max_long.x ∈ jtb) (hini : Cond.initialized "java/lang/Math" ∈ jtb) (hcode : Cond.code Lib.MathLoose.max_long.x Lib.MathLoose.max_long.code 4 (some .long) ∈ jtb) (hfr : 1 ≤ R.frames) (hlo : (st.map fun v => v.category).sum + 15 ≤ R.locals) (hc : ck ≤ R.cells) (hs : sk ≤ R.slots) (kk : J l G M R E Q h ck sk (pc + 3) ls (.long (if y < x then x else y) :: st)) : J l G M R E Q h ck sk pc ls (.long y :: .long x :: st) := by
  intro p e s m args below meth c H locs la X hE hP hS hL
  have hts := X.2.2.2.2.2.1
  exact va_mmax_long X.1 X.2.1 (by rw [X.2.2.2.1]; exact hL.1.symm) X.2.2.2.2.1 (hts _ hlink) (hts _ hstat) (hts _ hini) (hts _ hcode) hfr (by rw [j_cats]; exact hlo) hc hs hdg (kk p e s m args below meth c H locs la X hE hP hS hL)
theorem J_mminl {idx : Nat} {x y : Int64} (hdg : decode M.2.1 pc = .ok (.invokestatic idx, 3)) (hlink : Cond.methodLink M.1 idx Lib.MathLoose.min_long.x ∈ jtb) (hstat : Cond.static Lib.MathLoose.min_long.x ∈ jtb) (hini : Cond.initialized "java/lang/Math" ∈ jtb) (hcode : Cond.code Lib.MathLoose.min_long.x Lib.MathLoose.min_long.code 4 (some .long) ∈ jtb) (hfr : 1 ≤ R.frames) (hlo : (st.map fun v => v.category).sum + 15 ≤ R.locals) (hc : ck ≤ R.cells) (hs : sk ≤ R.slots) (kk : J l G M R E Q h ck sk (pc + 3) ls (.long (if y < x then y else x) :: st)) : J l G M R E Q h ck sk pc ls (.long y :: .long x :: st) := by
  intro p e s m args below meth c H locs la X hE hP hS hL
  have hts := X.2.2.2.2.2.1
  exact va_mmin_long X.1 X.2.1 (by rw [X.2.2.2.1]; exact hL.1.symm) X.2.2.2.2.1 (hts _ hlink) (hts _ hstat) (hts _ hini) (hts _ hcode) hfr (by rw [j_cats]; exact hlo) hc hs hdg (kk p e s m args below meth c H locs la X hE hP hS hL)
theorem zL_lt {a b : Int} (ha : zr64 a) (hb : zr64 b) : zL a < zL b ↔ a < b := by
  rw [Int64.lt_iff_toInt_lt, zL_toInt ha, zL_toInt hb]
theorem Y_maxl {idx : Nat} {a b : Int} (hdg : decode M.2.1 pc = .ok (.invokestatic idx, 3)) (hlink : Cond.methodLink M.1 idx Lib.MathLoose.max_long.x ∈ jtb) (hstat : Cond.static Lib.MathLoose.max_long.x ∈ jtb) (hini : Cond.initialized "java/lang/Math" ∈ jtb) (hcode : Cond.code Lib.MathLoose.max_long.x Lib.MathLoose.max_long.code 4 (some .long) ∈ jtb) (hfr : 1 ≤ R.frames) (hlo : (st.map fun v => v.category).sum + 15 ≤ R.locals) (hc : ck ≤ R.cells) (hs : sk ≤ R.slots) (ha : zr64 a) (hb : zr64 b) (kk : ∀ z, a ≤ z → b ≤ z → (z = a ∨ z = b) → J l G M R E Q h ck sk (pc + 3) ls (.long (zL z) :: st)) : J l G M R E Q h ck sk pc ls (.long (zL b) :: .long (zL a) :: st) := by
  refine J_mmaxl hdg hlink hstat hini hcode hfr hlo hc hs ?_
  by_cases q : b < a
  · rw [if_pos ((zL_lt hb ha).mpr q)]
    exact kk a (by omega) (by omega) (Or.inl rfl)
  · rw [if_neg (fun r => q ((zL_lt hb ha).mp r))]
    exact kk b (by omega) (by omega) (Or.inr rfl)
theorem Y_minl {idx : Nat} {a b : Int} (hdg : decode M.2.1 pc = .ok (.invokestatic idx, 3)) (hlink : Cond.methodLink M.1 idx Lib.MathLoose.min_long.x ∈ jtb) (hstat : Cond.static Lib.MathLoose.min_long.x ∈ jtb) (hini : Cond.initialized "java/lang/Math" ∈ jtb) (hcode : Cond.code Lib.MathLoose.min_long.x Lib.MathLoose.min_long.code 4 (some .long) ∈ jtb) (hfr : 1 ≤ R.frames) (hlo : (st.map fun v => v.category).sum + 15 ≤ R.locals) (hc : ck ≤ R.cells) (hs : sk ≤ R.slots) (ha : zr64 a) (hb : zr64 b) (kk : ∀ z, z ≤ a → z ≤ b → (z = a ∨ z = b) → J l G M R E Q h ck sk (pc + 3) ls (.long (zL z) :: st)) : J l G M R E Q h ck sk pc ls (.long (zL b) :: .long (zL a) :: st) := by
  refine J_mminl hdg hlink hstat hini hcode hfr hlo hc hs ?_
  by_cases q : b < a
  · rw [if_pos ((zL_lt hb ha).mpr q)]
    exact kk b (by omega) (by omega) (Or.inr rfl)
  · rw [if_neg (fun r => q ((zL_lt hb ha).mp r))]
    exact kk a (by omega) (by omega) (Or.inl rfl)
end JML
