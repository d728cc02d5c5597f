/-! images: which are kept, and what back answers -/
def ikp (j x k : Int) : Int := if x = j then 1 else k
/-- G is F behind image(x) -/
def KbE (G F : Int → Int) (x : Int) : Prop := G 0 = ikp 0 x (F 0) ∧ G 1 = ikp 1 x (F 1)
theorem KbE.out {F : Int → Int} {x : Int} (h0 : ¬ x = 0) (h1 : ¬ x = 1) : KbE F F x := by
  unfold KbE ikp
  rw [if_neg h0, if_neg h1]
  exact ⟨rfl, rfl⟩
theorem KbE.up {F G : Int → Int} {x i v : Int} (e : G = up F i v) (hi : i = x) (hv : v = 1) : KbE G F x := by
  subst e; subst hi; subst hv
  unfold KbE ikp
  refine ⟨?_, ?_⟩
  · by_cases h : i = 0
    · rw [if_pos h, h, up_same]
    · rw [if_neg h, up_ne (fun q => h q.symm)]
  · by_cases h : i = 1
    · rw [if_pos h, h, up_same]
    · rw [if_neg h, up_ne (fun q => h q.symm)]
/-- what both sides bear in common, behind image(x) -/
def ikA (x : Int) (aa : Nat → Int) : Nat → Int
  | 0 => ikp 0 x (aa 0)
  | 1 => ikp 1 x (aa 1)
  | j + 2 => aa (j + 2)
/-- the kept flags are told by aa -/
def KbA (F : Int → Int) (aa : Nat → Int) : Prop := F 0 = aa 0 ∧ F 1 = aa 1
theorem KbA.img {F G : Int → Int} {x : Int} {aa : Nat → Int} (h : KbA F aa) (e : KbE G F x) : KbA G (ikA x aa) := by
  refine ⟨?_, ?_⟩
  · rw [e.1, h.1]; rfl
  · rw [e.2, h.2]; rfl
/-- what back answers -/
def bkr (x a b : Int) : Int := if 0 ≤ x ∧ x ≤ 1 then (if (if x = 0 then a else b) = 0 then -2 else 0) else -1
theorem bkr_lo {x a b : Int} (h : x < 0) : -1 = bkr x a b := by
  unfold bkr
  rw [if_neg (by omega)]
theorem bkr_hi {x a b : Int} (h : 1 < x) : -1 = bkr x a b := by
  unfold bkr
  rw [if_neg (by omega)]
theorem bkr_pick {F : Int → Int} {x z : Int} (h0 : 0 ≤ x) (h1 : x ≤ 1) (e : F x = z) : (if x = 0 then F 0 else F 1) = z := by
  by_cases h : x = 0
  · rw [if_pos h, ← h]; exact e
  · rw [if_neg h, ← (show x = 1 by omega)]; exact e
theorem bkr_no {F : Int → Int} {x z : Int} (h0 : 0 ≤ x) (h1 : x ≤ 1) (e : F x = z) (hz : z = 0) : -2 = bkr x (F 0) (F 1) := by
  unfold bkr
  rw [if_pos ⟨h0, h1⟩, bkr_pick h0 h1 e, if_pos hz]
theorem bkr_ok {F : Int → Int} {x z : Int} (h0 : 0 ≤ x) (h1 : x ≤ 1) (e : F x = z) (hz : ¬ z = 0) : 0 = bkr x (F 0) (F 1) := by
  unfold bkr
  rw [if_pos ⟨h0, h1⟩, bkr_pick h0 h1 e, if_neg hz]
def bkA (x : Int) (aa : Nat → Int) : Int := bkr x (aa 0) (aa 1)
theorem KbA.bk {F : Int → Int} {x r : Int} {aa : Nat → Int} (h : KbA F aa) (e : r = bkr x (F 0) (F 1)) : r = bkA x aa := by
  unfold bkA
  rw [← h.1, ← h.2]; exact e
theorem bkA_zr (x : Int) (aa : Nat → Int) : zr (bkA x aa) := by
  unfold bkA bkr
  repeat' split
  all_goals decide
