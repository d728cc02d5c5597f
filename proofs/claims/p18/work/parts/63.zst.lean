/-! refusals: where they are counted -/
def plk (k : Int) : Int := if -3 ≤ k then -k - 1 else -k - 2
def RfU (G F : Int → Int) (k : Int) : Prop := G = up F (plk k) (F (plk k) + 1)
def RgU (G F : Int → Int) (k : Int) : Prop := G = up F (-k) (F (-k) + 1)
theorem RfU.of {G F : Int → Int} {k i z v : Int} (e : G = up F i v) (ei : i = plk k) (ez : F i = z) (ev : v = z + 1) : RfU G F k := by
  unfold RfU
  rw [e, ev, ← ez, ei]
theorem RgU.of {G F : Int → Int} {k i z v : Int} (e : G = up F i v) (ei : i = -k) (ez : F i = z) (ev : v = z + 1) : RgU G F k := by
  unfold RgU
  rw [e, ev, ← ez, ei]
theorem plk_a {k : Int} (h : -3 ≤ k) : plk k = -k - 1 := if_pos h
theorem plk_b {k : Int} (h : k < -3) : plk k = -k - 2 := if_neg (by omega)
