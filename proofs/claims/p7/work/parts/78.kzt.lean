/-! the tape's length (place 2 of what both sides bear), behind feed, end, row, law; what feed and end answer -/
def fdA (aa : Nat → Int) : Nat → Int
  | 0 => aa 0
  | 1 => aa 1
  | 2 => if aa 2 ≤ 380 then aa 2 + 20 else aa 2
  | j + 3 => aa (j + 3)
def enA (x : Int) (aa : Nat → Int) : Nat → Int
  | 0 => aa 0
  | 1 => aa 1
  | 2 => if 0 ≤ x ∧ x ≤ aa 2 then x else aa 2
  | j + 3 => aa (j + 3)
def zeA (aa : Nat → Int) : Nat → Int
  | 0 => aa 0
  | 1 => aa 1
  | 2 => 0
  | j + 3 => aa (j + 3)
theorem fdA_in {aa : Nat → Int} {d d2 : Int} (w : d = aa 2) (h : d ≤ 380) (e : d2 = d + 20) : d2 = fdA aa 2 := by
  show d2 = if aa 2 ≤ 380 then aa 2 + 20 else aa 2
  rw [← w, if_pos h]; exact e
theorem fdA_out {aa : Nat → Int} {d : Int} (w : d = aa 2) (h : 380 < d) : d = fdA aa 2 := by
  show d = if aa 2 ≤ 380 then aa 2 + 20 else aa 2
  rw [← w, if_neg (by omega)]
theorem enA_in {aa : Nat → Int} {x d : Int} (w : d = aa 2) (h0 : 0 ≤ x) (h1 : x ≤ d) : x = enA x aa 2 := by
  show x = if 0 ≤ x ∧ x ≤ aa 2 then x else aa 2
  rw [← w, if_pos ⟨h0, h1⟩]
theorem enA_lo {aa : Nat → Int} {x d : Int} (w : d = aa 2) (h : x < 0) : d = enA x aa 2 := by
  show d = if 0 ≤ x ∧ x ≤ aa 2 then x else aa 2
  rw [← w, if_neg (by omega)]
theorem enA_hi {aa : Nat → Int} {x d : Int} (w : d = aa 2) (h : d < x) : d = enA x aa 2 := by
  show d = if 0 ≤ x ∧ x ≤ aa 2 then x else aa 2
  rw [← w, if_neg (by omega)]
theorem zeA_in {aa : Nat → Int} {d : Int} (h : d = 0) : d = zeA aa 2 := h
def fdR (aa : Nat → Int) : Int := if aa 2 ≤ 380 then aa 2 + 20 else -1
def enR (x : Int) (aa : Nat → Int) : Int := if 0 ≤ x ∧ x ≤ aa 2 then x else -1
theorem fdR_in {aa : Nat → Int} {d r : Int} (w : d = aa 2) (h : d ≤ 380) (e : r = d + 20) : r = fdR aa := by
  unfold fdR
  rw [← w, if_pos h]; exact e
theorem fdR_out {aa : Nat → Int} {d : Int} (w : d = aa 2) (h : 380 < d) : -1 = fdR aa := by
  unfold fdR
  rw [← w, if_neg (by omega)]
theorem enR_in {aa : Nat → Int} {x d : Int} (w : d = aa 2) (h0 : 0 ≤ x) (h1 : x ≤ d) : x = enR x aa := by
  unfold enR
  rw [← w, if_pos ⟨h0, h1⟩]
theorem enR_lo {aa : Nat → Int} {x d : Int} (w : d = aa 2) (h : x < 0) : -1 = enR x aa := by
  unfold enR
  rw [if_neg (by omega)]
theorem enR_hi {aa : Nat → Int} {x d : Int} (w : d = aa 2) (h : d < x) : -1 = enR x aa := by
  unfold enR
  rw [← w, if_neg (by omega)]
theorem fdR_zr {aa : Nat → Int} (h : 0 ≤ aa 2 ∧ aa 2 ≤ 400) : zr (fdR aa) := by
  unfold fdR
  split
  · omega
  · decide
theorem enR_zr {x : Int} {aa : Nat → Int} (h : zr x) : zr (enR x aa) := by
  unfold enR
  split
  · exact h
  · decide
