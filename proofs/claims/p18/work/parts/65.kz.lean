/-! the reference's steps: es x is the list of house x -/
def RnC (es : jES) (d : Int) (g t : Int → Int) : Prop := d = es.length ∧ ∀ (i : Nat) (y v : Int), es[i]? = some (y, v) → g i = y ∧ t i = v
def RnY (es : Int → jES) (sm st tk : Int → Int) (g : Int) : Prop := ∀ y, 0 ≤ y → y < g → RnC (es y) (sm y) (rwX st y) (rwX tk y)
section Rya
variable {es : jES} {g t : Int → Int} {d y v i : Int}
theorem RnC.at (q : RnC es d g t) (i0 : 0 ≤ i) (i1 : i < d) (e1 : g i = y) (e2 : t i = v) : es[i.toNat]? = some (y, v) := by
  have e0 := q.1
  have l : i.toNat < es.length := by omega
  have k : es[i.toNat]? = some es[i.toNat] := List.getElem?_eq_getElem l
  have u := q.2 i.toNat es[i.toNat].1 es[i.toNat].2 k
  rw [show ((i.toNat : Nat) : Int) = i by omega, e1, e2] at u
  rw [k, u.1, u.2]
end Rya
section Rys
variable {es : Int → jES} {sm st tk : Int → Int} {hm y i z d w t : Int}
theorem RnY.len (q : RnY es sm st tk hm) (y0 : 0 ≤ y) (y1 : y < hm) (e : sm y = d) : d = (es y).length := e ▸ (q y y0 y1).1
theorem RnY.th (q : RnY es sm st tk hm) (y0 : 0 ≤ y) (y1 : y < hm) (e : sm y = d) (i0 : 0 ≤ i) (i1 : i < d) (ew : w = 22 * y + i) (ez : st w = z) : (es y)[i.toNat]? = some (z, tk w) := by
  subst ew
  exact (q y y0 y1).at i0 (by omega) ez rfl
theorem RnY.el (q : RnY es sm st tk hm) (s : StM st tk sm hm) : EsL es hm := fun y y0 y1 => by
  have u := (q y y0 y1).1
  have v := (s y y0 y1).2.1
  omega
theorem RnY.er (q : RnY es sm st tk hm) (s : StM st tk sm hm) : EsR es hm := fun y y0 y1 p hp => by
  obtain ⟨k, l, e⟩ := List.mem_iff_getElem.mp hp
  have u := q y y0 y1
  have g : (es y)[k]? = some (p.1, p.2) := by rw [List.getElem?_eq_getElem l, e]
  have v := (u.2 k p.1 p.2 g).1
  have w := ((s y y0 y1).2.2 k (by omega) (by have := u.1; omega)).1
  have x : st (22 * y + k) = p.1 := v
  rw [x] at w
  exact w
end Rys
