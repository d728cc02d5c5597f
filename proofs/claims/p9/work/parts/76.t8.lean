theorem LwQ.lo {K Kx K2 cc : Int → Int} {t n k w : Int} (h : LwQ K Kx cc t n k) (t0 : 0 ≤ t) (e : K2 = up Kx 62 w) : EqN K2 K 62 := fun j a b => by
  rw [e, up_ne (by omega)]; exact h.1 j (by omega) (by omega)
