/-! what is asked of a walk -/
/-- the least of those below m for which P holds -/
def LsP (P : Int → Prop) (m r : Int) : Prop := 0 ≤ r ∧ r < m ∧ P r ∧ ∀ y, 0 ≤ y → y < m → P y → r ≤ y
theorem LsP.one {P : Int → Prop} {m : Int} (a b : Int) (h : LsP P m a) (g : LsP P m b) : a = b := by
  have u := h.2.2.2 b g.1 g.2.1 g.2.2.1
  have v := g.2.2.2 a h.1 h.2.1 h.2.2.1
  omega
theorem LsP.cg {P Q : Int → Prop} {m r : Int} (h : LsP P m r) (e : ∀ y, 0 ≤ y → y < m → (P y ↔ Q y)) : LsP Q m r := ⟨h.1, h.2.1, (e r h.1 h.2.1).mp h.2.2.1, fun y a b c => h.2.2.2 y a b ((e y a b).mpr c)⟩
/-- how far the farthest is -/
noncomputable def bfF (es : Int → jES) (x : Int) : Int := (bfZ es x).1 ((bfZ es x).2.2.1 ((bfZ es x).2.2.2 - 1))
noncomputable def rcF (es : Int → jES) (m x v : Int) : Int := if 0 ≤ x ∧ x < m then (if v = 0 then (bfZ es x).2.2.2 else if v = 1 then bfF es x else if v = 2 then cntP (fun y => (bfZ es x).1 y = bfF es x) m.toNat else if v = 3 then the (LsP (fun y => (bfZ es x).1 y = bfF es x) m) else -1) else -1
/-- from the end of the order to i: as far as the last -/
def RcI (F O : Int → Int) (r f i many low : Int) : Prop := many = r - 1 - i ∧ (∀ j, i < j → j < r → F (O j) = f ∧ low ≤ O j) ∧ ((i = r - 1 ∧ low = 1260) ∨ ∃ j, i < j ∧ j < r ∧ O j = low)
/-- from the last house down to k: those that are so far, the first of them -/
def RcK (F : Int → Int) (m f k c w : Int) : Prop := c + cntP (fun y => F y = f) (k + 1).toNat = cntP (fun y => F y = f) m.toNat ∧ ((w = -1 ∧ ∀ y, k < y → y < m → ¬ F y = f) ∨ (k < w ∧ w < m ∧ F w = f ∧ ∀ y, k < y → y < m → F y = f → w ≤ y))
section Rch
variable {es : Int → jES} {m x v r f z i j many low w k c n o : Int} {F W O : Int → Int}
theorem rcF_n (h : ¬ (0 ≤ x ∧ x < m)) : -1 = rcF es m x v := (if_neg h).symm
theorem rcF_o (h0 : ¬ v = 0) (h1 : ¬ v = 1) (h2 : ¬ v = 2) (h3 : ¬ v = 3) : -1 = rcF es m x v := by
  unfold rcF
  by_cases h : 0 ≤ x ∧ x < m
  · rw [if_pos h, if_neg h0, if_neg h1, if_neg h2, if_neg h3]
  · rw [if_neg h]
theorem rcF_0 (x0 : 0 ≤ x) (x1 : x < m) (e : v = 0) (a : WkE es m x F W O r) : r = rcF es m x v := by
  unfold rcF
  rw [if_pos ⟨x0, x1⟩, if_pos e]
  exact a.found
theorem WkE.mst (a : WkE es m x F W O r) (x0 : 0 ≤ x) (x1 : x < m) (er : EsR es m) (e1 : O (r - 1) = z) (e2 : F z = f) : f = bfF es x ∧ 1 ≤ r ∧ 0 ≤ z ∧ z < m := by
  obtain ⟨n, b, c⟩ := a
  obtain ⟨d, d0, I⟩ := bfs_I x0 x1 er n b.2
  have r1 : 1 ≤ r := by rw [c.1]; exact I.r1
  have o := c.2.2.2 (r - 1) (by omega) (by omega)
  have u := I.rg (r - 1) (by omega) (by have := c.1; omega)
  rw [← o, e1] at u
  unfold bfF
  rw [bfZ_is b, ← c.1, ← o, e1, ← c.2.1 z u.1 u.2.1]
  exact ⟨e2.symm, r1, u.1, u.2.1⟩
theorem rcF_1 (x0 : 0 ≤ x) (x1 : x < m) (e : v = 1) (h : f = bfF es x) : f = rcF es m x v := by
  unfold rcF
  rw [if_pos ⟨x0, x1⟩, if_neg (by omega), if_pos e]
  exact h
theorem WkE.eqf (a : WkE es m x F W O r) (h : f = bfF es x) : ∀ y, 0 ≤ y → y < m → (F y = f ↔ (bfZ es x).1 y = bfF es x) := fun y y0 y1 => by
  rw [a.far y0 y1, h]
theorem rcF_2c (x0 : 0 ≤ x) (x1 : x < m) (e : v = 2) (a : WkE es m x F W O r) (h : f = bfF es x) (q : c = cntP (fun y => F y = f) m.toNat) : c = rcF es m x v := by
  unfold rcF
  rw [if_pos ⟨x0, x1⟩, if_neg (by omega), if_neg (by omega), if_pos e, q]
  exact cntP_congr m.toNat (fun y y0 y1 => a.eqf h y y0 (by omega))
theorem rcF_3c (x0 : 0 ≤ x) (x1 : x < m) (e : v = 3) (a : WkE es m x F W O r) (h : f = bfF es x) (q : LsP (fun y => F y = f) m c) : c = rcF es m x v := by
  unfold rcF
  rw [if_pos ⟨x0, x1⟩, if_neg (by omega), if_neg (by omega), if_neg (by omega), if_pos e]
  exact the_of (q.cg (fun y y0 y1 => a.eqf h y y0 y1)) LsP.one
theorem RcI_0 (e : i = r - 1) (e1 : many = 0) : RcI F O r f i many 1260 := ⟨by omega, fun j a b => by omega, Or.inl ⟨e, rfl⟩⟩
theorem RcI.step (h : RcI F O r f i many low) (i1 : i < r) (eo : O i = o) (ef : F o = f) (ek : k = i - 1) (en : n = many + 1) (ew : w = min low o) (o1 : o < 1260) : RcI F O r f k n w := by
  have h1 := h.1
  refine ⟨by omega, fun j a b => ?_, Or.inr ?_⟩
  · have w1 : w ≤ low := by rw [ew]; exact Int.min_le_left ..
    have w2 : w ≤ o := by rw [ew]; exact Int.min_le_right ..
    by_cases g : j = i
    · rw [g, eo]
      exact ⟨ef, w2⟩
    · have u := h.2.1 j (by omega) b
      exact ⟨u.1, Int.le_trans w1 u.2⟩
  · obtain ⟨_, _, h3⟩ := h
    by_cases g : o ≤ low
    · exact ⟨i, by omega, i1, by rw [ew, Int.min_eq_right g]; exact eo⟩
    · have e2 : w = low := by rw [ew]; exact Int.min_eq_left (by omega)
      rcases h3 with ⟨a, b⟩ | ⟨j, a, b, d⟩
      · exact absurd o1 (by omega)
      · exact ⟨j, by omega, b, by rw [e2]; exact d⟩
/-- at the end -/
theorem RcI.fin (h : RcI F O r f i many low) (a : WkE es m x F W O r) (x0 : 0 ≤ x) (x1 : x < m) (er : EsR es m) (e1 : O (r - 1) = z) (e2 : F z = f) (i0 : -1 ≤ i) (no : i < 0 ∨ ¬ F (O i) = f) : many = cntP (fun y => F y = f) m.toNat ∧ LsP (fun y => F y = f) m low := by
  have ms := a.mst x0 x1 er e1 e2
  obtain ⟨h1, h2, h3⟩ := h
  have ir : i < r - 1 := by
    by_cases g : r - 1 ≤ i
    · exfalso
      by_cases g2 : i = r - 1
      · rcases no with no | no
        · omega
        · rw [g2, e1, e2] at no
          exact no rfl
      · rcases h3 with ⟨p, _⟩ | ⟨j, p, q, _⟩
        · exact g2 p
        · omega
    · omega
  have l := a.last (i := i + 1) (f := f) x0 x1 er (by omega) (by omega) (by rw [e1]; exact e2) (fun j p q => (h2 j (by omega) q).1) (by
    rcases no with no | no
    · exact Or.inl (by omega)
    · exact Or.inr (by rw [show i + 1 - 1 = i by omega]; exact no)) m.toNat (by omega)
  refine ⟨by rw [l.1]; omega, ?_⟩
  rcases h3 with ⟨p, _⟩ | ⟨j, p, q, d⟩
  · omega
  · have u := (h2 j p q).1
    have rg : 0 ≤ O j ∧ O j < m := by
      obtain ⟨n, b, c⟩ := a
      obtain ⟨d2, _, I⟩ := bfs_I x0 x1 er n b.2
      have u := I.rg j (by omega) (by have := c.1; omega)
      rw [← c.2.2.2 j (by omega) q] at u
      exact ⟨u.1, u.2.1⟩
    rw [d] at u rg
    refine ⟨rg.1, rg.2, u, fun y y0 y1 ey => ?_⟩
    obtain ⟨t, t0, t1, t2⟩ := (l.2 y y0 y1).mp ey
    rw [← t2]
    exact (h2 t (by omega) t1).2
theorem RcK_0 (e : k = m - 1) : RcK F m f k 0 (-1) := ⟨by rw [show k + 1 = m by omega]; omega, Or.inl ⟨rfl, fun y a b => by omega⟩⟩
theorem RcK.no (h : RcK F m f k c w) (k0 : 0 ≤ k) (e : F k = z) (n : ¬ z = f) (ei : i = k - 1) : RcK F m f i c w := by
  obtain ⟨h1, h2⟩ := h
  have s : cntP (fun y => F y = f) (k + 1).toNat = cntP (fun y => F y = f) k.toNat + iF (F k = f) 1 0 := by
    rw [show (k + 1).toNat = k.toNat + 1 by omega]
    show cntP (fun y => F y = f) k.toNat + iF (F ((k.toNat : Nat) : Int) = f) 1 0 = _
    rw [show ((k.toNat : Nat) : Int) = k by omega]
  rw [iF_neg (by rw [e]; exact n)] at s
  refine ⟨by rw [ei, show k - 1 + 1 = k by omega]; omega, ?_⟩
  rcases h2 with ⟨a, b⟩ | ⟨a, b, d, g⟩
  · refine Or.inl ⟨a, fun y p q => ?_⟩
    by_cases t : y = k
    · rw [t, e]; exact n
    · exact b y (by omega) q
  · refine Or.inr ⟨by omega, b, d, fun y p q u => ?_⟩
    by_cases t : y = k
    · rw [t, e] at u
      exact absurd u n
    · exact g y (by omega) q u
theorem RcK.yes (h : RcK F m f k c w) (k0 : 0 ≤ k) (k1 : k < m) (e : F k = z) (n : z = f) (ei : i = k - 1) (ec : j = c + 1) : RcK F m f i j k := by
  obtain ⟨h1, _⟩ := h
  have s : cntP (fun y => F y = f) (k + 1).toNat = cntP (fun y => F y = f) k.toNat + iF (F k = f) 1 0 := by
    rw [show (k + 1).toNat = k.toNat + 1 by omega]
    show cntP (fun y => F y = f) k.toNat + iF (F ((k.toNat : Nat) : Int) = f) 1 0 = _
    rw [show ((k.toNat : Nat) : Int) = k by omega]
  rw [iF_pos (by rw [e]; exact n)] at s
  exact ⟨by rw [ei, show k - 1 + 1 = k by omega]; omega, Or.inr ⟨by omega, k1, by rw [e]; exact n, fun y p q u => by omega⟩⟩
theorem RcK.fin (h : RcK F m f k c w) (e : k = -1) (z0 : 0 ≤ z) (z1 : z < m) (ez : F z = f) : c = cntP (fun y => F y = f) m.toNat ∧ LsP (fun y => F y = f) m w := by
  obtain ⟨h1, h2⟩ := h
  rw [e] at h1
  have q : cntP (fun y => F y = f) (-1 + 1 : Int).toNat = 0 := rfl
  refine ⟨by omega, ?_⟩
  rcases h2 with ⟨a, b⟩ | ⟨a, b, d, g⟩
  · exact absurd ez (b z (by omega) z1)
  · exact ⟨by omega, b, d, fun y p q u => g y (by omega) q u⟩
end Rch
/-! a drunk's way: where, and the latest draw -/
def dkS (es : Int → jES) (s : Int × Int) : Int × Int := if (es s.1).length = 0 then s else (((es s.1).getD ((1103 * s.2 + 12345) % 1000003 % (es s.1).length).toNat (0, 0)).1, (1103 * s.2 + 12345) % 1000003)
def dkW (es : Int → jES) : Nat → Int → Int → Int × Int
  | 0, y, x => (y, x)
  | n + 1, y, x => dkS es (dkW es n y x)
section Dks
variable {es : Int → jES} {y x i j a s b t d z k v r : Int}
theorem dkW.suc (i0 : 0 ≤ i) (ei : j = i + 1) : dkW es j.toNat y x = dkS es (dkW es i.toNat y x) := by
  rw [ei, show (i + 1).toNat = i.toNat + 1 by omega]
  rfl
theorem dkW.go (h : dkW es i.toNat y x = (a, s)) (i0 : 0 ≤ i) (ei : j = i + 1) (ed : d = (es a).length) (d0 : 0 < d) (es_ : (1103 * s + 12345) % 1000003 = z) (ek : z % d = k) (l : (es a)[k.toNat]? = some (b, t)) : dkW es j.toNat y x = (b, z) := by
  have g : k.toNat < (es a).length := (List.getElem?_eq_some_iff.mp l).1
  rw [dkW.suc i0 ei, h]
  unfold dkS
  rw [if_neg (by show ¬ (es a).length = 0; omega)]
  show (((es a).getD ((1103 * s + 12345) % 1000003 % (es a).length).toNat (0, 0)).1, (1103 * s + 12345) % 1000003) = _
  rw [es_, ← ed, ek, List.getD_eq_getElem?_getD, l]
  rfl
theorem dkW.no (h : dkW es i.toNat y x = (a, s)) (i0 : 0 ≤ i) (ei : j = i + 1) (ed : d = (es a).length) (d0 : d ≤ 0) : dkW es j.toNat y x = (a, s) := by
  rw [dkW.suc i0 ei, h]
  unfold dkS
  rw [if_pos (by show (es a).length = 0; omega)]
theorem dkW.end (h : dkW es i.toNat y x = (a, s)) (e : i = v) (r1 : r = a) : r = (dkW es v.toNat y x).1 := by
  rw [← e, h, r1]
end Dks
/-- what a drunk's call answers: k its status -/
def dkR (es : Int → jES) (k x y v : Int) : Int := if k = 0 then (dkW es v.toNat y x).1 else k
theorem dkR_n {es : Int → jES} {k j x y v : Int} (h : j = k) (n : ¬ j = 0) : j = dkR es k x y v := by
  unfold dkR
  rw [← h, if_neg n]
theorem dkR_y {es : Int → jES} {k r x y v : Int} (h : 0 = k) (e : r = (dkW es v.toNat y x).1) : r = dkR es k x y v := by
  unfold dkR
  rw [← h, if_pos rfl]
  exact e
