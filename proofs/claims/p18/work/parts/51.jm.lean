/-! the judge's machine, whatever code it runs -/
/-- what clauses leave: is there a lets, is it let, is it barred, what is taken -/
abbrev CS : Type := Int × Int × Int × Int
abbrev VS : Type := (Int → Int) → CS → CS
def clmp (v : Int) : Int := if v < 1 then 1 else if 99 < v then 99 else v
/-- what the exchange takes, 0 if it is not let -/
def vdR (R : VS) (w : Int → Int) : Int := if (if (R w (0, 0, 0, 1)).1 = 1 then (R w (0, 0, 0, 1)).2.1 = 1 else w 4 = 1) ∧ ¬ (R w (0, 0, 0, 1)).2.2.1 = 1 then (R w (0, 0, 0, 1)).2.2.2 else 0
/-! the judge's machine -/
def jpu (x ht : Int) (kf : Int → Int) : Int × (Int → Int) := if ht < 64 then (ht + 1, up kf ht x) else (ht, kf)
def jpv (ht : Int) (kf : Int → Int) : Int := if 0 < ht then kf (ht - 1) else 0
def jph (ht : Int) : Int := if 0 < ht then ht - 1 else ht
def jbd (x br : Int) : Int × Int := if br = 1 ∨ 1000000000 < x ∨ x < -1000000000 then (0, 1) else (x, br)
def jjn (k x y br : Int) : Int × Int := if k = 2 then jbd (x + y) br else if k = 3 then jbd (x - y) br else if k = 4 then jbd (x * y) br else if k = 5 then (if y = 0 then (0, 1) else (Int.tdiv x y, br)) else if k = 6 then (if x < y then 1 else 0, br) else if k = 7 then (if y < x then 1 else 0, br) else (if x = y then 1 else 0, br)
def jrn (k x ht br : Int) (kf wf : Int → Int) : Int × Int × (Int → Int) := if k = 0 then ((jpu x ht kf).1, br, (jpu x ht kf).2) else if k = 1 then ((jpu (if 0 ≤ x ∧ x < 8 then wf x else 0) ht kf).1, br, (jpu (if 0 ≤ x ∧ x < 8 then wf x else 0) ht kf).2) else if k = 9 then ((jpu (if jpv ht kf = 0 then 1 else 0) (jph ht) kf).1, br, (jpu (if jpv ht kf = 0 then 1 else 0) (jph ht) kf).2) else ((jpu (jjn k (jpv (jph ht) kf) (jpv ht kf) br).1 (jph (jph ht)) kf).1, (jjn k (jpv (jph ht) kf) (jpv ht kf) br).2, (jpu (jjn k (jpv (jph ht) kf) (jpv ht kf) br).1 (jph (jph ht)) kf).2)
def jho (ht br : Int) (kf : Int → Int) : Prop := br = 0 ∧ ¬ jpv ht kf = 0
noncomputable def jcl (k ht br : Int) (kf : Int → Int) (s : CS) : CS := if k = 13 then (1, iF (jho ht br kf) 1 s.2.1, s.2.2.1, s.2.2.2) else if k = 14 then (s.1, s.2.1, iF (jho ht br kf) 1 s.2.2.1, s.2.2.2) else (s.1, s.2.1, s.2.2.1, iF (jho ht br kf) (clmp (kf 0)) s.2.2.2)
/-- place, height, broken, stack, what clauses left -/
abbrev JZ : Type := Int × Int × Int × (Int → Int) × CS
noncomputable def jst (F w : Int → Int) (s : JZ) : JZ := if 12 ≤ zand (F s.1) 31 then (s.1 + 1, 0, 0, s.2.2.2.1, jcl (zand (F s.1) 31) s.2.1 s.2.2.1 s.2.2.2.1 s.2.2.2.2) else if zand (F s.1) 31 = 10 ∨ zand (F s.1) 31 = 11 then (if (¬ jpv s.2.1 s.2.2.2.1 = 0 ↔ zand (F s.1) 31 = 10) then (max s.1 (zshr (F s.1) 5 - 1) + 1, s.2) else (s.1 + 1, max 0 (s.2.1 - 1), s.2.2)) else (s.1 + 1, (jrn (zand (F s.1) 31) (zshr (F s.1) 5) s.2.1 s.2.2.1 s.2.2.2.1 w).1, (jrn (zand (F s.1) 31) (zshr (F s.1) 5) s.2.1 s.2.2.1 s.2.2.2.1 w).2.1, (jrn (zand (F s.1) 31) (zshr (F s.1) 5) s.2.1 s.2.2.1 s.2.2.2.1 w).2.2, s.2.2.2.2)
noncomputable def jit (F w : Int → Int) : Nat → JZ → JZ
  | 0, s => s
  | n + 1, s => jit F w n (jst F w s)
theorem jit_add {F w : Int → Int} : ∀ (n m : Nat) (s : JZ), jit F w (n + m) s = jit F w m (jit F w n s)
  | 0, m, s => by rw [Nat.zero_add]; rfl
  | n + 1, m, s => by
    rw [show n + 1 + m = (n + m) + 1 by omega]
    exact jit_add n m (jst F w s)
/-- from one state to another -/
def Run (F w : Int → Int) (s t : JZ) : Prop := ∃ n, jit F w n s = t
theorem Run.rf {F w : Int → Int} {s : JZ} : Run F w s s := ⟨0, rfl⟩
theorem Run.tr {F w : Int → Int} {s t u : JZ} (h : Run F w s t) (g : Run F w t u) : Run F w s u := by
  obtain ⟨n, h⟩ := h
  obtain ⟨m, g⟩ := g
  exact ⟨n + m, by rw [jit_add, h, g]⟩
theorem Run.st {F w : Int → Int} {s t : JZ} (h : jst F w s = t) : Run F w s t := ⟨1, h⟩
/-- words as they may be asked -/
def WdO (w : Int → Int) : Prop := ∀ j, 0 ≤ j → j < 8 → -1000000000 ≤ w j ∧ w j ≤ 1000000000
section JmS
variable {F : Int → Int}
/-- the place rises with every step -/
theorem jst_up {w : Int → Int} (s : JZ) : s.1 + 1 ≤ (jst F w s).1 := by
  unfold jst
  split
  · exact Int.le_refl _
  split
  · split
    · show s.1 + 1 ≤ max s.1 (zshr (F s.1) 5 - 1) + 1
      omega
    · exact Int.le_refl _
  · exact Int.le_refl _
theorem jit_up {w : Int → Int} : ∀ (n : Nat) (s : JZ), s.1 + n ≤ (jit F w n s).1
  | 0, s => by
    show s.1 + ((0 : Nat) : Int) ≤ s.1
    omega
  | n + 1, s => by
    have u := jit_up (w := w) n (jst F w s)
    have v := jst_up (F := F) (w := w) s
    show s.1 + ((n + 1 : Nat) : Int) ≤ (jit F w n (jst F w s)).1
    omega
end JmS
def PrG (F : Int → Int) (b : Int) (A : VS) : Prop := 0 ≤ b ∧ ∀ w st : Int → Int, WdO w → ∃ st2, Run F w (0, 0, 0, st, 0, 0, 0, 1) (b, 0, 0, st2, A w (0, 0, 0, 1))
/-- the machine's run so far: whatever comes to the code's end comes by this state -/
def JzV (F w : Int → Int) (n : Int) (s c : JZ) : Prop := ∀ t, Run F w s t → n ≤ t.1 → Run F w c t
theorem JzV_0 {F w : Int → Int} {n : Int} {s : JZ} : JzV F w n s s := fun _ h _ => h
theorem JzV.step {F w : Int → Int} {n : Int} {s c d : JZ} (h : JzV F w n s c) (l : c.1 < n) (e : jst F w c = d) : JzV F w n s d := fun t r k => by
  obtain ⟨m, r⟩ := h t r k
  cases m with
  | zero =>
    have e2 : c = t := r
    rw [e2] at l
    omega
  | succ m => exact ⟨m, by rw [← e]; exact r⟩
theorem JzV.end {F w : Int → Int} {n : Int} {s c t : JZ} (h : JzV F w n s c) (r : Run F w s t) (e : t.1 = n) (l : n ≤ c.1) : c = t := by
  obtain ⟨m, r⟩ := h t r (by omega)
  have u := jit_up (F := F) (w := w) m c
  rw [r] at u
  have z : m = 0 := by omega
  subst z
  exact r
/-! how each row of the judge's is told -/
section JuS
variable {x y z k r h1 h2 h3 ht br br2 hl le ba tk le2 ba2 t2 w1 w2 a c n v : Int} {kf g wf F : Int → Int}
theorem jpv_pos (l : 0 < ht) (e : kf (ht - 1) = z) : jpv ht kf = z := by
  unfold jpv
  rw [if_pos l, e]
theorem jpv_neg (l : ht ≤ 0) : jpv ht kf = 0 := by
  unfold jpv
  rw [if_neg (by omega)]
theorem jph_pos (l : 0 < ht) : jph ht = ht - 1 := if_pos l
theorem jph_neg (l : ht ≤ 0) : jph ht = ht := if_neg (by omega)
theorem jpu_pos (l : ht < 64) (e : g = up kf ht x) : jpu x ht kf = (ht + 1, g) := by
  unfold jpu
  rw [if_pos l, e]
theorem jpu_neg (l : 64 ≤ ht) : jpu x ht kf = (ht, kf) := if_neg (by omega)
theorem jbd_1 (h : br = 1) : jbd x br = (0, 1) := if_pos (Or.inl h)
theorem jbd_2 (h : 1000000000 < x) : jbd x br = (0, 1) := if_pos (Or.inr (Or.inl h))
theorem jbd_3 (h : x < -1000000000) : jbd x br = (0, 1) := if_pos (Or.inr (Or.inr h))
theorem jbd_0 (h : br = 0) (p : -1000000000 ≤ x) (q : x ≤ 1000000000) : jbd x br = (x, 0) := by
  unfold jbd
  rw [if_neg (by omega), h]
theorem jjn_2 {p : Int × Int} (e : k = 2) (h : jbd (x + y) br = p) : jjn k x y br = p := by
  subst e
  exact h
theorem jjn_3 {p : Int × Int} (e : k = 3) (h : jbd (x - y) br = p) : jjn k x y br = p := by
  subst e
  exact h
theorem jjn_4 {p : Int × Int} (e : k = 4) (m : x * y = z) (h : jbd z br = p) : jjn k x y br = p := by
  subst e
  subst m
  exact h
theorem jjn_5a (e : k = 5) (h : y = 0) : jjn k x y br = (0, 1) := by
  subst e
  exact if_pos h
theorem jjn_5b (e : k = 5) (h : ¬ y = 0) (d : Int.tdiv x y = z) (b : br = br2) : jjn k x y br = (z, br2) := by
  subst e
  subst d
  subst b
  exact if_neg h
theorem jjn_6a (e : k = 6) (h : x < y) : jjn k x y br = (1, br) := by
  subst e
  show ((if x < y then (1 : Int) else 0), br) = (1, br)
  rw [if_pos h]
theorem jjn_6b (e : k = 6) (h : y ≤ x) : jjn k x y br = (0, br) := by
  subst e
  show ((if x < y then (1 : Int) else 0), br) = (0, br)
  rw [if_neg (by omega)]
theorem jjn_7a (e : k = 7) (h : y < x) : jjn k x y br = (1, br) := by
  subst e
  show ((if y < x then (1 : Int) else 0), br) = (1, br)
  rw [if_pos h]
theorem jjn_7b (e : k = 7) (h : x ≤ y) : jjn k x y br = (0, br) := by
  subst e
  show ((if y < x then (1 : Int) else 0), br) = (0, br)
  rw [if_neg (by omega)]
theorem jjn_d (a2 : ¬ k = 2) (a3 : ¬ k = 3) (a4 : ¬ k = 4) (a5 : ¬ k = 5) (a6 : ¬ k = 6) (a7 : ¬ k = 7) : jjn k x y br = (if x = y then 1 else 0, br) := by
  unfold jjn
  rw [if_neg a2, if_neg a3, if_neg a4, if_neg a5, if_neg a6, if_neg a7]
theorem jjn_8a (a2 : ¬ k = 2) (a3 : ¬ k = 3) (a4 : ¬ k = 4) (a5 : ¬ k = 5) (a6 : ¬ k = 6) (a7 : ¬ k = 7) (h : x = y) : jjn k x y br = (1, br) := by rw [jjn_d a2 a3 a4 a5 a6 a7, if_pos h]
theorem jjn_8b (a2 : ¬ k = 2) (a3 : ¬ k = 3) (a4 : ¬ k = 4) (a5 : ¬ k = 5) (a6 : ¬ k = 6) (a7 : ¬ k = 7) (h : ¬ x = y) : jjn k x y br = (0, br) := by rw [jjn_d a2 a3 a4 a5 a6 a7, if_neg h]
theorem jrn_0 (e : k = 0) (h : jpu x ht kf = (h2, g)) : jrn k x ht br kf wf = (h2, br, g) := by
  unfold jrn
  rw [if_pos e, h]
theorem jrn_1 (e : k = 1) (w : (if 0 ≤ x ∧ x < 8 then wf x else 0) = z) (h : jpu z ht kf = (h2, g)) : jrn k x ht br kf wf = (h2, br, g) := by
  unfold jrn
  rw [if_neg (by omega), if_pos e, w, h]
theorem jrn_1a (e : k = 1) (p : 0 ≤ x) (q : x < 8) (r : wf x = z) (h : jpu z ht kf = (h2, g)) : jrn k x ht br kf wf = (h2, br, g) := jrn_1 e (by rw [if_pos ⟨p, q⟩]; exact r) h
theorem jrn_1b (e : k = 1) (p : x < 0) (h : jpu 0 ht kf = (h2, g)) : jrn k x ht br kf wf = (h2, br, g) := jrn_1 e (if_neg (by omega)) h
theorem jrn_1c (e : k = 1) (p : 8 ≤ x) (h : jpu 0 ht kf = (h2, g)) : jrn k x ht br kf wf = (h2, br, g) := jrn_1 e (if_neg (by omega)) h
theorem jrn_9a (e : k = 9) (v : jpv ht kf = r) (p : jph ht = h1) (z : r = 0) (h : jpu 1 h1 kf = (h2, g)) : jrn k x ht br kf wf = (h2, br, g) := by
  unfold jrn
  rw [if_neg (by omega), if_neg (by omega), if_pos e, v, p, if_pos z, h]
theorem jrn_9b (e : k = 9) (v : jpv ht kf = r) (p : jph ht = h1) (z : ¬ r = 0) (h : jpu 0 h1 kf = (h2, g)) : jrn k x ht br kf wf = (h2, br, g) := by
  unfold jrn
  rw [if_neg (by omega), if_neg (by omega), if_pos e, v, p, if_neg z, h]
theorem jrn_d (n0 : ¬ k = 0) (n1 : ¬ k = 1) (n9 : ¬ k = 9) (v1 : jpv ht kf = y) (p1 : jph ht = h1) (v2 : jpv h1 kf = z) (p2 : jph h1 = h2) (j : jjn k z y br = (r, br2)) (h : jpu r h2 kf = (h3, g)) : jrn k x ht br kf wf = (h3, br2, g) := by
  unfold jrn
  rw [if_neg n0, if_neg n1, if_neg n9, p1, v1, v2, p2, j]
  show ((jpu r h2 kf).1, br2, (jpu r h2 kf).2) = (h3, br2, g)
  rw [h]
theorem jho_y (b : br = 0) (w : jpv ht kf = r) (z : ¬ r = 0) : jho ht br kf := ⟨b, by rw [w]; exact z⟩
theorem jho_n1 (b : ¬ br = 0) : ¬ jho ht br kf := fun q => b q.1
theorem jho_n2 (w : jpv ht kf = r) (z : r = 0) : ¬ jho ht br kf := fun q => q.2 (w.trans z)
theorem jcl_13y (e : k = 13) (H : jho ht br kf) : jcl k ht br kf (hl, le, ba, tk) = (1, 1, ba, tk) := by
  unfold jcl
  rw [if_pos e, iF_pos H]
theorem jcl_13n (e : k = 13) (H : ¬ jho ht br kf) (b : le = le2) : jcl k ht br kf (hl, le, ba, tk) = (1, le2, ba, tk) := by
  unfold jcl
  rw [if_pos e, iF_neg H, b]
theorem jcl_14y (e : k = 14) (H : jho ht br kf) : jcl k ht br kf (hl, le, ba, tk) = (hl, le, 1, tk) := by
  unfold jcl
  rw [if_neg (by omega), if_pos e, iF_pos H]
theorem jcl_14n (e : k = 14) (H : ¬ jho ht br kf) (b : ba = ba2) : jcl k ht br kf (hl, le, ba, tk) = (hl, le, ba2, tk) := by
  unfold jcl
  rw [if_neg (by omega), if_pos e, iF_neg H, b]
theorem jcl_dy (n3 : ¬ k = 13) (n4 : ¬ k = 14) (H : jho ht br kf) (e : clmp (kf 0) = t2) : jcl k ht br kf (hl, le, ba, tk) = (hl, le, ba, t2) := by
  unfold jcl
  rw [if_neg n3, if_neg n4, iF_pos H, e]
theorem jcl_dn (n3 : ¬ k = 13) (n4 : ¬ k = 14) (H : ¬ jho ht br kf) : jcl k ht br kf (hl, le, ba, tk) = (hl, le, ba, tk) := by
  unfold jcl
  rw [if_neg n3, if_neg n4, iF_neg H]
theorem clmp_of (e : kf 0 = z) (m1 : w1 ≤ 99) (m2 : w1 ≤ z) (m3 : w1 = 99 ∨ w1 = z) (n1 : 1 ≤ w2) (n2 : w1 ≤ w2) (n3 : w2 = 1 ∨ w2 = w1) : clmp (kf 0) = w2 := by
  rw [e]
  unfold clmp
  split
  · omega
  · split <;> omega
theorem tt_jm {p q : Prop} (a : p) (b : q) : p ↔ q := ⟨fun _ => b, fun _ => a⟩
theorem ff_jm (a : r = 0) (b : ¬ k = 10) : ¬ r = 0 ↔ k = 10 := ⟨fun q => absurd a q, fun q => absurd q b⟩
theorem tf_jm (a : ¬ r = 0) (b : ¬ k = 10) : ¬ (¬ r = 0 ↔ k = 10) := fun q => b (q.mp a)
theorem ft_jm (a : r = 0) (b : k = 10) : ¬ (¬ r = 0 ↔ k = 10) := fun q => q.mpr b a
theorem jst_c {q : CS} (e1 : F a = c) (e2 : zand c 31 = k) (l : 12 ≤ k) (j : jcl k ht br kf (hl, le, ba, tk) = q) : jst F wf (a, ht, br, kf, hl, le, ba, tk) = (a + 1, 0, 0, kf, q) := by
  have i1 : zand (F (a, ht, br, kf, hl, le, ba, tk).1) 31 = k := by
    show zand (F a) 31 = k
    rw [e1]; exact e2
  unfold jst
  rw [i1, if_pos l]
  show (a + 1, (0 : Int), (0 : Int), kf, jcl k ht br kf (hl, le, ba, tk)) = _
  rw [j]
theorem jst_s (e1 : F a = c) (e2 : zand c 31 = k) (e3 : zshr c 5 = y) (kk : k = 10 ∨ k = 11) (w : jpv ht kf = r) (t : ¬ r = 0 ↔ k = 10) (m : max a (y - 1) = z) : jst F wf (a, ht, br, kf, hl, le, ba, tk) = (z + 1, ht, br, kf, hl, le, ba, tk) := by
  have i1 : zand (F (a, ht, br, kf, hl, le, ba, tk).1) 31 = k := by
    show zand (F a) 31 = k
    rw [e1]; exact e2
  have i2 : zshr (F (a, ht, br, kf, hl, le, ba, tk).1) 5 = y := by
    show zshr (F a) 5 = y
    rw [e1]; exact e3
  unfold jst
  rw [i1, i2, if_neg (by omega), if_pos kk]
  show (if ¬ jpv ht kf = 0 ↔ k = 10 then (max a (y - 1) + 1, ht, br, kf, hl, le, ba, tk) else (a + 1, max 0 (ht - 1), br, kf, hl, le, ba, tk)) = _
  rw [w, if_pos t, m]
theorem jst_g (e1 : F a = c) (e2 : zand c 31 = k) (kk : k = 10 ∨ k = 11) (w : jpv ht kf = r) (t : ¬ (¬ r = 0 ↔ k = 10)) (m : max 0 (ht - 1) = z) : jst F wf (a, ht, br, kf, hl, le, ba, tk) = (a + 1, z, br, kf, hl, le, ba, tk) := by
  have i1 : zand (F (a, ht, br, kf, hl, le, ba, tk).1) 31 = k := by
    show zand (F a) 31 = k
    rw [e1]; exact e2
  unfold jst
  rw [i1, if_neg (by omega), if_pos kk]
  show (if ¬ jpv ht kf = 0 ↔ k = 10 then (max a (zshr (F a) 5 - 1) + 1, ht, br, kf, hl, le, ba, tk) else (a + 1, max 0 (ht - 1), br, kf, hl, le, ba, tk)) = _
  rw [w, if_neg t, m]
theorem jst_r (e1 : F a = c) (e2 : zand c 31 = k) (e3 : zshr c 5 = y) (l : k < 12) (n10 : ¬ k = 10) (n11 : ¬ k = 11) (j : jrn k y ht br kf wf = (h2, br2, g)) : jst F wf (a, ht, br, kf, hl, le, ba, tk) = (a + 1, h2, br2, g, hl, le, ba, tk) := by
  have i1 : zand (F (a, ht, br, kf, hl, le, ba, tk).1) 31 = k := by
    show zand (F a) 31 = k
    rw [e1]; exact e2
  have i2 : zshr (F (a, ht, br, kf, hl, le, ba, tk).1) 5 = y := by
    show zshr (F a) 5 = y
    rw [e1]; exact e3
  unfold jst
  rw [i1, i2, if_neg (by omega), if_neg (by omega)]
  show (a + 1, (jrn k y ht br kf wf).1, (jrn k y ht br kf wf).2.1, (jrn k y ht br kf wf).2.2, hl, le, ba, tk) = _
  rw [j]
theorem JzV.law {R : VS} (h : JzV F wf n (0, 0, 0, kf, 0, 0, 0, 1) (a, ht, br, g, hl, le, ba, tk)) (l : n ≤ a) (o : WdO wf) (p : PrG F n R) : R wf (0, 0, 0, 1) = (hl, le, ba, tk) := by
  obtain ⟨st2, r⟩ := p.2 wf kf o
  have e := h.end r rfl l
  have e2 : (hl, le, ba, tk) = R wf (0, 0, 0, 1) := congrArg (fun s : JZ => s.2.2.2.2) e
  exact e2.symm
theorem JzV.vd (h : JzV F wf n (0, 0, 0, kf, 0, 0, 0, 1) (a, ht, br, g, hl, le, ba, tk)) (l : n ≤ a) (o : WdO wf) (q : (if (if hl = 1 then le = 1 else wf 4 = 1) ∧ ¬ ba = 1 then tk else 0) = v) : ∀ R, PrG F n R → vdR R wf = v := fun R p => by
  have e := h.law l o p
  unfold vdR
  rw [e]
  exact q
theorem vq_y (p : if hl = 1 then le = 1 else wf 4 = 1) (b : ¬ ba = 1) : (if (if hl = 1 then le = 1 else wf 4 = 1) ∧ ¬ ba = 1 then tk else 0) = tk := if_pos ⟨p, b⟩
theorem vq_n (p : ¬ if hl = 1 then le = 1 else wf 4 = 1) : (if (if hl = 1 then le = 1 else wf 4 = 1) ∧ ¬ ba = 1 then tk else 0) = 0 := if_neg (fun q => p q.1)
theorem vq_b (b : ba = 1) : (if (if hl = 1 then le = 1 else wf 4 = 1) ∧ ¬ ba = 1 then tk else 0) = 0 := if_neg (fun q => q.2 b)
theorem vo_a (p : hl = 1) (q : le = 1) : if hl = 1 then le = 1 else wf 4 = 1 := by rw [if_pos p]; exact q
theorem vo_b (p : ¬ hl = 1) (e : wf 4 = z) (q : z = 1) : if hl = 1 then le = 1 else wf 4 = 1 := by rw [if_neg p, e]; exact q
theorem vo_c (p : hl = 1) (q : ¬ le = 1) : ¬ if hl = 1 then le = 1 else wf 4 = 1 := by rw [if_pos p]; exact q
theorem vo_d (p : ¬ hl = 1) (e : wf 4 = z) (q : ¬ z = 1) : ¬ if hl = 1 then le = 1 else wf 4 = 1 := by rw [if_neg p, e]; exact q
end JuS
/-! the words as they are set -/
def jsP (x y : Int) (w : Int → Int) : Int → Int := up (up (up w 0 x) 1 y) 4 (y - x)
def jsC (x y z : Int) (w : Int → Int) : Int → Int := up (up (up w 2 x) 3 y) 5 z
def jsT (x y : Int) (w : Int → Int) : Int → Int := up (up w 6 x) 7 y
theorem jsP_of {x y d : Int} {w f g h : Int → Int} (e1 : f = up w 0 x) (e2 : g = up f 1 y) (e3 : h = up g 4 d) (e : d = y - x) : jsP x y w = h := by
  rw [e3, e2, e1, e]; rfl
theorem jsC_of {x y z : Int} {w f g h : Int → Int} (e1 : f = up w 2 x) (e2 : g = up f 3 y) (e3 : h = up g 5 z) : jsC x y z w = h := by
  rw [e3, e2, e1]; rfl
theorem jsT_of {x y : Int} {w f g : Int → Int} (e1 : f = up w 6 x) (e2 : g = up f 7 y) : jsT x y w = g := by
  rw [e2, e1]; rfl
