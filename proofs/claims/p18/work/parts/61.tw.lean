/-- an instruction -/
def InX (F : Int → Int) (a k m : Int) : Prop := zand (F a) 31 = k ∧ zshr (F a) 5 = m
def BdV (f : DV) : Prop := ∀ w, WdO w → ∀ v, f w = some v → -1000000000 ≤ v ∧ v ≤ 1000000000
/-- the code from a up to b tells f, with so many values more on the stack at most -/
def CoG (F : Int → Int) (a b m : Int) (f : DV) : Prop := a ≤ b ∧ 1 ≤ m ∧ BdV f ∧ ∀ (w : Int → Int) (h br : Int) (st : Int → Int) (cs : CS), WdO w → 0 ≤ h → (br = 0 ∨ br = 1) → (br = 0 → h + m ≤ 64) →
  ∃ h2 br2 st2, Run F w (a, h, br, st, cs) (b, h2, br2, st2, cs) ∧ 0 ≤ h2 ∧ (br2 = 0 ∨ br2 = 1) ∧ (br = 1 → br2 = 1) ∧ (br = 0 → (f w = none → br2 = 1) ∧ ∀ v, f w = some v → br2 = 0 ∧ h2 = h + 1 ∧ st2 h = v ∧ ∀ j, 0 ≤ j → j < h → st2 j = st j)
section CoGs
variable {F G : Int → Int} {a b c e k m m1 m2 v : Int} {f g : DV}
theorem InX.cg (h : InX F a k m) (e : G a = F a) : InX G a k m := by
  unfold InX
  rw [e]; exact h
/-- one step of the machine that is no end of a clause, no skip -/
theorem jst_rn {w : Int → Int} {h br : Int} {st : Int → Int} {cs : CS} (i : InX F a k m) (k1 : k < 10) : jst F w (a, h, br, st, cs) = (a + 1, (jrn k m h br st w).1, (jrn k m h br st w).2.1, (jrn k m h br st w).2.2, cs) := by
  have i1 : zand (F (a, h, br, st, cs).1) 31 = k := i.1
  have i2 : zshr (F (a, h, br, st, cs).1) 5 = m := i.2
  unfold jst
  rw [i1, i2, if_neg (by omega), if_neg (by omega)]
theorem jst_sk {w : Int → Int} {h br : Int} {st : Int → Int} {cs : CS} (i : InX F a k m) (k1 : k = 10 ∨ k = 11) (t : ¬ jpv h st = 0 ↔ k = 10) : jst F w (a, h, br, st, cs) = (max a (m - 1) + 1, h, br, st, cs) := by
  have i1 : zand (F (a, h, br, st, cs).1) 31 = k := i.1
  have i2 : zshr (F (a, h, br, st, cs).1) 5 = m := i.2
  unfold jst
  rw [i1, i2, if_neg (by omega), if_pos k1]
  exact if_pos t
theorem jst_go {w : Int → Int} {h br : Int} {st : Int → Int} {cs : CS} (i : InX F a k m) (k1 : k = 10 ∨ k = 11) (t : ¬ (¬ jpv h st = 0 ↔ k = 10)) : jst F w (a, h, br, st, cs) = (a + 1, max 0 (h - 1), br, st, cs) := by
  have i1 : zand (F (a, h, br, st, cs).1) 31 = k := i.1
  have i2 : zshr (F (a, h, br, st, cs).1) 5 = m := i.2
  unfold jst
  rw [i1, i2, if_neg (by omega), if_pos k1]
  exact if_neg t
theorem jst_cl {w : Int → Int} {h br : Int} {st : Int → Int} {cs : CS} (i : InX F a k m) (k1 : 12 ≤ k) : jst F w (a, h, br, st, cs) = (a + 1, 0, 0, st, jcl k h br st cs) := by
  have i1 : zand (F (a, h, br, st, cs).1) 31 = k := i.1
  unfold jst
  rw [i1, if_pos k1]
theorem jpv_s {h : Int} {st : Int → Int} (h0 : 0 ≤ h) : jpv (h + 1) st = st h := by
  unfold jpv
  rw [if_pos (by omega), show h + 1 - 1 = h by omega]
theorem jph_s {h : Int} (h0 : 0 ≤ h) : jph (h + 1) = h := by
  unfold jph
  rw [if_pos (by omega)]; omega
theorem jph_0 {h : Int} (h0 : 0 ≤ h) : 0 ≤ jph h := by
  unfold jph
  split <;> omega
theorem jpu_lt {x h : Int} {st : Int → Int} (l : h < 64) : jpu x h st = (h + 1, up st h x) := if_pos l
theorem jpu_0 {x h : Int} {st : Int → Int} (h0 : 0 ≤ h) : 0 ≤ (jpu x h st).1 := by
  unfold jpu
  split
  · show 0 ≤ h + 1
    omega
  · exact h0
theorem jjn_1 {k x y br : Int} (h : br = 1) : (jjn k x y br).2 = 1 := by
  unfold jjn jbd
  subst h
  rw [if_pos (Or.inl rfl), if_pos (Or.inl rfl), if_pos (Or.inl rfl)]
  repeat' split
  all_goals rfl
theorem jjn_r {k x y br : Int} (h : br = 0 ∨ br = 1) : (jjn k x y br).2 = 0 ∨ (jjn k x y br).2 = 1 := by
  unfold jjn jbd
  repeat' split
  all_goals first | exact h | exact Or.inr rfl
/-- a leaf -/
theorem CoG.num (i : InX F a 0 v) (v0 : 0 ≤ v) (v1 : v ≤ 1000) : CoG F a (a + 1) 1 (fun _ => some v) := by
  refine ⟨by omega, Int.le_refl _, fun w _ u hu => ?_, fun w h br st cs hw h0 hb hm => ?_⟩
  · cases hu
    omega
  have e := jst_rn (w := w) (h := h) (br := br) (st := st) (cs := cs) i (by decide)
  have r : jrn 0 v h br st w = ((jpu v h st).1, br, (jpu v h st).2) := if_pos rfl
  rw [r] at e
  refine ⟨_, _, _, Run.st e, jpu_0 h0, hb, fun q => q, fun q => ⟨fun n => (by cases n), fun u hu => ?_⟩⟩
  cases hu
  have l := hm q
  rw [jpu_lt (by omega)]
  exact ⟨q, rfl, up_same _ _ _, fun j j0 j1 => up_ne (by omega)⟩
theorem CoG.word (i : InX F a 1 k) (k0 : 0 ≤ k) (k1 : k < 8) : CoG F a (a + 1) 1 (fun w => some (w k)) := by
  refine ⟨by omega, Int.le_refl _, fun w hw u hu => ?_, fun w h br st cs hw h0 hb hm => ?_⟩
  · cases hu
    exact hw k k0 k1
  have e := jst_rn (w := w) (h := h) (br := br) (st := st) (cs := cs) i (by decide)
  have r : jrn 1 k h br st w = ((jpu (w k) h st).1, br, (jpu (w k) h st).2) := by
    unfold jrn
    rw [if_neg (by decide), if_pos rfl, if_pos ⟨k0, k1⟩]
  rw [r] at e
  refine ⟨_, _, _, Run.st e, jpu_0 h0, hb, fun q => q, fun q => ⟨fun n => (by cases n), fun u hu => ?_⟩⟩
  cases hu
  have l := hm q
  rw [jpu_lt (by omega)]
  exact ⟨q, rfl, up_same _ _ _, fun j j0 j1 => up_ne (by omega)⟩
/-- two values joined -/
theorem CoG.join (x : CoG F a b m1 f) (y : CoG F b c m2 g) (i : InX F c k e) (k2 : 2 ≤ k) (k8 : k ≤ 8) (o : Int → Int → Option Int) (ho : ∀ p q, -1000000000 ≤ p → p ≤ 1000000000 → (o p q = none → (jjn k p q 0).2 = 1) ∧ ∀ u, o p q = some u → (-1000000000 ≤ u ∧ u ≤ 1000000000) ∧ jjn k p q 0 = (u, 0)) : CoG F a (c + 1) (m1 + m2) (biO o f g) := by
  obtain ⟨x1, x2, x0, x⟩ := x
  obtain ⟨y1, y2, y0, y⟩ := y
  have br1 : ∀ (w : Int → Int) (u : Int), biO o f g w = some u → ∃ p z, f w = some p ∧ g w = some z ∧ o p z = some u := fun w u hu => by
    unfold biO at hu
    split at hu
    · next p z hp hz => exact ⟨p, z, hp, hz, hu⟩
    · cases hu
  refine ⟨by omega, by omega, fun w hw u hu => ?_, fun w h br st cs hw h0 hb hm => ?_⟩
  · obtain ⟨p, z, hp, hz, ho2⟩ := br1 w u hu
    have bp := x0 w hw p hp
    exact ((ho p z bp.1 bp.2).2 u ho2).1
  obtain ⟨h1, b1, s1, r1, a1, a2, a3, a4⟩ := x w h br st cs hw h0 hb (fun q => by have := hm q; omega)
  have nb : b1 = 0 → br = 0 := fun q => by
    rcases hb with hb | hb
    · exact hb
    · have := a3 hb
      omega
  -- how the second is run
  have ok : b1 = 0 → h1 + m2 ≤ 64 := fun q => by
    have z := nb q
    cases hf : f w with
    | none => have := (a4 z).1 hf; omega
    | some v => have u := ((a4 z).2 v hf).2.1; have := hm z; omega
  obtain ⟨h2, b2, s2, r2, c1, c2, c3, c4⟩ := y w h1 b1 s1 cs hw a1 a2 ok
  have es := jst_rn (w := w) (h := h2) (br := b2) (st := s2) (cs := cs) i (by omega)
  have r : jrn k e h2 b2 s2 w = ((jpu (jjn k (jpv (jph h2) s2) (jpv h2 s2) b2).1 (jph (jph h2)) s2).1, (jjn k (jpv (jph h2) s2) (jpv h2 s2) b2).2, (jpu (jjn k (jpv (jph h2) s2) (jpv h2 s2) b2).1 (jph (jph h2)) s2).2) := by
    unfold jrn
    rw [if_neg (by omega), if_neg (by omega), if_neg (by omega)]
  rw [r] at es
  refine ⟨_, _, _, r1.tr (r2.tr (Run.st es)), jpu_0 (jph_0 (jph_0 c1)), jjn_r c2, fun q => jjn_1 (c3 (a3 q)), fun q => ?_⟩
  refine ⟨fun n => ?_, fun u hu => ?_⟩
  · -- broken
    cases hf : f w with
    | none => exact jjn_1 (c3 ((a4 q).1 hf))
    | some p =>
      obtain ⟨d1, d2, d3, d4⟩ := (a4 q).2 p hf
      cases hg : g w with
      | none => exact jjn_1 ((c4 d1).1 hg)
      | some z =>
        obtain ⟨e1, e2, e3, e4⟩ := (c4 d1).2 z hg
        have on : o p z = none := by
          unfold biO at n
          rw [hf, hg] at n
          exact n
        have v2 : jpv h2 s2 = z := by rw [e2, jpv_s a1]; exact e3
        have v1 : jpv (jph h2) s2 = p := by rw [e2, jph_s a1, d2, jpv_s h0, e4 h h0 (by omega)]; exact d3
        rw [v1, v2, e1]
        have bp := x0 w hw p hf
        exact (ho p z bp.1 bp.2).1 on
  · obtain ⟨p, z, hf, hg, hou⟩ := br1 w u hu
    have bp := x0 w hw p hf
    obtain ⟨d1, d2, d3, d4⟩ := (a4 q).2 p hf
    obtain ⟨e1, e2, e3, e4⟩ := (c4 d1).2 z hg
    have v2 : jpv h2 s2 = z := by rw [e2, jpv_s a1]; exact e3
    have v1 : jpv (jph h2) s2 = p := by rw [e2, jph_s a1, d2, jpv_s h0, e4 h h0 (by omega)]; exact d3
    have hh : jph (jph h2) = h := by rw [e2, jph_s a1, d2, jph_s h0]
    have l := hm q
    rw [v1, v2, e1, ((ho p z bp.1 bp.2).2 u hou).2, hh, jpu_lt (by omega)]
    refine ⟨rfl, rfl, up_same _ _ _, fun j j0 j1 => ?_⟩
    show up s2 h u j = st j
    rw [up_ne (by omega), e4 j j0 (by omega), d4 j j0 j1]
/-- one value denied -/
theorem CoG.deny (x : CoG F a b m f) (i : InX F b 9 e) : CoG F a (b + 1) m (ntC 1 f) := by
  obtain ⟨x1, x2, x0, x⟩ := x
  have nt : ∀ (w : Int → Int) (u : Int), ntC 1 f w = some u → ∃ p, f w = some p ∧ u = if p = 0 then 1 else 0 := fun w u hu => by
    cases hf : f w with
    | none =>
      unfold ntC at hu
      rw [hf] at hu
      cases hu
    | some p =>
      unfold ntC at hu
      rw [hf] at hu
      simp only [if_true] at hu
      split at hu
      · next z => cases hu; exact ⟨p, rfl, (if_pos z).symm⟩
      · next z => cases hu; exact ⟨p, rfl, (if_neg z).symm⟩
  refine ⟨by omega, x2, fun w hw u hu => ?_, fun w h br st cs hw h0 hb hm => ?_⟩
  · obtain ⟨p, _, e⟩ := nt w u hu
    split at e <;> omega
  obtain ⟨h1, b1, s1, r1, a1, a2, a3, a4⟩ := x w h br st cs hw h0 hb hm
  have s := jst_rn (w := w) (h := h1) (br := b1) (st := s1) (cs := cs) i (by decide)
  have r : jrn 9 e h1 b1 s1 w = ((jpu (if jpv h1 s1 = 0 then 1 else 0) (jph h1) s1).1, b1, (jpu (if jpv h1 s1 = 0 then 1 else 0) (jph h1) s1).2) := by
    unfold jrn
    rw [if_neg (by decide), if_neg (by decide), if_pos rfl]
  rw [r] at s
  refine ⟨_, _, _, r1.tr (Run.st s), jpu_0 (jph_0 a1), a2, a3, fun q => ⟨fun n => ?_, fun u hu => ?_⟩⟩
  · cases hf : f w with
    | none => exact (a4 q).1 hf
    | some p =>
      unfold ntC at n
      rw [hf] at n
      simp only [if_true] at n
      split at n <;> cases n
  · obtain ⟨p, hf, eu⟩ := nt w u hu
    obtain ⟨d1, d2, d3, d4⟩ := (a4 q).2 p hf
    have v1 : jpv h1 s1 = p := by rw [d2, jpv_s h0]; exact d3
    have hh : jph h1 = h := by rw [d2, jph_s h0]
    have l := hm q
    rw [v1, hh, jpu_lt (by omega)]
    refine ⟨d1, rfl, ?_, fun j j0 j1 => ?_⟩
    · rw [eu]; exact up_same _ _ _
    · show up s1 h _ j = st j
      rw [up_ne (by omega)]; exact d4 j j0 j1
/-- the second is asked if the first does not tell all: k 10 or, 11 and -/
theorem CoG.skip (x : CoG F a b m1 f) (i : InX F b k e) (kk : k = 10 ∨ k = 11) (y : CoG F (b + 1) e m2 g) (c : DV) (hn : ∀ w, f w = none → c w = none) (hs : ∀ w p, f w = some p → ((¬ p = 0 ↔ k = 10) → c w = some p) ∧ (¬ (¬ p = 0 ↔ k = 10) → c w = g w)) : CoG F a e (m1 + m2) c := by
  obtain ⟨x1, x2, x0, x⟩ := x
  obtain ⟨y1, y2, y0, y⟩ := y
  refine ⟨by omega, by omega, fun w hw u hu => ?_, fun w h br st cs hw h0 hb hm => ?_⟩
  · cases hf : f w with
    | none =>
      rw [hn w hf] at hu
      cases hu
    | some p =>
      by_cases t : ¬ p = 0 ↔ k = 10
      · rw [(hs w p hf).1 t] at hu
        exact x0 w hw u (hf.trans hu)
      · rw [(hs w p hf).2 t] at hu
        exact y0 w hw u hu
  obtain ⟨h1, b1, s1, r1, a1, a2, a3, a4⟩ := x w h br st cs hw h0 hb (fun q => by have := hm q; omega)
  have nb : b1 = 0 → br = 0 := fun q => by
    rcases hb with hb | hb
    · exact hb
    · have := a3 hb
      omega
  by_cases t : ¬ jpv h1 s1 = 0 ↔ k = 10
  · have s := jst_sk (w := w) (h := h1) (br := b1) (st := s1) (cs := cs) i kk t
    rw [show max b (e - 1) + 1 = e by omega] at s
    refine ⟨h1, b1, s1, r1.tr (Run.st s), a1, a2, a3, fun q => ⟨fun n => ?_, fun u hu => ?_⟩⟩
    · cases hf : f w with
      | none => exact (a4 q).1 hf
      | some p =>
        obtain ⟨d1, d2, d3, d4⟩ := (a4 q).2 p hf
        have v1 : jpv h1 s1 = p := by rw [d2, jpv_s h0]; exact d3
        rw [v1] at t
        have := (hs w p hf).1 t
        rw [this] at n
        cases n
    · cases hf : f w with
      | none =>
        rw [hn w hf] at hu
        cases hu
      | some p =>
        obtain ⟨d1, d2, d3, d4⟩ := (a4 q).2 p hf
        have v1 : jpv h1 s1 = p := by rw [d2, jpv_s h0]; exact d3
        rw [v1] at t
        rw [(hs w p hf).1 t] at hu
        cases hu
        exact ⟨d1, d2, d3, d4⟩
  · have s := jst_go (w := w) (h := h1) (br := b1) (st := s1) (cs := cs) i kk t
    have ok : b1 = 0 → max 0 (h1 - 1) + m2 ≤ 64 := fun q => by
      have z := nb q
      cases hf : f w with
      | none => have := (a4 z).1 hf; omega
      | some v => have u := ((a4 z).2 v hf).2.1; have := hm z; omega
    obtain ⟨h2, b2, s2, r2, c1, c2, c3, c4⟩ := y w (max 0 (h1 - 1)) b1 s1 cs hw (by omega) a2 ok
    refine ⟨h2, b2, s2, r1.tr ((Run.st s).tr r2), c1, c2, fun q => c3 (a3 q), fun q => ⟨fun n => ?_, fun u hu => ?_⟩⟩
    · cases hf : f w with
      | none => exact c3 ((a4 q).1 hf)
      | some p =>
        obtain ⟨d1, d2, d3, d4⟩ := (a4 q).2 p hf
        have v1 : jpv h1 s1 = p := by rw [d2, jpv_s h0]; exact d3
        rw [v1] at t
        have w2 := (hs w p hf).2 t
        rw [w2] at n
        exact (c4 d1).1 n
    · cases hf : f w with
      | none =>
        rw [hn w hf] at hu
        cases hu
      | some p =>
        obtain ⟨d1, d2, d3, d4⟩ := (a4 q).2 p hf
        have v1 : jpv h1 s1 = p := by rw [d2, jpv_s h0]; exact d3
        rw [v1] at t
        rw [(hs w p hf).2 t] at hu
        obtain ⟨e1, e2, e3, e4⟩ := (c4 d1).2 u hu
        have hh : max 0 (h1 - 1) = h := by omega
        rw [hh] at e2 e3 e4
        exact ⟨e1, e2, e3, fun j j0 j1 => (e4 j j0 j1).trans (d4 j j0 j1)⟩
theorem CoG.or (x : CoG F a b m1 f) (i : InX F b 10 e) (y : CoG F (b + 1) e m2 g) : CoG F a e (m1 + m2) (orC f g) := CoG.skip x i (Or.inl rfl) y _ (fun w h => by unfold orC; rw [h]) (fun w p h => ⟨fun t => by
  have z : ¬ p = 0 := t.mpr rfl
  unfold orC
  rw [h]
  exact if_neg z, fun t => by
  have z : p = 0 := Decidable.byContradiction (fun q => t ⟨fun _ => rfl, fun _ => q⟩)
  unfold orC
  rw [h]
  exact if_pos z⟩)
theorem CoG.and (x : CoG F a b m1 f) (i : InX F b 11 e) (y : CoG F (b + 1) e m2 g) : CoG F a e (m1 + m2) (anC f g) := CoG.skip x i (Or.inr rfl) y _ (fun w h => by unfold anC; rw [h]) (fun w p h => ⟨fun t => by
  have z : p = 0 := Decidable.byContradiction (fun q => absurd (t.mp q) (by decide))
  unfold anC
  rw [h]
  exact if_pos z, fun t => by
  have z : ¬ p = 0 := fun q => t ⟨fun w => absurd q w, fun w => absurd w (by decide)⟩
  unfold anC
  rw [h]
  exact if_neg z⟩)
theorem CoG.ar {t : Int} (x : CoG F a b m1 f) (y : CoG F b c m2 g) (i : InX F c k e) (kc : (k = 2 ∧ t = 143) ∨ (k = 3 ∧ t = 145) ∨ (k = 4 ∧ t = 142) ∨ (k = 5 ∧ t = 147)) : CoG F a (c + 1) (m1 + m2) (arC t f g) := by
  have bn : ∀ v : Int, (bndO v = none → (jbd v 0).2 = 1) ∧ ∀ u, bndO v = some u → (-1000000000 ≤ u ∧ u ≤ 1000000000) ∧ jbd v 0 = (u, 0) := fun v => by
    unfold bndO jbd
    by_cases r : -1000000000 ≤ v ∧ v ≤ 1000000000
    · rw [if_pos r, if_neg (by omega)]
      refine ⟨fun n => (by cases n), fun u hu => ?_⟩
      cases hu
      exact ⟨r, rfl⟩
    · rw [if_neg r, if_pos (by omega)]
      exact ⟨fun _ => rfl, fun u hu => by cases hu⟩
  refine CoG.join x y i (by omega) (by omega) (arO t) (fun p q p0 p1 => ?_)
  rcases kc with ⟨rfl, rfl⟩ | ⟨rfl, rfl⟩ | ⟨rfl, rfl⟩ | ⟨rfl, rfl⟩
  · exact bn (p + q)
  · exact bn (p - q)
  · exact bn (p * q)
  · have eo : arO 147 p q = if q = 0 then none else bndO (Int.tdiv p q) := rfl
    have ej : jjn 5 p q 0 = if q = 0 then (0, 1) else (Int.tdiv p q, 0) := rfl
    rw [eo, ej]
    by_cases z : q = 0
    · rw [if_pos z, if_pos z]
      exact ⟨fun _ => rfl, fun u hu => by cases hu⟩
    · rw [if_neg z, if_neg z]
      have r : -1000000000 ≤ Int.tdiv p q ∧ Int.tdiv p q ≤ 1000000000 := by
        have u : (Int.tdiv p q).natAbs = p.natAbs / q.natAbs := Int.natAbs_tdiv p q
        have w : p.natAbs / q.natAbs ≤ p.natAbs := Nat.div_le_self _ _
        omega
      unfold bndO
      rw [if_pos r]
      refine ⟨fun n => (by cases n), fun u hu => ?_⟩
      cases hu
      exact ⟨r, rfl⟩
theorem CoG.cm {t : Int} (x : CoG F a b m1 f) (y : CoG F b c m2 g) (i : InX F c k e) (kc : (k = 6 ∧ t = 160) ∨ (k = 7 ∧ t = 162) ∨ (k = 8 ∧ t = 161)) : CoG F a (c + 1) (m1 + m2) (cmC t f g) := by
  refine CoG.join x y i (by omega) (by omega) (fun a b => some (cmO t a b)) (fun p q p0 p1 => ⟨fun n => (by cases n), fun u hu => ?_⟩)
  cases hu
  have c1 : ∀ (p : Prop) [Decidable p], -1000000000 ≤ (if p then (1 : Int) else 0) ∧ (if p then (1 : Int) else 0) ≤ 1000000000 := fun p _ => by split <;> omega
  rcases kc with ⟨rfl, rfl⟩ | ⟨rfl, rfl⟩ | ⟨rfl, rfl⟩
  · exact ⟨c1 _, rfl⟩
  · exact ⟨c1 _, rfl⟩
  · exact ⟨c1 _, rfl⟩
theorem jit_cg {w : Int → Int} : ∀ (n : Nat) (s : JZ), (∀ j, s.1 ≤ j → j < (jit F w n s).1 → G j = F j) → jit G w n s = jit F w n s
  | 0, _, _ => rfl
  | n + 1, s, e => by
    have u := jit_up (F := F) (w := w) n (jst F w s)
    have v := jst_up (F := F) (w := w) s
    have es : G s.1 = F s.1 := e s.1 (Int.le_refl _) (by
      show s.1 < (jit F w n (jst F w s)).1
      omega)
    have e1 : jst G w s = jst F w s := by
      unfold jst
      rw [es]
    show jit G w n (jst G w s) = jit F w n (jst F w s)
    rw [e1]
    exact jit_cg n (jst F w s) (fun j a b => e j (by omega) b)
theorem Run.cg {w : Int → Int} {s t : JZ} (h : Run F w s t) (e : ∀ j, s.1 ≤ j → j < t.1 → G j = F j) : Run G w s t := by
  obtain ⟨n, h⟩ := h
  exact ⟨n, (jit_cg n s (by rw [h]; exact e)).trans h⟩
theorem CoG.cg (h : CoG F a b m f) (e : ∀ j, a ≤ j → j < b → G j = F j) : CoG G a b m f := by
  obtain ⟨h1, h2, h0, h⟩ := h
  refine ⟨h1, h2, h0, fun w x br st cs hw x0 hb hm => ?_⟩
  obtain ⟨y, b2, st2, r, k⟩ := h w x br st cs hw x0 hb hm
  exact ⟨y, b2, st2, r.cg e, k⟩
/-- a clause's code -/
def ClG (F : Int → Int) (a b k : Int) (f g : DV) : Prop := a ≤ b ∧ ∀ (w st : Int → Int) (cs : CS), WdO w → ∃ st2, Run F w (a, 0, 0, st, cs) (b, 0, 0, st2, clV k f g w cs)
theorem ClG.takes {d : Int} (x : CoG F a c m1 f) (y : CoG F c d m2 g) (i : InX F d 12 e) (m64 : 1 + m2 ≤ 64) (n64 : m1 ≤ 64) : ClG F a (d + 1) 1 f g := by
  obtain ⟨x1, x2, x0, x⟩ := x
  obtain ⟨y1, y2, y0, y⟩ := y
  refine ⟨by omega, fun w st cs hw => ?_⟩
  obtain ⟨h1, b1, s1, r1, a1, a2, a3, a4⟩ := x w 0 0 st cs hw (Int.le_refl _) (Or.inl rfl) (fun _ => by omega)
  have ok : b1 = 0 → h1 + m2 ≤ 64 := fun q => by
    cases hf : f w with
    | none => have := (a4 rfl).1 hf; omega
    | some v => have u := ((a4 rfl).2 v hf).2.1; omega
  obtain ⟨h2, b2, s2, r2, c1, c2, c3, c4⟩ := y w h1 b1 s1 cs hw a1 a2 ok
  have s := jst_cl (w := w) (h := h2) (br := b2) (st := s2) (cs := cs) i (by decide)
  refine ⟨s2, r1.tr (r2.tr (Run.st (s.trans ?_)))⟩
  have e1 : jcl 12 h2 b2 s2 cs = (cs.1, cs.2.1, cs.2.2.1, iF (jho h2 b2 s2) (clmp (s2 0)) cs.2.2.2) := by
    unfold jcl
    rw [if_neg (by decide), if_neg (by decide)]
  have e2 : clV 1 f g w cs = (cs.1, cs.2.1, cs.2.2.1, iF (hld f g w) (clmp ((f w).getD 0)) cs.2.2.2) := if_pos rfl
  rw [e1, e2]
  have q : iF (jho h2 b2 s2) (clmp (s2 0)) cs.2.2.2 = iF (hld f g w) (clmp ((f w).getD 0)) cs.2.2.2 := by
    cases hf : f w with
    | none =>
      have z := c3 ((a4 rfl).1 hf)
      rw [iF_neg (fun q => by have := q.1; omega), iF_neg (fun q => by
        obtain ⟨p, _, hp, _⟩ := q
        rw [hf] at hp
        cases hp)]
    | some p =>
      obtain ⟨d1, d2, d3, d4⟩ := (a4 rfl).2 p hf
      cases hg : g w with
      | none =>
        have z := (c4 d1).1 hg
        rw [iF_neg (fun q => by have := q.1; omega), iF_neg (fun q => by
          obtain ⟨_, z, _, hz, _⟩ := q
          rw [hg] at hz
          cases hz)]
      | some z =>
        obtain ⟨e1, e2, e3, e4⟩ := (c4 d1).2 z hg
        have v2 : jpv h2 s2 = z := by rw [e2, jpv_s a1]; exact e3
        have v0 : s2 0 = p := by rw [e4 0 (Int.le_refl _) (by omega)]; exact d3
        refine iF_congr ⟨fun q => ⟨p, z, hf, hg, fun w => q.2 (by rw [v2, w])⟩, fun q => ⟨e1, ?_⟩⟩ (fun _ => by rw [v0]; rfl) (fun _ => rfl)
        obtain ⟨p2, z2, hp, hz, nz⟩ := q
        rw [hg] at hz
        cases hz
        rw [v2]; exact nz
  rw [q]
theorem ClG.test (y : CoG F a b m g) (i : InX F b k e) (kk : (k = 13 ∧ c = 2) ∨ (k = 14 ∧ c = 3)) (m64 : m ≤ 64) : ClG F a (b + 1) c (fun _ => some 0) g := by
  obtain ⟨y1, y2, y0, y⟩ := y
  refine ⟨by omega, fun w st cs hw => ?_⟩
  obtain ⟨h2, b2, s2, r2, c1, c2, c3, c4⟩ := y w 0 0 st cs hw (Int.le_refl _) (Or.inl rfl) (fun _ => by omega)
  have s := jst_cl (w := w) (h := h2) (br := b2) (st := s2) (cs := cs) i (by omega)
  refine ⟨s2, r2.tr (Run.st (s.trans ?_))⟩
  have ho : jho h2 b2 s2 ↔ hld (fun _ => some 0) g w := by
    cases hg : g w with
    | none =>
      have z := (c4 rfl).1 hg
      refine ⟨fun q => absurd q.1 (by omega), fun q => ?_⟩
      obtain ⟨_, z, _, hz, _⟩ := q
      rw [hg] at hz
      cases hz
    | some z =>
      obtain ⟨e1, e2, e3, e4⟩ := (c4 rfl).2 z hg
      have v2 : jpv h2 s2 = z := by rw [e2, jpv_s (Int.le_refl _)]; exact e3
      refine ⟨fun q => ⟨0, z, rfl, hg, fun w => q.2 (by rw [v2, w])⟩, fun q => ⟨e1, ?_⟩⟩
      obtain ⟨p2, z2, _, hz, nz⟩ := q
      rw [hg] at hz
      cases hz
      rw [v2]; exact nz
  rcases kk with ⟨rfl, rfl⟩ | ⟨rfl, rfl⟩
  · have e1 : jcl 13 h2 b2 s2 cs = (1, iF (jho h2 b2 s2) 1 cs.2.1, cs.2.2.1, cs.2.2.2) := if_pos rfl
    have e2 : clV 2 (fun _ => some 0) g w cs = (1, iF (hld (fun _ => some 0) g w) 1 cs.2.1, cs.2.2.1, cs.2.2.2) := by
      unfold clV
      rw [if_neg (by decide), if_pos rfl]
    rw [e1, e2, iF_congr ho (fun _ => rfl) (fun _ => rfl)]
  · have e1 : jcl 14 h2 b2 s2 cs = (cs.1, cs.2.1, iF (jho h2 b2 s2) 1 cs.2.2.1, cs.2.2.2) := by
      unfold jcl
      rw [if_neg (by decide), if_pos rfl]
    have e2 : clV 3 (fun _ => some 0) g w cs = (cs.1, cs.2.1, iF (hld (fun _ => some 0) g w) 1 cs.2.2.1, cs.2.2.2) := by
      unfold clV
      rw [if_neg (by decide), if_neg (by decide)]
    rw [e1, e2, iF_congr ho (fun _ => rfl) (fun _ => rfl)]
theorem ClG.cg {k : Int} (h : ClG F a b k f g) (e : ∀ j, a ≤ j → j < b → G j = F j) : ClG G a b k f g := ⟨h.1, fun w st cs hw => by
  obtain ⟨s2, r⟩ := h.2 w st cs hw
  exact ⟨s2, r.cg e⟩⟩
end CoGs
/-! a law's code: up to b it leaves A -/
theorem PrG.one {F : Int → Int} {b k : Int} {f g : DV} (h : ClG F 0 b k f g) : PrG F b (clV k f g) := ⟨h.1, fun w st hw => h.2 w st _ hw⟩
theorem PrG.add {F : Int → Int} {b c k : Int} {f g : DV} {A : VS} (p : PrG F b A) (h : ClG F b c k f g) : PrG F c (fun w s => clV k f g w (A w s)) := ⟨by have := p.1; have := h.1; omega, fun w st hw => by
  obtain ⟨s1, r1⟩ := p.2 w st hw
  obtain ⟨s2, r2⟩ := h.2 w s1 _ hw
  exact ⟨s2, r1.tr r2⟩⟩
theorem PrG.cg {F G : Int → Int} {b : Int} {A : VS} (p : PrG F b A) (e : ∀ j, 0 ≤ j → j < b → G j = F j) : PrG G b A := ⟨p.1, fun w st hw => by
  obtain ⟨s2, r⟩ := p.2 w st hw
  exact ⟨s2, r.cg e⟩⟩
theorem PrG.no {F : Int → Int} : PrG F 0 (fun _ s => s) := ⟨Int.le_refl _, fun _ st _ => ⟨st, Run.rf⟩⟩
/-! instructions as they are emitted -/
theorem in_nat {k m : Nat} (hk : k < 32) (hm : m < 2 ^ 20) : zor k (zshl m 5) = ((m * 32 + k : Nat) : Int) := by
  have h1 : zshl (m : Int) 5 = ((m * 2 ^ 5 : Nat) : Int) := zshl_nat (k := 5) (by decide) (by omega)
  rw [h1, zor_nat (by omega) (by omega), Nat.or_comm, Nat.mul_comm, ← Nat.two_pow_add_eq_or_of_lt (by omega)]
theorem InX.of {F : Int → Int} {a k m : Int} (k0 : 0 ≤ k) (k1 : k < 32) (m0 : 0 ≤ m) (m1 : m < 1000000) (e : F a = zor k (zshl m 5)) : InX F a k m := by
  obtain ⟨p, rfl⟩ := Int.eq_ofNat_of_zero_le k0
  obtain ⟨q, rfl⟩ := Int.eq_ofNat_of_zero_le m0
  rw [in_nat (by omega) (by omega)] at e
  refine ⟨?_, ?_⟩
  · have h : zand (((q * 32 + p : Nat) : Nat) : Int) ((31 : Nat) : Int) = (((q * 32 + p) &&& 31 : Nat) : Int) := zand_nat (by decide)
    have h2 : (q * 32 + p) &&& 31 = (q * 32 + p) % 2 ^ 5 := Nat.and_two_pow_sub_one_eq_mod _ 5
    rw [e]
    refine h.trans ?_
    rw [h2]
    omega
  · have h : zshr (((q * 32 + p : Nat) : Nat) : Int) ((5 : Nat) : Int) = (((q * 32 + p) / 2 ^ 5 : Nat) : Int) := zshr_nat (by decide) (by omega)
    rw [e]
    refine h.trans ?_
    omega
theorem InX.emit {F G : Int → Int} {i k m y v : Int} (k0 : 0 ≤ k) (k1 : k < 32) (m0 : 0 ≤ m) (m1 : m < 1000000) (e1 : zshl m 5 = y) (e2 : zor k y = v) (e : G = up F i v) : InX G i k m := InX.of k0 k1 m0 m1 (by rw [e, up_same, ← e2, ← e1])
/-- an instruction with nothing above its kind is its kind -/
theorem InX.z0 {F : Int → Int} {i k : Int} (h : F i = k) (k0 : 0 ≤ k) (k1 : k < 32) : InX F i k 0 := InX.of k0 k1 (Int.le_refl _) (by decide) (by
  obtain ⟨p, rfl⟩ := Int.eq_ofNat_of_zero_le k0
  have u := in_nat (k := p) (m := 0) (by omega) (by decide)
  rw [h]
  refine Eq.trans ?_ u.symm
  omega)
theorem InX.aim {F G : Int → Int} {i k m y v z : Int} (h : F i = z) (hz : z = k) (k0 : 0 ≤ k) (k1 : k < 32) (m0 : 0 ≤ m) (m1 : m < 1000000) (e1 : zshl m 5 = y) (e2 : zor z y = v) (e : G = up F i v) : InX G i k m := InX.of k0 k1 m0 m1 (by rw [e, up_same, ← e2, ← e1, hz])
