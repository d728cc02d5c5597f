/-! the words as a verdict asks them; the machine asks the eight words alone -/
def wdF (l r a b c p d : Int) : Int → Int := fun j => if j = 0 then l else if j = 1 then r else if j = 2 then a else if j = 3 then b else if j = 4 then r - l else if j = 5 then c else if j = 6 then p else d
def WdT (p d : Int) (w : Int → Int) : Prop := w 6 = p ∧ w 7 = d
def WdL (l r p d : Int) (w : Int → Int) : Prop := w 0 = l ∧ w 1 = r ∧ w 4 = r - l ∧ WdT p d w
def WdA (l r a b c p d : Int) (w : Int → Int) : Prop := WdL l r p d w ∧ w 2 = a ∧ w 3 = b ∧ w 5 = c
section Wds
variable {l r a b c p d n : Int} {w v wf F : Int → Int} {R : VS}
theorem WdT.of (e : jsT p d wf = w) : WdT p d w := by
  subst e
  exact ⟨(up_ne (by decide)).trans (up_same _ _ _), up_same _ _ _⟩
theorem WdL.of (h : WdT p d v) (e : jsP l r v = w) : WdL l r p d w := by
  subst e
  refine ⟨?_, ?_, ?_, ?_, ?_⟩
  · exact (up_ne (by decide)).trans ((up_ne (by decide)).trans (up_same _ _ _))
  · exact (up_ne (by decide)).trans (up_same _ _ _)
  · exact up_same _ _ _
  · exact (up_ne (by decide)).trans ((up_ne (by decide)).trans ((up_ne (by decide)).trans h.1))
  · exact (up_ne (by decide)).trans ((up_ne (by decide)).trans ((up_ne (by decide)).trans h.2))
theorem WdT.keep (h : WdT p d v) (e : jsP l r v = w) : WdT p d w := (WdL.of h e).2.2.2
theorem WdA.of (h : WdL l r p d v) (e : jsC a b c v = w) : WdA l r a b c p d w := by
  subst e
  have k : ∀ j : Int, ¬ j = 2 → ¬ j = 3 → ¬ j = 5 → jsC a b c v j = v j := fun j x y z => (up_ne z).trans ((up_ne y).trans (up_ne x))
  refine ⟨⟨(k 0 (by decide) (by decide) (by decide)).trans h.1, (k 1 (by decide) (by decide) (by decide)).trans h.2.1, (k 4 (by decide) (by decide) (by decide)).trans h.2.2.1, (k 6 (by decide) (by decide) (by decide)).trans h.2.2.2.1, (k 7 (by decide) (by decide) (by decide)).trans h.2.2.2.2⟩, ?_, ?_, ?_⟩
  · exact (up_ne (by decide)).trans ((up_ne (by decide)).trans (up_same _ _ _))
  · exact (up_ne (by decide)).trans (up_same _ _ _)
  · exact up_same _ _ _
theorem WdL.keep (h : WdL l r p d v) (e : jsC a b c v = w) : WdL l r p d w := (WdA.of h e).1
theorem WdA.eq (h : WdA l r a b c p d w) : ∀ j, 0 ≤ j → j < 8 → w j = wdF l r a b c p d j := fun j j0 j1 => by
  obtain ⟨⟨h0, h1, h4, h6, h7⟩, h2, h3, h5⟩ := h
  have q : j = 0 ∨ j = 1 ∨ j = 2 ∨ j = 3 ∨ j = 4 ∨ j = 5 ∨ j = 6 ∨ j = 7 := by omega
  rcases q with q | q | q | q | q | q | q | q <;> subst q
  · exact h0
  · exact h1
  · exact h2
  · exact h3
  · exact h4
  · exact h5
  · exact h6
  · exact h7
theorem jrn_w {k x ht br : Int} {kf : Int → Int} (e : ∀ j, 0 ≤ j → j < 8 → w j = v j) : jrn k x ht br kf w = jrn k x ht br kf v := by
  have q : (if 0 ≤ x ∧ x < 8 then w x else 0) = if 0 ≤ x ∧ x < 8 then v x else 0 := by
    by_cases g : 0 ≤ x ∧ x < 8
    · rw [if_pos g, if_pos g]; exact e x g.1 g.2
    · rw [if_neg g, if_neg g]
  unfold jrn
  rw [q]
theorem jst_w {s : JZ} (e : ∀ j, 0 ≤ j → j < 8 → w j = v j) : jst F w s = jst F v s := by
  unfold jst
  rw [jrn_w (k := zand (F s.1) 31) (x := zshr (F s.1) 5) (ht := s.2.1) (br := s.2.2.1) (kf := s.2.2.2.1) e]
theorem jit_w (e : ∀ j, 0 ≤ j → j < 8 → w j = v j) : ∀ (m : Nat) (s : JZ), jit F w m s = jit F v m s
  | 0, _ => rfl
  | m + 1, s => by
    show jit F w m (jst F w s) = jit F v m (jst F v s)
    rw [jst_w e, jit_w e m]
theorem PrG.same (h : PrG F n R) (o : WdO w) (e : ∀ j, 0 ≤ j → j < 8 → w j = v j) : R w (0, 0, 0, 1) = R v (0, 0, 0, 1) := by
  have o2 : WdO v := fun j a b => by rw [← e j a b]; exact o j a b
  obtain ⟨s1, m1, r1⟩ := h.2 w (fun _ => 0) o
  obtain ⟨s2, m2, r2⟩ := h.2 v (fun _ => 0) o2
  rw [← jit_w e] at r2
  have k : JzV F w n (0, 0, 0, (fun _ => 0), 0, 0, 0, 1) (n, 0, 0, s1, R w (0, 0, 0, 1)) := fun t q l => by
    obtain ⟨m, q⟩ := q
    have u : ∀ m3, (jit F w m1 (0, 0, 0, (fun _ => 0), 0, 0, 0, 1)) = (n, 0, 0, s1, R w (0, 0, 0, 1)) → jit F w m3 (0, 0, 0, (fun _ => 0), 0, 0, 0, 1) = t → m1 ≤ m3 → Run F w (n, 0, 0, s1, R w (0, 0, 0, 1)) t := fun m3 q1 q2 q3 => ⟨m3 - m1, by rw [← q1, ← jit_add, show m1 + (m3 - m1) = m3 by omega]; exact q2⟩
    by_cases g : m1 ≤ m
    · exact u m r1 q g
    · have a1 : jit F w (m1 - m) t = (n, 0, 0, s1, R w (0, 0, 0, 1)) := by rw [← q, ← jit_add, show m + (m1 - m) = m1 by omega]; exact r1
      have a2 := jit_up (F := F) (w := w) (m1 - m) t
      rw [a1] at a2
      exfalso
      have a3 : t.1 + ((m1 - m : Nat) : Int) ≤ n := a2
      omega
  have e2 := k.end (t := (n, 0, 0, s2, R v (0, 0, 0, 1))) ⟨m2, r2⟩ rfl (Int.le_refl _)
  exact congrArg (fun s : JZ => s.2.2.2.2) e2
/-- what a law says of two places and three colours -/
def vD (R : VS) (l r a b c p d : Int) : Int := vdR R (wdF l r a b c p d)
theorem PrG.vd (h : PrG F n R) (o : WdO w) (A : WdA l r a b c p d w) : vdR R w = vD R l r a b c p d := by
  have e := h.same o A.eq
  unfold vD vdR
  rw [e, A.eq 4 (by decide) (by decide)]
end Wds
/-- R is what the law in force tells by the rows gw (none in force: nothing) -/
def LwF (gw : jLG) (fo : Int) (R : VS) : Prop := (fo < 0 ∧ R = fun _ s => s) ∨ (0 ≤ fo ∧ PrG (gw fo.toNat).2 (gw fo.toNat).1 R)
theorem LwF.y {gw : jLG} {fo n : Int} {F : Int → Int} {R : VS} (h : LwF gw fo R) (f0 : 0 ≤ fo) (e : gw fo.toNat = (n, F)) : PrG F n R := by
  rcases h with h | h
  · have := h.1
    omega
  · have k := h.2
    rw [e] at k
    exact k
theorem LwF.n {gw : jLG} {fo : Int} {F : Int → Int} {R : VS} (h : LwF gw fo R) (f0 : fo < 0) : PrG F 0 R := by
  rcases h with h | h
  · rw [h.2]
    exact ⟨Int.le_refl _, fun _ st _ => ⟨st, Run.rf⟩⟩
  · have := h.1
    omega
/-! the table of verdicts -/
/-- of pair k, places l and r: the verdicts of number below m are told -/
def VtB (R : VS) (ff : Int → Int) (l r p d k : Int) (vf : Int → Int) (m : Int) : Prop := ∀ x y z, 0 ≤ x → x < 5 → 0 ≤ y → y < 5 → 0 ≤ z → z < 5 → 25 * x + 5 * y + z < m → 0 < ff x → 0 < ff y → 0 < ff z → ¬ x = y → vf (125 * k + 25 * x + 5 * y + z) = vD R l r x y z p d
def VtK (vf vg : Int → Int) (k : Int) : Prop := ∀ j, j < 125 * k → vg j = vf j
section Vts
variable {l r p d k m m2 a b c i v : Int} {vf vg vh ff : Int → Int} {R : VS}
theorem VtB_0 : VtB R ff l r p d k vf 0 := fun x y z _ _ _ _ _ _ h => by omega
theorem VtB.le (h : VtB R ff l r p d k vf m2) (e : m = m2) : VtB R ff l r p d k vf m := e ▸ h
/-- one more is written -/
theorem VtB.up1 (h : VtB R ff l r p d k vf (25 * a + 5 * b + c)) (a0 : 0 ≤ a) (a5 : a < 5) (b0 : 0 ≤ b) (b5 : b < 5) (c0 : 0 ≤ c) (c5 : c < 5) (e : vg = up vf i v) (ei : i = 125 * k + 25 * a + 5 * b + c) (ev : v = vD R l r a b c p d) : VtB R ff l r p d k vg (25 * a + 5 * b + (c + 1)) := fun x y z x0 x5 y0 y5 z0 z5 q fx fy fz n => by
  rw [e]
  by_cases g : 125 * k + 25 * x + 5 * y + z = i
  · have q1 : x = a := by omega
    have q2 : y = b := by omega
    have q3 : z = c := by omega
    rw [g, up_same, ev, q1, q2, q3]
  · rw [up_ne g]
    exact h x y z x0 x5 y0 y5 z0 z5 (by omega) fx fy fz n
/-- one is not asked -/
theorem VtB.no (h : VtB R ff l r p d k vf (25 * a + 5 * b + c)) (a0 : 0 ≤ a) (a5 : a < 5) (b0 : 0 ≤ b) (b5 : b < 5) (c0 : 0 ≤ c) (c5 : c < 5) (n : ff a ≤ 0 ∨ ff b ≤ 0 ∨ ff c ≤ 0 ∨ a = b) : VtB R ff l r p d k vf (25 * a + 5 * b + (c + 1)) := fun x y z x0 x5 y0 y5 z0 z5 q fx fy fz nn => by
  by_cases g : 25 * x + 5 * y + z = 25 * a + 5 * b + c
  · have q1 : x = a := by omega
    have q2 : y = b := by omega
    have q3 : z = c := by omega
    subst q1 q2 q3
    exfalso
    omega
  · exact h x y z x0 x5 y0 y5 z0 z5 (by omega) fx fy fz nn
theorem VtK_0 : VtK vf vf k := fun _ _ => rfl
theorem VtK.up1 (h : VtK vf vg k) (e : vh = up vg i v) (h1 : 125 * k ≤ i) : VtK vf vh k := fun j q => by
  rw [e, up_ne (by omega)]
  exact h j q
theorem VtK.tr (h : VtK vf vg k) (g : VtK vg vh m) (l : k ≤ m) : VtK vf vh k := fun j q => (g j (by omega)).trans (h j q)
theorem VtB.cg (h : VtB R ff l r p d k vf m) (g : VtK vf vg i) (q : k < i) (m1 : m ≤ 125) : VtB R ff l r p d k vg m := fun x y z x0 x5 y0 y5 z0 z5 w fx fy fz n => by
  rw [g _ (by omega)]
  exact h x y z x0 x5 y0 y5 z0 z5 w fx fy fz n
/-- the pairs of number below m are told -/
def VtA (R : VS) (ff : Int → Int) (p d : Int) (vf : Int → Int) (m : Int) : Prop := ∀ l r, 0 ≤ l → l < r → r < p → prs p l + (r - l - 1) < m → VtB R ff l r p d (prs p l + (r - l - 1)) vf 125
theorem prs_mono {p : Int} (h7 : p ≤ 7) : ∀ (n : Nat) (l : Int), 0 ≤ l → l + n < p → prs p l ≤ prs p (l + n)
  | 0, l, l0, q => by
    rw [show l + ((0 : Nat) : Int) = l by omega]
    exact Int.le_refl _
  | n + 1, l, l0, q => by
    have u := prs_mono h7 n l l0 (by omega)
    have s := prs_step (p := p) (l := l + n) (by omega) (by omega) h7
    rw [show l + ((n + 1 : Nat) : Int) = l + n + 1 by omega, s]
    omega
theorem prs_lt {p l l2 r : Int} (h7 : p ≤ 7) (l0 : 0 ≤ l) (h : l < l2) (r1 : r < p) (q : l2 < p) : prs p l + (r - l - 1) < prs p l2 := by
  have s := prs_step (p := p) (l := l) l0 (by omega) h7
  have u := prs_mono h7 (l2 - (l + 1)).toNat (l + 1) (by omega) (by omega)
  rw [show l + 1 + ((l2 - (l + 1)).toNat : Int) = l2 by omega] at u
  omega
/-- pairs are told apart by their numbers -/
theorem prs_inj {p l r l2 r2 : Int} (h7 : p ≤ 7) (l0 : 0 ≤ l) (h1 : l < r) (h2 : r < p) (g0 : 0 ≤ l2) (g1 : l2 < r2) (g2 : r2 < p) (e : prs p l + (r - l - 1) = prs p l2 + (r2 - l2 - 1)) : l = l2 ∧ r = r2 := by
  by_cases a : l < l2
  · have u := prs_lt h7 l0 a h2 (by omega)
    omega
  · by_cases b : l2 < l
    · have u := prs_lt h7 g0 b g2 (by omega)
      omega
    · have e1 : l = l2 := by omega
      subst e1
      omega
theorem VtA_0 (h7 : p ≤ 7) : VtA R ff p d vf 0 := fun l r l0 lr rp h => by
  have u := prs_le (p := p) (l := l) l0 (by omega) h7
  omega
theorem VtA.step (h : VtA R ff p d vf k) (g : VtK vf vg k) (h7 : p ≤ 7) (l0 : 0 ≤ l) (lr : l < r) (rp : r < p) (e : k = prs p l + (r - l - 1)) (q : VtB R ff l r p d k vg 125) : VtA R ff p d vg (k + 1) := fun x y x0 xy yp w => by
  by_cases c : prs p x + (y - x - 1) = k
  · have u := prs_inj h7 x0 xy yp l0 lr rp (c.trans e)
    rw [u.1, u.2, ← e]
    exact q
  · exact (h x y x0 xy yp (by omega)).cg g (by omega) (Int.le_refl _)
/-- the table is told -/
def VtO (R : VS) (ff : Int → Int) (p d : Int) (vf : Int → Int) : Prop := ∀ l r x y z, 0 ≤ l → l < r → r < p → 0 ≤ x → x < 5 → 0 ≤ y → y < 5 → 0 ≤ z → z < 5 → 0 < ff x → 0 < ff y → 0 < ff z → ¬ x = y → vf (125 * (prs p l + (r - l - 1)) + 25 * x + 5 * y + z) = vD R l r x y z p d
theorem VtA.all (h : VtA R ff p d vf m) (h7 : p ≤ 7) (e : m = prs p p) : VtO R ff p d vf := fun l r x y z l0 lr rp x0 x5 y0 y5 z0 z5 fx fy fz n => by
  have s := prs_step (p := p) (l := p - 1) (by omega) (by omega) h7
  rw [show p - 1 + 1 = p by omega] at s
  have q : prs p l + (r - l - 1) < m := by
    by_cases c : l < p - 1
    · have u := prs_lt h7 l0 c rp (by omega)
      omega
    · omega
  exact h l r l0 lr rp q x y z x0 x5 y0 y5 z0 z5 (by omega) fx fy fz n
theorem VtO.at (h : VtO R ff p d vf) (l0 : 0 ≤ l) (lr : l < r) (rp : r < p) (a0 : 0 ≤ a) (a5 : a < 5) (b0 : 0 ≤ b) (b5 : b < 5) (c0 : 0 ≤ c) (c5 : c < 5) (fa : 0 < ff a) (fb : 0 < ff b) (fc : 0 < ff c) (n : ¬ a = b) (ek : k = prs p l + (r - l - 1)) (ei : i = 125 * k + 25 * a + 5 * b + c) (ev : vf i = v) : v = vD R l r a b c p d := by
  have u := h l r a b c l0 lr rp a0 a5 b0 b5 c0 c5 fa fb fc n
  rw [← ek, ← ei, ev] at u
  exact u
end Vts
/-! the same of every R that the code tells -/
def VtBq (cf : Int → Int) (n : Int) (ff : Int → Int) (l r p d k : Int) (vf : Int → Int) (m : Int) : Prop := ∀ R, PrG cf n R → VtB R ff l r p d k vf m
def VtAq (gw : jLG) (fo : Int) (ff : Int → Int) (p d : Int) (vf : Int → Int) (m : Int) : Prop := ∀ R, LwF gw fo R → VtA R ff p d vf m
def VtOq (gw : jLG) (fo : Int) (ff : Int → Int) (p d : Int) (vf : Int → Int) : Prop := ∀ R, LwF gw fo R → VtO R ff p d vf
section Vtq
variable {l r p d k m m2 a b c i v n n2 fo : Int} {cf cg wx wy vf vg vh ff : Int → Int} {gw : jLG}
theorem VtBq_0 (e : m = 0) : VtBq cf n ff l r p d k vf m := fun _ _ => VtB_0.le e
theorem VtBq.le (h : VtBq cf n ff l r p d k vf m2) (e : m = m2) : VtBq cf n ff l r p d k vf m := e ▸ h
theorem VtBq.up1 (h : VtBq cf n ff l r p d k vf (25 * a + 5 * b + c)) (a0 : 0 ≤ a) (a5 : a < 5) (b0 : 0 ≤ b) (b5 : b < 5) (c0 : 0 ≤ c) (c5 : c < 5) (e : vg = up vf i v) (ei : i = 125 * k + 25 * a + 5 * b + c) (hL : WdL l r p d wx) (hj : jsC a b c wx = wy) (o : Rg wy 8 (-1000000000) 1000000000) (hv : ∀ R, PrG cf n R → vdR R wy = v) (em : m = 25 * a + 5 * b + (c + 1)) : VtBq cf n ff l r p d k vg m := fun R hR => ((h R hR).up1 a0 a5 b0 b5 c0 c5 e ei ((hv R hR).symm.trans (PrG.vd hR o (WdA.of hL hj)))).le em
theorem VtBq.no (h : VtBq cf n ff l r p d k vf (25 * a + 5 * b + c)) (a0 : 0 ≤ a) (a5 : a < 5) (b0 : 0 ≤ b) (b5 : b < 5) (c0 : 0 ≤ c) (c5 : c < 5) (q : ff a ≤ 0 ∨ ff b ≤ 0 ∨ ff c ≤ 0 ∨ a = b) (em : m = 25 * a + 5 * b + (c + 1)) : VtBq cf n ff l r p d k vf m := fun R hR => ((h R hR).no a0 a5 b0 b5 c0 c5 q).le em
theorem VtAq_0 (h7 : p ≤ 7) (e : m = 0) : VtAq gw fo ff p d vf m := fun _ _ => e ▸ VtA_0 h7
theorem VtAq.step (h : VtAq gw fo ff p d vf k) (g : VtK vf vg k) (h7 : p ≤ 7) (l0 : 0 ≤ l) (lr : l < r) (rp : r < p) (e : k = prs p l + (r - l - 1)) (q : VtBq cf n ff l r p d k vg 125) (hp : ∀ R, LwF gw fo R → PrG cf n R) (em : m = k + 1) : VtAq gw fo ff p d vg m := fun R hR => em ▸ (h R hR).step g h7 l0 lr rp e (q R (hp R hR))
theorem VtAq.all (h : VtAq gw fo ff p d vf m) (h7 : p ≤ 7) (e : m = prs p p) : VtOq gw fo ff p d vf := fun R hR => (h R hR).all h7 e
theorem VtAq.le (h : VtAq gw fo ff p d vf m2) (e : m = m2) : VtAq gw fo ff p d vf m := e ▸ h
theorem nle_of (e : ff a = v) (h : v ≤ 0) : ff a ≤ 0 := e ▸ h
/-- one more law stands: the one in force is as it was -/
theorem LwF.more {gw2 : jLG} {R : VS} (h : LwF gw2 fo R) (e : 0 ≤ fo → gw2 fo.toNat = gw fo.toNat) : LwF gw fo R := by
  rcases h with h | h
  · exact Or.inl h
  · exact Or.inr ⟨h.1, by rw [← e h.1]; exact h.2⟩
theorem VtOq.more {gw2 : jLG} (h : VtOq gw fo ff p d vf) (e : 0 ≤ fo → gw2 fo.toNat = gw fo.toNat) : VtOq gw2 fo ff p d vf := fun R hR => h R (hR.more e)
end Vtq
