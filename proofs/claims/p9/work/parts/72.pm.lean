/-! rows for the reference: parted (a search's tree, what is used), rounds (sets as bits) -/
def posN (li : Int → Int) (h : Int) : Nat → Nat
  | 0 => 0
  | n + 1 => if posN li h n < n then posN li h n else if li (n : Int) = h then n else n + 1
theorem posN_at {li : Int → Int} {h : Int} : ∀ n : Nat, posN li h n < n → li (posN li h n : Int) = h
  | 0, q => absurd q (Nat.not_lt_zero _)
  | n + 1, q => by
    unfold posN at q ⊢
    by_cases r : posN li h n < n
    · rw [if_pos r]; exact posN_at n r
    · rw [if_neg r] at q ⊢
      by_cases w : li (n : Int) = h
      · rw [if_pos w]; exact w
      · rw [if_neg w] at q; omega
theorem posN_min {li : Int → Int} {h : Int} : ∀ (n j : Nat), j < n → li (j : Int) = h → posN li h n ≤ j
  | 0, _, q, _ => absurd q (Nat.not_lt_zero _)
  | n + 1, j, q, e => by
    unfold posN
    by_cases r : j < n
    · have := posN_min n j r e
      rw [if_pos (by omega)]; exact this
    · have ej : j = n := by omega
      subst ej
      by_cases w : posN li h j < j
      · rw [if_pos w]; omega
      · rw [if_neg w, if_pos e]; omega
def posL (li : Int → Int) (n h : Int) : Int := (posN li h n.toNat : Int)
theorem posL_0 {li : Int → Int} {n h : Int} : 0 ≤ posL li n h := by unfold posL; omega
theorem posL_at {li : Int → Int} {n h : Int} (q : posL li n h < n) : li (posL li n h) = h := posN_at _ (by unfold posL at q; omega)
theorem posL_min {li : Int → Int} {n h j : Int} (j0 : 0 ≤ j) (j1 : j < n) (e : li j = h) : posL li n h ≤ j := by
  obtain ⟨k, rfl⟩ := Int.eq_ofNat_of_zero_le j0
  have := posN_min n.toNat k (by omega) e
  unfold posL; omega
/-- the first step that leads there -/
def StF (st : Int → Int) (x y r : Int) : Prop := 0 ≤ r → st (22 * x + r) = y ∧ ∀ i, 0 ≤ i → i < r → ¬ st (22 * x + i) = y
theorem StF.one {st : Int → Int} {x y r s : Int} (a : StF st x y r) (b : StF st x y s) (r0 : 0 ≤ r) (s0 : 0 ≤ s) : r = s := by
  have ha := a r0
  have hb := b s0
  by_cases c : r < s
  · exact absurd ha.1 (hb.2 r r0 c)
  · by_cases d : s < r
    · exact absurd hb.1 (ha.2 s s0 d)
    · omega
theorem StF.no {st : Int → Int} {x y : Int} : StF st x y (-1) := fun h => absurd h (by decide)
theorem StF.yes {st : Int → Int} {x y n w z : Int} (q : StBn st x y n) (ew : w = 22 * x + n) (e : st w = z) (h : z = y) : StF st x y n := fun _ => ⟨by rw [← ew, e, h], q⟩
/-- no step back to the beginning is used -/
def Nin (st sm us : Int → Int) (x hm : Int) : Prop := ∀ y i, 0 ≤ y → y < hm → 0 ≤ i → i < sm y → st (22 * y + i) = x → us (22 * y + i) = 0
def Edg (st sm us cb : Int → Int) (x p h : Int) : Prop := (cb h = 1 ∧ (∃ i, 0 ≤ i ∧ i < sm p ∧ st (22 * p + i) = h) ∧ (p = x → ∀ r, StF st p h r → 0 ≤ r → us (22 * p + r) = 0)) ∨ (¬ cb h = 1 ∧ ¬ p = x ∧ ∃ i, 0 ≤ i ∧ i < sm h ∧ st (22 * h + i) = p)
def Tr (st sm us cfm cb li : Int → Int) (x hm n : Int) : Prop := li 0 = x ∧ cfm x = x ∧ (∀ j, 1 ≤ j → j < n → ¬ li j = x ∧ ∃ i, 0 ≤ i ∧ i < j ∧ cfm (li j) = li i ∧ Edg st sm us cb x (li i) (li j)) ∧ ∀ h, 0 ≤ h → h < hm → ¬ cfm h = -1 → ∃ j, 0 ≤ j ∧ j < n ∧ li j = h
theorem Tr_1 {st sm us c0 c1 c2 cb li l2 : Int → Int} {x hm : Int} (e1 : c1 = fillf c0 0 hm (-1)) (e2 : c2 = up c1 x x) (e3 : l2 = up li 0 x) : Tr st sm us c2 cb l2 x hm 1 := by
  subst e2 e3
  refine ⟨up_same _ _ _, up_same _ _ _, fun j a b => by omega, fun h a b c => ⟨0, by decide, by decide, ?_⟩⟩
  rw [up_same]
  by_cases r : h = x
  · exact r.symm
  · rw [up_ne r] at c
    exact absurd (fill_at e1 a b) c
theorem Tr.visit {st sm us cfm cfm2 cb cb2 li li2 : Int → Int} {x hm n o h k v z n2 : Int} (q : Tr st sm us cfm cb li x hm n) (x0 : 0 ≤ x) (rl : Rg li n 0 (hm - 1)) (k0 : 0 ≤ k) (k1 : k < n) (ek : li k = h) (ez : cfm o = z) (hz : z = -1) (ed : Edg st sm us cb2 x h o) (e1 : cfm2 = up cfm o h) (e2 : cb2 = up cb o v) (e3 : li2 = up li n o) (en : n2 = n + 1) : Tr st sm us cfm2 cb2 li2 x hm n2 := by
  obtain ⟨q1, q2, q3, q4⟩ := q
  subst hz en
  have ox : ¬ o = x := fun w => by rw [w, q2] at ez; omega
  have old : ∀ j, 0 ≤ j → j < n → ¬ li j = o := fun j a b w => by
    by_cases r : j = 0
    · rw [r, q1] at w; exact ox w.symm
    · obtain ⟨_, i, i0, i1, i2, _⟩ := q3 j (by omega) b
      rw [w, ez] at i2
      have := rl i i0 (by omega)
      omega
  have edo : ∀ p g, ¬ g = o → Edg st sm us cb x p g → Edg st sm us cb2 x p g := fun p g w u => by
    unfold Edg at u ⊢
    rw [e2, up_ne w]
    exact u
  subst e1 e3
  refine ⟨by rw [up_ne (by omega)]; exact q1, by rw [up_ne (fun w => ox w.symm)]; exact q2, fun j a b => ?_, fun g a b c => ?_⟩
  · by_cases r : j = n
    · subst r
      rw [up_same]
      refine ⟨ox, k, k0, k1, ?_, ?_⟩
      · rw [up_same, up_ne (by omega), ek]
      · rw [up_ne (by omega), ek]; exact ed
    · obtain ⟨w, i, i0, i1, i2, i3⟩ := q3 j a (by omega)
      rw [up_ne r]
      refine ⟨w, i, i0, i1, ?_, ?_⟩
      · rw [up_ne (old j (by omega) (by omega)), up_ne (by omega)]; exact i2
      · rw [up_ne (by omega)]; exact edo _ _ (old j (by omega) (by omega)) i3
  · by_cases r : g = o
    · exact ⟨n, by omega, by omega, by rw [up_same, r]⟩
    · rw [up_ne r] at c
      obtain ⟨j, j0, j1, j2⟩ := q4 g a b c
      exact ⟨j, j0, by omega, by rw [up_ne (by omega)]; exact j2⟩
theorem Edg.fwd {st sm us cb cb2 : Int → Int} {x h o r v w s i ix : Int} (e2 : cb2 = up cb o v) (hv : v = 1) (es : sm h = s) (i0 : 0 ≤ i) (i1 : i < s) (ei : ix = 22 * h + i) (eo : st ix = o) (hf : StF st h o r) (r0 : 0 ≤ r) (eu : us (22 * h + r) = w) (hw : w = 0) : Edg st sm us cb2 x h o := by
  subst e2 hv es ei hw
  refine .inl ⟨up_same _ _ _, ⟨i, i0, i1, eo⟩, fun _ r' f' r0' => ?_⟩
  rw [StF.one f' hf r0' r0]
  exact eu
theorem Edg.bwd {st sm us cb cb2 : Int → Int} {x hm h o r v w s : Int} (e2 : cb2 = up cb o v) (hv : v = 0) (o0 : 0 ≤ o) (o1 : o < hm) (hn : Nin st sm us x hm) (es : sm o = s) (hf : StF st o h r) (r0 : 0 ≤ r) (r1 : r < s) (eu : us (22 * o + r) = w) (hw : ¬ w = 0) : Edg st sm us cb2 x h o := by
  subst e2 hv es
  have f := (hf r0).1
  refine .inr ⟨by rw [up_same]; decide, fun w' => ?_, r, r0, r1, f⟩
  rw [w'] at f
  exact hw (eu ▸ hn o r o0 o1 r0 r1 f)
theorem Tr.first {st sm us cfm cb li : Int → Int} {x hm n y z : Int} (q : Tr st sm us cfm cb li x hm n) (y0 : 0 ≤ y) (y1 : y < hm) (e : cfm y = z) (hz : ¬ z = -1) : posL li n y < n := by
  obtain ⟨j, j0, j1, j2⟩ := q.2.2.2 y y0 y1 (by rw [e]; exact hz)
  have := posL_min j0 j1 j2
  omega
theorem Tr.walk {st sm us cfm cb li : Int → Int} {x hm n h p : Int} (q : Tr st sm us cfm cb li x hm n) (rl : Rg li n 0 (hm - 1)) (hp : posL li n h < n) (hx : ¬ h = x) (e : cfm h = p) : 0 ≤ p ∧ p < hm ∧ posL li n p < posL li n h ∧ Edg st sm us cb x p h := by
  have e1 := posL_at hp
  have p0 := @posL_0 li n h
  have j1 : 1 ≤ posL li n h := by
    by_cases r : posL li n h = 0
    · rw [r, q.1] at e1; exact absurd e1.symm hx
    · omega
  obtain ⟨_, i, i0, i1, i2, i3⟩ := q.2.2.1 _ j1 hp
  rw [e1, e] at i2
  rw [e1] at i3
  have ri := rl i i0 (by omega)
  have := posL_min (li := li) (n := n) (h := li i) i0 (by omega) rfl
  rw [← i2] at this i3 ri
  exact ⟨by omega, by omega, by omega, i3⟩
def cU (us : Int → Int) (x : Int) : Int := cNe (fun j => us (22 * x + j)) 0 22
theorem cU_rng {us : Int → Int} {x : Int} : 0 ≤ cU us x ∧ cU us x ≤ 22 := cNe_rng (by decide)
def WB (us us0 : Int → Int) (x a : Int) : Prop := (a = x ∧ cU us x = cU us0 x + 1) ∨ (¬ a = x ∧ ∀ j, 0 ≤ j → j < 22 → us (22 * x + j) = us0 (22 * x + j))
theorem WB_0 {us : Int → Int} {x y : Int} (h : ¬ x = y) : WB us us x y := .inr ⟨fun w => h w.symm, fun _ _ _ => rfl⟩
theorem WB.end {us us0 : Int → Int} {x a : Int} (q : WB us us0 x a) (h : a = x) : cU us x = cU us0 x + 1 := by
  rcases q with w | w
  · exact w.2
  · exact absurd h w.1
theorem WB.blk {us us0 : Int → Int} {x a : Int} (q : WB us us0 x a) (h : ¬ a = x) : ∀ j, 0 ≤ j → j < 22 → us (22 * x + j) = us0 (22 * x + j) := by
  rcases q with w | w
  · exact absurd w.1 h
  · exact w.2
theorem Edg.pos1 {st sm us cb : Int → Int} {x p h r z : Int} (q : Edg st sm us cb x p h) (ez : cb h = z) (hz : z = 1) (hb : StB st sm p h r) (hr : -1 ≤ r) : 0 ≤ r := by
  rcases q with ⟨_, ⟨i, i0, i1, i2⟩, _⟩ | w
  · exact StB.pos hb hr i0 rfl i1 rfl i2
  · exact absurd (by rw [ez, hz]) w.1
theorem Edg.pos2 {st sm us cb : Int → Int} {x p h r z : Int} (q : Edg st sm us cb x p h) (ez : cb h = z) (hz : ¬ z = 1) (hb : StB st sm h p r) (hr : -1 ≤ r) : 0 ≤ r ∧ ¬ p = x := by
  rcases q with w | ⟨_, w, i, i0, i1, i2⟩
  · exact absurd (ez.symm.trans w.1) hz
  · exact ⟨StB.pos hb hr i0 rfl i1 rfl i2, w⟩
theorem WB.fwd {st sm us us2 us0 cb : Int → Int} {x a p r z i v : Int} (q : WB us us0 x a) (ha : ¬ a = x) (ed : Edg st sm us0 cb x p a) (ez : cb a = z) (hz : z = 1) (hf : StF st p a r) (r0 : 0 ≤ r) (r1 : r ≤ 21) (ei : i = 22 * p + r) (e : us2 = up us i v) (hv : v = 1) : WB us2 us0 x p := by
  have b := q.blk ha
  subst e ei hv
  rcases ed with ⟨_, _, w⟩ | w
  · by_cases r' : p = x
    · refine .inl ⟨r', ?_⟩
      have u := w r' r hf r0
      subst r'
      have e1 : (fun j => up us (22 * p + r) 1 (22 * p + j)) = up (fun j => us (22 * p + j)) r 1 := by
        funext j
        unfold up
        by_cases s : j = r
        · rw [if_pos s, if_pos (by omega)]
        · rw [if_neg s, if_neg (by omega)]
      have e2 : cU us p = cU us0 p := by
        unfold cU cNe
        rw [cNeN_congr (F := fun j => us (22 * p + j)) (G := fun j => us0 (22 * p + j)) _ (fun j a b' => by rw [b j a (by omega)])]
      rw [← e2]
      exact cNe_new (F := fun j => us (22 * p + j)) e1 (by decide) r0 (by omega) (b r r0 (by omega)) u
    · refine .inr ⟨r', fun j j0 j1 => ?_⟩
      rw [up_ne (by omega)]
      exact b j j0 j1
  · exact absurd (ez.trans hz) w.1
theorem WB.bwd {us us2 us0 : Int → Int} {x a p r i v : Int} (q : WB us us0 x a) (ha : ¬ a = x) (hp : ¬ p = x) (r0 : 0 ≤ r) (r1 : r ≤ 21) (ei : i = 22 * a + r) (e : us2 = up us i v) : WB us2 us0 x p := by
  have b := q.blk ha
  subst e ei
  refine .inr ⟨hp, fun j j0 j1 => ?_⟩
  rw [up_ne (by omega)]
  exact b j j0 j1
theorem Nin_0 {st sm us u0 : Int → Int} {x hm : Int} (e : us = fillf u0 0 27720 0) (h1 : hm ≤ 1260) (q : ∀ h, 0 ≤ h → h < hm → sm h ≤ 22) : Nin st sm us x hm := fun y i a b c d _ => fill_at e (by omega) (by have := q y a b; omega)
theorem Nin.set {st sm us us2 : Int → Int} {x hm p a r i v : Int} (q : Nin st sm us x hm) (ha : ¬ a = x) (hf : StF st p a r) (r0 : 0 ≤ r) (ei : i = 22 * p + r) (e : us2 = up us i v) : Nin st sm us2 x hm := fun y k a' b c d f => by
  subst e ei
  have w : ¬ 22 * y + k = 22 * p + r := fun w => by
    rw [w, (hf r0).1] at f
    exact ha f
  rw [up_ne w]
  exact q y k a' b c d f
theorem Nin.clear {st sm us us2 : Int → Int} {x hm i v : Int} (q : Nin st sm us x hm) (e : us2 = up us i v) (hv : v = 0) : Nin st sm us2 x hm := fun y k a' b c d f => by
  subst e hv
  by_cases w : 22 * y + k = i
  · rw [w, up_same]
  · rw [up_ne w]
    exact q y k a' b c d f
