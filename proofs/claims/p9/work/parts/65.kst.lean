/-! rows for the reference: steps, ways -/
def StM (st tk sm : Int → Int) (hm : Int) : Prop := ∀ h, 0 ≤ h → h < hm → 0 ≤ sm h ∧ sm h ≤ 22 ∧ ∀ k, 0 ≤ k → k < sm h → (0 ≤ st (22 * h + k) ∧ st (22 * h + k) < hm) ∧ 1 ≤ tk (22 * h + k) ∧ tk (22 * h + k) ≤ 99
theorem StM.deg {st tk sm : Int → Int} {hm h z : Int} (q : StM st tk sm hm) (h0 : 0 ≤ h) (h1 : h < hm) (e : sm h = z) : 0 ≤ z ∧ z ≤ 22 := e ▸ ⟨(q h h0 h1).1, (q h h0 h1).2.1⟩
theorem StM.to {st tk sm : Int → Int} {hm h k z w i : Int} (q : StM st tk sm hm) (h0 : 0 ≤ h) (h1 : h < hm) (em : sm h = w) (k0 : 0 ≤ k) (k1 : k < w) (ei : i = 22 * h + k) (e : st i = z) : 0 ≤ z ∧ z < hm := by
  subst ei e em
  exact ((q h h0 h1).2.2 k k0 k1).1
theorem StM.takes {st tk sm : Int → Int} {hm h k z w i : Int} (q : StM st tk sm hm) (h0 : 0 ≤ h) (h1 : h < hm) (em : sm h = w) (k0 : 0 ≤ k) (k1 : k < w) (ei : i = 22 * h + k) (e : tk i = z) : 1 ≤ z ∧ z ≤ 99 := by
  subst ei e em
  exact ((q h h0 h1).2.2 k k0 k1).2
/-- the best so far is one that is not done -/
def Bst (dn : Int → Int) (b : Int) : Prop := b = -1 ∨ dn b = 0
theorem Bst.at {dn : Int → Int} {b z : Int} (q : Bst dn b) (h : ¬ b = -1) (e : dn b = z) : z = 0 := by
  rcases q with r | r
  · exact absurd r h
  · rw [← e, r]
/-- how far it is to go: each that is known, the goal aside, has a step that brings it nearer -/
def TGo (tg st sm : Int → Int) (hm to : Int) : Prop := ∀ h, 0 ≤ h → h < hm → tg h = 1000000 ∨ (tg h = 0 ∧ h = to) ∨ (0 < tg h ∧ tg h ≤ 1260 ∧ ∃ i, 0 ≤ i ∧ i < sm h ∧ tg (st (22 * h + i)) = tg h - 1)
def TG0 (tg : Int → Int) (n to : Int) : Prop := ∀ h, 0 ≤ h → h < n → (h = to → tg h = 0) ∧ (¬ h = to → tg h = 1000000)
theorem TG0_0 {tg : Int → Int} {to : Int} : TG0 tg 0 to := fun h a b => by omega
theorem TG0.yes {tg tg2 : Int → Int} {n to v : Int} (q : TG0 tg n to) (e : tg2 = up tg n v) (h : n = to) (hv : v = 0) : TG0 tg2 (n + 1) to := fun j a b => by
  subst e
  by_cases r : j = n
  · rw [r, up_same]; exact ⟨fun _ => hv, fun w => absurd h w⟩
  · rw [up_ne r]; exact q j a (by omega)
theorem TG0.no {tg tg2 : Int → Int} {n to v : Int} (q : TG0 tg n to) (e : tg2 = up tg n v) (h : ¬ n = to) (hv : v = 1000000) : TG0 tg2 (n + 1) to := fun j a b => by
  subst e
  by_cases r : j = n
  · rw [r, up_same]; exact ⟨fun w => absurd w h, fun _ => hv⟩
  · rw [up_ne r]; exact q j a (by omega)
theorem TG0.go {tg st sm : Int → Int} {n hm to : Int} (q : TG0 tg n to) (h : hm ≤ n) : TGo tg st sm hm to := fun j a b => by
  have w := q j a (by omega)
  by_cases r : j = to
  · exact .inr (.inl ⟨w.1 r, r⟩)
  · exact .inl (w.2 r)
theorem TG0.cnt {tg : Int → Int} {n hm to : Int} (q : TG0 tg n to) (h : hm ≤ n) (h0 : 0 ≤ to) (h1 : to < hm) : 1 ≤ cNe tg 1000000 hm := by
  obtain ⟨k, rfl⟩ := Int.eq_ofNat_of_zero_le h0
  have := cNeN_up (F := fun _ => 1000000) (v := 1000000) (x := 0) (by decide) hm.toNat k (by omega)
  rw [if_pos rfl] at this
  have e := cNeN_congr (F := tg) (G := up (fun _ => 1000000) (k : Int) 0) (v := 1000000) hm.toNat (fun j a b => by
    have w := q j a (by omega)
    by_cases r : j = k
    · rw [w.1 r, r, up_same]
    · exact ⟨fun _ => by rw [up_ne r], fun _ => w.2 r⟩)
  unfold cNe
  omega
theorem TGo.add {tg tg2 st tk sm : Int → Int} {hm to h i n z w y u x : Int} (q : TGo tg st sm hm to) (hn : n ≤ 1259) (n0 : 0 ≤ n) (eh : tg h = z) (hz : z = 1000000) (i0 : 0 ≤ i) (em : sm h = w) (i1 : i < w) (ex : x = 22 * h + i) (es : st x = y) (et : tg y = u) (hu : u = n) (v : Int) (e : tg2 = up tg h v) (hv : v = n + 1) : TGo tg2 st sm hm to := by
  subst e ex em hv hu hz
  intro j a b
  by_cases r : j = h
  · subst r
    rw [up_same]
    refine .inr (.inr ⟨by omega, by omega, i, i0, i1, ?_⟩)
    rw [es, up_ne (fun w => by rw [w, eh] at et; omega), et]
    omega
  · rw [up_ne r]
    rcases q j a b with k | k | ⟨k1, k2, m, m0, m1, m2⟩
    · exact .inl k
    · exact .inr (.inl k)
    · refine .inr (.inr ⟨k1, k2, m, m0, m1, ?_⟩)
      rw [up_ne (fun w => by rw [w, eh] at m2; omega), m2]
theorem TGo.rg {tg st sm : Int → Int} {hm to : Int} (q : TGo tg st sm hm to) : Rg tg hm 0 1000000 := fun j a b => by
  rcases q j a b with k | k | ⟨k1, k2, _⟩ <;> omega
theorem TGo.zero {tg st sm : Int → Int} {hm to h z : Int} (q : TGo tg st sm hm to) (h0 : 0 ≤ h) (h1 : h < hm) (e : tg h = z) : z = 1000000 ∨ z ≤ 1260 := by
  rcases q h h0 h1 with k | k | ⟨k1, k2, _⟩ <;> omega
/-- the next on a way -/
def Nxt (tg st : Int → Int) (at' nx s d : Int) : Prop := (¬ nx = -1 → tg nx = d) ∧ ∀ k, 0 ≤ k → k < s → tg (st (22 * at' + k)) = d → ¬ nx = -1
theorem Nxt_0 {tg st : Int → Int} {a d : Int} : Nxt tg st a (-1) 0 d := ⟨fun h => absurd rfl h, fun k a b => by omega⟩
theorem Nxt.take {tg st : Int → Int} {a nx s d y x z : Int} (q : Nxt tg st a nx s d) (ex : x = 22 * a + s) (es : st x = y) (et : tg y = z) (hz : z = d) (hy : ¬ y = -1) : Nxt tg st a y (s + 1) d :=
  ⟨fun _ => by rw [et, hz], fun _ _ _ _ => hy⟩
theorem Nxt.keep {tg st : Int → Int} {a nx s d : Int} (q : Nxt tg st a nx s d) (h : ¬ nx = -1) : Nxt tg st a nx (s + 1) d := ⟨q.1, fun _ _ _ _ => h⟩
theorem Nxt.skip {tg st : Int → Int} {a nx s d y x z : Int} (q : Nxt tg st a nx s d) (ex : x = 22 * a + s) (es : st x = y) (et : tg y = z) (hz : ¬ z = d) : Nxt tg st a nx (s + 1) d :=
  ⟨q.1, fun k a b c => by
    by_cases r : k = s
    · subst r ex; rw [es, et] at c; exact absurd c hz
    · exact q.2 k a (by omega) c⟩
theorem Nxt.end {tg st sm : Int → Int} {hm to a nx s d w z : Int} (q : Nxt tg st a nx s d) (t : TGo tg st sm hm to) (h0 : 0 ≤ a) (h1 : a < hm) (em : sm a = w) (hs : w ≤ s) (ea : tg a = z) (hz0 : 0 < z) (hz : z ≤ 1260) (hd : d = z - 1) : ¬ nx = -1 ∧ tg nx = d := by
  subst em
  have : ¬ nx = -1 := by
    rcases t a h0 h1 with k | k | ⟨_, _, m, m0, m1, m2⟩
    · omega
    · omega
    · exact q.2 m m0 (by omega) (by rw [m2, ea, hd])
  exact ⟨this, q.1 this⟩
/-- what stepBetween finds -/
def StB (st sm : Int → Int) (x y r : Int) : Prop := (0 ≤ r → st (22 * x + r) = y) ∧ (r = -1 → ∀ i, 0 ≤ i → i < sm x → ¬ st (22 * x + i) = y)
def StBn (st : Int → Int) (x y n : Int) : Prop := ∀ i, 0 ≤ i → i < n → ¬ st (22 * x + i) = y
theorem StBn_0 {st : Int → Int} {x y : Int} : StBn st x y 0 := fun i a b => by omega
theorem StBn.step {st : Int → Int} {x y n z w : Int} (q : StBn st x y n) (ew : w = 22 * x + n) (e : st w = z) (h : ¬ z = y) : StBn st x y (n + 1) := fun i a b => by
  by_cases r : i = n
  · subst r ew; rw [e]; exact h
  · exact q i a (by omega)
theorem StB.no {st sm : Int → Int} {x y n w : Int} (q : StBn st x y n) (e : sm x = w) (h : w ≤ n) : StB st sm x y (-1) := ⟨fun a => absurd a (by decide), fun _ i a b => q i a (by omega)⟩
theorem StB.yes {st sm : Int → Int} {x y n w z : Int} (h0 : 0 ≤ n) (ew : w = 22 * x + n) (e : st w = z) (h : z = y) : StB st sm x y n := ⟨fun _ => by rw [← ew, e, h], fun a => by omega⟩
theorem StB.pos {st sm : Int → Int} {x y r i w s : Int} (q : StB st sm x y r) (hr : -1 ≤ r) (i0 : 0 ≤ i) (es : sm x = s) (i1 : i < s) (ew : w = 22 * x + i) (e : st w = y) : 0 ≤ r := by
  subst ew es
  by_cases h : r = -1
  · exact absurd e (q.2 h i i0 i1)
  · omega
/-- whence one comes: each has a step hither -/
def CoM (cf cm st sm : Int → Int) (hm : Int) : Prop := ∀ h, 0 ≤ h → h < hm → 0 ≤ cm h ∧ cm h ≤ 22 ∧ ∀ k, 0 ≤ k → k < cm h → (0 ≤ cf (22 * h + k) ∧ cf (22 * h + k) < hm) ∧ ∃ i, 0 ≤ i ∧ i < sm (cf (22 * h + k)) ∧ st (22 * cf (22 * h + k) + i) = h
theorem cod5_lim {B : Int → Int} {p z : Int} (h : Rg B 7 0 4) (hp : p ≤ 7) (e : cod5 B p.toNat = z) : 0 ≤ z ∧ z < 78125 := e ▸ cod5_rng p.toNat (by omega) (fun j a b => h j a (by omega))
