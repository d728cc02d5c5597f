/-! rows for Streets -/
def fillf (F : Int → Int) (a b v : Int) : Int → Int := fun j => if a ≤ j ∧ j < b then v else F j
theorem fill_0 {F : Int → Int} {a v : Int} : F = fillf F a a v := by
  funext j
  unfold fillf
  rw [if_neg (by omega)]
theorem fill_step {F G H : Int → Int} {a i v i2 : Int} (h : G = fillf F a i v) (e : H = up G i v) (h0 : a ≤ i) (h2 : i2 = i + 1) : H = fillf F a i2 v := by
  subst h e h2
  funext j
  unfold up fillf
  by_cases q : j = i
  · rw [if_pos q, if_pos (by omega)]
  · rw [if_neg q]
    by_cases r : a ≤ j ∧ j < i
    · rw [if_pos r, if_pos (by omega)]
    · rw [if_neg r, if_neg (by omega)]
theorem fill_Rg {F G : Int → Int} {b v n lo hi : Int} (e : G = fillf F 0 b v) (hn : n ≤ b) (h1 : lo ≤ v) (h2 : v ≤ hi) : Rg G n lo hi := by
  subst e
  intro j a c
  unfold fillf
  rw [if_pos (by omega)]
  exact ⟨h1, h2⟩
theorem fill_Rg2 {F G : Int → Int} {a b v n lo hi : Int} (h : Rg F n lo hi) (e : G = fillf F a b v) (h1 : lo ≤ v) (h2 : v ≤ hi) : Rg G n lo hi := by
  subst e
  intro j c d
  unfold fillf
  split
  · exact ⟨h1, h2⟩
  · exact h j c d
theorem fill_at {F G : Int → Int} {a b v j : Int} (e : G = fillf F a b v) (h0 : a ≤ j) (h1 : j < b) : G j = v := by
  subst e
  unfold fillf
  rw [if_pos (by omega)]
def prs (p l : Int) : Int := (l * (2 * p - l - 1)) / 2
theorem prs_0 (p : Int) : prs p 0 = 0 := by simp [prs]
theorem upto7 {a : Int} (h : 0 ≤ a) (h7 : a ≤ 7) : a = 0 ∨ a = 1 ∨ a = 2 ∨ a = 3 ∨ a = 4 ∨ a = 5 ∨ a = 6 ∨ a = 7 := by omega
theorem prs_step {p l : Int} (h0 : 0 ≤ l) (h1 : l < p) (h7 : p ≤ 7) : prs p (l + 1) = prs p l + (p - l - 1) := by
  unfold prs
  rcases upto7 h0 (by omega) with rfl | rfl | rfl | rfl | rfl | rfl | rfl | rfl <;> omega
theorem prs_le {p l : Int} (h0 : 0 ≤ l) (h1 : l < p) (h7 : p ≤ 7) : 0 ≤ prs p l ∧ prs p l + (p - l - 1) ≤ 21 := by
  unfold prs
  rcases upto7 h0 (by omega) with rfl | rfl | rfl | rfl | rfl | rfl | rfl | rfl <;> omega
/-- the steps that are known are steps -/
def StOK (df sf : Int → Int) (many : Int) : Prop := ∀ h, 0 ≤ h → h < many → -1 ≤ df h ∧ df h ≤ 22 ∧ ∀ i, 0 ≤ i → i < df h → (0 ≤ zand (sf (22 * h + i)) 2047 ∧ zand (sf (22 * h + i)) 2047 < many) ∧ 1 ≤ zshr (sf (22 * h + i)) 11 ∧ zshr (sf (22 * h + i)) 11 ≤ 99
theorem StOK.deg {df sf : Int → Int} {many h z : Int} (k : StOK df sf many) (h0 : 0 ≤ h) (h1 : h < many) (e : df h = z) : -1 ≤ z ∧ z ≤ 22 := e ▸ ⟨(k h h0 h1).1, (k h h0 h1).2.1⟩
theorem StOK.to {df sf : Int → Int} {many h i z w : Int} (k : StOK df sf many) (h0 : 0 ≤ h) (h1 : h < many) (i0 : 0 ≤ i) (i1 : i < df h) (e : sf (22 * h + i) = z) (ew : zand z 2047 = w) : 0 ≤ w ∧ w < many := by
  subst e ew
  exact ((k h h0 h1).2.2 i i0 i1).1
theorem StOK.takes {df sf : Int → Int} {many h i z w : Int} (k : StOK df sf many) (h0 : 0 ≤ h) (h1 : h < many) (i0 : 0 ≤ i) (i1 : i < df h) (e : sf (22 * h + i) = z) (ew : zshr z 11 = w) : 1 ≤ w ∧ w ≤ 99 := by
  subst e ew
  exact ((k h h0 h1).2.2 i i0 i1).2
/-- nothing of the other houses has changed -/
def KeptO (df sf df2 sf2 : Int → Int) (many x : Int) : Prop := ∀ h, 0 ≤ h → h < many → h ≠ x → df2 h = df h ∧ ∀ i, 0 ≤ i → i < 22 → sf2 (22 * h + i) = sf (22 * h + i)
theorem KeptO.refl {df sf : Int → Int} {many x : Int} : KeptO df sf df sf many x := fun _ _ _ _ => ⟨rfl, fun _ _ _ => rfl⟩
theorem KeptO.trans {df sf df2 sf2 df3 sf3 : Int → Int} {many x : Int} (a : KeptO df sf df2 sf2 many x) (b : KeptO df2 sf2 df3 sf3 many x) : KeptO df sf df3 sf3 many x := fun h h0 h1 hx => by
  obtain ⟨p, q⟩ := a h h0 h1 hx
  obtain ⟨r, s⟩ := b h h0 h1 hx
  exact ⟨r.trans p, fun i i0 i1 => (s i i0 i1).trans (q i i0 i1)⟩
/-- nothing that was known has changed -/
def Kept (df sf df2 sf2 : Int → Int) (many : Int) : Prop := ∀ h, 0 ≤ h → h < many → 0 ≤ df h → df2 h = df h ∧ ∀ i, 0 ≤ i → i < 22 → sf2 (22 * h + i) = sf (22 * h + i)
theorem Kept.refl {df sf : Int → Int} {many : Int} : Kept df sf df sf many := fun _ _ _ _ => ⟨rfl, fun _ _ _ => rfl⟩
theorem Kept.trans {df sf df2 sf2 df3 sf3 : Int → Int} {many : Int} (a : Kept df sf df2 sf2 many) (b : Kept df2 sf2 df3 sf3 many) : Kept df sf df3 sf3 many := fun h h0 h1 hx => by
  obtain ⟨p, q⟩ := a h h0 h1 hx
  obtain ⟨r, s⟩ := b h h0 h1 (by omega)
  exact ⟨r.trans p, fun i i0 i1 => (s i i0 i1).trans (q i i0 i1)⟩
theorem KeptO.kept {df sf df2 sf2 : Int → Int} {many x z : Int} (a : KeptO df sf df2 sf2 many x) (e : df x = z) (hz : z = -1) : Kept df sf df2 sf2 many := fun h h0 h1 hd => a h h0 h1 (fun q => by rw [q] at hd; omega)
theorem Kept.deg {df sf df2 sf2 : Int → Int} {many h z : Int} (a : Kept df sf df2 sf2 many) (h0 : 0 ≤ h) (h1 : h < many) (e : df h = z) (hz : 0 ≤ z) : df2 h = z := by
  subst e
  exact (a h h0 h1 hz).1
theorem StOK.reset {df sf df2 : Int → Int} {many x : Int} (k : StOK df sf many) (e : df2 = up df x 0) : StOK df2 sf many := by
  subst e
  intro h h0 h1
  by_cases q : h = x
  · subst q
    rw [up_same]
    exact ⟨by omega, by omega, fun i i0 i1 => by omega⟩
  · rw [up_ne q]
    exact k h h0 h1
theorem KeptO.reset {df sf df2 : Int → Int} {many x v : Int} (e : df2 = up df x v) : KeptO df sf df2 sf many x := fun h _ _ hx => by
  subst e
  exact ⟨up_ne hx, fun _ _ _ => rfl⟩
theorem StOK.add {df sf df2 sf2 : Int → Int} {many x d to tk w : Int} (k : StOK df sf many) (hx0 : 0 ≤ x) (hx1 : x < many) (hm : many ≤ 1260) (ed : df x = d) (hd0 : 0 ≤ d) (hd1 : d < 22) (ht0 : 0 ≤ to) (ht1 : to < many) (hk0 : 1 ≤ tk) (hk1 : tk ≤ 99) (ew : zor to (zshl tk 11) = w) (e1 : sf2 = up sf (22 * x + d) w) (e2 : df2 = up df x (d + 1)) : StOK df2 sf2 many ∧ KeptO df sf df2 sf2 many x := by
  obtain ⟨w1, w2, w3⟩ := stepw ht0 (by omega) (by omega) (by omega) ew
  subst e1 e2
  refine ⟨fun h h0 h1 => ?_, fun h h0 h1 hx => ⟨up_ne hx, fun i i0 i1 => up_ne (by omega)⟩⟩
  obtain ⟨k1, k2, k3⟩ := k h h0 h1
  by_cases q : h = x
  · subst q
    rw [up_same]
    refine ⟨by omega, by omega, fun i i0 i1 => ?_⟩
    by_cases r : i = d
    · subst r
      rw [up_same, w1, w2]
      exact ⟨⟨ht0, ht1⟩, hk0, hk1⟩
    · rw [up_ne (by omega)]
      exact k3 i i0 (by omega)
  · rw [up_ne q]
    refine ⟨k1, k2, fun i i0 i1 => ?_⟩
    rw [up_ne (by omega)]
    exact k3 i i0 i1
theorem StOK.fresh {df sf : Int → Int} {many : Int} (h : Rg df many (-1) (-1)) : StOK df sf many := fun x h0 h1 => by
  have := h x h0 h1
  exact ⟨by omega, by omega, fun i i0 i1 => by omega⟩
