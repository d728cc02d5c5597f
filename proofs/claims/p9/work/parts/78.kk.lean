/-! rows for the reference: what is kept stays in order -/
def fullK (K : Int → Int) : Prop := Rg K 4870 (-2147483648) 2147483647
theorem KOK.low {K K2 : Int → Int} (h : KOK K) (e : ∀ j, 62 ≤ j → j < 4870 → K2 j = K j) (f : okF K2) (w : 0 ≤ K2 59 ∧ K2 59 ≤ 8) (s : 0 ≤ K2 60 ∧ K2 60 ≤ 12) (sw : SwL K2 (K2 60) (bsum K2)) (c : 0 ≤ K2 61 ∧ K2 61 ≤ 6) (cl : ClL K2) (r : Rg K2 4870 (-2147483648) 2147483647) : KOK K2 := by
  obtain ⟨h1, h2, h3, h4, h5, h6, h7, h8, h9, h10⟩ := h
  refine ⟨f, w, s, sw, c, cl, by rw [e 62 (by omega) (by omega)]; exact h7, by rw [e 62 (by omega) (by omega), e 63 (by omega) (by omega)]; exact h8, r, ?_⟩
  exact KLaw.keep h10 (e 62 (by omega) (by omega)) h7.2 (fun j a b => e j (by omega) (by omega))
theorem KOK.congr {K K2 : Int → Int} (h : KOK K) (e : ∀ j, 0 ≤ j → j < 4870 → K2 j = K j) : KOK K2 := by
  have h0 := h
  obtain ⟨h1, h2, h3, h4, h5, h6, h7, h8, h9, h10⟩ := h
  have l5 : ∀ j, 0 ≤ j → j < 5 → K2 j = K j := fun j a b => e j a (by omega)
  refine KOK.low h0 (fun j a b => e j (by omega) b) (okF_same h1 l5) (by rw [e 59 (by omega) (by omega)]; exact h2) (by rw [e 60 (by omega) (by omega)]; exact h3) ?_ (by rw [e 61 (by omega) (by omega)]; exact h5) ?_ (fun j a b => by rw [e j a b]; exact h9 j a b)
  · rw [e 60 (by omega) (by omega), bsum_same l5]
    intro k a b
    rw [e _ (by omega) (by omega), e _ (by omega) (by omega)]
    exact h4 k a b
  · intro k a b
    rw [e 61 (by omega) (by omega)] at b
    rw [e _ (by omega) (by omega), Hi_same l5]
    exact h6 k a b
/-- one that is kept and of which nothing else hangs -/
theorem KOK.put {K K2 : Int → Int} {i v : Int} (h : KOK K) (e : K2 = up K i v) (i0 : 5 ≤ i) (i1 : i ≤ 22) (v0 : -2147483648 ≤ v) (v1 : v ≤ 2147483647) : KOK K2 := by
  have h0 := h
  obtain ⟨h1, h2, h3, h4, h5, h6, h7, h8, h9, h10⟩ := h
  have n : ∀ j, ¬ j = i → K2 j = K j := fun j a => by rw [e, up_ne a]
  have l5 : ∀ j, 0 ≤ j → j < 5 → K2 j = K j := fun j a b => n j (by omega)
  refine KOK.low h0 (fun j a _ => n j (by omega)) (okF_same h1 l5) (by rw [n 59 (by omega)]; exact h2) (by rw [n 60 (by omega)]; exact h3) ?_ (by rw [n 61 (by omega)]; exact h5) ?_ (Rg.ups h9 e v0 v1)
  · rw [n 60 (by omega), bsum_same l5]
    intro k a b
    rw [n _ (by omega), n _ (by omega)]
    exact h4 k a b
  · intro k a b
    rw [n 61 (by omega)] at b
    rw [n _ (by omega), Hi_same l5]
    exact h6 k a b
theorem KOK.w59 {K K2 : Int → Int} {v : Int} (h : KOK K) (e : K2 = up K 59 v) (v0 : 0 ≤ v) (v1 : v ≤ 8) : KOK K2 := by
  have h0 := h
  obtain ⟨h1, h2, h3, h4, h5, h6, h7, h8, h9, h10⟩ := h
  have n : ∀ j, ¬ j = 59 → K2 j = K j := fun j a => by rw [e, up_ne a]
  have l5 : ∀ j, 0 ≤ j → j < 5 → K2 j = K j := fun j a b => n j (by omega)
  refine KOK.low h0 (fun j a _ => n j (by omega)) (okF_same h1 l5) (by rw [e, up_same]; exact ⟨v0, v1⟩) (by rw [n 60 (by omega)]; exact h3) ?_ (by rw [n 61 (by omega)]; exact h5) ?_ (Rg.ups h9 e (by omega) (by omega))
  · rw [n 60 (by omega), bsum_same l5]
    intro k a b
    rw [n _ (by omega), n _ (by omega)]
    exact h4 k a b
  · intro k a b
    rw [n 61 (by omega)] at b
    rw [n _ (by omega), Hi_same l5]
    exact h6 k a b
theorem KOK.force {K K2 : Int → Int} {v : Int} (h : KOK K) (e : K2 = up K 63 v) (v0 : -1 ≤ v) (v1 : v < K 62) : KOK K2 := by
  obtain ⟨h1, h2, h3, h4, h5, h6, h7, h8, h9, h10⟩ := h
  have n : ∀ j, ¬ j = 63 → K2 j = K j := fun j a => by rw [e, up_ne a]
  have l5 : ∀ j, 0 ≤ j → j < 5 → K2 j = K j := fun j a b => n j (by omega)
  refine ⟨okF_same h1 l5, by rw [n 59 (by omega)]; exact h2, by rw [n 60 (by omega)]; exact h3, ?_, by rw [n 61 (by omega)]; exact h5, ?_, by rw [n 62 (by omega)]; exact h7, by rw [n 62 (by omega), e, up_same]; exact ⟨v0, v1⟩, Rg.ups h9 e (by omega) (by omega), KLaw.keep h10 (n 62 (by omega)) h7.2 (fun j a b => n j (by omega))⟩
  · rw [n 60 (by omega), bsum_same l5]
    intro k a b
    rw [n _ (by omega), n _ (by omega)]
    exact h4 k a b
  · intro k a b
    rw [n 61 (by omega)] at b
    rw [n _ (by omega), Hi_same l5]
    exact h6 k a b
theorem KOK.keep {K K2 : Int → Int} {v : Int} (h : KOK K) (e : K2 = up K 60 v) (v0 : 0 ≤ v) (v1 : v ≤ K 60) : KOK K2 := by
  have h0 := h
  obtain ⟨h1, h2, h3, h4, h5, h6, h7, h8, h9, h10⟩ := h
  have n : ∀ j, ¬ j = 60 → K2 j = K j := fun j a => by rw [e, up_ne a]
  have e60 : K2 60 = v := by rw [e, up_same]
  have l5 : ∀ j, 0 ≤ j → j < 5 → K2 j = K j := fun j a b => n j (by omega)
  refine KOK.low h0 (fun j a _ => n j (by omega)) (okF_same h1 l5) (by rw [n 59 (by omega)]; exact h2) (by rw [e60]; omega) ?_ (by rw [n 61 (by omega)]; exact h5) ?_ (Rg.ups h9 e (by omega) (by omega))
  · rw [e60, bsum_same l5]
    intro k a b
    rw [n _ (by omega), n _ (by omega)]
    exact h4 k a (by omega)
  · intro k a b
    rw [n 61 (by omega)] at b
    rw [n _ (by omega), Hi_same l5]
    exact h6 k a b
theorem KOK.swap {K K1 K2 K3 : Int → Int} {n a b i j w p : Int} (h : KOK K) (en : K 60 = n) (n1 : n ≤ 11) (ei : i = 23 + 2 * n) (ej : j = 24 + 2 * n) (e1 : K1 = up K i a) (e2 : K2 = up K1 j b) (e3 : K3 = up K2 60 w) (ew : w = n + 1) (a0 : 0 ≤ a) (ab : a < b) (bp : b < p) (ep : p = bsum K) : KOK K3 := by
  have h0 := h
  obtain ⟨h1, h2, h3, h4, h5, h6, h7, h8, h9, h10⟩ := h
  have p7 := (bsum_rng h1).2
  have n0 : 0 ≤ n := by omega
  have nn : ∀ x, ¬ x = 60 → ¬ x = i → ¬ x = j → K3 x = K x := fun x a b c => by rw [e3, up_ne a, e2, up_ne c, e1, up_ne b]
  have e60 : K3 60 = n + 1 := by rw [e3, up_same, ew]
  have l5 : ∀ j, 0 ≤ j → j < 5 → K3 j = K j := fun j a b => nn j (by omega) (by omega) (by omega)
  refine KOK.low h0 (fun x a _ => nn x (by omega) (by omega) (by omega)) (okF_same h1 l5) (by rw [nn 59 (by omega) (by omega) (by omega)]; exact h2) (by rw [e60]; omega) ?_ (by rw [nn 61 (by omega) (by omega) (by omega)]; exact h5) ?_ (Rg.ups (Rg.ups (Rg.ups h9 e1 (by omega) (by omega)) e2 (by omega) (by omega)) e3 (by omega) (by omega))
  · rw [e60, bsum_same l5]
    intro k k0 k1
    by_cases r : k = n
    · subst r
      have ea : K3 (23 + 2 * k) = a := by rw [e3, up_ne (by omega), e2, up_ne (by omega), e1, ei, up_same]
      have eb : K3 (24 + 2 * k) = b := by rw [e3, up_ne (by omega), e2, ej, up_same]
      rw [ea, eb]
      omega
    · rw [nn _ (by omega) (by omega) (by omega), nn _ (by omega) (by omega) (by omega)]
      exact h4 k k0 (by omega)
  · intro k k0 k1
    rw [nn 61 (by omega) (by omega) (by omega)] at k1
    rw [nn _ (by omega) (by omega) (by omega), Hi_same l5]
    exact h6 k k0 k1
theorem KOK.clue {K K1 K2 K3 : Int → Int} {n a b i j w m : Int} (h : KOK K) (en : K 61 = n) (n1 : n ≤ 5) (ei : i = 47 + 2 * n) (ej : j = 48 + 2 * n) (e1 : K1 = up K i a) (e2 : K2 = up K1 j b) (e3 : K3 = up K2 61 w) (ew : w = n + 1) (a0 : 0 ≤ a) (am : a < m) (em : m = Hi K) (b0 : -2147483648 ≤ b) (b1 : b ≤ 2147483647) : KOK K3 := by
  have h0 := h
  obtain ⟨h1, h2, h3, h4, h5, h6, h7, h8, h9, h10⟩ := h
  have n0 : 0 ≤ n := by omega
  have m1 := (Hi_rng h1).2
  have nn : ∀ x, ¬ x = 61 → ¬ x = i → ¬ x = j → K3 x = K x := fun x a b c => by rw [e3, up_ne a, e2, up_ne c, e1, up_ne b]
  have e61 : K3 61 = n + 1 := by rw [e3, up_same, ew]
  have l5 : ∀ j, 0 ≤ j → j < 5 → K3 j = K j := fun j a b => nn j (by omega) (by omega) (by omega)
  refine KOK.low h0 (fun x a _ => nn x (by omega) (by omega) (by omega)) (okF_same h1 l5) (by rw [nn 59 (by omega) (by omega) (by omega)]; exact h2) (by rw [nn 60 (by omega) (by omega) (by omega)]; exact h3) ?_ (by rw [e61]; omega) ?_ (Rg.ups (Rg.ups (Rg.ups h9 e1 (by omega) (by omega)) e2 b0 b1) e3 (by omega) (by omega))
  · rw [nn 60 (by omega) (by omega) (by omega), bsum_same l5]
    intro k k0 k1
    rw [nn _ (by omega) (by omega) (by omega), nn _ (by omega) (by omega) (by omega)]
    exact h4 k k0 k1
  · intro k k0 k1
    rw [e61] at k1
    rw [Hi_same l5]
    by_cases r : k = n
    · subst r
      have ea : K3 (47 + 2 * k) = a := by rw [e3, up_ne (by omega), e2, up_ne (by omega), e1, ei, up_same]
      rw [ea]
      omega
    · rw [nn _ (by omega) (by omega) (by omega)]
      exact h6 k k0 (by omega)
theorem KOK.c61 {K K2 : Int → Int} {v : Int} (h : KOK K) (e : K2 = up K 61 v) (hv : v = 0) : KOK K2 := by
  have h0 := h
  obtain ⟨h1, h2, h3, h4, h5, h6, h7, h8, h9, h10⟩ := h
  have n : ∀ j, ¬ j = 61 → K2 j = K j := fun j a => by rw [e, up_ne a]
  have l5 : ∀ j, 0 ≤ j → j < 5 → K2 j = K j := fun j a b => n j (by omega)
  have e61 : K2 61 = 0 := by rw [e, up_same, hv]
  refine KOK.low h0 (fun j a _ => n j (by omega)) (okF_same h1 l5) (by rw [n 59 (by omega)]; exact h2) (by rw [n 60 (by omega)]; exact h3) ?_ (by rw [e61]; omega) ?_ (Rg.ups h9 e (by omega) (by omega))
  · rw [n 60 (by omega), bsum_same l5]
    intro k a b
    rw [n _ (by omega), n _ (by omega)]
    exact h4 k a b
  · intro k a b
    rw [e61] at b
    omega
/-- the beans have changed -/
theorem KOK.beans {K K1 K2 : Int → Int} (h : KOK K) (e1 : ∀ j, 5 ≤ j → K1 j = K j) (f : okF K1) (s : 0 ≤ K2 60 ∧ K2 60 ≤ 12) (sw : SwL K2 (K2 60) (bsum K2)) (nb : NBS K1 K2) (r : Rg K2 4870 (-2147483648) 2147483647) : KOK K2 := by
  have l5 : ∀ j, 0 ≤ j → j < 5 → K2 j = K1 j := fun j a b => nb.1 j (by omega) (by omega) (by omega) (by omega)
  refine KOK.low h (fun j a _ => by rw [nb.1 j (by omega) (by omega) (by omega) (by omega), e1 j (by omega)]) (okF_same f l5) (by rw [nb.2.1]; omega) s sw (by rw [nb.2.2]; omega) (fun k a b => ?_) r
  rw [nb.2.2] at b
  omega
theorem beans_ok {K K1 : Int → Int} {c v z p : Int} (f : okF K) (c0 : 0 ≤ c) (c1 : c ≤ 4) (v0 : 0 ≤ v) (ez : K c = z) (ep : p = bsum K) (hp : p - z + v ≤ 7) (e : K1 = up K c v) : okF K1 := by
  obtain ⟨f0, f1, f2, f3, f4, f5⟩ := f
  have b : bsum K1 = bsum K - z + v ∧ 0 ≤ K1 0 ∧ 0 ≤ K1 1 ∧ 0 ≤ K1 2 ∧ 0 ≤ K1 3 ∧ 0 ≤ K1 4 := by
    subst e
    unfold bsum up
    have : c = 0 ∨ c = 1 ∨ c = 2 ∨ c = 3 ∨ c = 4 := by omega
    rcases this with r | r | r | r | r <;> subst r <;> simp <;> omega
  exact ⟨b.2.1, b.2.2.1, b.2.2.2.1, b.2.2.2.2.1, b.2.2.2.2.2, by omega⟩
theorem SwL_up {K K1 : Int → Int} (h : SwL K (K 60) (bsum K)) (f : okF K) (s : K 60 ≤ 12) (e1 : ∀ j, 5 ≤ j → K1 j = K j) : SwL K1 (K1 60) 7 := by
  have p7 := (bsum_rng f).2
  rw [e1 60 (by omega)]
  intro k a b
  rw [e1 _ (by omega), e1 _ (by omega)]
  have := h k a b
  omega
/-- a row is told: its beans are counted -/
def Cn5 (K Kx : Int → Int) (n : Int) : Prop := (∀ j, 5 ≤ j → Kx j = K j) ∧ bsum Kx = n ∧ 0 ≤ Kx 0 ∧ 0 ≤ Kx 1 ∧ 0 ≤ Kx 2 ∧ 0 ≤ Kx 3 ∧ 0 ≤ Kx 4
def Zr5 (K Kx : Int → Int) (n : Int) : Prop := (∀ j, 5 ≤ j → Kx j = K j) ∧ ∀ j, 0 ≤ j → j < n → Kx j = 0
theorem Zr5_0 {K : Int → Int} : Zr5 K K 0 := ⟨fun _ _ => rfl, fun j a b => by omega⟩
theorem Zr5.step {K Kx K2 : Int → Int} {n v i : Int} (q : Zr5 K Kx n) (n0 : 0 ≤ n) (h : n < 5) (ei : i = n) (e : K2 = up Kx i v) (hv : v = 0) : Zr5 K K2 (n + 1) := by
  subst e hv ei
  refine ⟨fun j a => by rw [up_ne (by omega)]; exact q.1 j a, fun j a b => ?_⟩
  by_cases r : j = i
  · rw [r, up_same]
  · rw [up_ne r]; exact q.2 j a (by omega)
theorem Cn5_0 {K Kx : Int → Int} {n : Int} (q : Zr5 K Kx n) (h : 5 ≤ n) : Cn5 K Kx 0 := by
  have z := fun j a b => q.2 j a (by omega : j < n)
  refine ⟨q.1, ?_, ?_, ?_, ?_, ?_, ?_⟩
  · unfold bsum
    rw [q.2 0 (by omega) (by omega), q.2 1 (by omega) (by omega), q.2 2 (by omega) (by omega), q.2 3 (by omega) (by omega), q.2 4 (by omega) (by omega)]
    rfl
  · rw [q.2 0 (by omega) (by omega)]; decide
  · rw [q.2 1 (by omega) (by omega)]; decide
  · rw [q.2 2 (by omega) (by omega)]; decide
  · rw [q.2 3 (by omega) (by omega)]; decide
  · rw [q.2 4 (by omega) (by omega)]; decide
theorem Cn5.step {K Kx K2 : Int → Int} {n c z w : Int} (q : Cn5 K Kx n) (c0 : 0 ≤ c) (c1 : c ≤ 4) (ez : Kx c = z) (e : K2 = up Kx c w) (ew : w = z + 1) : Cn5 K K2 (n + 1) := by
  obtain ⟨q0, q1, f0, f1, f2, f3, f4⟩ := q
  have b : bsum K2 = bsum Kx - z + w ∧ 0 ≤ K2 0 ∧ 0 ≤ K2 1 ∧ 0 ≤ K2 2 ∧ 0 ≤ K2 3 ∧ 0 ≤ K2 4 := by
    subst e
    unfold bsum up
    have : c = 0 ∨ c = 1 ∨ c = 2 ∨ c = 3 ∨ c = 4 := by omega
    rcases this with r | r | r | r | r <;> subst r <;> simp <;> omega
  exact ⟨fun j a => by rw [e, up_ne (by omega)]; exact q0 j a, by omega, b.2.1, b.2.2.1, b.2.2.2.1, b.2.2.2.2.1, b.2.2.2.2.2⟩
theorem Cn5.ok {K Kx : Int → Int} {n : Int} (q : Cn5 K Kx n) (h : n ≤ 7) : okF Kx := ⟨q.2.2.1, q.2.2.2.1, q.2.2.2.2.1, q.2.2.2.2.2.1, q.2.2.2.2.2.2, by have := q.2.1; omega⟩
theorem Cn5.at {K Kx : Int → Int} {n c z : Int} (q : Cn5 K Kx n) (c0 : 0 ≤ c) (c1 : c ≤ 4) (ez : Kx c = z) : 0 ≤ z ∧ z ≤ n := by
  obtain ⟨q0, q1, f0, f1, f2, f3, f4⟩ := q
  unfold bsum at q1
  have : c = 0 ∨ c = 1 ∨ c = 2 ∨ c = 3 ∨ c = 4 := by omega
  rcases this with r | r | r | r | r <;> subst r <;> omega
/-- images -/
def ImI (im hi : Int → Int) : Prop := ∀ k, 0 ≤ k → k < 2 → ¬ hi k = 0 → KOK (fun j => im (4870 * k + j))
def Cpy (im0 im K : Int → Int) (k n : Int) : Prop := (∀ j, 0 ≤ j → j < n → im (4870 * k + j) = K j) ∧ ∀ x, x < 4870 * k ∨ 4870 * (k + 1) ≤ x → im x = im0 x
theorem Cpy_0 {im K : Int → Int} {k : Int} : Cpy im im K k 0 := ⟨fun j a b => by omega, fun _ _ => rfl⟩
theorem Cpy.step {im0 im im2 K : Int → Int} {k n i v : Int} (q : Cpy im0 im K k n) (n0 : 0 ≤ n) (n1 : n < 4870) (ei : i = 4870 * k + n) (ev : K n = v) (e : im2 = up im i v) : Cpy im0 im2 K k (n + 1) := by
  subst e ei
  refine ⟨fun j a b => ?_, fun x a => by rw [up_ne (by omega)]; exact q.2 x a⟩
  by_cases r : j = n
  · rw [r, up_same, ev]
  · rw [up_ne (by omega)]; exact q.1 j a (by omega)
theorem ImI.put {im im2 hi hi2 K : Int → Int} {k n v : Int} (q : ImI im hi) (h : KOK K) (c : Cpy im im2 K k n) (hn : 4870 ≤ n) (k0 : 0 ≤ k) (k1 : k ≤ 1) (e : hi2 = up hi k v) : ImI im2 hi2 := fun x a b w => by
  by_cases r : x = k
  · subst r
    exact KOK.congr h (fun j ja jb => c.1 j ja (by omega))
  · rw [e, up_ne r] at w
    exact KOK.congr (q x a b w) (fun j ja jb => c.2 _ (by omega))
def Cbk (K im : Int → Int) (k n : Int) : Prop := ∀ j, 0 ≤ j → j < n → K j = im (4870 * k + j)
theorem Cbk_0 {K im : Int → Int} {k : Int} : Cbk K im k 0 := fun j a b => by omega
theorem Cbk.step {K K2 im : Int → Int} {k n i v : Int} (q : Cbk K im k n) (ei : i = 4870 * k + n) (ev : im i = v) (e : K2 = up K n v) : Cbk K2 im k (n + 1) := fun j a b => by
  subst e ei
  by_cases r : j = n
  · rw [r, up_same, ev]
  · rw [up_ne r]; exact q j a (by omega)
theorem Cbk.ok {K im hi : Int → Int} {k n z : Int} (q : Cbk K im k n) (hn : 4870 ≤ n) (m : ImI im hi) (k0 : 0 ≤ k) (k1 : k ≤ 1) (ez : hi k = z) (hz : ¬ z = 0) : KOK K := KOK.congr (m k k0 (by omega) (by rw [ez]; exact hz)) (fun j a b => q j a (by omega))
theorem Rg_one {F : Int → Int} {n lo hi z : Int} (q : Rg F n lo hi) (e : F n = z) (h0 : lo ≤ z) (h1 : z ≤ hi) : Rg F (n + 1) lo hi := fun j a b => by
  by_cases r : j = n
  · rw [r, e]; exact ⟨h0, h1⟩
  · exact q j a (by omega)
/-- what image answers -/
def imr (x : Int) : Int := if 0 ≤ x ∧ x ≤ 1 then 0 else -1
theorem imr_in {x : Int} (h0 : 0 ≤ x) (h1 : x ≤ 1) : 0 = imr x := by
  unfold imr
  rw [if_pos ⟨h0, h1⟩]
theorem imr_lo {x : Int} (h : x < 0) : -1 = imr x := by
  unfold imr
  rw [if_neg (by omega)]
theorem imr_hi {x : Int} (h : 1 < x) : -1 = imr x := by
  unfold imr
  rw [if_neg (by omega)]
