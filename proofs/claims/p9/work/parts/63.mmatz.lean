/-! rows for the reference: what is kept -/
def SwL (K : Int → Int) (n p : Int) : Prop := ∀ k, 0 ≤ k → k < n → 0 ≤ K (23 + 2 * k) ∧ K (23 + 2 * k) < K (24 + 2 * k) ∧ K (24 + 2 * k) < p
def NB (K Kx : Int → Int) (n k p : Int) : Prop := SwL Kx n p ∧ (∀ j, j < 23 ∨ 23 + 2 * k ≤ j → j ≠ 59 → j ≠ 61 → Kx j = K j) ∧ Kx 59 = 0 ∧ Kx 61 = 0
theorem NB_0 {K K1 K2 : Int → Int} {p : Int} (e1 : K1 = up K 59 0) (e2 : K2 = up K1 61 0) : NB K K2 0 0 p := by
  subst e1 e2
  refine ⟨fun k a b => by omega, fun j _ h1 h2 => by rw [up_ne h2, up_ne h1], by rw [up_ne (by decide), up_same], up_same _ _ _⟩
theorem NB.skip {K Kx : Int → Int} {n k p : Int} (q : NB K Kx n k p) : NB K Kx n (k + 1) p := ⟨q.1, fun j h => q.2.1 j (by omega), q.2.2⟩
theorem NB.copy {K Kx K1 K2 : Int → Int} {n k p a b m : Int} (q : NB K Kx n k p) (hw : SwL K m 7) (hk0 : 0 ≤ k) (hk1 : k < m) (hm : m ≤ 12) (n0 : 0 ≤ n) (nk : n ≤ k) (ea : Kx (2 * k + 23) = a) (e1 : K1 = up Kx (2 * n + 23) a) (eb : K1 (2 * k + 24) = b) (e2 : K2 = up K1 (2 * n + 24) b) (hb : b < p) : NB K K2 (n + 1) (k + 1) p := by
  have w := hw k hk0 hk1
  have ea' : K (23 + 2 * k) = a := by rw [← ea, ← q.2.1 (23 + 2 * k) (by omega) (by omega) (by omega), Int.add_comm]
  have eb' : K (24 + 2 * k) = b := by
    rw [← eb, e1, up_ne (by omega), ← q.2.1 (24 + 2 * k) (by omega) (by omega) (by omega), Int.add_comm]
  subst e1 e2
  refine ⟨fun i i0 i1 => ?_, fun j h h1 h2 => ?_, ?_, ?_⟩
  · by_cases r : i = n
    · subst r
      rw [show (23 : Int) + 2 * i = 2 * i + 23 by omega, show (24 : Int) + 2 * i = 2 * i + 24 by omega, up_same, up_ne (by omega), up_same]
      omega
    · rw [up_ne (by omega), up_ne (by omega), up_ne (by omega), up_ne (by omega)]
      exact q.1 i i0 (by omega)
  · rw [up_ne (by omega), up_ne (by omega)]
    exact q.2.1 j (by omega) h1 h2
  · rw [up_ne (by omega), up_ne (by omega)]; exact q.2.2.1
  · rw [up_ne (by omega), up_ne (by omega)]; exact q.2.2.2
theorem NB_bsum {K Kx : Int → Int} {n k p : Int} (q : NB K Kx n k p) : bsum Kx = bsum K := by
  unfold bsum
  rw [q.2.1 0 (by omega) (by omega) (by omega), q.2.1 1 (by omega) (by omega) (by omega), q.2.1 2 (by omega) (by omega) (by omega), q.2.1 3 (by omega) (by omega) (by omega), q.2.1 4 (by omega) (by omega) (by omega)]
/-- what houseOf finds -/
def HoR (cd : Int → Int) (m x r : Int) : Prop := (0 ≤ r → cd r = x) ∧ ∀ t, 0 ≤ t → t < m → cd t = x → r = t
theorem EqOn.push {B B2 C : Int → Int} {i v : Int} (q : EqOn i B C) (e : B2 = up B i v) (hv : v = C i) : EqOn (i + 1) B2 C := fun j a b => by
  subst e
  by_cases r : j = i
  · rw [r, up_same, hv]
  · rw [up_ne r]; exact q j a (by omega)
/-- behind newBeans all else is as it was -/
def NBS (K K2 : Int → Int) : Prop := (∀ j, j < 23 ∨ 47 ≤ j → j ≠ 59 → j ≠ 60 → j ≠ 61 → K2 j = K j) ∧ K2 59 = 0 ∧ K2 61 = 0
theorem NB_same {K Kx K2 : Int → Int} {n k p v : Int} (q : NB K Kx n k p) (e : K2 = up Kx 60 v) (hk : k ≤ 12) : NBS K K2 := by
  subst e
  refine ⟨fun j h h1 h2 h3 => by rw [up_ne h2]; exact q.2.1 j (by omega) h1 h3, by rw [up_ne (by decide)]; exact q.2.2.1, by rw [up_ne (by decide)]; exact q.2.2.2⟩
theorem NB_sw {K Kx K2 : Int → Int} {n k : Int} (q : NB K Kx n k (bsum K)) (e : K2 = up Kx 60 n) (h0 : 0 ≤ n) (h1 : n ≤ 12) : SwL K2 (K2 60) (bsum K2) := by
  have hb : bsum K2 = bsum K := by
    rw [← NB_bsum q, e]
    unfold bsum
    rw [up_ne (by decide), up_ne (by decide), up_ne (by decide), up_ne (by decide), up_ne (by decide)]
  rw [hb]
  subst e
  rw [up_same]
  intro i a b
  rw [up_ne (by omega), up_ne (by omega)]
  exact q.1 i a b
