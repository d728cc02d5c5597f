/-! the reference: swap-ifs behind a change of beans, walls that go, told exactly -/
def DwK (K Kx : Int → Int) (n k p : Int) : Prop := EqN (od Kx 23) (dwL (od K 23) (od K 24) p k.toNat).1 12 ∧ EqN (od Kx 24) (dwL (od K 23) (od K 24) p k.toNat).2.1 12 ∧ n = (dwL (od K 23) (od K 24) p k.toNat).2.2
theorem DwK_0 {K K1 K2 : Int → Int} {p : Int} (e1 : K1 = up K 59 0) (e2 : K2 = up K1 61 0) : DwK K K2 0 0 p := by
  subst e1 e2
  refine ⟨fun j a b => ?_, fun j a b => ?_, rfl⟩
  · show up (up K 59 0) 61 0 (2 * j + 23) = K (2 * j + 23)
    rw [up_ne (by omega), up_ne (by omega)]
  · show up (up K 59 0) 61 0 (2 * j + 24) = K (2 * j + 24)
    rw [up_ne (by omega), up_ne (by omega)]
theorem DwK.skip {K Kx : Int → Int} {n k p b : Int} (q : DwK K Kx n k p) (k0 : 0 ≤ k) (k1 : k < 12) (eb : Kx (2 * k + 24) = b) (h : ¬ b < p) : DwK K Kx n (k + 1) p := by
  have r : (dwL (od K 23) (od K 24) p k.toNat).2.1 k = b := by rw [← q.2.1 k k0 k1]; exact eb
  unfold DwK
  rw [dwL_succ k0, dwS_no (by rw [r]; exact h)]
  exact q
theorem DwK.copy {K Kx K1 K2 : Int → Int} {n k p a b : Int} (q : DwK K Kx n k p) (k0 : 0 ≤ k) (k1 : k < 12) (n0 : 0 ≤ n) (nk : n ≤ k) (ea : Kx (2 * k + 23) = a) (e1 : K1 = up Kx (2 * n + 23) a) (eb : K1 (2 * k + 24) = b) (e2 : K2 = up K1 (2 * n + 24) b) (h : b < p) : DwK K K2 (n + 1) (k + 1) p := by
  have eb2 : Kx (2 * k + 24) = b := by rw [← eb, e1, up_ne (by omega)]
  have r : (dwL (od K 23) (od K 24) p k.toNat).2.1 k = b := by rw [← q.2.1 k k0 k1]; exact eb2
  have ra : (dwL (od K 23) (od K 24) p k.toNat).1 k = a := by rw [← q.1 k k0 k1]; exact ea
  unfold DwK
  rw [dwL_succ k0, dwS_yes (by rw [r]; exact h), r, ra]
  obtain ⟨q1, q2, q3⟩ := q
  refine ⟨fun j x y => ?_, fun j x y => ?_, ?_⟩
  · show K2 (2 * j + 23) = up _ _ a j
    rw [← q3, e2, up_ne (by omega), e1]
    by_cases g : j = n
    · rw [g, up_same, up_same]
    · rw [up_ne (by omega), up_ne g]; exact q1 j x y
  · show K2 (2 * j + 24) = up _ _ b j
    rw [← q3, e2]
    by_cases g : j = n
    · rw [g, up_same, up_same]
    · rw [up_ne (by omega), up_ne g, e1, up_ne (by omega)]; exact q2 j x y
  · show n + 1 = _ + 1
    rw [← q3]
def NBX (K K2 : Int → Int) : Prop := EqN (od K2 23) (dwL (od K 23) (od K 24) (bsum K) (K 60).toNat).1 12 ∧ EqN (od K2 24) (dwL (od K 23) (od K 24) (bsum K) (K 60).toNat).2.1 12 ∧ K2 60 = (dwL (od K 23) (od K 24) (bsum K) (K 60).toNat).2.2
theorem NBX_of {K Kx K2 : Int → Int} {n k : Int} (q : DwK K Kx n k (bsum K)) (e : K2 = up Kx 60 n) (hk : k = K 60) : NBX K K2 := by
  subst e
  rw [hk] at q
  refine ⟨fun j a b => ?_, fun j a b => ?_, ?_⟩
  · show up Kx 60 n (2 * j + 23) = _
    rw [up_ne (by omega)]; exact q.1 j a b
  · show up Kx 60 n (2 * j + 24) = _
    rw [up_ne (by omega)]; exact q.2.1 j a b
  · rw [up_same]; exact q.2.2
/-- two more come behind, and are counted -/
def pu3 (K : Int → Int) (o c a b : Int) : Int → Int := up (up (up K (2 * K c + o) a) (2 * K c + (o + 1)) b) c (K c + 1)
theorem pu3_of {K K1 K2 K3 : Int → Int} {n i j w a b c o : Int} (en : K c = n) (e1 : K1 = up K i a) (ei : i = 2 * n + o) (e2 : K2 = up K1 j b) (ej : j = 2 * n + (o + 1)) (e3 : K3 = up K2 c w) (ew : w = n + 1) : K3 = pu3 K o c a b := by
  subst e1 e2 e3 ei ej ew en
  rfl
def OutW (Kx K : Int → Int) : Prop := ∀ j, j < 7 ∨ 23 ≤ j → Kx j = K j
theorem OutW.two {K Kx K1 K2 : Int → Int} {i j a b : Int} (q : OutW Kx K) (e1 : K1 = up Kx i a) (i0 : 7 ≤ i) (i1 : i < 23) (e2 : K2 = up K1 j b) (j0 : 7 ≤ j) (j1 : j < 23) : OutW K2 K := fun x h => by
  rw [e2, up_ne (by omega), e1, up_ne (by omega)]; exact q x h
def FlK (K Kx : Int → Int) (n k x y : Int) : Prop := EqN (od Kx 7) (flL (od K 7) (od K 8) x y k.toNat).1 8 ∧ EqN (od Kx 8) (flL (od K 7) (od K 8) x y k.toNat).2.1 8 ∧ n = (flL (od K 7) (od K 8) x y k.toNat).2.2
theorem FlK_0 {K : Int → Int} {x y : Int} : FlK K K 0 0 x y := ⟨EqN.rf, EqN.rf, rfl⟩
theorem FlK.skip {K Kx : Int → Int} {n k x y a b : Int} (q : FlK K Kx n k x y) (k0 : 0 ≤ k) (k1 : k < 8) (ea : Kx (2 * k + 7) = a) (eb : Kx (2 * k + 8) = b) (h : WP a b x y) : FlK K Kx n (k + 1) x y := by
  have rb : (flL (od K 7) (od K 8) x y k.toNat).2.1 k = b := by rw [← q.2.1 k k0 k1]; exact eb
  have ra : (flL (od K 7) (od K 8) x y k.toNat).1 k = a := by rw [← q.1 k k0 k1]; exact ea
  unfold FlK
  rw [flL_succ k0, flS_yes (by unfold WM; rw [ra, rb]; exact h)]
  exact q
theorem FlK.copy {K Kx K1 K2 : Int → Int} {n k x y a b i j : Int} (q : FlK K Kx n k x y) (k0 : 0 ≤ k) (k1 : k < 8) (n0 : 0 ≤ n) (nk : n ≤ k) (ea : Kx (2 * k + 7) = a) (eb : Kx (2 * k + 8) = b) (e1 : K1 = up Kx i a) (ei : i = 2 * n + 7) (e2 : K2 = up K1 j b) (ej : j = 2 * n + 8) (h : ¬ WP a b x y) : FlK K K2 (n + 1) (k + 1) x y := by
  have rb : (flL (od K 7) (od K 8) x y k.toNat).2.1 k = b := by rw [← q.2.1 k k0 k1]; exact eb
  have ra : (flL (od K 7) (od K 8) x y k.toNat).1 k = a := by rw [← q.1 k k0 k1]; exact ea
  unfold FlK
  rw [flL_succ k0, flS_no (by unfold WM; rw [ra, rb]; exact h), ra, rb]
  obtain ⟨q1, q2, q3⟩ := q
  subst ei ej
  refine ⟨fun r s t => ?_, fun r s t => ?_, ?_⟩
  · show K2 (2 * r + 7) = up _ _ a r
    rw [← q3, e2, up_ne (by omega), e1]
    by_cases g : r = n
    · rw [g, up_same, up_same]
    · rw [up_ne (by omega), up_ne g]; exact q1 r s t
  · show K2 (2 * r + 8) = up _ _ b r
    rw [← q3, e2]
    by_cases g : r = n
    · rw [g, up_same, up_same]
    · rw [up_ne (by omega), up_ne g, e1, up_ne (by omega)]; exact q2 r s t
  · show n + 1 = _ + 1
    rw [← q3]
def BrX (K K2 : Int → Int) (x y : Int) : Prop := EqN (od K2 7) (flL (od K 7) (od K 8) x y (K 59).toNat).1 8 ∧ EqN (od K2 8) (flL (od K 7) (od K 8) x y (K 59).toNat).2.1 8 ∧ K2 59 = (flL (od K 7) (od K 8) x y (K 59).toNat).2.2 ∧ ∀ j, (j < 7 ∨ 23 ≤ j) → ¬ j = 59 → K2 j = K j
theorem BrX_of {K Kx K2 : Int → Int} {n k x y : Int} (q : FlK K Kx n k x y) (o : OutW Kx K) (e : K2 = up Kx 59 n) (hk : k = K 59) : BrX K K2 x y := by
  subst e
  rw [hk] at q
  refine ⟨fun j a b => ?_, fun j a b => ?_, ?_, fun j h g => by rw [up_ne g]; exact o j h⟩
  · show up Kx 59 n (2 * j + 7) = _
    rw [up_ne (by omega)]; exact q.1 j a b
  · show up Kx 59 n (2 * j + 8) = _
    rw [up_ne (by omega)]; exact q.2.1 j a b
  · rw [up_same]; exact q.2.2
theorem OrR.ref {co cd K o B : Int → Int} {m c r pm : Int} (hT : HouT co cd K m) (hf : okF K) (hm : m = Hi K) (ep : pm = bsum K) (eo : EqOn pm o B) (hB : okB (bsum K) B) (ec : cod5 o pm.toNat = c) (r0 : -1 ≤ r) (r1 : r < m) (q : HoR cd m c r) : OrR K B r := by
  have hp := bsum_pos hf
  refine OrR.code (fun h a b => (hT h a b).1) hf hm hB ?_ r0 r1 q.1 q.2
  rw [← ec, ep]
  exact (cod5_congr _ (fun j a b => eo j a (by omega))).symm
