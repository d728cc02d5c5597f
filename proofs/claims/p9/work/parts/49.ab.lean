/-! what both sides bear in common: choices, rows of pairs, the swap-ifs behind a change of the beans, walls as pairs -/
noncomputable def iF {A : Type} (p : Prop) (a b : A) : A := @ite A p (Classical.propDecidable p) a b
theorem iF_pos {A : Type} {p : Prop} {a b : A} (h : p) : iF p a b = a := @if_pos p (Classical.propDecidable p) h A a b
theorem iF_neg {A : Type} {p : Prop} {a b : A} (h : ¬ p) : iF p a b = b := @if_neg p (Classical.propDecidable p) h A a b
theorem iF_congr {A : Type} {p q : Prop} {a b c d : A} (h : p ↔ q) (e1 : p → a = c) (e2 : ¬ p → b = d) : iF p a b = iF q c d := by
  by_cases g : p
  · rw [iF_pos g, iF_pos (h.mp g)]; exact e1 g
  · rw [iF_neg g, iF_neg (fun w => g (h.mpr w))]; exact e2 g
def od (K : Int → Int) (o j : Int) : Int := K (2 * j + o)
def EqN (f g : Int → Int) (n : Int) : Prop := ∀ j, 0 ≤ j → j < n → f j = g j
theorem EqN.rf {f : Int → Int} {n : Int} : EqN f f n := fun _ _ _ => rfl
theorem EqN.tr {f g h : Int → Int} {n : Int} (a : EqN f g n) (b : EqN g h n) : EqN f h n := fun j x y => (a j x y).trans (b j x y)
theorem EqN.sy {f g : Int → Int} {n : Int} (a : EqN f g n) : EqN g f n := fun j x y => (a j x y).symm
theorem EqN.le {f g : Int → Int} {n m : Int} (a : EqN f g n) (h : m ≤ n) : EqN f g m := fun j x y => a j x (by omega)
theorem EqN.ups {f g : Int → Int} {n i i2 v v2 : Int} (h : EqN f g n) (ei : i = i2) (ev : v = v2) : EqN (up f i v) (up g i2 v2) n := fun j x y => by
  subst ei ev
  by_cases e : j = i
  · rw [e, up_same, up_same]
  · rw [up_ne e, up_ne e]; exact h j x y
theorem EqN.od {K S : Int → Int} {m : Int} (h : EqN K S m) {o n : Int} (o0 : 0 ≤ o) (hn : 2 * n + o ≤ m + 1) : EqN (od K o) (od S o) n := fun j a b => h (2 * j + o) (by omega) (by omega)
/-- a step of the dropping -/
def dwS (p k : Int) (q : (Int → Int) × (Int → Int) × Int) : (Int → Int) × (Int → Int) × Int := if q.2.1 k < p then (up q.1 q.2.2 (q.1 k), up q.2.1 q.2.2 (q.2.1 k), q.2.2 + 1) else q
def dwL (a b : Int → Int) (p : Int) : Nat → (Int → Int) × (Int → Int) × Int
  | 0 => (a, b, 0)
  | k + 1 => dwS p k (dwL a b p k)
theorem dwL_succ {a b : Int → Int} {p i : Int} (i0 : 0 ≤ i) : dwL a b p (i + 1).toNat = dwS p i (dwL a b p i.toNat) := by
  rw [show (i + 1).toNat = i.toNat + 1 by omega]
  show dwS p (i.toNat : Int) (dwL a b p i.toNat) = _
  rw [show ((i.toNat : Nat) : Int) = i by omega]
theorem dwS_yes {q : (Int → Int) × (Int → Int) × Int} {p k : Int} (h : q.2.1 k < p) : dwS p k q = (up q.1 q.2.2 (q.1 k), up q.2.1 q.2.2 (q.2.1 k), q.2.2 + 1) := if_pos h
theorem dwS_no {q : (Int → Int) × (Int → Int) × Int} {p k : Int} (h : ¬ q.2.1 k < p) : dwS p k q = q := if_neg h
theorem dwL_yes {a b A B A2 B2 : Int → Int} {p i n z w n2 : Int} (q : dwL a b p i.toNat = (A, B, n)) (i0 : 0 ≤ i) (ez : B i = z) (ew : A i = w) (h : z < p) (e1 : A2 = up A n w) (e2 : B2 = up B n z) (en : n2 = n + 1) : dwL a b p (i + 1).toNat = (A2, B2, n2) := by
  subst ez ew e1 e2 en
  rw [dwL_succ i0, q]
  exact dwS_yes (q := (A, B, n)) h
theorem dwL_no {a b A B : Int → Int} {p i n z : Int} (q : dwL a b p i.toNat = (A, B, n)) (i0 : 0 ≤ i) (ez : B i = z) (h : ¬ z < p) : dwL a b p (i + 1).toNat = (A, B, n) := by
  subst ez
  rw [dwL_succ i0, q]
  exact dwS_no (q := (A, B, n)) h
theorem dwL_cong {a b c d : Int → Int} {p : Int} (h1 : EqN a c 12) (h2 : EqN b d 12) : ∀ k : Nat, k ≤ 12 → EqN (dwL a b p k).1 (dwL c d p k).1 12 ∧ EqN (dwL a b p k).2.1 (dwL c d p k).2.1 12 ∧ (dwL a b p k).2.2 = (dwL c d p k).2.2 ∧ 0 ≤ (dwL a b p k).2.2 ∧ (dwL a b p k).2.2 ≤ k := fun k => by
  induction k with
  | zero => intro _; exact ⟨h1, h2, rfl, Int.le_refl _, Int.le_refl _⟩
  | succ k ih =>
    intro hk
    obtain ⟨i1, i2, i3, i4, i5⟩ := ih (by omega)
    have e : (dwL a b p k).2.1 k = (dwL c d p k).2.1 k := i2 k (by omega) (by omega)
    have e1 : (dwL a b p k).1 k = (dwL c d p k).1 k := i1 k (by omega) (by omega)
    show EqN (dwS p k (dwL a b p k)).1 (dwS p k (dwL c d p k)).1 12 ∧ EqN (dwS p k (dwL a b p k)).2.1 (dwS p k (dwL c d p k)).2.1 12 ∧ (dwS p k (dwL a b p k)).2.2 = (dwS p k (dwL c d p k)).2.2 ∧ 0 ≤ (dwS p k (dwL a b p k)).2.2 ∧ (dwS p k (dwL a b p k)).2.2 ≤ ((k + 1 : Nat) : Int)
    by_cases h : (dwL a b p k).2.1 k < p
    · rw [dwS_yes h, dwS_yes (by rw [← e]; exact h)]
      refine ⟨EqN.ups i1 i3 e1, EqN.ups i2 i3 e, ?_, ?_, ?_⟩
      · show (dwL a b p k).2.2 + 1 = (dwL c d p k).2.2 + 1
        rw [i3]
      · show 0 ≤ (dwL a b p k).2.2 + 1
        omega
      · show (dwL a b p k).2.2 + 1 ≤ ((k + 1 : Nat) : Int)
        omega
    · rw [dwS_no h, dwS_no (by rw [← e]; exact h)]
      exact ⟨i1, i2, i3, i4, by omega⟩
/-! walls -/
abbrev WP (u v x y : Int) : Prop := (u = x ∧ v = y) ∨ (u = y ∧ v = x)
def WM (a b : Int → Int) (k x y : Int) : Prop := (a k = x ∧ b k = y) ∨ (a k = y ∧ b k = x)
def WNo (a b : Int → Int) (n x y : Int) : Prop := ∀ k, 0 ≤ k → k < n → ¬ WM a b k x y
def WDi (a b : Int → Int) (n : Int) : Prop := ∀ i j, 0 ≤ i → i < j → j < n → ¬ WM a b j (a i) (b i)
theorem WNo_0 {a b : Int → Int} {x y : Int} : WNo a b 0 x y := fun k _ _ => by omega
theorem WNo.step {a b : Int → Int} {i x y : Int} (q : WNo a b i x y) (h : ¬ ((a i = x ∧ b i = y) ∨ (a i = y ∧ b i = x))) : WNo a b (i + 1) x y := fun k a0 a1 => by
  by_cases e : k = i
  · rw [e]; exact h
  · exact q k a0 (by omega)
theorem WNo.hit {a b : Int → Int} {i n x y : Int} (i0 : 0 ≤ i) (i1 : i < n) (h : (a i = x ∧ b i = y) ∨ (a i = y ∧ b i = x)) : ¬ WNo a b n x y := fun q => q i i0 i1 h
theorem WNo.at {a b : Int → Int} {i n x y : Int} (q : WNo a b i x y) (e : i = n) : WNo a b n x y := e ▸ q
theorem WNo.end {a b : Int → Int} {i n x y : Int} (q : WNo a b i x y) (e : n ≤ i) : WNo a b n x y := fun k h0 h1 => q k h0 (by omega)
theorem WM.sym {a b : Int → Int} {i k : Int} (h : WM a b i (a k) (b k)) : WM a b k (a i) (b i) := by
  rcases h with h | h
  · exact Or.inl ⟨h.1.symm, h.2.symm⟩
  · exact Or.inr ⟨h.2.symm, h.1.symm⟩
theorem WM.two {a b : Int → Int} {i k x y : Int} (h : WM a b i x y) (g : WM a b k x y) : WM a b i (a k) (b k) := by
  rcases h with h | h <;> rcases g with g | g
  · exact Or.inl ⟨h.1.trans g.1.symm, h.2.trans g.2.symm⟩
  · exact Or.inr ⟨h.1.trans g.2.symm, h.2.trans g.1.symm⟩
  · exact Or.inr ⟨h.1.trans g.2.symm, h.2.trans g.1.symm⟩
  · exact Or.inl ⟨h.1.trans g.1.symm, h.2.trans g.2.symm⟩
theorem WM.of {a b : Int → Int} {i k x y : Int} (h : WM a b i (a k) (b k)) (g : WM a b k x y) : WM a b i x y := by
  rcases h with h | h <;> rcases g with g | g
  · exact Or.inl ⟨h.1.trans g.1, h.2.trans g.2⟩
  · exact Or.inr ⟨h.1.trans g.1, h.2.trans g.2⟩
  · exact Or.inr ⟨h.1.trans g.2, h.2.trans g.1⟩
  · exact Or.inl ⟨h.1.trans g.2, h.2.trans g.1⟩
theorem WM.pair {a b : Int → Int} {i x y u v : Int} (h : WM a b i x y) (g : WM a b i u v) : WP u v x y := by
  rcases h with h | h <;> rcases g with g | g
  · exact Or.inl ⟨g.1.symm.trans h.1, g.2.symm.trans h.2⟩
  · exact Or.inr ⟨g.2.symm.trans h.2, g.1.symm.trans h.1⟩
  · exact Or.inr ⟨g.1.symm.trans h.1, g.2.symm.trans h.2⟩
  · exact Or.inl ⟨g.2.symm.trans h.2, g.1.symm.trans h.1⟩
theorem WM.to {a b : Int → Int} {i x y u v : Int} (h : WM a b i u v) (g : WP u v x y) : WM a b i x y := by
  rcases h with h | h <;> rcases g with g | g
  · exact Or.inl ⟨h.1.trans g.1, h.2.trans g.2⟩
  · exact Or.inr ⟨h.1.trans g.1, h.2.trans g.2⟩
  · exact Or.inr ⟨h.1.trans g.2, h.2.trans g.1⟩
  · exact Or.inl ⟨h.1.trans g.2, h.2.trans g.1⟩
theorem WM.eq {a b c d : Int → Int} {i k x y : Int} (h : WM a b i x y) (e1 : c k = a i) (e2 : d k = b i) : WM c d k x y := by
  unfold WM
  rw [e1, e2]; exact h
theorem WNo.cg {a b c d : Int → Int} {n x y : Int} (h1 : EqN a c n) (h2 : EqN b d n) : WNo a b n x y ↔ WNo c d n x y :=
  ⟨fun q k h0 k1 w => q k h0 k1 (WM.eq w (h1 k h0 k1) (h2 k h0 k1)), fun q k h0 k1 w => q k h0 k1 (WM.eq w (h1 k h0 k1).symm (h2 k h0 k1).symm)⟩
theorem WDi.cg {a b c d : Int → Int} {n : Int} (h1 : EqN a c n) (h2 : EqN b d n) (q : WDi a b n) : WDi c d n := fun i j i0 ij j1 w => by
  refine q i j i0 ij j1 ?_
  rw [h1 i i0 (by omega), h2 i i0 (by omega)]
  exact WM.eq w (h1 j (by omega) j1) (h2 j (by omega) j1)
/-- those that are not the one told, in their order -/
noncomputable def flS (x y k : Int) (q : (Int → Int) × (Int → Int) × Int) : (Int → Int) × (Int → Int) × Int := iF (WM q.1 q.2.1 k x y) q (up q.1 q.2.2 (q.1 k), up q.2.1 q.2.2 (q.2.1 k), q.2.2 + 1)
noncomputable def flL (a b : Int → Int) (x y : Int) : Nat → (Int → Int) × (Int → Int) × Int
  | 0 => (a, b, 0)
  | k + 1 => flS x y k (flL a b x y k)
theorem flL_succ {a b : Int → Int} {x y i : Int} (i0 : 0 ≤ i) : flL a b x y (i + 1).toNat = flS x y i (flL a b x y i.toNat) := by
  rw [show (i + 1).toNat = i.toNat + 1 by omega]
  show flS x y (i.toNat : Int) (flL a b x y i.toNat) = _
  rw [show ((i.toNat : Nat) : Int) = i by omega]
theorem flS_no {q : (Int → Int) × (Int → Int) × Int} {x y k : Int} (h : ¬ WM q.1 q.2.1 k x y) : flS x y k q = (up q.1 q.2.2 (q.1 k), up q.2.1 q.2.2 (q.2.1 k), q.2.2 + 1) := iF_neg h
theorem flS_yes {q : (Int → Int) × (Int → Int) × Int} {x y k : Int} (h : WM q.1 q.2.1 k x y) : flS x y k q = q := iF_pos h
theorem flL_cong {a b c d : Int → Int} {x y : Int} (h1 : EqN a c 8) (h2 : EqN b d 8) : ∀ k : Nat, k ≤ 8 → EqN (flL a b x y k).1 (flL c d x y k).1 8 ∧ EqN (flL a b x y k).2.1 (flL c d x y k).2.1 8 ∧ (flL a b x y k).2.2 = (flL c d x y k).2.2 ∧ 0 ≤ (flL a b x y k).2.2 ∧ (flL a b x y k).2.2 ≤ k := fun k => by
  induction k with
  | zero => intro _; exact ⟨h1, h2, rfl, Int.le_refl _, Int.le_refl _⟩
  | succ k ih =>
    intro hk
    obtain ⟨i1, i2, i3, i4, i5⟩ := ih (by omega)
    have e : (flL a b x y k).2.1 k = (flL c d x y k).2.1 k := i2 k (by omega) (by omega)
    have e1 : (flL a b x y k).1 k = (flL c d x y k).1 k := i1 k (by omega) (by omega)
    show EqN (flS x y k (flL a b x y k)).1 (flS x y k (flL c d x y k)).1 8 ∧ EqN (flS x y k (flL a b x y k)).2.1 (flS x y k (flL c d x y k)).2.1 8 ∧ (flS x y k (flL a b x y k)).2.2 = (flS x y k (flL c d x y k)).2.2 ∧ 0 ≤ (flS x y k (flL a b x y k)).2.2 ∧ (flS x y k (flL a b x y k)).2.2 ≤ ((k + 1 : Nat) : Int)
    by_cases h : WM (flL a b x y k).1 (flL a b x y k).2.1 k x y
    · rw [flS_yes h, flS_yes (WM.eq h e1.symm e.symm)]
      exact ⟨i1, i2, i3, i4, by omega⟩
    · rw [flS_no h, flS_no (fun w => h (WM.eq w e1 e))]
      refine ⟨EqN.ups i1 i3 e1, EqN.ups i2 i3 e, ?_, ?_, ?_⟩
      · show (flL a b x y k).2.2 + 1 = (flL c d x y k).2.2 + 1
        rw [i3]
      · show 0 ≤ (flL a b x y k).2.2 + 1
        omega
      · show (flL a b x y k).2.2 + 1 ≤ ((k + 1 : Nat) : Int)
        omega
/-- what is left of walls that are all others -/
theorem flL_inv {a b : Int → Int} {x y n : Int} (hd : WDi a b n) : ∀ k : Nat, (k : Int) ≤ n →
    (∀ j : Int, (k : Int) ≤ j → (flL a b x y k).1 j = a j ∧ (flL a b x y k).2.1 j = b j) ∧
    (∀ u v, WNo (flL a b x y k).1 (flL a b x y k).2.1 (flL a b x y k).2.2 u v ↔ ∀ i : Int, 0 ≤ i → i < k → ¬ WM a b i x y → ¬ WM a b i u v) ∧
    WDi (flL a b x y k).1 (flL a b x y k).2.1 (flL a b x y k).2.2 ∧
    (WNo a b k x y → (flL a b x y k).2.2 = k) ∧ (¬ WNo a b k x y → (flL a b x y k).2.2 = (k : Int) - 1) ∧ 0 ≤ (flL a b x y k).2.2 ∧ (flL a b x y k).2.2 ≤ k := fun k => by
  induction k with
  | zero =>
    intro _
    refine ⟨fun j _ => ⟨rfl, rfl⟩, fun u v => ⟨fun _ i i0 i1 => by omega, fun _ i i0 i1 => ?_⟩, fun i j i0 ij j1 => ?_, fun _ => rfl, fun w => absurd (WNo_0) w, Int.le_refl _, Int.le_refl _⟩
    · have : i < 0 := i1
      omega
    · have : j < 0 := j1
      omega
  | succ k ih =>
    intro hk
    obtain ⟨p1, p2, p3, p4, p5, p6, p7⟩ := ih (by omega)
    have ea : (flL a b x y k).1 k = a k := (p1 k (Int.le_refl _)).1
    have eb : (flL a b x y k).2.1 k = b k := (p1 k (Int.le_refl _)).2
    show (∀ j : Int, ((k + 1 : Nat) : Int) ≤ j → (flS x y k (flL a b x y k)).1 j = a j ∧ (flS x y k (flL a b x y k)).2.1 j = b j) ∧
      (∀ u v, WNo (flS x y k (flL a b x y k)).1 (flS x y k (flL a b x y k)).2.1 (flS x y k (flL a b x y k)).2.2 u v ↔ ∀ i : Int, 0 ≤ i → i < ((k + 1 : Nat) : Int) → ¬ WM a b i x y → ¬ WM a b i u v) ∧
      WDi (flS x y k (flL a b x y k)).1 (flS x y k (flL a b x y k)).2.1 (flS x y k (flL a b x y k)).2.2 ∧
      (WNo a b ((k + 1 : Nat) : Int) x y → (flS x y k (flL a b x y k)).2.2 = ((k + 1 : Nat) : Int)) ∧ (¬ WNo a b ((k + 1 : Nat) : Int) x y → (flS x y k (flL a b x y k)).2.2 = ((k + 1 : Nat) : Int) - 1) ∧ 0 ≤ (flS x y k (flL a b x y k)).2.2 ∧ (flS x y k (flL a b x y k)).2.2 ≤ ((k + 1 : Nat) : Int)
    by_cases h : WM a b k x y
    · have no : WNo a b k x y := fun i i0 i1 w => hd i k i0 i1 (by omega) (WM.two h w)
      rw [flS_yes (WM.eq h ea eb)]
      refine ⟨fun j hj => p1 j (by omega), fun u v => ⟨fun q i i0 i1 w => ?_, fun q => (p2 u v).mpr (fun i i0 i1 => q i i0 (by omega))⟩, p3, fun w => absurd h (w k (by omega) (by omega)), fun _ => by rw [p4 no]; omega, p6, by omega⟩
      by_cases e : i = k
      · rw [e] at w; exact absurd h w
      · exact (p2 u v).mp q i i0 (by omega) w
    · rw [flS_no (fun w => h (WM.eq w ea.symm eb.symm))]
      obtain ⟨m, em⟩ : ∃ m : Int, (flL a b x y k).2.2 = m := ⟨_, rfl⟩
      obtain ⟨A, eA⟩ : ∃ A : Int → Int, (flL a b x y k).1 = A := ⟨_, rfl⟩
      obtain ⟨B, eB⟩ : ∃ B : Int → Int, (flL a b x y k).2.1 = B := ⟨_, rfl⟩
      rw [em, eA, eB] at p2 p3
      rw [em] at p4 p5 p6 p7
      rw [eA] at ea p1
      rw [eB] at eb p1
      rw [em, eA, eB, ea, eb]
      have nw : ∀ u v, WNo (up A m (a k)) (up B m (b k)) (m + 1) u v ↔ (WNo A B m u v ∧ ¬ WM a b k u v) := fun u v => by
        refine ⟨fun q => ⟨fun i i0 i1 w => q i i0 (by omega) (WM.eq w (up_ne (by omega)) (up_ne (by omega))), fun w => q m p6 (by omega) (WM.eq w (up_same _ _ _) (up_same _ _ _))⟩, fun q i i0 i1 w => ?_⟩
        by_cases e : i = m
        · exact q.2 (WM.eq w (by rw [e, up_same]) (by rw [e, up_same]))
        · exact q.1 i i0 (by omega) (WM.eq w (up_ne e).symm (up_ne e).symm)
      refine ⟨fun j hj => ⟨?_, ?_⟩, fun u v => ?_, fun i j i0 ij j1 w => ?_, fun q => ?_, fun q => ?_, ?_, ?_⟩
      · show up A m (a k) j = a j
        rw [up_ne (by omega)]; exact (p1 j (by omega)).1
      · show up B m (b k) j = b j
        rw [up_ne (by omega)]; exact (p1 j (by omega)).2
      · show WNo (up A m (a k)) (up B m (b k)) (m + 1) u v ↔ _
        rw [nw u v, p2 u v]
        refine ⟨fun q i i0 i1 w => ?_, fun q => ⟨fun i i0 i1 => q i i0 (by omega), q k (by omega) (by omega) h⟩⟩
        by_cases e : i = k
        · rw [e]; exact q.2
        · exact q.1 i i0 (by omega) w
      · have w : WM (up A m (a k)) (up B m (b k)) j (up A m (a k) i) (up B m (b k) i) := w
        have j1 : j < m + 1 := j1
        by_cases e : j = m
        · rw [up_ne (show ¬ i = m by omega), up_ne (show ¬ i = m by omega)] at w
          have w2 : WM a b k (A i) (B i) := WM.eq w (by rw [e, up_same]) (by rw [e, up_same])
          have nn : ¬ WNo A B m (a k) (b k) := fun q => q i i0 (by omega) (by
            rcases w2 with w2 | w2
            · exact Or.inl ⟨w2.1.symm, w2.2.symm⟩
            · exact Or.inr ⟨w2.2.symm, w2.1.symm⟩)
          refine nn ((p2 _ _).mpr (fun r r0 r1 _ g => hd r k r0 r1 (by omega) (WM.sym g)))
        · rw [up_ne (show ¬ i = m by omega), up_ne (show ¬ i = m by omega)] at w
          exact p3 i j i0 ij (by omega) (WM.eq w (up_ne e).symm (up_ne e).symm)
      · show m + 1 = ((k + 1 : Nat) : Int)
        rw [p4 (fun i i0 i1 => q i i0 (by omega))]; omega
      · show m + 1 = ((k + 1 : Nat) : Int) - 1
        rw [p5 (fun z => q (fun i i0 i1 w => by
          by_cases e : i = k
          · rw [e] at w; exact h w
          · exact z i i0 (by omega) w))]; omega
      · show 0 ≤ m + 1
        omega
      · show m + 1 ≤ ((k + 1 : Nat) : Int)
        omega
