/-! rows for the reference: a law is read -/
def Cc (cc : Int → Int) (n x : Int) : Int := if 0 ≤ x ∧ x < n then cc x else 0
theorem Cc_at {cc : Int → Int} {n x z : Int} (h0 : 0 ≤ x) (h1 : x ≤ n) (hn : cc n = 0) (e : cc x = z) : Cc cc n x = z := by
  unfold Cc
  by_cases r : x < n
  · rw [if_pos ⟨h0, r⟩, e]
  · rw [if_neg (by omega)]
    have : x = n := by omega
    rw [← e, this, hn]
theorem Cc_lt {cc : Int → Int} {n x z : Int} (e : Cc cc n x = z) (hz : 1 ≤ z) : x < n := by
  unfold Cc at e
  by_cases r : 0 ≤ x ∧ x < n
  · exact r.2
  · rw [if_neg r] at e; omega
/-- the beginning of a chain -/
def ChP (P : Int → Int → Prop) (S : Int → Prop) (a m : Int) : Prop := ∀ b, Tl P S m b → Ch P S a b
theorem ChP_1 {P : Int → Int → Prop} {S : Int → Prop} {a m : Int} (p : P a m) (h : a < m) : ChP P S a m := fun _ t => ⟨m, p, h, t⟩
theorem ChP.add {P : Int → Int → Prop} {S : Int → Prop} {a m x m' : Int} (q : ChP P S a m) (s : S m) (p : P x m') (h : x < m') (ex : x = m + 1) : ChP P S a m' := fun b t => by
  subst ex
  obtain ⟨k, t⟩ := t
  exact q b ⟨k + 1, s, m', p, h, t⟩
theorem ChP.end {P : Int → Int → Prop} {S : Int → Prop} {a m : Int} (q : ChP P S a m) (s : ¬ S m) : Ch P S a m := q m ⟨0, rfl, s⟩
def LwP (C : Int → Int) (ge a b : Int) : Prop := LawT C ge (b + 1) → LawT C ge a
theorem LwP_1 {C : Int → Int} {ge a b : Int} (p : ClauG C a b) (h : a < b) (h1 : b ≤ ge) : LwP C ge a b := fun t => by
  obtain ⟨k, t⟩ := t
  exact ⟨k + 1, by omega, b, p, h, h1, t⟩
theorem LwP.add {C : Int → Int} {ge a b x b' : Int} (q : LwP C ge a b) (p : ClauG C x b') (h : x < b') (h1 : b' ≤ ge) (ex : x = b + 1) : LwP C ge a b' := fun t => by
  subst ex
  exact q (LwP_1 p h h1 t)
theorem LwP.end {C : Int → Int} {ge a b : Int} (q : LwP C ge a b) (h : ge ≤ b) : LawT C ge a := q ⟨0, by show ge ≤ b + 1; omega⟩
def Nts (C : Int → Int) (a m : Int) : Prop := ∀ j, a ≤ j → j < m → C j = 7
theorem Nts_0 {C : Int → Int} {a : Int} : Nts C a a := fun j x y => by omega
theorem Nts.add {C : Int → Int} {a m m2 : Int} (q : Nts C a m) (e : C m = 7) (em : m2 = m + 1) : Nts C a m2 := fun j x y => by
  by_cases r : j = m
  · rw [r]; exact e
  · exact q j x (by omega)
theorem PartG.lf {C : Int → Int} {n : Nat} {a b : Int} (h : LfG C a b) : PartG C n a b := by
  cases n with
  | zero => exact h
  | succ n => exact .inl h
theorem PosG.of {C : Int → Int} {n : Nat} {a b m x : Int} (h : ¬ C a = 140) (s1 : SumG C n a m) (h1 : a < m) (h2 : m + 1 < b) (ex : x = m + 1) (s2 : SumG C n x b) : PosG C n a b := by
  subst ex
  cases n with
  | zero => exact ⟨h, m, s1, h1, h2, s2⟩
  | succ n => exact .inl ⟨h, m, s1, h1, h2, s2⟩
theorem LfG.mk {C : Int → Int} {a b z : Int} (e : C a = z) (h : z = 50 ∨ (8 ≤ z ∧ z ≤ 15)) (eb : b = a + 1) : LfG C a b := ⟨eb, by rw [e]; exact h⟩
theorem PartG.bk {C : Int → Int} {n : Nat} {a b x m : Int} (e : C a = 191) (ex : x = a + 1) (h : x < m) (p : SumG C n x m) (eb : b = m + 1) : PartG C (n + 1) a b := by
  subst ex eb
  exact .inr ⟨e, by omega, by rw [show m + 1 - 1 = m by omega]; exact p⟩
theorem PosG.bk {C : Int → Int} {n : Nat} {a b x m : Int} (e : C a = 140) (ex : x = a + 1) (h : x < m) (p : TestG C n x m) (eb : b = m + 1) : PosG C (n + 1) a b := by
  subst ex eb
  exact .inr ⟨e, by omega, by rw [show m + 1 - 1 = m by omega]; exact p⟩
/-- the same text at another place -/
theorem TlN.sh {P Q : Int → Int → Prop} {S T : Int → Prop} {d : Int} (hP : ∀ a b, 0 ≤ a → P a b → Q (a + d) (b + d)) (hS : ∀ m, 0 ≤ m → (S m ↔ T (m + d))) : ∀ (k : Nat) (m b : Int), 0 ≤ m → TlN P S k m b → TlN Q T k (m + d) (b + d)
  | 0, m, b, h, t => ⟨by rw [t.1], fun w => t.2 ((hS m h).mpr w)⟩
  | k + 1, m, b, h, ⟨s, m', p, l, t⟩ => ⟨(hS m h).mp s, m' + d, by have := hP _ _ (by omega) p; rw [show m + 1 + d = m + d + 1 by omega] at this; exact this, by omega, TlN.sh hP hS k m' b (by omega) t⟩
theorem Ch.sh {P Q : Int → Int → Prop} {S T : Int → Prop} {d : Int} (hP : ∀ a b, 0 ≤ a → P a b → Q (a + d) (b + d)) (hS : ∀ m, 0 ≤ m → (S m ↔ T (m + d))) {a b : Int} (h : 0 ≤ a) (q : Ch P S a b) : Ch Q T (a + d) (b + d) := by
  obtain ⟨m, p, l, k, t⟩ := q
  exact ⟨m + d, hP _ _ h p, by omega, k, TlN.sh hP hS k m b (by omega) t⟩
theorem S2.sh {C D : Int → Int} {x y d : Int} (e : ∀ m, 0 ≤ m → D (m + d) = C m) : ∀ m, 0 ≤ m → (S2 C x y m ↔ S2 D x y (m + d)) := fun m h => by
  unfold S2; rw [e m h]
theorem S1.sh {C D : Int → Int} {x d : Int} (e : ∀ m, 0 ≤ m → D (m + d) = C m) : ∀ m, 0 ≤ m → (S1 C x m ↔ S1 D x (m + d)) := fun m h => by
  unfold S1; rw [e m h]
theorem LfG.sh {C D : Int → Int} {d : Int} (e : ∀ m, 0 ≤ m → D (m + d) = C m) {a b : Int} (h : 0 ≤ a) (q : LfG C a b) : LfG D (a + d) (b + d) := ⟨by have := q.1; omega, by rw [e a h]; exact q.2⟩
theorem PartG.sh {C D : Int → Int} {d : Int} (e : ∀ m, 0 ≤ m → D (m + d) = C m) : ∀ (n : Nat) (a b : Int), 0 ≤ a → PartG C n a b → PartG D n (a + d) (b + d) := by
  intro n
  induction n with
  | zero => exact fun a b h q => LfG.sh e h q
  | succ n ih =>
    intro a b h q
    rcases q with w | ⟨w1, w2, w3⟩
    · exact .inl (LfG.sh e h w)
    · refine .inr ⟨by rw [e a h]; exact w1, by omega, ?_⟩
      have := Ch.sh (fun a b h q => Ch.sh ih (S2.sh (x := 142) (y := 147) e) h q) (S2.sh (x := 143) (y := 145) e) (by omega) w3
      rw [show a + d + 1 = a + 1 + d by omega, show b + d - 1 = b - 1 + d by omega]
      exact this
theorem SumG.sh {C D : Int → Int} {d : Int} (e : ∀ m, 0 ≤ m → D (m + d) = C m) (n : Nat) {a b : Int} (h : 0 ≤ a) (q : SumG C n a b) : SumG D n (a + d) (b + d) :=
  Ch.sh (fun _ _ h q => Ch.sh (PartG.sh e n) (S2.sh (x := 142) (y := 147) e) h q) (S2.sh (x := 143) (y := 145) e) h q
theorem two.sh {C D : Int → Int} {d : Int} (e : ∀ m, 0 ≤ m → D (m + d) = C m) (n : Nat) {a b : Int} (h : 0 ≤ a) (q : ¬ C a = 140 ∧ ∃ m, SumG C n a m ∧ a < m ∧ m + 1 < b ∧ SumG C n (m + 1) b) : ¬ D (a + d) = 140 ∧ ∃ m, SumG D n (a + d) m ∧ a + d < m ∧ m + 1 < b + d ∧ SumG D n (m + 1) (b + d) := by
  obtain ⟨q1, m, q2, q3, q4, q5⟩ := q
  refine ⟨by rw [e a h]; exact q1, m + d, SumG.sh e n h q2, by omega, by omega, ?_⟩
  have := SumG.sh e n (by omega : 0 ≤ m + 1) q5
  rw [show m + d + 1 = m + 1 + d by omega]
  exact this
theorem plain.sh {C D : Int → Int} {P Q : Int → Int → Prop} {d : Int} (e : ∀ m, 0 ≤ m → D (m + d) = C m) (hP : ∀ a b, 0 ≤ a → P a b → Q (a + d) (b + d)) : ∀ x y, 0 ≤ x → (∃ m, x ≤ m ∧ (∀ j, x ≤ j → j < m → C j = 7) ∧ ¬ C m = 7 ∧ m < y ∧ P m y) → ∃ m, x + d ≤ m ∧ (∀ j, x + d ≤ j → j < m → D j = 7) ∧ ¬ D m = 7 ∧ m < y + d ∧ Q m (y + d) := fun x y h q => by
  obtain ⟨m, q1, q2, q3, q4, q5⟩ := q
  refine ⟨m + d, by omega, fun j a b => ?_, by rw [e m (by omega)]; exact q3, by omega, hP m y (by omega) q5⟩
  have := q2 (j - d) (by omega) (by omega)
  rw [← e (j - d) (by omega), show j - d + d = j by omega] at this
  exact this
theorem PosG.sh {C D : Int → Int} {d : Int} (e : ∀ m, 0 ≤ m → D (m + d) = C m) : ∀ (n : Nat) (a b : Int), 0 ≤ a → PosG C n a b → PosG D n (a + d) (b + d) := by
  intro n
  induction n with
  | zero => exact fun a b h q => two.sh e 0 h q
  | succ n ih =>
    intro a b h q
    rcases q with w | ⟨w1, w2, w3⟩
    · exact .inl (two.sh e (n + 1) h w)
    · refine .inr ⟨by rw [e a h]; exact w1, by omega, ?_⟩
      have := Ch.sh (fun a b h q => Ch.sh (Q := fun x y => ∃ m, x ≤ m ∧ (∀ j, x ≤ j → j < m → D j = 7) ∧ ¬ D m = 7 ∧ m < y ∧ PosG D n m y) (plain.sh e ih) (S1.sh (x := 6) e) h q) (S1.sh (x := 5) e) (by omega) w3
      rw [show a + d + 1 = a + 1 + d by omega, show b + d - 1 = b - 1 + d by omega]
      exact this
theorem TestG.sh {C D : Int → Int} {d : Int} (e : ∀ m, 0 ≤ m → D (m + d) = C m) (n : Nat) {a b : Int} (h : 0 ≤ a) (q : TestG C n a b) : TestG D n (a + d) (b + d) :=
  Ch.sh (fun _ _ h q => Ch.sh (Q := PlainG D n) (plain.sh e (PosG.sh e n)) (S1.sh (x := 6) e) h q) (S1.sh (x := 5) e) h q
theorem ClauG.sh {C D : Int → Int} {d : Int} (e : ∀ m, 0 ≤ m → D (m + d) = C m) {a b : Int} (h : 0 ≤ a) (q : ClauG C a b) : ClauG D (a + d) (b + d) := by
  obtain ⟨m, q1, q2⟩ := q
  have hm : 0 ≤ m := by rcases q1 with ⟨_, _, w⟩ | ⟨_, w⟩ <;> omega
  refine ⟨m + d, ?_, ?_⟩
  · rw [e a h]
    rcases q1 with ⟨w1, w2, w3⟩ | ⟨w1, w2⟩
    · refine .inl ⟨w1, ?_, by omega⟩
      rw [show a + d + 1 = a + 1 + d by omega]
      exact SumG.sh e 8 (by omega) w2
    · exact .inr ⟨w1, by omega⟩
  · rw [e m hm]
    rcases q2 with ⟨w1, w2, w3⟩ | ⟨w1, w2⟩
    · refine .inl ⟨w1, ?_, by omega⟩
      rw [show m + d + 1 = m + 1 + d by omega]
      exact TestG.sh e 8 (by omega) w2
    · exact .inr ⟨w1, by omega⟩
theorem LawN.sh {C D : Int → Int} {d ge : Int} (e : ∀ m, 0 ≤ m → D (m + d) = C m) : ∀ (k : Nat) (a : Int), 0 ≤ a → LawN C ge k a → LawN D (ge + d) k (a + d)
  | 0, a, _, q => by
    have q : ge ≤ a := q
    show ge + d ≤ a + d
    omega
  | k + 1, a, h, ⟨q1, b, q2, q3, q4, q5⟩ => by
    refine ⟨by omega, b + d, ClauG.sh e h q2, by omega, by omega, ?_⟩
    rw [show b + d + 1 = b + 1 + d by omega]
    exact LawN.sh e k (b + 1) (by omega) q5
theorem LawT.sh {C D : Int → Int} {d ge a : Int} (e : ∀ m, 0 ≤ m → D (m + d) = C m) (h : 0 ≤ a) (q : LawT C ge a) : LawT D (ge + d) (a + d) := by
  obtain ⟨k, q⟩ := q
  exact ⟨k, LawN.sh e k a h q⟩
/-- a law is laid beside the others -/
def LwQ (K Kx cc : Int → Int) (t n k : Int) : Prop := (∀ j, j < 70 → ¬ j = 64 + t → Kx j = K j) ∧ Kx (64 + t) = n ∧ (∀ j, 70 ≤ j → j < 70 + 400 * t → Kx j = K j) ∧ ∀ x, 0 ≤ x → x < k → Kx (70 + 400 * t + x) = cc x
theorem LwQ_0 {K Kx cc : Int → Int} {t n i : Int} (ei : i = 64 + t) (h : t ≤ 5) (e : Kx = up K i n) : LwQ K Kx cc t n 0 := by
  subst ei e
  refine ⟨fun j a b => up_ne b, up_same _ _ _, fun j a b => up_ne (by omega), fun x a b => by omega⟩
theorem LwQ.add {K Kx K1 K2 cc : Int → Int} {t n k i j v w : Int} (q : LwQ K Kx cc t n k) (t0 : 0 ≤ t) (t5 : t ≤ 5) (k0 : 0 ≤ k) (k1 : k < 400) (ei : i = 70 + 400 * t + k) (ev : cc k = v) (e1 : K1 = up Kx i v) (ej : j = 2470 + 400 * t + k) (e2 : K2 = up K1 j w) : LwQ K K2 cc t n (k + 1) := by
  subst ei ej e1 e2
  refine ⟨fun x a b => ?_, ?_, fun x a b => ?_, fun x a b => ?_⟩
  · rw [up_ne (by omega), up_ne (by omega)]; exact q.1 x a b
  · rw [up_ne (by omega), up_ne (by omega)]; exact q.2.1
  · rw [up_ne (by omega), up_ne (by omega)]; exact q.2.2.1 x a b
  · rw [up_ne (by omega)]
    by_cases r : x = k
    · rw [r, up_same, ev]
    · rw [up_ne (by omega)]; exact q.2.2.2 x a (by omega)
theorem bsum_same {K K2 : Int → Int} (h : ∀ j, 0 ≤ j → j < 5 → K2 j = K j) : bsum K2 = bsum K := by
  unfold bsum
  rw [h 0 (by omega) (by omega), h 1 (by omega) (by omega), h 2 (by omega) (by omega), h 3 (by omega) (by omega), h 4 (by omega) (by omega)]
theorem okF_same {K K2 : Int → Int} (q : okF K) (h : ∀ j, 0 ≤ j → j < 5 → K2 j = K j) : okF K2 := by
  unfold okF at q ⊢
  rw [bsum_same h, h 0 (by omega) (by omega), h 1 (by omega) (by omega), h 2 (by omega) (by omega), h 3 (by omega) (by omega), h 4 (by omega) (by omega)]
  exact q
theorem Hi_same {K K2 : Int → Int} (h : ∀ j, 0 ≤ j → j < 5 → K2 j = K j) : Hi K2 = Hi K := by
  have e : seg (colAt K2) 0 (bsum K2).toNat = seg (colAt K) 0 (bsum K).toNat := by
    rw [bsum_same h]
    have c : colAt K2 = colAt K := by
      funext j
      unfold colAt
      simp only [h 0 (by omega) (by omega), h 1 (by omega) (by omega), h 2 (by omega) (by omega), h 3 (by omega) (by omega)]
    rw [c]
  unfold Hi Hn
  rw [e]
/-- what is kept stays in order when a law is laid beside the others -/
theorem KOK.law {K Kx K2 cc : Int → Int} {t n k w : Int} (h : KOK K) (et : K 62 = t) (t5 : t ≤ 5) (q : LwQ K Kx cc t n k) (hk : n ≤ k) (n0 : 0 ≤ n) (n1 : n ≤ 400) (L : LawT (Cc cc n) n 0) (e : K2 = up Kx 62 w) (ew : w = t + 1) (r : Rg K2 4870 (-2147483648) 2147483647) : KOK K2 := by
  obtain ⟨h1, h2, h3, h4, h5, h6, h7, h8, h9, h10⟩ := h
  rw [et] at h7 h8
  have lo : ∀ j, j < 64 → ¬ j = 62 → K2 j = K j := fun j a b => by rw [e, up_ne b]; exact q.1 j (by omega) (by omega)
  have e62 : K2 62 = t + 1 := by rw [e, up_same, ew]
  have l5 : ∀ j, 0 ≤ j → j < 5 → K2 j = K j := fun j a b => lo j (by omega) (by omega)
  refine ⟨okF_same h1 l5, by rw [lo 59 (by omega) (by omega)]; exact h2, by rw [lo 60 (by omega) (by omega)]; exact h3, ?_, by rw [lo 61 (by omega) (by omega)]; exact h5, ?_, by rw [e62]; omega, by rw [lo 63 (by omega) (by omega), e62]; omega, r, ?_⟩
  · rw [lo 60 (by omega) (by omega), bsum_same l5]
    intro k a b
    rw [lo _ (by omega) (by omega), lo _ (by omega) (by omega)]
    exact h4 k a b
  · intro k a b
    rw [lo 61 (by omega) (by omega)] at b
    rw [lo _ (by omega) (by omega), Hi_same l5]
    exact h6 k a b
  · intro u u0 u1
    rw [e62] at u1
    by_cases c : u = t
    · subst c
      have es : K2 (64 + u) = n := by rw [e, up_ne (by omega)]; exact q.2.1
      rw [es]
      refine ⟨n0, n1, ?_⟩
      have s := LawT.sh (D := Cd K2 (400 * u + n)) (d := 400 * u) (fun m hm => by
        unfold Cd Cc
        by_cases z : m < n
        · rw [if_pos ⟨by omega, by omega⟩, if_pos ⟨hm, z⟩, e, up_ne (by omega), show 70 + (m + 400 * u) = 70 + 400 * u + m by omega]
          exact q.2.2.2 m hm (by omega)
        · rw [if_neg (by omega), if_neg (by omega)]) (Int.le_refl 0) L
      rw [show n + 400 * u = 400 * u + n by omega, show 0 + 400 * u = 400 * u by omega] at s
      exact s
    · have w1 := h10 u u0 (by omega)
      have es : K2 (64 + u) = K (64 + u) := by rw [e, up_ne (by omega)]; exact q.1 _ (by omega) (by omega)
      rw [es]
      refine ⟨w1.1, w1.2.1, ?_⟩
      rw [Cd_same (K := K) (fun x a b => by rw [e, up_ne (by omega)]; exact q.2.2.1 _ (by omega) (by omega))]
      exact w1.2.2
