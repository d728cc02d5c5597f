/-! rows for the reference: what a law that was read looks like -/
def Cd (K : Int → Int) (ge x : Int) : Int := if 0 ≤ x ∧ x < ge then K (70 + x) else 0
theorem Cd_in {K : Int → Int} {ge x i z : Int} (h0 : 0 ≤ x) (h : x < ge) (ei : i = 70 + x) (e : K i = z) : Cd K ge x = z := by
  subst ei
  unfold Cd
  rw [if_pos ⟨h0, h⟩, e]
theorem Cd_out {K : Int → Int} {ge x : Int} (h : ge ≤ x) : Cd K ge x = 0 := by
  unfold Cd
  rw [if_neg (by omega)]
theorem Cd_same {K K2 : Int → Int} {ge : Int} (h : ∀ x, 0 ≤ x → x < ge → K2 (70 + x) = K (70 + x)) : Cd K2 ge = Cd K ge := by
  funext x
  unfold Cd
  by_cases r : 0 ≤ x ∧ x < ge
  · rw [if_pos r, if_pos r, h x r.1 r.2]
  · rw [if_neg r, if_neg r]
def TlN (P : Int → Int → Prop) (S : Int → Prop) : Nat → Int → Int → Prop
  | 0 => fun m b => m = b ∧ ¬ S m
  | k + 1 => fun m b => S m ∧ ∃ m', P (m + 1) m' ∧ m + 1 < m' ∧ TlN P S k m' b
def Tl (P : Int → Int → Prop) (S : Int → Prop) (m b : Int) : Prop := ∃ k, TlN P S k m b
theorem TlN.le {P : Int → Int → Prop} {S : Int → Prop} : ∀ {k : Nat} {m b : Int}, TlN P S k m b → m ≤ b
  | 0, _, _, h => Int.le_of_eq h.1
  | _ + 1, _, _, h => by
    obtain ⟨_, m', _, l, t⟩ := h
    have := TlN.le t
    omega
theorem Tl.le {P : Int → Int → Prop} {S : Int → Prop} {m b : Int} (h : Tl P S m b) : m ≤ b := by
  obtain ⟨k, h⟩ := h
  exact TlN.le h
theorem Tl.next {P : Int → Int → Prop} {S : Int → Prop} {m b : Int} (h : Tl P S m b) (s : S m) : ∃ m', P (m + 1) m' ∧ m + 1 < m' ∧ Tl P S m' b ∧ m' ≤ b := by
  obtain ⟨k, h⟩ := h
  cases k with
  | zero => exact absurd s h.2
  | succ k =>
    obtain ⟨_, m', p, l, t⟩ := h
    exact ⟨m', p, l, ⟨k, t⟩, TlN.le t⟩
theorem Tl.stop {P : Int → Int → Prop} {S : Int → Prop} {m b : Int} (h : Tl P S m b) (s : ¬ S m) : m = b := by
  obtain ⟨k, h⟩ := h
  cases k with
  | zero => exact h.1
  | succ k => exact absurd h.1 s
def Ch (P : Int → Int → Prop) (S : Int → Prop) (a b : Int) : Prop := ∃ m, P a m ∧ a < m ∧ Tl P S m b
theorem Ch.opn {P : Int → Int → Prop} {S : Int → Prop} {a b : Int} (h : Ch P S a b) : ∃ m, P a m ∧ a < m ∧ Tl P S m b ∧ m ≤ b := by
  obtain ⟨m, x, y, z⟩ := h
  exact ⟨m, x, y, z, z.le⟩
def S2 (C : Int → Int) (x y m : Int) : Prop := C m = x ∨ C m = y
def S1 (C : Int → Int) (x m : Int) : Prop := C m = x
def LfG (C : Int → Int) (a b : Int) : Prop := b = a + 1 ∧ (C a = 50 ∨ (8 ≤ C a ∧ C a ≤ 15))
def PartG (C : Int → Int) : Nat → Int → Int → Prop
  | 0 => LfG C
  | n + 1 => fun a b => LfG C a b ∨ (C a = 191 ∧ a + 1 < b - 1 ∧ Ch (Ch (PartG C n) (S2 C 142 147)) (S2 C 143 145) (a + 1) (b - 1))
def TermG (C : Int → Int) (n : Nat) : Int → Int → Prop := Ch (PartG C n) (S2 C 142 147)
def SumG (C : Int → Int) (n : Nat) : Int → Int → Prop := Ch (TermG C n) (S2 C 143 145)
theorem PartG.no {C : Int → Int} {a b : Int} (h : PartG C 0 a b) (e : C a = 191) : False := by
  rcases h.2 with w | w <;> omega
theorem PartG.br {C : Int → Int} {n : Nat} {a b : Int} (h : PartG C (n + 1) a b) (e : C a = 191) : SumG C n (a + 1) (b - 1) ∧ a + 1 < b - 1 := by
  rcases h with w | w
  · rcases w.2 with u | u <;> omega
  · exact ⟨w.2.2, w.2.1⟩
theorem PartG.leaf {C : Int → Int} : ∀ {n : Nat} {a b : Int}, PartG C n a b → ¬ C a = 191 → LfG C a b
  | 0, _, _, h, _ => h
  | _ + 1, _, _, h, e => by
    rcases h with w | w
    · exact w
    · exact absurd w.1 e
def PosG (C : Int → Int) : Nat → Int → Int → Prop
  | 0 => fun a b => ¬ C a = 140 ∧ ∃ m, SumG C 0 a m ∧ a < m ∧ m + 1 < b ∧ SumG C 0 (m + 1) b
  | n + 1 => fun a b => (¬ C a = 140 ∧ ∃ m, SumG C (n + 1) a m ∧ a < m ∧ m + 1 < b ∧ SumG C (n + 1) (m + 1) b) ∨ (C a = 140 ∧ a + 1 < b - 1 ∧ Ch (Ch (fun x y => ∃ m, x ≤ m ∧ (∀ j, x ≤ j → j < m → C j = 7) ∧ ¬ C m = 7 ∧ m < y ∧ PosG C n m y) (S1 C 6)) (S1 C 5) (a + 1) (b - 1))
def PlainG (C : Int → Int) (n : Nat) (x y : Int) : Prop := ∃ m, x ≤ m ∧ (∀ j, x ≤ j → j < m → C j = 7) ∧ ¬ C m = 7 ∧ m < y ∧ PosG C n m y
def BothG (C : Int → Int) (n : Nat) : Int → Int → Prop := Ch (PlainG C n) (S1 C 6)
def TestG (C : Int → Int) (n : Nat) : Int → Int → Prop := Ch (BothG C n) (S1 C 5)
theorem PosG.no {C : Int → Int} {a b : Int} (h : PosG C 0 a b) (e : C a = 140) : False := h.1 e
theorem PosG.br {C : Int → Int} {n : Nat} {a b : Int} (h : PosG C (n + 1) a b) (e : C a = 140) : TestG C n (a + 1) (b - 1) ∧ a + 1 < b - 1 := by
  rcases h with w | w
  · exact absurd e w.1
  · exact ⟨w.2.2, w.2.1⟩
theorem PosG.two {C : Int → Int} : ∀ {n : Nat} {a b : Int}, PosG C n a b → ¬ C a = 140 → ∃ m, SumG C n a m ∧ a < m ∧ m + 1 < b ∧ SumG C n (m + 1) b
  | 0, _, _, h, _ => h.2
  | _ + 1, _, _, h, e => by
    rcases h with w | w
    · exact w.2
    · exact absurd w.1 e
/-- a clause; the laws' clauses one behind another -/
def ClauG (C : Int → Int) (a b : Int) : Prop := ∃ m, ((C a = 1 ∧ SumG C 8 (a + 1) m ∧ a + 1 < m) ∨ (¬ C a = 1 ∧ m = a + 1)) ∧ ((C m = 4 ∧ TestG C 8 (m + 1) b ∧ m + 1 < b) ∨ (¬ C m = 4 ∧ b = m))
def LawN (C : Int → Int) (ge : Int) : Nat → Int → Prop
  | 0 => fun a => ge ≤ a
  | k + 1 => fun a => a < ge ∧ ∃ b, ClauG C a b ∧ a < b ∧ b ≤ ge ∧ LawN C ge k (b + 1)
def LawT (C : Int → Int) (ge a : Int) : Prop := ∃ k, LawN C ge k a
theorem LawT.next {C : Int → Int} {ge a : Int} (h : LawT C ge a) (l : a < ge) : ∃ m b, ((C a = 1 ∧ SumG C 8 (a + 1) m ∧ a + 1 < m) ∨ (¬ C a = 1 ∧ m = a + 1)) ∧ ((C m = 4 ∧ TestG C 8 (m + 1) b ∧ m + 1 < b) ∨ (¬ C m = 4 ∧ b = m)) ∧ a < b ∧ b ≤ ge ∧ LawT C ge (b + 1) ∧ a < m ∧ m ≤ b := by
  obtain ⟨k, h⟩ := h
  cases k with
  | zero => exact absurd l (Int.not_lt.mpr h)
  | succ k =>
    obtain ⟨_, b, ⟨m, c1, c2⟩, l1, l2, t⟩ := h
    refine ⟨m, b, c1, c2, l1, l2, ⟨k, t⟩, ?_, ?_⟩
    · rcases c1 with ⟨_, _, w⟩ | ⟨_, w⟩ <;> omega
    · rcases c2 with ⟨_, _, w⟩ | ⟨_, w⟩ <;> omega
/-- the clues' houses -/
def ClL (K : Int → Int) : Prop := ∀ k, 0 ≤ k → k < K 61 → 0 ≤ K (47 + 2 * k) ∧ K (47 + 2 * k) < Hi K
/-- the laws that are kept can be asked -/
def KLaw (K : Int → Int) : Prop := ∀ t, 0 ≤ t → t < K 62 → 0 ≤ K (64 + t) ∧ K (64 + t) ≤ 400 ∧ LawT (Cd K (400 * t + K (64 + t))) (400 * t + K (64 + t)) (400 * t)
theorem KLaw.at {K : Int → Int} {t u s z g : Int} (h : KLaw K) (t0 : 0 ≤ t) (t1 : t < K 62) (eu : u = 64 + t) (es : K u = s) (ez : z = 400 * t) (eg : g = 400 * t + s) : 0 ≤ s ∧ s ≤ 400 ∧ LawT (Cd K g) g z := by
  subst eu es ez eg
  exact h t t0 t1
def KOK (K : Int → Int) : Prop := okF K ∧ (0 ≤ K 59 ∧ K 59 ≤ 8) ∧ (0 ≤ K 60 ∧ K 60 ≤ 12) ∧ SwL K (K 60) (bsum K) ∧ (0 ≤ K 61 ∧ K 61 ≤ 6) ∧ ClL K ∧ (0 ≤ K 62 ∧ K 62 ≤ 6) ∧ (-1 ≤ K 63 ∧ K 63 < K 62) ∧ Rg K 4870 (-2147483648) 2147483647 ∧ KLaw K
/-- kept's laws stay when nothing of them is written -/
theorem KLaw.keep {K K2 : Int → Int} (h : KLaw K) (e62 : K2 62 = K 62) (h6 : K 62 ≤ 6) (e : ∀ j, 64 ≤ j → j < 70 ∨ (70 ≤ j ∧ j < 2470) → K2 j = K j) : KLaw K2 := by
  intro t t0 t1
  rw [e62] at t1
  have w := h t t0 t1
  have es : K2 (64 + t) = K (64 + t) := e _ (by omega) (by omega)
  rw [es]
  refine ⟨w.1, w.2.1, ?_⟩
  rw [Cd_same (K := K) (fun x a b => e _ (by omega) (by omega))]
  exact w.2.2
