/-! rows for the reference: what a law that was read looks like -/
def Cd (K : Int → Int) (ge x : Int) : Int := if x < ge then K (70 + x) else 0
theorem Cd_in {K : Int → Int} {ge x i z : Int} (h : x < ge) (ei : i = 70 + x) (e : K i = z) : Cd K ge x = z := by
  subst ei
  unfold Cd
  rw [if_pos h, e]
theorem Cd_out {K : Int → Int} {ge x : Int} (h : ge ≤ x) : Cd K ge x = 0 := by
  unfold Cd
  rw [if_neg (by omega)]
def TlN (P : Int → Int → Prop) (S : Int → Prop) : Nat → Int → Int → Prop
  | 0 => fun m b => m = b ∧ ¬ S m
  | k + 1 => fun m b => S m ∧ ∃ m', P (m + 1) m' ∧ m + 1 < m' ∧ TlN P S k m' b
def Tl (P : Int → Int → Prop) (S : Int → Prop) (m b : Int) : Prop := ∃ k, TlN P S k m b
theorem TlN.le {P : Int → Int → Prop} {S : Int → Prop} : ∀ {k : Nat} {m b : Int}, TlN P S k m b → m ≤ b
  | 0, _, _, h => Int.le_of_eq h.1
  | _ + 1, _, _, h => by
    obtain ⟨_, m', _, l, t⟩ := h
    have := TlN.le t
    omega
theorem Tl.le {P : Int → Int → Prop} {S : Int → Prop} {m b : Int} (h : Tl P S m b) : m ≤ b := by
  obtain ⟨k, h⟩ := h
  exact TlN.le h
theorem Tl.next {P : Int → Int → Prop} {S : Int → Prop} {m b : Int} (h : Tl P S m b) (s : S m) : ∃ m', P (m + 1) m' ∧ m + 1 < m' ∧ Tl P S m' b ∧ m' ≤ b := by
  obtain ⟨k, h⟩ := h
  cases k with
  | zero => exact absurd s h.2
  | succ k =>
    obtain ⟨_, m', p, l, t⟩ := h
    exact ⟨m', p, l, ⟨k, t⟩, TlN.le t⟩
theorem Tl.stop {P : Int → Int → Prop} {S : Int → Prop} {m b : Int} (h : Tl P S m b) (s : ¬ S m) : m = b := by
  obtain ⟨k, h⟩ := h
  cases k with
  | zero => exact h.1
  | succ k => exact absurd h.1 s
def Ch (P : Int → Int → Prop) (S : Int → Prop) (a b : Int) : Prop := ∃ m, P a m ∧ a < m ∧ Tl P S m b
theorem Ch.opn {P : Int → Int → Prop} {S : Int → Prop} {a b : Int} (h : Ch P S a b) : ∃ m, P a m ∧ a < m ∧ Tl P S m b ∧ m ≤ b := by
  obtain ⟨m, x, y, z⟩ := h
  exact ⟨m, x, y, z, z.le⟩
def S2 (C : Int → Int) (x y m : Int) : Prop := C m = x ∨ C m = y
def S1 (C : Int → Int) (x m : Int) : Prop := C m = x
def LfG (C : Int → Int) (a b : Int) : Prop := b = a + 1 ∧ (C a = 50 ∨ (8 ≤ C a ∧ C a ≤ 15))
def PartG (C : Int → Int) : Nat → Int → Int → Prop
  | 0 => LfG C
  | n + 1 => fun a b => LfG C a b ∨ (C a = 191 ∧ a + 1 < b - 1 ∧ Ch (Ch (PartG C n) (S2 C 142 147)) (S2 C 143 145) (a + 1) (b - 1))
def TermG (C : Int → Int) (n : Nat) : Int → Int → Prop := Ch (PartG C n) (S2 C 142 147)
def SumG (C : Int → Int) (n : Nat) : Int → Int → Prop := Ch (TermG C n) (S2 C 143 145)
theorem PartG.no {C : Int → Int} {a b : Int} (h : PartG C 0 a b) (e : C a = 191) : False := by
  rcases h.2 with w | w <;> omega
theorem PartG.br {C : Int → Int} {n : Nat} {a b : Int} (h : PartG C (n + 1) a b) (e : C a = 191) : SumG C n (a + 1) (b - 1) ∧ a + 1 < b - 1 := by
  rcases h with w | w
  · rcases w.2 with u | u <;> omega
  · exact ⟨w.2.2, w.2.1⟩
theorem PartG.leaf {C : Int → Int} : ∀ {n : Nat} {a b : Int}, PartG C n a b → ¬ C a = 191 → LfG C a b
  | 0, _, _, h, _ => h
  | _ + 1, _, _, h, e => by
    rcases h with w | w
    · exact w
    · exact absurd w.1 e
def PosG (C : Int → Int) : Nat → Int → Int → Prop
  | 0 => fun a b => ¬ C a = 140 ∧ ∃ m, SumG C 0 a m ∧ a < m ∧ m + 1 < b ∧ SumG C 0 (m + 1) b
  | n + 1 => fun a b => (¬ C a = 140 ∧ ∃ m, SumG C (n + 1) a m ∧ a < m ∧ m + 1 < b ∧ SumG C (n + 1) (m + 1) b) ∨ (C a = 140 ∧ a + 1 < b - 1 ∧ Ch (Ch (fun x y => ∃ m, x ≤ m ∧ (∀ j, x ≤ j → j < m → C j = 7) ∧ ¬ C m = 7 ∧ m < y ∧ PosG C n m y) (S1 C 6)) (S1 C 5) (a + 1) (b - 1))
def PlainG (C : Int → Int) (n : Nat) (x y : Int) : Prop := ∃ m, x ≤ m ∧ (∀ j, x ≤ j → j < m → C j = 7) ∧ ¬ C m = 7 ∧ m < y ∧ PosG C n m y
def BothG (C : Int → Int) (n : Nat) : Int → Int → Prop := Ch (PlainG C n) (S1 C 6)
def TestG (C : Int → Int) (n : Nat) : Int → Int → Prop := Ch (BothG C n) (S1 C 5)
theorem PosG.no {C : Int → Int} {a b : Int} (h : PosG C 0 a b) (e : C a = 140) : False := h.1 e
theorem PosG.br {C : Int → Int} {n : Nat} {a b : Int} (h : PosG C (n + 1) a b) (e : C a = 140) : TestG C n (a + 1) (b - 1) ∧ a + 1 < b - 1 := by
  rcases h with w | w
  · exact absurd e w.1
  · exact ⟨w.2.2, w.2.1⟩
theorem PosG.two {C : Int → Int} : ∀ {n : Nat} {a b : Int}, PosG C n a b → ¬ C a = 140 → ∃ m, SumG C n a m ∧ a < m ∧ m + 1 < b ∧ SumG C n (m + 1) b
  | 0, _, _, h, _ => h.2
  | _ + 1, _, _, h, e => by
    rcases h with w | w
    · exact w.2
    · exact absurd w.1 e
