/-! tokens of a tape (bytes 0 .. 255): words, by the place of the blank behind them in the words' text -/
def wnm : Nat → Int
  | 0 => 0
  | i + 1 => if wch (i : Int) = 32 then wnm i + 1 else wnm i
def wsg : Nat → Int
  | 0 => 0
  | i + 1 => if wch (i : Int) = 32 then (i : Int) + 1 else wsg i
theorem wsg_rng : ∀ i : Nat, 0 ≤ wsg i ∧ wsg i ≤ i
  | 0 => ⟨Int.le_refl _, Int.le_refl _⟩
  | i + 1 => by
    have u := wsg_rng i
    unfold wsg
    split <;> omega
theorem wnm_rng : ∀ i : Nat, 0 ≤ wnm i ∧ wnm i ≤ i
  | 0 => ⟨Int.le_refl _, Int.le_refl _⟩
  | i + 1 => by
    have u := wnm_rng i
    unfold wnm
    split <;> omega
/-- the bytes a .. b - 1 are the word that ends ahead of the blank k -/
def WdE (T : Int → Int) (a b k : Int) : Prop := wch k = 32 ∧ b - a = k - wsg k.toNat ∧ ∀ j, wsg k.toNat ≤ j → j < k → T (a + (j - wsg k.toNat)) = wch j
/-- the number of a word, from 1 on; 0: none -/
def WoC (T : Int → Int) (a b c : Int) : Prop := (∃ k, 0 ≤ k ∧ k < 73 ∧ WdE T a b k ∧ c = wnm k.toNat + 1) ∨ (c = 0 ∧ ∀ k, 0 ≤ k → k < 73 → ¬ WdE T a b k)
set_option maxRecDepth 100000 in
theorem wd_two : ∀ k : Fin 73, ∀ m : Fin 73, wch (k.1 : Int) = 32 → wch (m.1 : Int) = 32 → (k.1 : Int) - wsg k.1 = (m.1 : Int) - wsg m.1 → (∀ j : Fin 8, (j.1 : Int) < (k.1 : Int) - wsg k.1 → wch (wsg k.1 + (j.1 : Int)) = wch (wsg m.1 + (j.1 : Int))) → k = m := by decide +kernel
set_option maxRecDepth 100000 in
theorem wd_len : ∀ k : Fin 73, wch (k.1 : Int) = 32 → (k.1 : Int) - wsg k.1 ≤ 8 := by decide +kernel
theorem WdE.one {T : Int → Int} {a b k m : Int} (k0 : 0 ≤ k) (k1 : k < 73) (m0 : 0 ≤ m) (m1 : m < 73) (h : WdE T a b k) (g : WdE T a b m) : k = m := by
  obtain ⟨x, rfl⟩ := Int.eq_ofNat_of_zero_le k0
  obtain ⟨y, rfl⟩ := Int.eq_ofNat_of_zero_le m0
  have e := wd_two ⟨x, by omega⟩ ⟨y, by omega⟩ h.1 g.1 (by
    have u := h.2.1
    have v := g.2.1
    show (x : Int) - wsg x = (y : Int) - wsg y
    rw [Int.toNat_natCast] at u v
    omega) (fun j hj => by
    have hj : (j.1 : Int) < (x : Int) - wsg x := hj
    have u := h.2.2 (wsg x + (j.1 : Int)) (by rw [Int.toNat_natCast]; omega) (by omega)
    have l := h.2.1
    have l2 := g.2.1
    have v := g.2.2 (wsg y + (j.1 : Int)) (by rw [Int.toNat_natCast]; omega) (by rw [Int.toNat_natCast] at l l2; omega)
    rw [Int.toNat_natCast, show wsg x + (j.1 : Int) - wsg x = (j.1 : Int) by omega] at u
    rw [Int.toNat_natCast, show wsg y + (j.1 : Int) - wsg y = (j.1 : Int) by omega] at v
    exact u.symm.trans v)
  have e2 : x = y := congrArg Fin.val e
  rw [e2]
theorem WoC.one {T : Int → Int} {a b c d : Int} (h : WoC T a b c) (g : WoC T a b d) : c = d := by
  rcases h with ⟨k, k0, k1, kw, kc⟩ | h <;> rcases g with ⟨m, m0, m1, mw, mc⟩ | g
  · have e := WdE.one k0 k1 m0 m1 kw mw
    rw [kc, mc, e]
  · exact absurd kw (g.2 k k0 k1)
  · exact absurd mw (h.2 m m0 m1)
  · exact h.1.trans g.1.symm
/-- a run of bytes that are so, from a on up to b -/
def RunT (T : Int → Int) (lo hi n a b : Int) : Prop := a ≤ b ∧ b ≤ n ∧ (∀ j, a ≤ j → j < b → lo ≤ T j ∧ T j ≤ hi) ∧ (b < n → ¬ (lo ≤ T b ∧ T b ≤ hi))
theorem RunT.one {T : Int → Int} {lo hi n a b c : Int} (h : RunT T lo hi n a b) (g : RunT T lo hi n a c) : b = c := by
  rcases Int.lt_trichotomy b c with q | q | q
  · exact absurd (g.2.2.1 b h.1 q) (h.2.2.2 (by have := g.2.1; omega))
  · exact q
  · exact absurd (h.2.2.1 c g.1 q) (g.2.2.2 (by have := h.2.1; omega))
/-- the value of digits, as far as it may count: what is above 1000 is 1001 -/
def dgV (T : Int → Int) (a : Int) : Nat → Int
  | 0 => 0
  | k + 1 => if 1000 < dgV T a k then 1001 else if 1000 < 10 * dgV T a k + T (a + k) - 48 then 1001 else 10 * dgV T a k + T (a + k) - 48
/-- a token read from the place p on: its code as the reference has it (0: none, an end or a word that is none), its place, what is behind it, its value -/
def TkR (T : Int → Int) (n p c st bh v : Int) : Prop := RunT T 32 32 n p st ∧
  ((st = n ∧ c = 0 ∧ bh = n ∧ v = 0) ∨
   (st < n ∧ 97 ≤ T st ∧ T st ≤ 122 ∧ RunT T 97 122 n st bh ∧ WoC T st bh c ∧ v = 0) ∨
   (st < n ∧ 48 ≤ T st ∧ T st ≤ 57 ∧ RunT T 48 57 n st bh ∧ c = 50 ∧ v = dgV T st (bh - st).toNat) ∨
   (st < n ∧ ¬ (97 ≤ T st ∧ T st ≤ 122) ∧ ¬ (48 ≤ T st ∧ T st ≤ 57) ∧ bh = st + 1 ∧ c = 100 + T st ∧ v = 0))
theorem TkR.one {T : Int → Int} {n p c st bh v c2 st2 bh2 v2 : Int} (h : TkR T n p c st bh v) (g : TkR T n p c2 st2 bh2 v2) : c = c2 ∧ st = st2 ∧ bh = bh2 ∧ v = v2 := by
  have e := RunT.one h.1 g.1
  subst e
  rcases h.2 with h | h | h | h <;> rcases g.2 with g | g | g | g
  · exact ⟨by omega, rfl, by omega, by omega⟩
  · omega
  · omega
  · omega
  · omega
  · have b := RunT.one h.2.2.2.1 g.2.2.2.1
    subst b
    exact ⟨WoC.one h.2.2.2.2.1 g.2.2.2.2.1, rfl, rfl, by omega⟩
  · omega
  · exact absurd ⟨h.2.1, h.2.2.1⟩ g.2.1
  · omega
  · omega
  · have b := RunT.one h.2.2.2.1 g.2.2.2.1
    subst b
    exact ⟨h.2.2.2.2.1.trans g.2.2.2.2.1.symm, rfl, rfl, h.2.2.2.2.2.trans g.2.2.2.2.2.symm⟩
  · exact absurd ⟨h.2.1, h.2.2.1⟩ g.2.2.1
  · omega
  · exact absurd ⟨g.2.1, g.2.2.1⟩ h.2.1
  · exact absurd ⟨g.2.1, g.2.2.1⟩ h.2.2.1
  · exact ⟨by omega, rfl, by omega, by omega⟩
