/-! the tape's bytes: what both sides bear of them -/
def byt (x k : Int) : Int := zand (zshr x (24 - 8 * k)) 255
def sgb (v : Int) : Int := if v < 128 then v else v - 256
theorem zand255 (y : Int) : zand y 255 = (((zI y).toBitVec.toNat % 256 : Nat) : Int) := by
  have e : ((zI y) &&& (zI 255)).toBitVec.toNat = (zI y).toBitVec.toNat % 256 := by
    rw [Int32.toBitVec_and, BitVec.toNat_and]
    exact Nat.and_two_pow_sub_one_eq_mod _ 8
  unfold zand
  rw [Int32.toInt, BitVec.toInt_eq_toNat_cond, e]
  have u : (zI y).toBitVec.toNat % 256 < 256 := Nat.mod_lt _ (by decide)
  rw [if_pos (by omega)]
theorem zi2b_sb (y : Int) : zi2b y = sgb (zand y 255) := by
  have e : zi2b y = (zI y).toInt.bmod (2 ^ 8) := by
    unfold zi2b
    rw [Int8.toInt_toInt32, Int32.toInt_toInt8]
  have hl := (zI y).toBitVec.isLt
  rw [e, Int.bmod_def, zand255, Int32.toInt, BitVec.toInt_eq_toNat_cond]
  unfold sgb
  repeat' split
  all_goals omega
theorem sb_col {v : Int} (h0 : 0 ≤ v) (h1 : v ≤ 255) : (0 ≤ sgb v ∧ sgb v ≤ 4) ↔ v ≤ 4 := by
  unfold sgb
  split <;> omega
theorem sb_eq {v : Int} (h : v ≤ 4) : sgb v = v := by
  unfold sgb
  rw [if_pos (by omega)]
/-- four bytes of x come behind -/
def TkE (t2 t : Int → Int) (ln x n : Int) : Prop := ∀ j, t2 j = if ln ≤ j ∧ j < ln + n then byt x (j - ln) else t j
theorem TkE_0 {t : Int → Int} {ln x n : Int} (h : n = 0) : TkE t t ln x n := fun j => by
  rw [if_neg (by omega)]
theorem TkE.step {t t1 t2 : Int → Int} {ln x k k2 i v s y : Int} (q : TkE t1 t ln x k) (e : t2 = up t1 i v) (k0 : 0 ≤ k) (ei : i = ln + k) (ss : s = 24 - 8 * k) (es : zshr x s = y) (ev : zand y 255 = v) (ek : k2 = k + 1) : TkE t2 t ln x k2 := fun j => by
  subst e ei ss es ev ek
  by_cases h : j = ln + k
  · rw [h, up_same, if_pos (by omega), show ln + k - ln = k by omega]; rfl
  · rw [up_ne h, q j]
    by_cases g : ln ≤ j ∧ j < ln + k
    · rw [if_pos g, if_pos (by omega)]
    · rw [if_neg g, if_neg (by omega)]
def pk5 (a b c d e k : Int) : Int := if k < 4 then a else if k < 8 then b else if k < 12 then c else if k < 16 then d else e
/-- the twenty bytes of five numbers -/
def fdT (a b c d e k : Int) : Int := byt (pk5 a b c d e k) (k % 4)
def FdE (t2 t : Int → Int) (ln a b c d e : Int) : Prop := ∀ j, t2 j = if ln ≤ j ∧ j < ln + 20 then fdT a b c d e (j - ln) else t j
theorem FdE_of {t t1 t2 t3 t4 t5 : Int → Int} {n n1 n2 n3 n4 a b c d e : Int} (q1 : TkE t1 t n a 4) (q2 : TkE t2 t1 n1 b 4) (q3 : TkE t3 t2 n2 c 4) (q4 : TkE t4 t3 n3 d 4) (q5 : TkE t5 t4 n4 e 4) (e1 : n1 = n + 4) (e2 : n2 = n1 + 4) (e3 : n3 = n2 + 4) (e4 : n4 = n3 + 4) : FdE t5 t n a b c d e := fun j => by
  rw [q5 j, q4 j, q3 j, q2 j, q1 j]
  unfold fdT pk5
  by_cases h : n ≤ j ∧ j < n + 20
  · rw [if_pos h]
    by_cases g5 : n + 16 ≤ j
    · rw [if_pos (by omega), if_neg (by omega), if_neg (by omega), if_neg (by omega), if_neg (by omega), show j - n4 = (j - n) % 4 by omega]
    · rw [if_neg (by omega)]
      by_cases g4 : n + 12 ≤ j
      · rw [if_pos (by omega), if_neg (by omega), if_neg (by omega), if_neg (by omega), if_pos (by omega), show j - n3 = (j - n) % 4 by omega]
      · rw [if_neg (by omega)]
        by_cases g3 : n + 8 ≤ j
        · rw [if_pos (by omega), if_neg (by omega), if_neg (by omega), if_pos (by omega), show j - n2 = (j - n) % 4 by omega]
        · rw [if_neg (by omega)]
          by_cases g2 : n + 4 ≤ j
          · rw [if_pos (by omega), if_neg (by omega), if_pos (by omega), show j - n1 = (j - n) % 4 by omega]
          · rw [if_neg (by omega), if_pos (by omega), if_pos (by omega), show j - n = (j - n) % 4 by omega, show (j - n) % 4 % 4 = (j - n) % 4 by omega]
  · rw [if_neg h, if_neg (by omega), if_neg (by omega), if_neg (by omega), if_neg (by omega), if_neg (by omega)]
/-- the reference's: the same bytes with a sign, the first k of them -/
def FdS (t2 t : Int → Int) (ln a b c d e k : Int) : Prop := ∀ j, t2 j = if ln ≤ j ∧ j < ln + k then sgb (fdT a b c d e (j - ln)) else t j
theorem FdS_0 {t : Int → Int} {ln a b c d e : Int} : FdS t t ln a b c d e 0 := fun j => by
  rw [if_neg (by omega)]
theorem FdS.step {t t1 t2 : Int → Int} {ln a b c d e k i v s y p m : Int} (q : FdS t1 t ln a b c d e k) (eu : t2 = up t1 i v) (k0 : 0 ≤ k) (ei : i = ln + k) (hp : p = pk5 a b c d e k) (hm : m = k % 4) (ss : s = 24 - 8 * m) (es : zshr p s = y) (ev : zi2b y = v) : FdS t2 t ln a b c d e (k + 1) := fun j => by
  subst eu ei hp hm ss es ev
  by_cases h : j = ln + k
  · rw [h, up_same, if_pos (by omega), show ln + k - ln = k by omega, zi2b_sb]; rfl
  · rw [up_ne h, q j]
    by_cases g : ln ≤ j ∧ j < ln + k
    · rw [if_pos g, if_pos (by omega)]
    · rw [if_neg g, if_neg (by omega)]
/-- the tape as told: class 0 .. 255, reference with a sign -/
def TpC (t : Int → Int) (aa : Nat → Int) : Prop := ∀ j, 0 ≤ j → j < 400 → t j = aa (1000 + j.toNat)
def TpM (t : Int → Int) (aa : Nat → Int) : Prop := ∀ j, 0 ≤ j → j < 400 → t j = sgb (aa (1000 + j.toNat)) ∧ 0 ≤ aa (1000 + j.toNat) ∧ aa (1000 + j.toNat) ≤ 255
/-- colours alone, 1 .. 7 of them -/
def okT (t : Int → Int) : Nat → Bool
  | 0 => true
  | n + 1 => okT t n && decide (0 ≤ t n ∧ t n ≤ 4)
theorem okT_yes {t : Int → Int} : ∀ {n : Nat}, Rg t n 0 4 → okT t n = true := fun {n} => by
  induction n with
  | zero => intro _; rfl
  | succ n ih =>
    intro h
    unfold okT
    rw [ih (fun j a b => h j a (by omega)), Bool.true_and]
    exact decide_eq_true (h n (by omega) (by omega))
theorem okT_no {t : Int → Int} {i : Int} (h0 : 0 ≤ i) (hi : ¬ (0 ≤ t i ∧ t i ≤ 4)) : ∀ {n : Nat}, i < n → okT t n = false := fun {n} => by
  induction n with
  | zero => intro h; omega
  | succ n ih =>
    intro h
    unfold okT
    by_cases e : i = n
    · rw [← e, decide_eq_false hi, Bool.and_false]
    · rw [ih (by omega), Bool.false_and]
theorem okT_same {t u : Int → Int} : ∀ {n : Nat}, (∀ j : Int, 0 ≤ j → j < n → ((0 ≤ t j ∧ t j ≤ 4) ↔ (0 ≤ u j ∧ u j ≤ 4))) → okT t n = okT u n := fun {n} => by
  induction n with
  | zero => intro _; rfl
  | succ n ih =>
    intro h
    unfold okT
    rw [ih (fun j a b => h j a (by omega)), decide_eq_decide.mpr (h n (by omega) (by omega))]
/-- is it a row? -/
def rwk (t : Int → Int) (n : Int) : Bool := decide (1 ≤ n ∧ n ≤ 7) && okT t n.toNat
/-- how many of the first n are c -/
def cnt (t : Int → Int) (c : Int) : Nat → Int
  | 0 => 0
  | n + 1 => cnt t c n + (if t n = c then 1 else 0)
theorem cnt_same {t u : Int → Int} {c : Int} : ∀ {n : Nat}, (∀ j : Int, 0 ≤ j → j < n → t j = u j) → cnt t c n = cnt u c n := fun {n} => by
  induction n with
  | zero => intro _; rfl
  | succ n ih =>
    intro h
    unfold cnt
    rw [ih (fun j a b => h j a (by omega)), h n (by omega) (by omega)]
/-- the beans of the first n bytes -/
def Ct5 (K t : Int → Int) (n : Int) : Prop := ∀ c, 0 ≤ c → c ≤ 4 → K c = cnt t c n.toNat
theorem Ct5.step {K K2 t : Int → Int} {n i z w : Int} (q : Ct5 K t n) (n0 : 0 ≤ n) (et : t n = i) (ez : K i = z) (e : K2 = up K i w) (ew : w = z + 1) : Ct5 K2 t (n + 1) := fun c a b => by
  subst e ew ez
  rw [show (n + 1).toNat = n.toNat + 1 by omega]
  unfold cnt
  rw [show ((n.toNat : Nat) : Int) = n by omega, et, ← q c a b]
  by_cases h : c = i
  · rw [if_pos h.symm, h, up_same]
  · rw [if_neg (fun g => h g.symm), up_ne h, Int.add_zero]
theorem Ct5_0 {K t : Int → Int} (h : ∀ c, 0 ≤ c → c ≤ 4 → K c = 0) : Ct5 K t 0 := fun c a b => h c a b
theorem rwk_lo {t : Int → Int} {n : Int} (h : n < 1) : rwk t n = false := by
  unfold rwk
  rw [decide_eq_false (by omega), Bool.false_and]
theorem rwk_hi {t : Int → Int} {n : Int} (h : 7 < n) : rwk t n = false := by
  unfold rwk
  rw [decide_eq_false (by omega), Bool.false_and]
theorem rwk_at {t : Int → Int} {n i : Int} (h0 : 0 ≤ i) (h1 : i < n) (h : ¬ (0 ≤ t i ∧ t i ≤ 4)) : rwk t n = false := by
  unfold rwk
  rw [okT_no h0 h (n := n.toNat) (by omega), Bool.and_false]
theorem rwk_yes {t : Int → Int} {n : Int} (h0 : 1 ≤ n) (h1 : n ≤ 7) (h : Rg t n 0 4) : rwk t n = true := by
  unfold rwk
  rw [decide_eq_true ⟨h0, h1⟩, Bool.true_and]
  exact okT_yes (fun j a b => h j a (by omega))
theorem pk5_at {F0 F1 F2 F3 F4 F5 : Int → Int} {a b c d e q z k : Int} (e1 : F1 = up F0 0 a) (e2 : F2 = up F1 1 b) (e3 : F3 = up F2 2 c) (e4 : F4 = up F3 3 d) (e5 : F5 = up F4 4 e) (hz : F5 q = z) (h0 : 4 * q ≤ k) (h1 : k ≤ 4 * q + 3) (k0 : 0 ≤ k) (k1 : k < 20) : z = pk5 a b c d e k := by
  subst e1 e2 e3 e4 e5 hz
  unfold pk5
  have hq : q = 0 ∨ q = 1 ∨ q = 2 ∨ q = 3 ∨ q = 4 := by omega
  rcases hq with hq | hq | hq | hq | hq
  · rw [hq, up_ne (by decide), up_ne (by decide), up_ne (by decide), up_ne (by decide), up_same, if_pos (by omega)]
  · rw [hq, up_ne (by decide), up_ne (by decide), up_ne (by decide), up_same, if_neg (by omega), if_pos (by omega)]
  · rw [hq, up_ne (by decide), up_ne (by decide), up_same, if_neg (by omega), if_neg (by omega), if_pos (by omega)]
  · rw [hq, up_ne (by decide), up_same, if_neg (by omega), if_neg (by omega), if_neg (by omega), if_pos (by omega)]
  · rw [hq, up_same, if_neg (by omega), if_neg (by omega), if_neg (by omega), if_neg (by omega)]
theorem FdS.at {t2 t : Int → Int} {ln a b c d e k : Int} (q : FdS t2 t ln a b c d e k) (h : k = 20) : FdS t2 t ln a b c d e 20 := by
  rw [← h]; exact q
theorem zi2b_two {y v w : Int} (e1 : zi2b y = v) (e2 : zi2b v = w) : zi2b y = w := by
  subst e1 e2
  unfold zi2b
  rw [← zback, Int8.toInt8_toInt32]
theorem fdT_rng {a b c d e k : Int} : 0 ≤ fdT a b c d e k ∧ fdT a b c d e k ≤ 255 := by
  unfold fdT byt
  rw [zand255]
  have u : (zI (zshr (pk5 a b c d e k) (24 - 8 * (k % 4)))).toBitVec.toNat % 256 < 256 := Nat.mod_lt _ (by decide)
  omega
theorem okT_in {t : Int → Int} : ∀ {n : Nat}, okT t n = true → ∀ j : Int, 0 ≤ j → j < n → 0 ≤ t j ∧ t j ≤ 4 := fun {n} => by
  induction n with
  | zero => intro _ j a b; omega
  | succ n ih =>
    intro h j a b
    unfold okT at h
    have u := Bool.and_eq_true_iff.mp h
    by_cases e : j = n
    · rw [e]; exact of_decide_eq_true u.2
    · exact ih u.1 j a (by omega)
theorem rwk_in {t : Int → Int} {n : Int} (h : rwk t n = true) : (1 ≤ n ∧ n ≤ 7) ∧ okT t n.toNat = true := by
  unfold rwk at h
  have u := Bool.and_eq_true_iff.mp h
  exact ⟨of_decide_eq_true u.1, u.2⟩
theorem rwk_same {t u : Int → Int} {n : Int} (h : ∀ j, 0 ≤ j → j < 7 → ((0 ≤ t j ∧ t j ≤ 4) ↔ (0 ≤ u j ∧ u j ≤ 4))) : rwk t n = rwk u n := by
  unfold rwk
  by_cases k : 1 ≤ n ∧ n ≤ 7
  · rw [okT_same (n := n.toNat) (fun j a b => h j a (by omega))]
  · rw [decide_eq_false k, Bool.false_and, Bool.false_and]
/-- the beans behind row() -/
def RwE (G F t : Int → Int) (n : Int) : Prop := ∀ j, 0 ≤ j → j < 5 → G j = if rwk t n = true then cnt t j n.toNat else F j
theorem RwE.no {F t : Int → Int} {n : Int} (h : rwk t n = false) : RwE F F t n := fun j _ _ => by
  rw [if_neg (fun q => by rw [h] at q; exact absurd q (by decide))]
theorem RwE.yes {G F t : Int → Int} {n : Int} (h : rwk t n = true) (c : Ct5 G t n) : RwE G F t n := fun j a b => by
  rw [if_pos h]; exact c j a (by omega)
