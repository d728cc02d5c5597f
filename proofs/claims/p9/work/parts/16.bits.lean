/-! bits of numbers that are not below 0 -/
theorem zI_nat (n : Nat) : zI (n : Int) = nI n := (zI_nI n).symm
theorem nI_back {n : Nat} (h : n < 2 ^ 31) : (nI n).toInt = (n : Int) := by
  rw [← zI_nat, zI_toInt]
  have e : (2 : Nat) ^ 31 = 2147483648 := by decide
  omega
theorem nx_or (a b : Nat) : nI a ||| nI b = nI (a ||| b) := by
  apply Int32.toBitVec_inj.1
  show BitVec.ofNat 32 a ||| BitVec.ofNat 32 b = BitVec.ofNat 32 (a ||| b)
  exact BitVec.ofNat_or.symm
theorem nx_and (a b : Nat) : nI a &&& nI b = nI (a &&& b) := by
  apply Int32.toBitVec_inj.1
  show BitVec.ofNat 32 a &&& BitVec.ofNat 32 b = BitVec.ofNat 32 (a &&& b)
  exact BitVec.ofNat_and.symm
theorem nx_xor (a b : Nat) : nI a ^^^ nI b = nI (a ^^^ b) := by
  apply Int32.toBitVec_inj.1
  show BitVec.ofNat 32 a ^^^ BitVec.ofNat 32 b = BitVec.ofNat 32 (a ^^^ b)
  exact BitVec.ofNat_xor.symm
theorem zor_nat {a b : Nat} (ha : a < 2 ^ 31) (hb : b < 2 ^ 31) : zor a b = ((a ||| b : Nat) : Int) := by
  unfold zor
  rw [zI_nat, zI_nat, nx_or, nI_back (Nat.or_lt_two_pow ha hb)]
theorem zand_nat {a b : Nat} (hb : b < 2 ^ 31) : zand a b = ((a &&& b : Nat) : Int) := by
  unfold zand
  rw [zI_nat, zI_nat, nx_and, nI_back (Nat.and_lt_two_pow a hb)]
theorem zxor_nat {a b : Nat} (ha : a < 2 ^ 31) (hb : b < 2 ^ 31) : zxor a b = ((a ^^^ b : Nat) : Int) := by
  unfold zxor
  rw [zI_nat, zI_nat, nx_xor, nI_back (Nat.xor_lt_two_pow ha hb)]
theorem s_amt : ∀ n, n < 32 → ((nI n &&& 31).toBitVec.smod 32).toNat = n := by decide +kernel
theorem zshl_nat {n k : Nat} (hk : k < 32) (h : n * 2 ^ k < 2 ^ 31) : zshl n k = ((n * 2 ^ k : Nat) : Int) := by
  unfold zshl
  rw [zI_nat, zI_nat, pk_shlN (nI k &&& 31) k (s_amt k hk) (Nat.lt_trans h (by decide)), nI_back h]
theorem zshr_nat {n k : Nat} (hk : k < 32) (h : n < 2 ^ 31) : zshr n k = ((n / 2 ^ k : Nat) : Int) := by
  unfold zshr
  rw [zI_nat, zI_nat, pk_shrN h (nI k &&& 31) k (s_amt k hk), nI_back (Nat.lt_of_le_of_lt (Nat.div_le_self _ _) h)]
theorem zand_low {n k : Nat} (hk : k ≤ 30) : zand n ((2 ^ k - 1 : Nat) : Int) = ((n % 2 ^ k : Nat) : Int) := by
  rw [zand_nat, Nat.and_two_pow_sub_one_eq_mod]
  have : 2 ^ k ≤ 2 ^ 30 := Nat.pow_le_pow_right (by decide) hk
  have e1 : (2 : Nat) ^ 30 = 1073741824 := by decide
  have e2 : (2 : Nat) ^ 31 = 2147483648 := by decide
  omega
/-- a step's word: where to, and what it takes -/
theorem stepw {to tk z : Int} (h0 : 0 ≤ to) (h1 : to < 2048) (h2 : 0 ≤ tk) (h3 : tk ≤ 1000000) (e : zor to (zshl tk 11) = z) : zand z 2047 = to ∧ zshr z 11 = tk ∧ 0 ≤ z := by
  obtain ⟨a, rfl⟩ := Int.eq_ofNat_of_zero_le h0
  obtain ⟨b, rfl⟩ := Int.eq_ofNat_of_zero_le h2
  have q1 : zshl (b : Int) (11 : Int) = ((b * 2 ^ 11 : Nat) : Int) := zshl_nat (k := 11) (by decide) (by omega)
  rw [q1, zor_nat (by omega) (by omega), Nat.or_comm, Nat.mul_comm b, ← Nat.two_pow_add_eq_or_of_lt (by omega : a < 2 ^ 11) b] at e
  subst e
  refine ⟨?_, ?_, by omega⟩
  · have := zand_low (n := 2 ^ 11 * b + a) (k := 11) (by decide)
    rw [show (2047 : Int) = ((2 ^ 11 - 1 : Nat) : Int) by decide, this]
    omega
  · have := zshr_nat (n := 2 ^ 11 * b + a) (k := 11) (by decide) (by omega)
    rw [show (11 : Int) = ((11 : Nat) : Int) by decide, this]
    omega
/-- one bit more in a set -/
theorem bit_or {n : Nat} {s j z : Int} (hn : n ≤ 30) (h0 : 0 ≤ s) (h1 : s < ((2 ^ n : Nat) : Int)) (h2 : 0 ≤ j) (h3 : j < n) (e : zor s (zshl 1 j) = z) : 0 ≤ z ∧ z < ((2 ^ n : Nat) : Int) ∧ s ≤ z := by
  obtain ⟨a, rfl⟩ := Int.eq_ofNat_of_zero_le h0
  obtain ⟨b, rfl⟩ := Int.eq_ofNat_of_zero_le h2
  have hp : (2 : Nat) ^ b < 2 ^ n := Nat.pow_lt_pow_right (by decide) (by omega)
  have hq : (2 : Nat) ^ n ≤ 2 ^ 30 := Nat.pow_le_pow_right (by decide) hn
  have e1 : (2 : Nat) ^ 30 = 1073741824 := by decide
  have e2 : (2 : Nat) ^ 31 = 2147483648 := by decide
  have q1 : zshl (1 : Int) (b : Int) = ((1 * 2 ^ b : Nat) : Int) := zshl_nat (n := 1) (k := b) (by omega) (by omega)
  rw [q1, Nat.one_mul, zor_nat (by omega) (by omega)] at e
  subst e
  have h5 : a ||| 2 ^ b < 2 ^ n := Nat.or_lt_two_pow (by omega) hp
  have h6 : a ≤ a ||| 2 ^ b := Nat.left_le_or
  omega
theorem pow_shl {n z : Int} (h0 : 0 ≤ n) (h1 : n ≤ 30) (e : zshl 1 n = z) : z = ((2 ^ n.toNat : Nat) : Int) := by
  obtain ⟨b, rfl⟩ := Int.eq_ofNat_of_zero_le h0
  have hq : (2 : Nat) ^ b ≤ 2 ^ 30 := Nat.pow_le_pow_right (by decide) (by omega)
  have e1 : (2 : Nat) ^ 30 = 1073741824 := by decide
  have e2 : (2 : Nat) ^ 31 = 2147483648 := by decide
  have q1 : zshl (1 : Int) (b : Int) = ((1 * 2 ^ b : Nat) : Int) := zshl_nat (n := 1) (k := b) (by omega) (by omega)
  rw [q1, Nat.one_mul] at e
  rw [← e]
  rfl
theorem zshr_div {x z : Int} (k : Nat) (y : Int) (hx : zr x) (hs : ((zI y &&& 31).toBitVec.smod 32).toNat = k) {p : Int} (hp : ((2 ^ k : Nat) : Int) = p) (e : zshr x y = z) : z = x / p := by
  unfold zshr at e
  rw [pk_shr (zI x) (zI y &&& 31) k hs, zI_toInt hx, Int.shiftRight_eq_div_pow] at e
  rw [← e, ← hp]
