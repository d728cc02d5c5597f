/-! powers of two for sets of houses -/
def P2 (n : Int) : Int := ((2 ^ n.toNat : Nat) : Int)
theorem P2_rng {n : Int} (h0 : 2 ≤ n) (h1 : n ≤ 14) : 4 ≤ P2 n ∧ P2 n ≤ 16384 := by
  unfold P2
  have h2 : (2 : Nat) ^ 2 ≤ 2 ^ n.toNat := Nat.pow_le_pow_right (by decide) (by omega)
  have h3 : (2 : Nat) ^ n.toNat ≤ 2 ^ 14 := Nat.pow_le_pow_right (by decide) (by omega)
  have e : (2 : Nat) ^ 14 = 16384 := by decide
  omega
theorem P2_shl {n z : Int} (h0 : 0 ≤ n) (h1 : n ≤ 30) (e : zshl 1 n = z) : z = P2 n := pow_shl h0 h1 e
theorem P2_or {n s j w z : Int} (hn0 : 0 ≤ n) (hn : n ≤ 14) (h0 : 0 ≤ s) (h1 : s < P2 n) (h2 : 0 ≤ j) (h3 : j < n) (ew : zshl 1 j = w) (e : zor s w = z) : 0 ≤ z ∧ z < P2 n ∧ s ≤ z := by
  subst ew
  exact bit_or (n := n.toNat) (by omega) h0 h1 h2 (by omega) e
theorem NOld.ne {a a2 b n : Nat} (h : NOld a a2 n) (h1 : NNe a b) (h2 : NLt b n) : NNe a2 b := by
  rcases h with h | h
  · rw [h]; exact h1
  · have h2 : b < n := h2
    exact fun e => by omega
