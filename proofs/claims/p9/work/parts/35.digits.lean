/-! a packed row's digits -/
def val8 (B : Int → Int) : Nat → Nat
  | 0 => 0
  | n + 1 => 8 * val8 B n + (B n).toNat
theorem val8_lt {B : Int → Int} : ∀ n : Nat, okB n B → val8 B n < 8 ^ n
  | 0, _ => Nat.one_pos
  | n + 1, h => by
    have h1 := val8_lt n (fun j a b => h j a (by omega))
    have h2 := h n (by omega) (by omega)
    unfold val8
    rw [Nat.pow_succ]
    omega
theorem pk3_val {B : Int → Int} : ∀ n : Nat, n ≤ 7 → okB n B → pk3 B n = (val8 B n : Int)
  | 0, _, _ => rfl
  | n + 1, hn, h => by
    have h1 := pk3_val n (by omega) (fun j a b => h j a (by omega))
    have h2 := h n (by omega) (by omega)
    have h3 := val8_lt n (fun j a b => h j a (by omega))
    have h4 : 8 ^ n ≤ 8 ^ 6 := Nat.pow_le_pow_right (by decide) (by omega)
    have e1 : (8 : Nat) ^ 6 = 262144 := by decide
    unfold pk3 val8
    obtain ⟨b, hb⟩ := Int.eq_ofNat_of_zero_le h2.1
    have q1 : zshl (val8 B n : Int) (3 : Int) = ((val8 B n * 2 ^ 3 : Nat) : Int) := zshl_nat (k := 3) (by decide) (by omega)
    rw [h1, q1, hb, zor_nat (by omega) (by omega), Nat.mul_comm, ← Nat.two_pow_add_eq_or_of_lt (by omega : b < 2 ^ 3)]
    rw [show ((b : Int)).toNat = b by omega]
theorem val8_dig {B : Int → Int} : ∀ (n j : Nat), okB n B → j < n → ((val8 B n / 8 ^ (n - 1 - j) % 8 : Nat) : Int) = B j
  | 0, j, _, hj => by omega
  | n + 1, j, h, hj => by
    have h2 := h n (by omega) (by omega)
    by_cases e : j = n
    · subst e
      rw [show j + 1 - 1 - j = 0 by omega, Nat.pow_zero, Nat.div_one]
      unfold val8
      omega
    · have h1 := val8_dig n j (fun j a b => h j a (by omega)) (by omega)
      rw [show n + 1 - 1 - j = (n - 1 - j) + 1 by omega, Nat.pow_succ, Nat.mul_comm, ← Nat.div_div_eq_div_mul]
      have e8 : val8 B (n + 1) = 8 * val8 B n + (B n).toNat := rfl
      rw [show val8 B (n + 1) / 8 = val8 B n by omega]
      exact h1
theorem pk3_dig {B : Int → Int} {p sh j r : Int} (h : okB p B) (hp : p ≤ 7) (h0 : 0 ≤ j) (h1 : j < p) (hs : sh = 3 * p - 3 * j - 3) (e : zand (zshr (pk3 B p.toNat) sh) 7 = r) : r = B j := by
  obtain ⟨n, rfl⟩ := Int.eq_ofNat_of_zero_le (show 0 ≤ p by omega)
  obtain ⟨k, rfl⟩ := Int.eq_ofNat_of_zero_le h0
  have e0 : ((n : Int)).toNat = n := by omega
  rw [e0, pk3_val n (by omega) h] at e
  have h3 := val8_lt n h
  have h4 : 8 ^ n ≤ 8 ^ 7 := Nat.pow_le_pow_right (by decide) (by omega)
  have e1 : (8 : Nat) ^ 7 = 2097152 := by decide
  have hs2 : sh = ((3 * (n - 1 - k) : Nat) : Int) := by omega
  rw [hs2, zshr_nat (by omega) (by omega)] at e
  have := zand_low (n := val8 B n / 2 ^ (3 * (n - 1 - k))) (k := 3) (by decide)
  rw [show (7 : Int) = ((2 ^ 3 - 1 : Nat) : Int) by decide, this] at e
  rw [← e, ← val8_dig n k h (by omega), Nat.pow_mul]
/-- digits of a house's row -/
theorem Rows_dig {R f : Int → Int} {m x row p sh j r : Int} (hR : RowsTo R f m) (hf : okF f) (hm : m = Hi f) (h0 : 0 ≤ x) (h1 : x < m) (er : R x = row) (hp : p = bsum f) (hj0 : 0 ≤ j) (hj1 : j < p) (hs : sh = 3 * p - 3 * j - 3) (e : zand (zshr row sh) 7 = r) : r = itB f x.toNat j ∧ 0 ≤ r ∧ r ≤ 4 := by
  have hx : x.toNat < Hn f := by unfold Hi at hm; omega
  have i := it_inv hf x.toNat hx
  rw [hR x h0 h1] at er
  subst er hp
  have := pk3_dig i.2.2 hf.2.2.2.2.2 hj0 hj1 hs e
  have h9 := i.2.2 j hj0 hj1
  rw [← this] at h9
  exact ⟨this, h9⟩
