/-! rows for Riddle and Postmen -/
theorem cNeN_hit {F : Int → Int} {v : Int} : ∀ (n i : Nat), i < n → cNeN (up F i v) v n + (if F i = v then 0 else 1) = cNeN F v n
  | 0, i, h => by omega
  | n + 1, i, h => by
    unfold cNeN
    by_cases q : i = n
    · subst q
      rw [cNeN_congr (F := up F i v) (G := F) i (fun j a b => by rw [up_ne (by omega)]), up_same, if_pos rfl]
      split <;> omega
    · have := cNeN_hit (F := F) (v := v) n i (by omega)
      rw [up_ne (by omega)]
      omega
theorem cNe_hit {F G : Int → Int} {v n i z : Int} (e : G = up F i v) (h0 : 0 ≤ i) (h1 : i < n) (ez : F i = z) (hz : ¬ z = v) : cNe G v n = cNe F v n - 1 := by
  obtain ⟨k, rfl⟩ := Int.eq_ofNat_of_zero_le h0
  subst e
  have := cNeN_hit (F := F) (v := v) n.toNat k (by omega)
  rw [if_neg (by rw [ez]; exact hz)] at this
  unfold cNe
  omega
theorem cNeN_pos {F : Int → Int} {v : Int} : ∀ (n i : Nat), i < n → ¬ F i = v → 1 ≤ cNeN F v n
  | 0, i, h, _ => by omega
  | n + 1, i, h, hv => by
    unfold cNeN
    by_cases q : i = n
    · subst q
      rw [if_neg hv]
      omega
    · have := cNeN_pos n i (by omega) hv
      omega
theorem cNe_pos {F : Int → Int} {v n i z : Int} (h0 : 0 ≤ i) (h1 : i < n) (ez : F i = z) (hz : ¬ z = v) : 1 ≤ cNe F v n := by
  obtain ⟨k, rfl⟩ := Int.eq_ofNat_of_zero_le h0
  have := cNeN_pos (F := F) (v := v) n.toNat k (by omega) (by rw [ez]; exact hz)
  unfold cNe
  omega
theorem cNeN_all {F : Int → Int} {v : Int} : ∀ n : Nat, (∀ j : Int, 0 ≤ j → j < n → ¬ F j = v) → cNeN F v n = n
  | 0, _ => rfl
  | n + 1, h => by
    unfold cNeN
    rw [cNeN_all n (fun j a b => h j a (by omega)), if_neg (h n (by omega) (by omega))]
theorem cNe_all {F : Int → Int} {v n hi : Int} (h : Rg F n (-1) hi) (hh : hi < v) (hn : 0 ≤ n) : cNe F v n = n := by
  have := cNeN_all (F := F) (v := v) n.toNat (fun j a b => by have := h j a (by omega); omega)
  unfold cNe
  omega
theorem sq_rng {m z : Int} (h0 : 1 ≤ m) (h1 : m ≤ 40) (e : m * m = z) : 1 ≤ z ∧ z ≤ 1600 := by
  subst e
  have h2 : 1 * 1 ≤ m * m := Int.mul_le_mul h0 h0 (by decide) (by omega)
  have h3 : m * m ≤ 40 * 40 := Int.mul_le_mul h1 h1 (by omega) (by decide)
  omega
theorem sq_pair {m z a b w : Int} (e : m * m = z) (a0 : 0 ≤ a) (a1 : a < m) (b0 : 0 ≤ b) (b1 : b < m) (ew : a * m = w) : 0 ≤ w ∧ w + b < z := by
  subst e ew
  have h1 : 0 ≤ a * m := Int.mul_nonneg a0 (by omega)
  have h2 : (a + 1) * m ≤ m * m := Int.mul_le_mul_of_nonneg_right (by omega) (by omega)
  rw [Int.add_mul, Int.one_mul] at h2
  omega
theorem sq_div {m z p q : Int} (e : m * m = z) (hm : 0 < m) (h1 : p < z) (eq : p / m = q) : q < m := by
  subst e eq
  exact Int.ediv_lt_of_lt_mul hm h1
