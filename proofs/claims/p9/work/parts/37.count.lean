/-! how many places of a row hold another value -/
def cNeN (F : Int → Int) (v : Int) : Nat → Nat
  | 0 => 0
  | n + 1 => cNeN F v n + (if F n = v then 0 else 1)
def cNe (F : Int → Int) (v n : Int) : Int := (cNeN F v n.toNat : Int)
theorem cNeN_le (F : Int → Int) (v : Int) : ∀ n : Nat, cNeN F v n ≤ n
  | 0 => Nat.le_refl 0
  | n + 1 => by
    have := cNeN_le F v n
    unfold cNeN
    split <;> omega
theorem cNe_rng {F : Int → Int} {v n : Int} (h : 0 ≤ n) : 0 ≤ cNe F v n ∧ cNe F v n ≤ n := by
  have := cNeN_le F v n.toNat
  unfold cNe
  omega
theorem cNeN_congr {F G : Int → Int} {v : Int} : ∀ n : Nat, (∀ j : Int, 0 ≤ j → j < n → (F j = v ↔ G j = v)) → cNeN F v n = cNeN G v n
  | 0, _ => rfl
  | n + 1, h => by
    unfold cNeN
    rw [cNeN_congr n (fun j a b => h j a (by omega))]
    have := h n (by omega) (by omega)
    by_cases q : F n = v
    · rw [if_pos q, if_pos (this.mp q)]
    · rw [if_neg q, if_neg (fun r => q (this.mpr r))]
theorem cNeN_up {F : Int → Int} {v x : Int} (hx : x ≠ v) : ∀ (n i : Nat), i < n → cNeN (up F i x) v n = cNeN F v n + (if F i = v then 1 else 0)
  | 0, i, h => by omega
  | n + 1, i, h => by
    unfold cNeN
    by_cases q : i = n
    · subst q
      rw [cNeN_congr (F := up F i x) (G := F) i (fun j a b => by rw [up_ne (by omega)]), up_same, if_neg hx]
      split <;> omega
    · rw [cNeN_up hx n i (by omega), up_ne (by omega)]
      omega
theorem cNe_new {F G : Int → Int} {v x n i z : Int} (e : G = up F i x) (hx : ¬ x = v) (h0 : 0 ≤ i) (h1 : i < n) (ez : F i = z) (hz : z = v) : cNe G v n = cNe F v n + 1 := by
  obtain ⟨k, rfl⟩ := Int.eq_ofNat_of_zero_le h0
  subst e
  unfold cNe
  rw [cNeN_up hx n.toNat k (by omega), if_pos (by rw [ez, hz])]
  omega
theorem cNe_same {F G : Int → Int} {v x n i z : Int} (e : G = up F i x) (hx : ¬ x = v) (h0 : 0 ≤ i) (h1 : i < n) (ez : F i = z) (hz : ¬ z = v) : cNe G v n = cNe F v n := by
  obtain ⟨k, rfl⟩ := Int.eq_ofNat_of_zero_le h0
  subst e
  unfold cNe
  rw [cNeN_up hx n.toNat k (by omega), if_neg (by rw [ez]; exact hz)]
  omega
theorem cNeN_lt {F : Int → Int} {v : Int} : ∀ (n i : Nat), i < n → F i = v → cNeN F v n < n
  | 0, i, h, _ => by omega
  | n + 1, i, h, hv => by
    unfold cNeN
    by_cases q : i = n
    · subst q
      rw [if_pos hv]
      have := cNeN_le F v i
      omega
    · have := cNeN_lt n i (by omega) hv
      split <;> omega
theorem cNe_lt {F : Int → Int} {v n i z : Int} (h0 : 0 ≤ i) (h1 : i < n) (ez : F i = z) (hz : z = v) : cNe F v n < n := by
  obtain ⟨k, rfl⟩ := Int.eq_ofNat_of_zero_le h0
  have := cNeN_lt (F := F) (v := v) n.toNat k (by omega) (by rw [ez, hz])
  unfold cNe
  omega
theorem cNeN_zero {F : Int → Int} {v : Int} : ∀ n : Nat, (∀ j : Int, 0 ≤ j → j < n → F j = v) → cNeN F v n = 0
  | 0, _ => rfl
  | n + 1, h => by
    unfold cNeN
    rw [cNeN_zero n (fun j a b => h j a (by omega)), if_pos (h n (by omega) (by omega))]
theorem cNe_fill {F G : Int → Int} {v n b : Int} (e : G = fillf F 0 b v) (hb : n ≤ b) : cNe G v n = 0 := by
  have := cNeN_zero (F := G) (v := v) n.toNat (fun j a c => fill_at e a (by omega))
  unfold cNe
  omega
theorem cNe_first {F G H : Int → Int} {v x n b i : Int} (e : G = fillf F 0 b v) (hb : n ≤ b) (e2 : H = up G i x) (hx : ¬ x = v) (h0 : 0 ≤ i) (h1 : i < n) : cNe H v n = 1 := by
  rw [cNe_new e2 hx h0 h1 (fill_at e h0 (by omega)) rfl, cNe_fill e hb]
  rfl
/-- a walk that is done -/
def WOK (fa od : Int → Int) (rc many : Int) : Prop := 1 ≤ rc ∧ rc ≤ many ∧ Rg od rc 0 (many - 1) ∧ Rg fa many (-1) (many - 1)
