/-! rows for the reference: rounds, sets as bits -/
def bt (s j : Int) : Int := zand (zshr s j) 1
theorem bt_nat {s j : Nat} (hs : s < 2 ^ 31) (hj : j < 32) : bt (s : Int) (j : Int) = if s.testBit j then 1 else 0 := by
  unfold bt
  rw [zshr_nat hj hs]
  have := zand_low (n := s / 2 ^ j) (k := 1) (by decide)
  rw [show ((1 : Int)) = ((2 ^ 1 - 1 : Nat) : Int) from rfl, this, Nat.testBit_eq_decide_div_mod_eq]
  rcases Nat.mod_two_eq_zero_or_one (s / 2 ^ j) with w | w
  · rw [show 2 ^ 1 = 2 from rfl, w]; rfl
  · rw [show 2 ^ 1 = 2 from rfl, w]; rfl
theorem P2_nat {n : Nat} : P2 (n : Int) = ((2 ^ n : Nat) : Int) := rfl
theorem P2_lim {n : Int} (h : n ≤ 14) : 1 ≤ P2 n ∧ P2 n ≤ 16384 := by
  unfold P2
  have h1 : 2 ^ n.toNat ≤ 2 ^ 14 := Nat.pow_le_pow_right (by decide) (by omega)
  have h2 : 0 < 2 ^ n.toNat := Nat.pow_pos (by decide)
  have e : (2 : Nat) ^ 14 = 16384 := rfl
  omega
theorem P2_all {n z : Int} (h0 : 0 ≤ n) (h1 : n ≤ 14) (e : zshl 1 n = z) : z = P2 n ∧ 1 ≤ z ∧ z ≤ 16384 := by
  have := P2_shl h0 (by omega) e
  have w := P2_lim h1
  omega
theorem bt_set {n s j k w z : Int} (n1 : n ≤ 14) (s0 : 0 ≤ s) (s1 : s < P2 n) (j0 : 0 ≤ j) (j1 : j < n) (k0 : 0 ≤ k) (k1 : k < n) (ew : zshl 1 j = w) (e : zor s w = z) : bt z k = if k = j then 1 else bt s k := by
  obtain ⟨a, rfl⟩ := Int.eq_ofNat_of_zero_le s0
  obtain ⟨b, rfl⟩ := Int.eq_ofNat_of_zero_le j0
  obtain ⟨c, rfl⟩ := Int.eq_ofNat_of_zero_le k0
  have l := (P2_lim n1).2
  have h1 : a < 2 ^ 14 := by have : (2 : Nat) ^ 14 = 16384 := rfl; omega
  have h2 : 2 ^ b < 2 ^ 14 := Nat.pow_lt_pow_right (by decide) (by omega)
  have e1 : zshl 1 (b : Int) = ((1 * 2 ^ b : Nat) : Int) := zshl_nat (n := 1) (by omega) (by have : (2 : Nat) ^ 14 < 2 ^ 31 := by decide
                                                                                             omega)
  rw [Nat.one_mul] at e1
  have big : (2 : Nat) ^ 14 < 2 ^ 31 := by decide
  have e2 : zor (a : Int) ((2 ^ b : Nat) : Int) = ((a ||| 2 ^ b : Nat) : Int) := zor_nat (by omega) (by omega)
  rw [← ew, e1, e2] at e
  have h3 : a ||| 2 ^ b < 2 ^ 14 := Nat.or_lt_two_pow h1 h2
  rw [← e, bt_nat (by omega) (by omega), bt_nat (by omega) (by omega), Nat.testBit_or, Nat.testBit_two_pow]
  by_cases r : b = c
  · rw [if_pos (by omega : (c : Int) = b)]; simp [r]
  · rw [if_neg (by omega : ¬ (c : Int) = b)]; simp [r]
theorem bt_lt {n s j w z : Int} (n0 : 0 ≤ n) (n1 : n ≤ 14) (s0 : 0 ≤ s) (s1 : s < P2 n) (j0 : 0 ≤ j) (j1 : j < n) (hb : bt s j = 0) (ew : zshl 1 j = w) (e : zor s w = z) : s < z ∧ z < P2 n := by
  have h := P2_or n0 n1 s0 s1 j0 j1 ew e
  have u := bt_set n1 s0 s1 j0 j1 j0 j1 ew e
  rw [if_pos rfl] at u
  by_cases r : s = z
  · rw [← r, hb] at u; exact absurd u (by decide)
  · omega
theorem bt_cnt {n s j w z : Int} (n1 : n ≤ 14) (s0 : 0 ≤ s) (s1 : s < P2 n) (j0 : 0 ≤ j) (j1 : j < n) (hb : bt s j = 0) (ew : zshl 1 j = w) (e : zor s w = z) : cNe (bt z) 0 n = cNe (bt s) 0 n + 1 := by
  have c : cNe (bt z) 0 n = cNe (up (bt s) j 1) 0 n := by
    unfold cNe
    rw [cNeN_congr (F := bt z) (G := up (bt s) j 1) _ (fun k a b => by rw [bt_set n1 s0 s1 j0 j1 a (by omega) ew e]; rfl)]
  rw [c]
  exact cNe_new rfl (by decide) j0 j1 hb rfl
theorem cNeN_full {F : Int → Int} {v : Int} : ∀ n : Nat, (∀ j : Int, 0 ≤ j → j < n → ¬ F j = v) → cNeN F v n = n
  | 0, _ => rfl
  | n + 1, h => by
    unfold cNeN
    rw [cNeN_full n (fun j a b => h j a (by omega)), if_neg (h n (by omega) (by omega))]
theorem bt_full {n s : Int} (n0 : 0 ≤ n) (n1 : n ≤ 14) (e : s = P2 n - 1) : cNe (bt s) 0 n = n := by
  obtain ⟨m, rfl⟩ := Int.eq_ofNat_of_zero_le n0
  have l := P2_lim n1
  have es : s = ((2 ^ m - 1 : Nat) : Int) := by rw [e, P2_nat]; rw [P2_nat] at l; omega
  unfold cNe
  rw [es, cNeN_full _ (fun j a b => by
    obtain ⟨k, rfl⟩ := Int.eq_ofNat_of_zero_le a
    have big : (16384 : Nat) < 2 ^ 31 := by decide
    rw [P2_nat] at l
    rw [bt_nat (by omega) (by omega), Nat.testBit_two_pow_sub_one]
    rw [if_pos (by simp; omega)]
    decide)]
  omega
theorem bt_one {n : Int} (n0 : 1 ≤ n) (n1 : n ≤ 14) : cNe (bt 1) 0 n = 1 := by
  have c : cNe (bt 1) 0 n = cNe (up (fun _ => 0) 0 1) 0 n := by
    unfold cNe
    rw [cNeN_congr (F := bt 1) (G := up (fun _ => 0) 0 1) _ (fun k a b => by
      obtain ⟨m, rfl⟩ := Int.eq_ofNat_of_zero_le a
      have w := bt_nat (s := 1) (j := m) (by decide) (by omega)
      rw [show ((1 : Nat) : Int) = 1 from rfl] at w
      rw [w, show (1 : Nat) = 2 ^ 0 from rfl, Nat.testBit_two_pow]
      unfold up
      by_cases r : m = 0
      · subst r; simp
      · have r' : ¬ 0 = m := fun x => r x.symm
        have r2 : ¬ (m : Int) = 0 := by omega
        simp [r, r', r2])]
  rw [c, cNe_new (F := fun _ => 0) (v := 0) rfl (by decide) (by decide) (by omega) rfl rfl]
  unfold cNe
  rw [cNeN_zero _ (fun _ _ _ => rfl)]
  rfl
/-- a round goes on from here -/
def EP (en st sm : Int → Int) (s h : Int) : Prop := ∃ i, 0 ≤ i ∧ i < sm h ∧ bt s (st (22 * h + i)) = 0 ∧ en (14 * zor s (zshl 1 (st (22 * h + i))) + st (22 * h + i)) = 1
theorem EP.mk {en st sm : Int → Int} {s h i ix w t u v z g y : Int} (i0 : 0 ≤ i) (ew : sm h = w) (i1 : i < w) (ex : ix = 22 * h + i) (et : st ix = t) (eu : zshr s t = u) (ev : zand u 1 = v) (hv : v = 0) (eg : zshl 1 t = g) (ez : zor s g = z) (ey : en (14 * z + t) = y) (hy : y = 1) : EP en st sm s h := by
  subst ex ew eu hv eg ez hy
  refine ⟨i, i0, i1, ?_, ?_⟩
  · rw [et]; exact ev
  · rw [et]; exact ey
def EndT (en st sm : Int → Int) (hm all g : Int) : Prop := ∀ s, g < s → s ≤ all → ∀ h, 0 ≤ h → h < hm → en (14 * s + h) = 1 → s = all ∨ EP en st sm s h
def EndH (en st sm : Int → Int) (all s hh : Int) : Prop := ∀ h, 0 ≤ h → h < hh → en (14 * s + h) = 1 → s = all ∨ EP en st sm s h
theorem EP.keep {en en2 st tk sm : Int → Int} {hm all s s' h h' x v : Int} (q : EP en st sm s' h') (hS : StM st tk sm hm) (m0 : 1 ≤ hm) (m1 : hm ≤ 14) (ea : all = P2 hm - 1) (s0 : 0 ≤ s') (s1 : s' ≤ all) (hs : s ≤ s') (h0 : 0 ≤ h) (h1 : h < hm) (g0 : 0 ≤ h') (g1 : h' < hm) (ex : x = 14 * s + h) (e : en2 = up en x v) : EP en2 st sm s' h' := by
  obtain ⟨i, i0, i1, i2, i3⟩ := q
  have t := ((hS h' g0 g1).2.2 i i0 i1).1
  have w := bt_lt (n := hm) (by omega) m1 s0 (by omega) t.1 t.2 i2 rfl rfl
  refine ⟨i, i0, i1, i2, ?_⟩
  rw [e, up_ne (by omega)]
  exact i3
theorem EndT.keep {en en2 st tk sm : Int → Int} {hm all s h x v : Int} (q : EndT en st sm hm all s) (hS : StM st tk sm hm) (m0 : 1 ≤ hm) (m1 : hm ≤ 14) (ea : all = P2 hm - 1) (s0 : 0 ≤ s) (h0 : 0 ≤ h) (h1 : h < hm) (ex : x = 14 * s + h) (e : en2 = up en x v) : EndT en2 st sm hm all s := fun s' a b h' c d f => by
  rw [e, up_ne (by omega)] at f
  rcases q s' a b h' c d f with w | w
  · exact .inl w
  · exact .inr (EP.keep w hS m0 m1 ea (by omega) b (by omega) h0 h1 c d ex e)
theorem EndH.put {en en2 st tk sm : Int → Int} {hm all s h x v : Int} (q : EndH en st sm all s h) (hS : StM st tk sm hm) (m0 : 1 ≤ hm) (m1 : hm ≤ 14) (ea : all = P2 hm - 1) (s0 : 0 ≤ s) (s1 : s ≤ all) (h0 : 0 ≤ h) (h1 : h < hm) (ex : x = 14 * s + h) (e : en2 = up en x v) (hv : v = 1 → s = all ∨ EP en st sm s h) : EndH en2 st sm all s (h + 1) := fun h' c d f => by
  by_cases r : h' = h
  · subst r
    rw [e, ex, up_same] at f
    rcases hv f with w | w
    · exact .inl w
    · exact .inr (EP.keep w hS m0 m1 ea s0 s1 (Int.le_refl _) h0 h1 c h1 ex e)
  · rw [e, up_ne (by omega)] at f
    rcases q h' c (by omega) f with w | w
    · exact .inl w
    · exact .inr (EP.keep w hS m0 m1 ea s0 s1 (Int.le_refl _) h0 h1 c (by omega) ex e)
theorem EndH_0 {en st sm : Int → Int} {all s : Int} : EndH en st sm all s 0 := fun h a b => by omega
theorem EndT_0 {en st sm : Int → Int} {hm all g : Int} (h : all ≤ g) : EndT en st sm hm all g := fun s a b => by omega
theorem EndT.down {en st sm : Int → Int} {hm all s h : Int} (q : EndT en st sm hm all s) (p : EndH en st sm all s h) (hh : hm ≤ h) : EndT en st sm hm all (s - 1) := fun s' a b h' c d f => by
  by_cases r : s' = s
  · subst r; exact p h' c (by omega) f
  · exact q s' (by omega) b h' c d f
/-- from a set that is not all, a round goes on -/
theorem EndT.next {en st tk sm : Int → Int} {hm all s a k i y : Int} (q : EndT en st sm hm all 0) (hS : StM st tk sm hm) (m1 : hm ≤ 14) (m0 : 1 ≤ hm) (ea : all = P2 hm - 1) (s0 : 1 ≤ s) (s1 : s ≤ all) (a0 : 0 ≤ a) (a1 : a < hm) (ei : i = 14 * s + a) (ey : en i = y) (hy : y = 1) (ec : cNe (bt s) 0 hm = k) (hk : k < hm) : ∃ w, 0 ≤ w ∧ w < hm ∧ bt s w = 0 ∧ (∃ j, 0 ≤ j ∧ j < sm a ∧ st (22 * a + j) = w) ∧ en (14 * zor s (zshl 1 w) + w) = 1 := by
  subst ei hy
  rcases q s (by omega) s1 a a0 a1 ey with w | ⟨j, j0, j1, j2, j3⟩
  · have := bt_full (n := hm) (by omega) m1 (w.trans ea)
    omega
  · have t := ((hS a a0 a1).2.2 j j0 j1).1
    exact ⟨st (22 * a + j), t.1, t.2, j2, ⟨j, j0, j1, rfl⟩, j3⟩
