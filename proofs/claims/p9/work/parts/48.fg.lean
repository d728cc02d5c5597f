/-! two beans changed about in a packed row -/
theorem swp_a {B : Int → Int} {a b : Int} (ne : ¬ a = b) : swp B a b a = B b := by simp [swp, ne]
theorem swp_b {B : Int → Int} {a b : Int} : swp B a b b = B a := by simp [swp]
theorem swp_o {B : Int → Int} {a b j : Int} (h1 : ¬ j = a) (h2 : ¬ j = b) : swp B a b j = B j := by simp [swp, h1, h2]
theorem swp_okB {B : Int → Int} {p a b : Int} (h : okB p B) (a0 : 0 ≤ a) (a1 : a < p) (b0 : 0 ≤ b) (b1 : b < p) : okB p (swp B a b) := fun j j0 j1 => by
  by_cases e1 : j = b
  · rw [e1, swp_b]; exact h a a0 a1
  · by_cases e2 : j = a
    · rw [e2, swp_a (by omega)]; exact h b b0 b1
    · rw [swp_o e2 e1]; exact h j j0 j1
theorem val8_bit {B : Int → Int} : ∀ (n t : Nat), okB n B → (val8 B n).testBit t = (decide (t < 3 * n) && (B ((n : Int) - 1 - ((t / 3 : Nat) : Int))).toNat.testBit (t % 3))
  | 0, t, _ => by
    rw [decide_eq_false (by omega), Bool.false_and]
    exact Nat.zero_testBit t
  | n + 1, t, h => by
    have ih := val8_bit n (t - 3) (fun j a b => h j a (by omega))
    have b := h n (by omega) (by omega)
    have e : val8 B (n + 1) = 2 ^ 3 * val8 B n + (B n).toNat := rfl
    rw [e, Nat.testBit_two_pow_mul_add _ (by omega)]
    by_cases g : t < 3
    · rw [if_pos g, show t / 3 = 0 by omega, show t % 3 = t by omega, decide_eq_true (show t < 3 * (n + 1) by omega), Bool.true_and, show ((n + 1 : Nat) : Int) - 1 - ((0 : Nat) : Int) = (n : Int) by omega]
    · have d : decide (t - 3 < 3 * n) = decide (t < 3 * (n + 1)) := decide_eq_decide.mpr (by omega)
      rw [if_neg g, ih, d, show t % 3 = (t - 3) % 3 by omega, show ((n + 1 : Nat) : Int) - 1 - ((t / 3 : Nat) : Int) = (n : Int) - 1 - (((t - 3) / 3 : Nat) : Int) by omega]
theorem sh_bit {f i t : Nat} (hf : f < 8) : (f * 2 ^ (3 * i)).testBit t = (decide (t / 3 = i) && f.testBit (t % 3)) := by
  rw [← Nat.shiftLeft_eq, Nat.testBit_shiftLeft]
  by_cases g : t / 3 = i
  · rw [decide_eq_true g, decide_eq_true (show t ≥ 3 * i by omega), Bool.true_and, Bool.true_and, show t - 3 * i = t % 3 by omega]
  · rw [decide_eq_false g, Bool.false_and]
    by_cases l : t ≥ 3 * i
    · rw [decide_eq_true l, Bool.true_and]
      have h8 : 2 ^ 3 ≤ 2 ^ (t - 3 * i) := Nat.pow_le_pow_right (by decide) (by omega)
      exact Nat.testBit_lt_two_pow (by omega)
    · rw [decide_eq_false l, Bool.false_and]
theorem exch8 {B : Int → Int} {n : Nat} {a b : Int} (h : okB n B) (a0 : 0 ≤ a) (a1 : a < n) (b0 : 0 ≤ b) (b1 : b < n) (ne : ¬ a = b) : val8 (swp B a b) n = (val8 B n ^^^ (((B a).toNat ^^^ (B b).toNat) * 2 ^ (3 * (n - 1 - a.toNat)))) ^^^ (((B a).toNat ^^^ (B b).toNat) * 2 ^ (3 * (n - 1 - b.toNat))) := by
  have ha := h a a0 a1
  have hb := h b b0 b1
  have hx : (B a).toNat ^^^ (B b).toNat < 8 := Nat.xor_lt_two_pow (n := 3) (by omega) (by omega)
  apply Nat.eq_of_testBit_eq
  intro t
  rw [Nat.testBit_xor, Nat.testBit_xor, val8_bit n t (swp_okB h a0 a1 b0 b1), val8_bit n t h, sh_bit hx, sh_bit hx, Nat.testBit_xor]
  by_cases l : t < 3 * n
  · rw [decide_eq_true l, Bool.true_and, Bool.true_and]
    by_cases ja : (n : Int) - 1 - ((t / 3 : Nat) : Int) = a
    · rw [decide_eq_true (show t / 3 = n - 1 - a.toNat by omega), decide_eq_false (show ¬ t / 3 = n - 1 - b.toNat by omega), ja, swp_a ne]
      cases (B a).toNat.testBit (t % 3) <;> cases (B b).toNat.testBit (t % 3) <;> rfl
    · by_cases jb : (n : Int) - 1 - ((t / 3 : Nat) : Int) = b
      · rw [decide_eq_false (show ¬ t / 3 = n - 1 - a.toNat by omega), decide_eq_true (show t / 3 = n - 1 - b.toNat by omega), jb, swp_b]
        cases (B a).toNat.testBit (t % 3) <;> cases (B b).toNat.testBit (t % 3) <;> rfl
      · rw [decide_eq_false (show ¬ t / 3 = n - 1 - a.toNat by omega), decide_eq_false (show ¬ t / 3 = n - 1 - b.toNat by omega), swp_o ja jb]
        cases (B ((n : Int) - 1 - ((t / 3 : Nat) : Int))).toNat.testBit (t % 3) <;> rfl
  · rw [decide_eq_false l, decide_eq_false (show ¬ t / 3 = n - 1 - a.toNat by omega), decide_eq_false (show ¬ t / 3 = n - 1 - b.toNat by omega)]
    rfl
def exV (x s1 s2 : Int) : Int := zxor (zxor x (zshl (zxor (zand (zshr x s1) 7) (zand (zshr x s2) 7)) s1)) (zshl (zxor (zand (zshr x s1) 7) (zand (zshr x s2) 7)) s2)
theorem exV_of {B : Int → Int} {p a b s1 s2 : Int} (h : okB p B) (hp : p ≤ 7) (a0 : 0 ≤ a) (a1 : a < p) (b0 : 0 ≤ b) (b1 : b < p) (ne : ¬ a = b) (e1 : s1 = 3 * p - 3 * a - 3) (e2 : s2 = 3 * p - 3 * b - 3) : exV (pk3 B p.toNat) s1 s2 = pk3 (swp B a b) p.toNat := by
  have x : zand (zshr (pk3 B p.toNat) s1) 7 = B a := pk3_dig h hp a0 a1 e1 rfl
  have y : zand (zshr (pk3 B p.toNat) s2) 7 = B b := pk3_dig h hp b0 b1 e2 rfl
  have hs := swp_okB h a0 a1 b0 b1
  unfold exV
  rw [x, y]
  obtain ⟨n, rfl⟩ := Int.eq_ofNat_of_zero_le (show 0 ≤ p by omega)
  rw [show ((n : Int)).toNat = n by omega, pk3_val n (by omega) h, pk3_val n (by omega) hs, exch8 h a0 a1 b0 b1 ne]
  have ha := h a a0 a1
  have hb := h b b0 b1
  obtain ⟨c, hc⟩ := Int.eq_ofNat_of_zero_le ha.1
  obtain ⟨d, hd⟩ := Int.eq_ofNat_of_zero_le hb.1
  have hv := val8_lt n h
  have h8 : 8 ^ n ≤ 8 ^ 7 := Nat.pow_le_pow_right (by decide) (by omega)
  have e87 : (8 : Nat) ^ 7 = 2 ^ 21 := by decide
  have e21 : (2 : Nat) ^ 21 = 2097152 := by decide
  have e31 : (2 : Nat) ^ 31 = 2147483648 := by decide
  have hx : c ^^^ d < 8 := Nat.xor_lt_two_pow (n := 3) (by omega) (by omega)
  have sh : ∀ i : Nat, i ≤ 6 → (c ^^^ d) * 2 ^ (3 * i) < 2 ^ 21 := fun i hi => by
    have q : 2 ^ (3 * i) ≤ 2 ^ 18 := Nat.pow_le_pow_right (by decide) (by omega)
    have q2 : (c ^^^ d) * 2 ^ (3 * i) ≤ 7 * 2 ^ 18 := Nat.mul_le_mul (by omega) q
    have q3 : (2 : Nat) ^ 18 = 262144 := by decide
    omega
  have s1a := sh (n - 1 - a.toNat) (by omega)
  have s2a := sh (n - 1 - b.toNat) (by omega)
  have t1 : s1 = ((3 * (n - 1 - a.toNat) : Nat) : Int) := by omega
  have t2 : s2 = ((3 * (n - 1 - b.toNat) : Nat) : Int) := by omega
  have x1 : val8 B n ^^^ (c ^^^ d) * 2 ^ (3 * (n - 1 - a.toNat)) < 2 ^ 21 := Nat.xor_lt_two_pow (by omega) s1a
  rw [hc, hd, zxor_nat (by omega) (by omega), t1, t2, zshl_nat (by omega) (by omega), zshl_nat (by omega) (by omega), zxor_nat (by omega) (by omega), zxor_nat (by omega) (by omega), show ((c : Int)).toNat = c by omega, show ((d : Int)).toNat = d by omega]
/-- the first k swap-ifs but one -/
def thC (sa sb : Int → Int) (but : Int) (B : Int → Int) : Nat → (Int → Int)
  | 0 => B
  | k + 1 => if ¬ (k : Int) = but ∧ thC sa sb but B k (sb k) < thC sa sb but B k (sa k) then swp (thC sa sb but B k) (sa k) (sb k) else thC sa sb but B k
def SwV (sa sb : Int → Int) (n p : Int) : Prop := ∀ k, 0 ≤ k → k < n → 0 ≤ sa k ∧ sa k < sb k ∧ sb k < p
theorem thC_ok {sa sb B : Int → Int} {but n p : Int} (v : SwV sa sb n p) (h : okB p B) : ∀ k : Nat, (k : Int) ≤ n → okB p (thC sa sb but B k)
  | 0, _ => h
  | k + 1, hk => by
    have u := thC_ok (but := but) v h k (by omega)
    have w := v k (by omega) (by omega)
    unfold thC
    split
    · exact swp_okB u w.1 (by omega) (by omega) w.2.2
    · exact u
theorem thC_succ {sa sb B : Int → Int} {but i : Int} (i0 : 0 ≤ i) : thC sa sb but B (i + 1).toNat = if ¬ i = but ∧ thC sa sb but B i.toNat (sb i) < thC sa sb but B i.toNat (sa i) then swp (thC sa sb but B i.toNat) (sa i) (sb i) else thC sa sb but B i.toNat := by
  rw [show (i + 1).toNat = i.toNat + 1 by omega]
  show (if ¬ ((i.toNat : Nat) : Int) = but ∧ _ then _ else _) = _
  rw [show ((i.toNat : Nat) : Int) = i by omega]
def ShT (la sa : Int → Int) (n p : Int) : Prop := ∀ j, 0 ≤ j → j < n → la j = 3 * p - 3 * sa j - 3
theorem ShT_0 {la sa : Int → Int} {p : Int} : ShT la sa 0 p := fun j a b => by omega
theorem ShT.push {la la2 sa : Int → Int} {n p i v z : Int} (q : ShT la sa n p) (e : la2 = up la i v) (ei : i = n) (ez : sa n = z) (ev : v = 3 * p - 3 * z - 3) : ShT la2 sa (n + 1) p := fun j a b => by
  subst ei
  by_cases g : j = i
  · rw [g, e, up_same, ez]; exact ev
  · rw [e, up_ne g]; exact q j a (by omega)
/-- a step of run() -/
theorem run_yes {sa sb B la ra : Int → Int} {but n p i at_ l r x y w : Int} (v : SwV sa sb n p) (h : okB p B) (hp : p ≤ 7) (q : pk3 (thC sa sb but B i.toNat) p.toNat = at_) (i0 : 0 ≤ i) (i1 : i < n) (sl : ShT la sa n p) (sr : ShT ra sb n p) (el : la i = l) (er : ra i = r) (ex : zand (zshr at_ l) 7 = x) (ey : zand (zshr at_ r) 7 = y) (hb : ¬ i = but) (hxy : y < x) (ew : exV at_ l r = w) : pk3 (thC sa sb but B (i + 1).toNat) p.toNat = w := by
  have o := thC_ok (but := but) v h i.toNat (by omega)
  have u := v i i0 i1
  have l1 := (sl i i0 i1).symm.trans el
  have r1 := (sr i i0 i1).symm.trans er
  subst q
  have dx := pk3_dig o hp u.1 (by omega) l1.symm ex
  have dy := pk3_dig o hp (by omega) u.2.2 r1.symm ey
  rw [thC_succ i0, if_pos ⟨hb, by rw [← dx, ← dy]; exact hxy⟩, ← ew]
  exact (exV_of o hp u.1 (by omega) (by omega) u.2.2 (by omega) l1.symm r1.symm).symm
theorem run_no {sa sb B la ra : Int → Int} {but n p i at_ l r x y : Int} (v : SwV sa sb n p) (h : okB p B) (hp : p ≤ 7) (q : pk3 (thC sa sb but B i.toNat) p.toNat = at_) (i0 : 0 ≤ i) (i1 : i < n) (sl : ShT la sa n p) (sr : ShT ra sb n p) (el : la i = l) (er : ra i = r) (ex : zand (zshr at_ l) 7 = x) (ey : zand (zshr at_ r) 7 = y) (hxy : ¬ y < x) : pk3 (thC sa sb but B (i + 1).toNat) p.toNat = at_ := by
  have o := thC_ok (but := but) v h i.toNat (by omega)
  have u := v i i0 i1
  have l1 := (sl i i0 i1).symm.trans el
  have r1 := (sr i i0 i1).symm.trans er
  subst q
  have dx := pk3_dig o hp u.1 (by omega) l1.symm ex
  have dy := pk3_dig o hp (by omega) u.2.2 r1.symm ey
  rw [thC_succ i0, if_neg (fun g => hxy (by rw [dx, dy]; exact g.2))]
theorem run_but {sa sb B : Int → Int} {but p i at_ : Int} (q : pk3 (thC sa sb but B i.toNat) p.toNat = at_) (i0 : 0 ≤ i) (hb : i = but) : pk3 (thC sa sb but B (i + 1).toNat) p.toNat = at_ := by
  rw [thC_succ i0, if_neg (fun g => g.1 hb)]; exact q
