/-! the house of a code -/
theorem cod5_inj {B C : Int → Int} : ∀ n : Nat, okB n B → okB n C → cod5 B n = cod5 C n → ∀ j : Int, 0 ≤ j → j < n → B j = C j
  | 0, _, _, _, j, a, b => by omega
  | n + 1, hB, hC, e, j, a, b => by
    have b1 := hB n (by omega) (by omega)
    have c1 := hC n (by omega) (by omega)
    unfold cod5 at e
    by_cases g : j = n
    · rw [g]; omega
    · exact cod5_inj n (fun i x y => hB i x (by omega)) (fun i x y => hC i x (by omega)) (by omega) j a (by omega)
theorem OrR.code {cd S B : Int → Int} {m x r : Int} (hT : ∀ h, 0 ≤ h → h < m → cd h = cod5 (itB S h.toNat) (bsum S).toNat) (hf : okF S) (hm : m = Hi S) (hB : okB (bsum S) B) (hx : cod5 B (bsum S).toNat = x) (r0 : -1 ≤ r) (r1 : r < m) (q1 : 0 ≤ r → cd r = x) (q2 : ∀ t, 0 ≤ t → t < m → cd t = x → r = t) : OrR S B r := by
  have hp := bsum_pos hf
  have ep : ((bsum S).toNat : Int) = bsum S := by omega
  refine ⟨r0, by omega, fun k => fun j a b => ?_, fun t a b e => ?_⟩
  · refine cod5_inj (bsum S).toNat (by rw [ep]; exact hB) (by rw [ep]; exact (it_inv hf r.toNat (by unfold Hi at hm; omega)).2.2) ?_ j a (by omega)
    rw [hx, ← q1 k, hT r k r1]
  · refine q2 t a (by omega) ?_
    rw [hT t a (by omega), ← hx]
    exact (cod5_congr _ (fun j c d => e j c (by omega))).symm
def HcR (S : Int → Int) (x r : Int) : Prop := -1 ≤ r ∧ r < Hi S ∧ (0 ≤ r → cod5 (itB S r.toNat) (bsum S).toNat = x) ∧ ∀ t, 0 ≤ t → t < Hi S → cod5 (itB S t.toNat) (bsum S).toNat = x → r = t
theorem HcR.one {S : Int → Int} {x : Int} (a b : Int) (h : HcR S x a) (g : HcR S x b) : a = b := by
  by_cases k : 0 ≤ a
  · exact (g.2.2.2 a k h.2.1 (h.2.2.1 k)).symm
  · by_cases l : 0 ≤ b
    · exact h.2.2.2 b l g.2.1 (g.2.2.1 l)
    · have := h.1
      have := g.1
      omega
theorem HcR.cg {S S2 : Int → Int} {x r : Int} (h : ∀ j, 0 ≤ j → j < 5 → S j = S2 j) (q : HcR S x r) : HcR S2 x r := by
  unfold HcR at q
  rw [Hi_sm h, bsum_sm h] at q
  refine ⟨q.1, q.2.1, fun k => ?_, fun t a b w => ?_⟩
  · rw [← itB_same h]; exact q.2.2.1 k
  · refine q.2.2.2 t a b ?_
    rw [itB_same h]; exact w
theorem HcR.ref {co cd S : Int → Int} {m x r : Int} (hT : HouT co cd S m) (hm : m = Hi S) (r0 : -1 ≤ r) (r1 : r < m) (q1 : 0 ≤ r → cd r = x) (q2 : ∀ t, 0 ≤ t → t < m → cd t = x → r = t) : HcR S x r := by
  refine ⟨r0, by omega, fun k => ?_, fun t a b w => q2 t a (by omega) ?_⟩
  · rw [← (hT r k r1).1]; exact q1 k
  · rw [(hT t a (by omega)).1]; exact w
theorem cod5_lt {B : Int → Int} : ∀ n : Nat, okB n B → 0 ≤ cod5 B n ∧ cod5 B n < ((5 ^ n : Nat) : Int)
  | 0, _ => ⟨Int.le_refl _, (by show (0 : Int) < ((5 ^ 0 : Nat) : Int); decide)⟩
  | n + 1, h => by
    have u := cod5_lt n (fun j a b => h j a (by omega))
    have v := h n (by omega) (by omega)
    unfold cod5
    rw [Nat.pow_succ]
    omega
theorem HcR.none {S : Int → Int} {x : Int} (hf : okF S) (hx : x < 0 ∨ ((5 ^ (bsum S).toNat : Nat) : Int) ≤ x) : HcR S x (-1) := by
  have u := Hi_rng hf
  have hp := bsum_pos hf
  refine ⟨Int.le_refl _, by omega, fun w => absurd w (by decide), fun t a b w => ?_⟩
  have k := cod5_lt (B := itB S t.toNat) (bsum S).toNat (by rw [show ((bsum S).toNat : Int) = bsum S by omega]; exact (it_inv hf t.toNat (by unfold Hi at b; omega)).2.2)
  omega
/-- the digits of a code, the first the highest -/
def dgD (x p : Int) : Int → Int := fun j => ((x.toNat / 5 ^ (p - 1 - j).toNat % 5 : Nat) : Int)
theorem dgD_ok {x p : Int} : okB p (dgD x p) := fun j _ _ => by
  have := Nat.mod_lt (x.toNat / 5 ^ (p - 1 - j).toNat) (show 5 > 0 by decide)
  show 0 ≤ ((x.toNat / 5 ^ (p - 1 - j).toNat % 5 : Nat) : Int) ∧ ((x.toNat / 5 ^ (p - 1 - j).toNat % 5 : Nat) : Int) ≤ 4
  omega
theorem dgD_cod {x : Int} {n : Nat} : ∀ m : Nat, m ≤ n → cod5 (dgD x n) m = ((x.toNat / 5 ^ (n - m) % 5 ^ m : Nat) : Int)
  | 0, _ => by
    rw [Nat.pow_zero, Nat.mod_one]; rfl
  | m + 1, h => by
    have u := dgD_cod (x := x) (n := n) m (by omega)
    unfold cod5
    rw [u]
    show 5 * ((x.toNat / 5 ^ (n - m) % 5 ^ m : Nat) : Int) + ((x.toNat / 5 ^ ((n : Int) - 1 - (m : Int)).toNat % 5 : Nat) : Int) = _
    rw [show ((n : Int) - 1 - (m : Int)).toNat = n - (m + 1) by omega, show n - m = (n - (m + 1)) + 1 by omega, Nat.pow_succ, ← Nat.div_div_eq_div_mul, Nat.pow_succ, Nat.mul_comm (5 ^ m) 5, Nat.mod_mul]
    omega
theorem dgD_all {x p : Int} (x0 : 0 ≤ x) (p0 : 0 ≤ p) (h : x < ((5 ^ p.toNat : Nat) : Int)) : cod5 (dgD x p) p.toNat = x := by
  obtain ⟨n, rfl⟩ := Int.eq_ofNat_of_zero_le p0
  rw [show ((n : Int)).toNat = n by omega] at h ⊢
  rw [dgD_cod n (Nat.le_refl _), Nat.sub_self, Nat.pow_zero, Nat.div_one, Nat.mod_eq_of_lt (by omega)]
  omega
/-- the last k digits, packed -/
def tlV (B : Int → Int) (p : Int) : Nat → Nat
  | 0 => 0
  | k + 1 => tlV B p k + (B (p - 1 - k)).toNat * 8 ^ k
theorem tlV_lt {B : Int → Int} {p : Int} (h : okB p B) : ∀ k : Nat, (k : Int) ≤ p → tlV B p k < 8 ^ k
  | 0, _ => by show (0 : Nat) < 8 ^ 0; decide
  | k + 1, hk => by
    have u := tlV_lt h k (by omega)
    have v := h (p - 1 - k) (by omega) (by omega)
    have w : (B (p - 1 - k)).toNat * 8 ^ k ≤ 4 * 8 ^ k := Nat.mul_le_mul_right _ (by omega)
    unfold tlV
    rw [Nat.pow_succ]
    omega
theorem val8_tl {B : Int → Int} {n : Nat} : ∀ k : Nat, k ≤ n → val8 B n = val8 B (n - k) * 8 ^ k + tlV B n k
  | 0, _ => by
    rw [Nat.pow_zero, Nat.mul_one]; rfl
  | k + 1, h => by
    have u := val8_tl (B := B) (n := n) k (by omega)
    obtain ⟨m, hm⟩ : ∃ m : Nat, n - k = m + 1 := ⟨n - k - 1, by omega⟩
    rw [u, hm]
    have e1 : val8 B (m + 1) = 8 * val8 B m + (B m).toNat := rfl
    have e2 : tlV B n (k + 1) = tlV B n k + (B ((n : Int) - 1 - (k : Int))).toNat * 8 ^ k := rfl
    rw [e1, e2, show n - (k + 1) = m by omega, show ((n : Int) - 1 - (k : Int)) = (m : Int) by omega, Nat.pow_succ, Nat.add_mul]
    have e : 8 * val8 B m * 8 ^ k = val8 B m * (8 ^ k * 8) := by
      rw [Nat.mul_comm 8, Nat.mul_assoc, Nat.mul_comm 8]
    omega
theorem tlV_all {B : Int → Int} {p : Int} (p0 : 0 ≤ p) (hp : p ≤ 7) (h : okB p B) : pk3 B p.toNat = ((tlV B p p.toNat : Nat) : Int) := by
  obtain ⟨n, rfl⟩ := Int.eq_ofNat_of_zero_le p0
  rw [show ((n : Int)).toNat = n by omega, pk3_val n (by omega) h, val8_tl n (Nat.le_refl _), Nat.sub_self]
  show ((0 * 8 ^ n + tlV B n n : Nat) : Int) = _
  rw [Nat.zero_mul, Nat.zero_add]
theorem tlV_step {B : Int → Int} {p i row d sh z r2 : Int} (h : okB p B) (hp : p ≤ 7) (i0 : 0 ≤ i) (i1 : i < p) (q : row = ((tlV B p (p - 1 - i).toNat : Nat) : Int)) (ed : d = B i) (hs : sh = 3 * p - 3 * i - 3) (e1 : zshl d sh = z) (e2 : zor row z = r2) : r2 = ((tlV B p (p - 1 - (i - 1)).toNat : Nat) : Int) := by
  obtain ⟨k, hk⟩ : ∃ k : Nat, (p - 1 - i).toNat = k := ⟨_, rfl⟩
  have lt := tlV_lt h k (by omega)
  have b := h i i0 i1
  obtain ⟨c, hc⟩ := Int.eq_ofNat_of_zero_le b.1
  have h6 : 8 ^ k ≤ 8 ^ 6 := Nat.pow_le_pow_right (by decide) (by omega)
  have e6 : (8 : Nat) ^ 6 = 262144 := by decide
  have e8 : (8 : Nat) ^ k = 2 ^ (3 * k) := by rw [Nat.pow_mul]
  have hc4 : c * 8 ^ k ≤ 4 * 8 ^ k := Nat.mul_le_mul_right _ (by omega)
  rw [show (p - 1 - (i - 1)).toNat = k + 1 by omega]
  unfold tlV
  rw [show p - 1 - (k : Int) = i by omega, hc, show ((c : Int)).toNat = c by omega]
  have hs2 : sh = ((3 * k : Nat) : Int) := by omega
  have q1 : z = ((c * 2 ^ (3 * k) : Nat) : Int) := by
    rw [← e1, ed, hc, hs2]
    exact zshl_nat (k := 3 * k) (by omega) (by rw [← e8]; omega)
  rw [← e2, q, q1, hk, zor_nat (by omega) (by rw [← e8]; omega), Nat.or_comm, Nat.mul_comm c, ← Nat.two_pow_add_eq_or_of_lt (by rw [← e8]; exact lt), ← e8]
  rw [Nat.mul_comm c]
  omega
theorem HcR.find {R S : Int → Int} {m x row r : Int} (hR : RowsTo R S m) (hf : okF S) (hm : m = Hi S) (x0 : 0 ≤ x) (hx : x < ((5 ^ (bsum S).toNat : Nat) : Int)) (er : row = ((tlV (dgD x (bsum S)) (bsum S) (bsum S).toNat : Nat) : Int)) (r0 : -1 ≤ r) (r1 : r < m) (q : FnR R m row r) : HcR S x r := by
  have hp := bsum_pos hf
  have o := OrR.find hR hf hm (B := dgD x (bsum S)) dgD_ok (by rw [er]; exact tlV_all hp hf.2.2.2.2.2 dgD_ok) r0 r1 q
  have ex := dgD_all x0 hp hx
  refine ⟨o.1, o.2.1, fun k => ?_, fun t a b w => o.2.2.2 t a b ?_⟩
  · rw [← cod5_congr _ (fun j c d => o.2.2.1 k j c (by omega))]; exact ex
  · have ep : ((bsum S).toNat : Int) = bsum S := by omega
    exact fun j c d => cod5_inj (bsum S).toNat (by rw [ep]; exact dgD_ok) (by rw [ep]; exact (it_inv hf t.toNat (by unfold Hi at b; omega)).2.2) (ex.trans w.symm) j c (by omega)
theorem dv5 {x l d : Int} {k : Nat} (x0 : 0 ≤ x) (e : l = ((x.toNat / 5 ^ k : Nat) : Int)) (ed : l / 5 = d) : d = ((x.toNat / 5 ^ (k + 1) : Nat) : Int) := by
  rw [Nat.pow_succ, ← Nat.div_div_eq_div_mul, ← ed, e]
  omega
theorem md5 {x p l i d : Int} (e : l = ((x.toNat / 5 ^ (p - 1 - i).toNat : Nat) : Int)) (ed : l % 5 = d) : d = dgD x p i := by
  show d = ((x.toNat / 5 ^ (p - 1 - i).toNat % 5 : Nat) : Int)
  rw [← ed, e]
  omega
theorem left0 {x l p : Int} (x0 : 0 ≤ x) (e : l = ((x.toNat / 5 ^ p.toNat : Nat) : Int)) (h : l = 0) : x < ((5 ^ p.toNat : Nat) : Int) := by
  have u : x.toNat / 5 ^ p.toNat = 0 := by omega
  have v := Nat.lt_of_div_eq_zero (Nat.pow_pos (by decide)) u
  omega
theorem left1 {x l p : Int} (x0 : 0 ≤ x) (e : l = ((x.toNat / 5 ^ p.toNat : Nat) : Int)) (h : ¬ l = 0) : ((5 ^ p.toNat : Nat) : Int) ≤ x := by
  by_cases g : x.toNat < 5 ^ p.toNat
  · exact absurd (by rw [e, Nat.div_eq_of_lt g]; rfl) h
  · omega
/-- read backward -/
def rvB (B : Int → Int) (p : Int) : Int → Int := fun j => B (p - 1 - j)
theorem rvB_ok {B : Int → Int} {p : Int} (h : okB p B) : okB p (rvB B p) := fun j a b => h (p - 1 - j) (by omega) (by omega)
theorem rvB_step {B : Int → Int} {p i r z r2 : Int} (h : pk3 (rvB B p) (p - 1 - i).toNat = r) (i0 : 0 ≤ i) (i1 : i < p) (e : z = B i) (e2 : zor (zshl r 3) z = r2) : pk3 (rvB B p) (p - 1 - (i - 1)).toNat = r2 := by
  rw [show p - 1 - (i - 1) = (p - 1 - i) + 1 by omega]
  refine pk3_step h (by omega) ?_ e2
  show B (p - 1 - (p - 1 - i)) = z
  rw [show p - 1 - (p - 1 - i) = i by omega, e]
