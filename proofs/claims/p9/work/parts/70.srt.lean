/-! rows for the reference: swap-ifs, pairs of postmen -/
def thr (K : Int → Int) (but : Int) (B : Int → Int) : Nat → (Int → Int)
  | 0 => B
  | n + 1 => if ¬ (n : Int) = but ∧ thr K but B n (K (24 + 2 * (n : Int))) < thr K but B n (K (23 + 2 * (n : Int))) then swp (thr K but B n) (K (23 + 2 * (n : Int))) (K (24 + 2 * (n : Int))) else thr K but B n
theorem swp_EqOn {p a b : Int} {B C : Int → Int} (q : EqOn p B C) (a0 : 0 ≤ a) (a1 : a < p) (b0 : 0 ≤ b) (b1 : b < p) : EqOn p (swp B a b) (swp C a b) := fun j h0 h1 => by
  unfold swp
  split
  · exact q a a0 a1
  · split
    · exact q b b0 b1
    · exact q j h0 h1
theorem thr_yes {K o o2 B : Int → Int} {p k but a b x y : Int} (q : EqOn p o (thr K but B k.toNat)) (k0 : 0 ≤ k) (ea : K (2 * k + 23) = a) (eb : K (2 * k + 24) = b) (a0 : 0 ≤ a) (a1 : a < p) (b0 : 0 ≤ b) (b1 : b < p) (ex : o a = x) (ey : o b = y) (hk : ¬ k = but) (h : y < x) (e : o2 = swp o a b) : EqOn p o2 (thr K but B (k + 1).toNat) := by
  obtain ⟨n, rfl⟩ := Int.eq_ofNat_of_zero_le k0
  have e1 : K (23 + 2 * (n : Int)) = a := by rw [Int.add_comm]; exact ea
  have e2 : K (24 + 2 * (n : Int)) = b := by rw [Int.add_comm]; exact eb
  have q' : EqOn p o (thr K but B n) := q
  show EqOn p o2 (thr K but B (n + 1))
  unfold thr
  rw [e1, e2, if_pos ⟨hk, by rw [← q' a a0 a1, ← q' b b0 b1, ex, ey]; exact h⟩, e]
  exact swp_EqOn q' a0 a1 b0 b1
theorem thr_but {K o B : Int → Int} {p k but : Int} (q : EqOn p o (thr K but B k.toNat)) (k0 : 0 ≤ k) (hk : k = but) : EqOn p o (thr K but B (k + 1).toNat) := by
  obtain ⟨n, rfl⟩ := Int.eq_ofNat_of_zero_le k0
  have q' : EqOn p o (thr K but B n) := q
  show EqOn p o (thr K but B (n + 1))
  unfold thr
  rw [if_neg (fun w => w.1 hk)]
  exact q'
theorem thr_no {K o B : Int → Int} {p k but a b x y : Int} (q : EqOn p o (thr K but B k.toNat)) (k0 : 0 ≤ k) (ea : K (2 * k + 23) = a) (eb : K (2 * k + 24) = b) (a0 : 0 ≤ a) (a1 : a < p) (b0 : 0 ≤ b) (b1 : b < p) (ex : o a = x) (ey : o b = y) (h : x ≤ y) : EqOn p o (thr K but B (k + 1).toNat) := by
  obtain ⟨n, rfl⟩ := Int.eq_ofNat_of_zero_le k0
  have e1 : K (23 + 2 * (n : Int)) = a := by rw [Int.add_comm]; exact ea
  have e2 : K (24 + 2 * (n : Int)) = b := by rw [Int.add_comm]; exact eb
  have q' : EqOn p o (thr K but B n) := q
  show EqOn p o (thr K but B (n + 1))
  unfold thr
  rw [e1, e2, if_neg (fun w => by have u := w.2; rw [← q' a a0 a1, ← q' b b0 b1, ex, ey] at u; omega)]
  exact q'
def srtN (K cd : Int → Int) (but : Int) (m : Nat) (hm : Int) : Nat → Int
  | 0 => 0
  | j + 1 => srtN K cd but m hm j + (if cod5 (thr K but (itB K (hm - 1 - (j : Int)).toNat) m) (bsum K).toNat = cd 0 then 1 else 0)
theorem srt_step {K cd o : Int → Int} {but m hm h n p r z n2 : Int} (q : srtN K cd but m.toNat hm (hm - 1 - h).toNat = n) (h0 : 0 ≤ h) (h1 : h < hm) (eo : EqOn (bsum K) o (thr K but (itB K h.toNat) m.toNat)) (hp : p = bsum K) (er : cod5 o p.toNat = r) (ez : cd 0 = z) (hn : (r = z ∧ n2 = n + 1) ∨ (¬ r = z ∧ n2 = n)) : srtN K cd but m.toNat hm (hm - 1 - (h - 1)).toNat = n2 := by
  have e1 : (hm - 1 - (h - 1)).toNat = (hm - 1 - h).toNat + 1 := by omega
  have e2 : (hm - 1 - (((hm - 1 - h).toNat : Nat) : Int)).toNat = h.toNat := by omega
  rw [e1]
  unfold srtN
  rw [q, e2, ← cod5_congr _ (fun j a b => eo j a (by omega)), ez, ← hp, er]
  rcases hn with ⟨a, b⟩ | ⟨a, b⟩
  · rw [if_pos a, b]
  · rw [if_neg a, b]; omega
theorem srt_lt {K cd : Int → Int} {but n m hm r t : Int} (e1 : srtN K cd but n.toNat hm hm.toNat = r) (e2 : srtN K cd but m.toNat hm hm.toNat = t) (h : ¬ t ≤ r) : ¬ n = m := fun w => by
  subst w
  exact h (by rw [← e1, ← e2]; exact Int.le_refl _)
/-- the pairs in the line of postmen -/
def PaL (li : Int → Int) (n hm : Int) : Prop := ∀ j, 0 ≤ j → j < n → 0 ≤ li j ∧ li j / 40 < hm ∧ li j % 40 < hm
theorem PaL.at {li : Int → Int} {n hm i z : Int} (q : PaL li n hm) (h0 : 0 ≤ i) (h1 : i < n) (e : li i = z) : 0 ≤ z ∧ z / 40 < hm ∧ z % 40 < hm := e ▸ q i h0 h1
theorem PaL.push {li li2 : Int → Int} {n hm i v a b n2 : Int} (q : PaL li n hm) (e : li2 = up li i v) (hi : i = n) (hn : n2 = n + 1) (hv : v = 40 * a + b) (a0 : 0 ≤ a) (a1 : a < hm) (b0 : 0 ≤ b) (b1 : b < hm) (hm40 : hm ≤ 40) : PaL li2 n2 hm := fun j h0 h1 => by
  subst e
  by_cases r : j = i
  · rw [r, up_same]
    omega
  · rw [up_ne r]; exact q j h0 (by omega)
theorem PaL_0 {li : Int → Int} {hm : Int} : PaL li 0 hm := fun j a b => by omega
