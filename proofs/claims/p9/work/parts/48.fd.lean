/-! rows of beans are ordered as packed; finding one of them -/
def cd8L : Nat → List Int → Nat
  | acc, [] => acc
  | acc, a :: t => cd8L (8 * acc + a.toNat) t
theorem cd8L_add : ∀ (t : List Int) (acc : Nat), cd8L acc t = acc * 8 ^ t.length + cd8L 0 t
  | [], acc => by simp [cd8L]
  | a :: t, acc => by
    show cd8L (8 * acc + a.toNat) t = acc * 8 ^ (t.length + 1) + cd8L (8 * 0 + a.toNat) t
    rw [cd8L_add t (8 * acc + a.toNat), cd8L_add t (8 * 0 + a.toNat), Nat.pow_succ, Nat.add_mul, Nat.add_mul]
    have : 8 * acc * 8 ^ t.length = acc * (8 ^ t.length * 8) := by
      rw [Nat.mul_comm 8 acc, Nat.mul_assoc, Nat.mul_comm 8]
    omega
theorem cd8L_lt : ∀ t : List Int, okL t → cd8L 0 t < 8 ^ t.length
  | [], _ => by decide
  | a :: t, h => by
    have h1 := cd8L_lt t (fun c hc => h c (List.mem_cons_of_mem _ hc))
    have ha := h a List.mem_cons_self
    show cd8L (8 * 0 + a.toNat) t < 8 ^ (t.length + 1)
    rw [cd8L_add, Nat.pow_succ]
    have h2 : (8 * 0 + a.toNat) * 8 ^ t.length ≤ 4 * 8 ^ t.length := Nat.mul_le_mul_right _ (by omega)
    omega
theorem code8_mono : ∀ (w v : List Int), okL w → okL v → w.length = v.length → cntL w = cntL v → rank w < rank v → cd8L 0 w < cd8L 0 v
  | [], [], _, _, _, _, h => by simp [rank] at h
  | [], _ :: _, _, _, h, _, _ => by simp at h
  | _ :: _, [], _, _, h, _, _ => by simp at h
  | a :: t, b :: u, ho, hv, hl, hc, hr => by
    have hl2 : t.length = u.length := by simpa using hl
    have hr : lowS t.length (cntL (a :: t)) a + rank t < lowS u.length (cntL (b :: u)) b + rank u := hr
    have ha := ho a List.mem_cons_self
    have hb := hv b List.mem_cons_self
    have ot : okL t := fun c hc => ho c (List.mem_cons_of_mem _ hc)
    have ou : okL u := fun c hc => hv c (List.mem_cons_of_mem _ hc)
    have e1 := tm_head a t
    have e2 := tm_head b u
    have k1 := rank_lt t ot
    have k2 := rank_lt u ou
    rw [← hl2, ← hc] at hr
    rw [← hl2, ← hc] at e2
    have c1 := cd8L_lt t ot
    have c2 := cd8L_lt u ou
    show cd8L (8 * 0 + a.toNat) t < cd8L (8 * 0 + b.toNat) u
    rw [cd8L_add, cd8L_add u, ← hl2]
    rcases Int.lt_trichotomy a b with q | q | q
    · have h5 : (8 * 0 + a.toNat + 1) * 8 ^ t.length ≤ (8 * 0 + b.toNat) * 8 ^ t.length := Nat.mul_le_mul_right _ (by omega)
      rw [Nat.add_mul, Nat.one_mul] at h5
      omega
    · subst q
      have hc2 : cntL t = cntL u := by rw [← dec_cnt a t, ← dec_cnt a u, hc]
      have := code8_mono t u ot ou hl2 hc2 (by omega)
      omega
    · have := low_lt (n := t.length) (b := cntL (a :: t)) hb ha q
      omega
theorem cd8L_snoc : ∀ (t : List Int) (acc : Nat) (a : Int), cd8L acc (t ++ [a]) = 8 * cd8L acc t + a.toNat
  | [], acc, a => rfl
  | b :: t, acc, a => cd8L_snoc t (8 * acc + b.toNat) a
theorem val8_L {B : Int → Int} : ∀ n : Nat, val8 B n = cd8L 0 (seg B 0 n)
  | 0 => rfl
  | n + 1 => by
    rw [seg_app B n 1 0, show seg B (0 + n) 1 = [B n] by show [B (0 + n)] = _; rw [Int.zero_add], cd8L_snoc]
    unfold val8
    rw [val8_L n]
theorem it_pk3 {f : Int → Int} (h : okF f) {k m : Nat} (hk : k < m) (hm : m < Hn f) : pk3 (itB f k) (bsum f).toNat < pk3 (itB f m) (bsum f).toNat := by
  obtain ⟨k1, k2, k3⟩ := it_inv h k (by omega)
  obtain ⟨m1, m2, m3⟩ := it_inv h m hm
  have hp := bsum_pos h
  have h7 := h.2.2.2.2.2
  have e : ((bsum f).toNat : Int) = bsum f := by omega
  rw [pk3_val _ (by omega) (by rw [e]; exact k3), pk3_val _ (by omega) (by rw [e]; exact m3), val8_L, val8_L]
  have := code8_mono _ _ (okB_seg k3 (Int.le_refl 0) (by omega)) (okB_seg m3 (Int.le_refl 0) (by omega)) (by rw [seg_len, seg_len]) (k2.trans m2.symm) (by rw [k1, m1]; exact hk)
  omega
/-- strictly rising -/
def MnR (R : Int → Int) (m : Int) : Prop := ∀ a b, 0 ≤ a → a < b → b < m → R a < R b
theorem Rows_mono {R f : Int → Int} {m : Int} (hR : RowsTo R f m) (hf : okF f) (hm : m = Hi f) : MnR R m := fun a b a0 ab b1 => by
  rw [hR a a0 (by omega), hR b (by omega) b1]
  exact it_pk3 hf (by omega) (by unfold Hi at hm; omega)
def TgC (R : Int → Int) (m x low high : Int) : Prop := ∀ t, 0 ≤ t → t < m → R t = x → low ≤ t ∧ t ≤ high
theorem TgC_0 {R : Int → Int} {m x : Int} : TgC R m x 0 (m - 1) := fun t a b _ => ⟨a, by omega⟩
theorem TgC.low {R : Int → Int} {m x low high mid z : Int} (q : TgC R m x low high) (hM : MnR R m) (m1 : mid < m) (e : R mid = z) (hz : z < x) : TgC R m x (mid + 1) high := fun t a b c => by
  obtain ⟨q1, q2⟩ := q t a b c
  refine ⟨?_, q2⟩
  rcases Int.lt_trichotomy t mid with w | w | w
  · have := hM t mid a w m1
    omega
  · rw [w, e] at c; omega
  · omega
theorem TgC.high {R : Int → Int} {m x low high mid z : Int} (q : TgC R m x low high) (hM : MnR R m) (m0 : 0 ≤ mid) (e : R mid = z) (hz : x < z) : TgC R m x low (mid - 1) := fun t a b c => by
  obtain ⟨q1, q2⟩ := q t a b c
  refine ⟨q1, ?_⟩
  rcases Int.lt_trichotomy t mid with w | w | w
  · omega
  · rw [w, e] at c; omega
  · have := hM mid t m0 w b
    omega
/-- what find() finds -/
def FnR (R : Int → Int) (m x r : Int) : Prop := (0 ≤ r → R r = x) ∧ ∀ t, 0 ≤ t → t < m → R t = x → r = t
theorem FnR_hit {R : Int → Int} {m x mid z : Int} (hM : MnR R m) (m0 : 0 ≤ mid) (m1 : mid < m) (e : R mid = z) (hz : z = x) : FnR R m x mid := by
  refine ⟨fun _ => e.trans hz, fun t a b c => ?_⟩
  rcases Int.lt_trichotomy t mid with w | w | w
  · have := hM t mid a w m1
    omega
  · exact w.symm
  · have := hM mid t m0 w b
    omega
theorem FnR_none {R : Int → Int} {m x low high : Int} (q : TgC R m x low high) (h : high < low) : FnR R m x (-1) := ⟨fun w => absurd w (by decide), fun t a b c => by have := q t a b c; omega⟩
theorem pk3_inj {B C : Int → Int} {p : Int} (p0 : 0 ≤ p) (hp : p ≤ 7) (hB : okB p B) (hC : okB p C) (e : pk3 B p.toNat = pk3 C p.toNat) : EqOn p B C := fun j a b => by
  obtain ⟨n, rfl⟩ := Int.eq_ofNat_of_zero_le p0
  obtain ⟨k, rfl⟩ := Int.eq_ofNat_of_zero_le a
  rw [show ((n : Int)).toNat = n by omega, pk3_val n (by omega) hB, pk3_val n (by omega) hC] at e
  have e2 : val8 B n = val8 C n := by omega
  rw [← val8_dig n k hB (by omega), ← val8_dig n k hC (by omega), e2]
/-- the only one that is so -/
noncomputable def the (P : Int → Prop) : Int := Classical.epsilon P
theorem the_of {P : Int → Prop} {r : Int} (h : P r) (u : ∀ a b, P a → P b → a = b) : r = the P := u _ _ h (Classical.epsilon_spec ⟨r, h⟩)
theorem the_is {P : Int → Prop} {r : Int} (h : P r) : P (the P) := Classical.epsilon_spec ⟨r, h⟩
/-- the house of an order (none: -1) -/
def OrR (S B : Int → Int) (r : Int) : Prop := -1 ≤ r ∧ r < Hi S ∧ (0 ≤ r → EqOn (bsum S) B (itB S r.toNat)) ∧ ∀ t, 0 ≤ t → t < Hi S → EqOn (bsum S) B (itB S t.toNat) → r = t
theorem OrR.one {S B : Int → Int} (a b : Int) (h : OrR S B a) (g : OrR S B b) : a = b := by
  by_cases k : 0 ≤ a
  · exact (g.2.2.2 a k h.2.1 (h.2.2.1 k)).symm
  · by_cases l : 0 ≤ b
    · exact h.2.2.2 b l g.2.1 (g.2.2.1 l)
    · have := h.1
      have := g.1
      omega
theorem OrR.find {R S B : Int → Int} {m x r : Int} (hR : RowsTo R S m) (hf : okF S) (hm : m = Hi S) (hB : okB (bsum S) B) (hx : pk3 B (bsum S).toNat = x) (r0 : -1 ≤ r) (r1 : r < m) (q : FnR R m x r) : OrR S B r := by
  have hp := bsum_pos hf
  refine ⟨r0, by omega, fun k => ?_, fun t a b e => ?_⟩
  · refine pk3_inj hp hf.2.2.2.2.2 hB (it_inv hf r.toNat (by unfold Hi at hm; omega)).2.2 ?_
    rw [hx, ← q.1 k, hR r k r1]
  · refine q.2 t a (by omega) ?_
    rw [hR t a (by omega), ← hx]
    exact (pk3_congr _ (fun j c d => e j c (by omega))).symm
theorem colAt_same {f g : Int → Int} (h : ∀ j, 0 ≤ j → j < 5 → f j = g j) : colAt f = colAt g := by
  funext j
  unfold colAt
  rw [h 0 (by decide) (by decide), h 1 (by decide) (by decide), h 2 (by decide) (by decide), h 3 (by decide) (by decide)]
theorem bsum_sm {F G : Int → Int} (h : ∀ j, 0 ≤ j → j < 5 → F j = G j) : bsum F = bsum G := by
  unfold bsum
  rw [h 0 (by decide) (by decide), h 1 (by decide) (by decide), h 2 (by decide) (by decide), h 3 (by decide) (by decide), h 4 (by decide) (by decide)]
theorem itB_same {f g : Int → Int} (h : ∀ j, 0 ≤ j → j < 5 → f j = g j) : ∀ k : Nat, itB f k = itB g k
  | 0 => colAt_same h
  | k + 1 => by
    unfold itB
    rw [itB_same h k, bsum_sm h]
theorem Hi_sm {f g : Int → Int} (h : ∀ j, 0 ≤ j → j < 5 → f j = g j) : Hi f = Hi g := by
  unfold Hi Hn
  rw [colAt_same h, bsum_sm h]
theorem OrR.cg {S S2 B B2 : Int → Int} {r : Int} (h : ∀ j, 0 ≤ j → j < 5 → S j = S2 j) (e : EqOn (bsum S2) B2 B) (q : OrR S B r) : OrR S2 B2 r := by
  unfold OrR at q
  rw [Hi_sm h, bsum_sm h] at q
  refine ⟨q.1, q.2.1, fun k => ?_, fun t a b w => ?_⟩
  · have u := q.2.2.1 k
    rw [itB_same h] at u
    exact e.trans u
  · refine q.2.2.2 t a b ?_
    rw [itB_same h]
    exact e.symm.trans w
/-- pairs of which the left one is greater: those of the first a places, and of place a with the first b -/
def inC (B : Int → Int) (a : Int) : Nat → Int
  | 0 => 0
  | n + 1 => inC B a n + (if a < (n : Int) ∧ B n < B a then 1 else 0)
def inN (B : Int → Int) (p : Nat) : Nat → Int
  | 0 => 0
  | n + 1 => inN B p n + inC B n p
theorem inC_lo {B : Int → Int} {a : Int} : ∀ n : Nat, (n : Int) ≤ a + 1 → inC B a n = 0
  | 0, _ => rfl
  | n + 1, h => by
    unfold inC
    rw [inC_lo n (by omega), if_neg (by omega)]; rfl
theorem inC_step {B : Int → Int} {a b n n0 x y d : Int} (q : n = n0 + inC B a b.toNat) (b0 : 0 ≤ b) (ab : a < b) (ex : B a = x) (ey : B b = y) (hd : (y < x ∧ d = n + 1) ∨ (¬ y < x ∧ d = n)) : d = n0 + inC B a (b + 1).toNat := by
  rw [show (b + 1).toNat = b.toNat + 1 by omega]
  unfold inC
  rw [show ((b.toNat : Nat) : Int) = b by omega, ex, ey]
  rcases hd with h | h
  · rw [if_pos ⟨ab, h.1⟩, h.2, q]; omega
  · rw [if_neg (fun w => h.1 w.2), h.2, q]; omega
theorem inN_step {B : Int → Int} {a p n n0 : Int} (q : n0 = inN B p.toNat a.toNat) (a0 : 0 ≤ a) (h : n = n0 + inC B a p.toNat) : n = inN B p.toNat (a + 1).toNat := by
  rw [show (a + 1).toNat = a.toNat + 1 by omega]
  unfold inN
  rw [show ((a.toNat : Nat) : Int) = a by omega, h, q]
theorem inC_congr {B C : Int → Int} {p a : Int} (h : EqOn p B C) (a0 : 0 ≤ a) (a1 : a < p) : ∀ n : Nat, (n : Int) ≤ p → inC B a n = inC C a n
  | 0, _ => rfl
  | n + 1, hn => by
    unfold inC
    rw [inC_congr h a0 a1 n (by omega), h n (by omega) (by omega), h a a0 a1]
theorem inN_congr {B C : Int → Int} {p : Int} (h : EqOn p B C) : ∀ n : Nat, (n : Int) ≤ p → inN B p.toNat n = inN C p.toNat n
  | 0, _ => rfl
  | n + 1, hn => by
    unfold inN
    rw [inN_congr h n (by omega), inC_congr h (by omega) (by omega) p.toNat (by omega)]
theorem inC_rng {B : Int → Int} {a : Int} : ∀ n : Nat, 0 ≤ inC B a n ∧ inC B a n ≤ n
  | 0 => ⟨Int.le_refl _, Int.le_refl _⟩
  | n + 1 => by
    have u := inC_rng (B := B) (a := a) n
    unfold inC
    split <;> omega
theorem inN_rng {B : Int → Int} {p : Nat} (hp : p ≤ 7) : ∀ n : Nat, 0 ≤ inN B p n ∧ inN B p n ≤ 7 * n
  | 0 => ⟨Int.le_refl _, Int.le_refl _⟩
  | n + 1 => by
    have u := inN_rng (B := B) hp n
    have v := inC_rng (B := B) (a := n) p
    unfold inN
    omega
