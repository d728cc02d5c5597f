/-! the next order of a row, as both programs find it -/
def lowG (B : Int → Int) : Nat → Int
  | 0 => -1
  | n + 1 => if B n < B (n + 1) then n else lowG B n
def highG (B : Int → Int) (v : Int) : Nat → Int
  | 0 => -1
  | n + 1 => if v < B n then n else highG B v n
def swp (B : Int → Int) (a b : Int) : Int → Int := fun j => if j = b then B a else if j = a then B b else B j
def prv (B : Int → Int) (lo hi left : Int) : Int → Int := fun j => if (lo ≤ j ∧ j < left) ∨ (lo + hi - left < j ∧ j ≤ hi) then B (lo + hi - j) else B j
def revf (B : Int → Int) (lo hi : Int) : Int → Int := fun j => if lo ≤ j ∧ j ≤ hi then B (lo + hi - j) else B j
def lowN (p : Int) (B : Int → Int) : Int := lowG B (p - 1).toNat
def highN (p : Int) (B : Int → Int) : Int := highG B (B (lowN p B)) p.toNat
def NOf (p : Int) (B : Int → Int) : Int → Int := if lowN p B < 0 then B else revf (swp B (lowN p B) (highN p B)) (lowN p B + 1) (p - 1)
def NOr (p : Int) (B : Int → Int) : Int := if lowN p B < 0 then 0 else 1
theorem up_swp {B B1 B2 : Int → Int} {a b x y : Int} (h1 : B1 = up B a y) (h2 : B2 = up B1 b x) (hx : B a = x) (hy : B b = y) : B2 = swp B a b := by
  subst h1 h2 hx hy
  funext j
  unfold swp up
  rfl
theorem lowG_step {B : Int → Int} {z1 z2 low r : Int} (h : lowG B (low + 1).toNat = r) (h0 : 0 ≤ low) (e1 : B low = z1) (e2 : B (low + 1) = z2) (hge : z2 ≤ z1) : lowG B (low - 1 + 1).toNat = r := by
  have e : (low + 1).toNat = (low - 1 + 1).toNat + 1 := by omega
  rw [e] at h
  unfold lowG at h
  have e3 : (((low - 1 + 1).toNat : Nat) : Int) = low := by omega
  rw [e3, e1, e2, if_neg (by omega)] at h
  exact h
theorem lowG_end {B : Int → Int} {z1 z2 low r : Int} (h : lowG B (low + 1).toNat = r) (h0 : 0 ≤ low) (e1 : B low = z1) (e2 : B (low + 1) = z2) (hlt : z1 < z2) : r = low := by
  have e : (low + 1).toNat = (low - 1 + 1).toNat + 1 := by omega
  rw [e] at h
  unfold lowG at h
  have e3 : (((low - 1 + 1).toNat : Nat) : Int) = low := by omega
  rw [e3, e1, e2, if_pos (by omega)] at h
  exact h.symm
theorem lowG_neg {B : Int → Int} {low r : Int} (h : lowG B (low + 1).toNat = r) (h0 : low < 0) : r = -1 := by
  have e : (low + 1).toNat = 0 := by omega
  rw [e] at h
  exact h.symm
theorem highG_step {B : Int → Int} {v z high r : Int} (h : highG B v (high + 1).toNat = r) (h0 : 0 ≤ high) (e1 : B high = z) (hge : z ≤ v) : highG B v (high - 1 + 1).toNat = r := by
  have e : (high + 1).toNat = (high - 1 + 1).toNat + 1 := by omega
  rw [e] at h
  unfold highG at h
  have e3 : (((high - 1 + 1).toNat : Nat) : Int) = high := by omega
  rw [e3, e1, if_neg (by omega)] at h
  exact h
theorem highG_end {B : Int → Int} {v z high r : Int} (h : highG B v (high + 1).toNat = r) (h0 : 0 ≤ high) (e1 : B high = z) (hlt : v < z) : r = high := by
  have e : (high + 1).toNat = (high - 1 + 1).toNat + 1 := by omega
  rw [e] at h
  unfold highG at h
  have e3 : (((high - 1 + 1).toNat : Nat) : Int) = high := by omega
  rw [e3, e1, if_pos (by omega)] at h
  exact h.symm
theorem prv_0 {B : Int → Int} {lo hi : Int} : B = prv B lo hi lo := by
  funext j
  unfold prv
  rw [if_neg (by omega)]
theorem prv_step {B C D : Int → Int} {lo hi left right left2 : Int} (h : C = prv B lo hi left) (e : D = swp C left right) (hs : left + right = lo + hi) (hl : left < right) (h2 : left2 = left + 1) (h0 : lo ≤ left) : D = prv B lo hi left2 := by
  subst e h
  funext j
  unfold swp
  by_cases e1 : j = right
  · rw [if_pos e1]
    unfold prv
    rw [if_neg (by omega), if_pos (by omega)]
    congr 1
    omega
  · rw [if_neg e1]
    by_cases e2 : j = left
    · rw [if_pos e2]
      unfold prv
      rw [if_neg (by omega), if_pos (by omega)]
      congr 1
      omega
    · rw [if_neg e2]
      unfold prv
      by_cases q : (lo ≤ j ∧ j < left) ∨ (lo + hi - left < j ∧ j ≤ hi)
      · rw [if_pos q, if_pos (by omega)]
      · rw [if_neg q, if_neg (by omega)]
theorem prv_end {B C : Int → Int} {lo hi left right : Int} (h : C = prv B lo hi left) (hs : left + right = lo + hi) (hl : ¬ left < right) (hle : left ≤ hi + 1) (hlo : lo ≤ left) : C = revf B lo hi := by
  subst h
  funext j
  unfold prv revf
  by_cases q : lo ≤ j ∧ j ≤ hi
  · rw [if_pos q]
    by_cases e : (lo ≤ j ∧ j < left) ∨ (lo + hi - left < j ∧ j ≤ hi)
    · rw [if_pos e]
    · rw [if_neg e]
      congr 1
      omega
  · rw [if_neg q, if_neg (by omega)]
theorem NO_none {p low : Int} {B : Int → Int} (h : lowG B (low + 1).toNat = lowN p B) (h0 : low < 0) : B = NOf p B ∧ 0 = NOr p B := by
  have e := lowG_neg h h0
  unfold NOf NOr
  rw [if_pos (by omega), if_pos (by omega)]
  exact ⟨rfl, rfl⟩
theorem NO_some {p low high : Int} {B C D : Int → Int} (h : lowN p B = low) (hh : highN p B = high) (h0 : 0 ≤ low) (e : C = swp B low high) (e2 : D = revf C (low + 1) (p - 1)) : D = NOf p B ∧ 1 = NOr p B := by
  subst e e2
  unfold NOf NOr
  rw [h, hh, if_neg (by omega), if_neg (by omega)]
  exact ⟨rfl, rfl⟩
theorem hi_step {B : Int → Int} {low high z v w : Int} (h : low + 1 ≤ high) (e : B high = z) (e1 : B low = v) (e2 : B (low + 1) = w) (hw : v < w) (hz : z ≤ v) : low + 1 ≤ high - 1 := by
  by_cases q : high = low + 1
  · subst q
    rw [e2] at e
    omega
  · omega
