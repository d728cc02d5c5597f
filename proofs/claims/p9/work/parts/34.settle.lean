/-! rows for Houses: beads told by beans, packed rows -/
def pk3 (B : Int → Int) : Nat → Int
  | 0 => 0
  | n + 1 => zor (zshl (pk3 B n) 3) (B n)
theorem pk3_step {B : Int → Int} {i r z r2 : Int} (h : pk3 B i.toNat = r) (h0 : 0 ≤ i) (e : B i = z) (e2 : zor (zshl r 3) z = r2) : pk3 B (i + 1).toNat = r2 := by
  rw [show (i + 1).toNat = i.toNat + 1 by omega]
  unfold pk3
  rw [h, show ((i.toNat : Nat) : Int) = i by omega, e, e2]
theorem pk3_congr {B C : Int → Int} : ∀ n : Nat, (∀ j : Int, 0 ≤ j → j < n → B j = C j) → pk3 B n = pk3 C n
  | 0, _ => rfl
  | n + 1, h => by
    unfold pk3
    rw [pk3_congr n (fun j a b => h j a (by omega)), h n (by omega) (by omega)]
def Hi (f : Int → Int) : Int := (Hn f : Int)
def psum (f : Int → Int) (c : Int) : Int := (if 0 < c then f 0 else 0) + (if 1 < c then f 1 else 0) + (if 2 < c then f 2 else 0) + (if 3 < c then f 3 else 0) + (if 4 < c then f 4 else 0)
theorem psum_0 (f : Int → Int) : psum f 0 = 0 := by simp [psum]
theorem psum_5 (f : Int → Int) : psum f 5 = bsum f := by simp [psum, bsum]
theorem psum_step {f : Int → Int} {c : Int} (h : 0 ≤ c) (h4 : c ≤ 4) : psum f (c + 1) = psum f c + f c := by
  rcases five ⟨h, h4⟩ with rfl | rfl | rfl | rfl | rfl <;> simp [psum] <;> omega
theorem okF_at {f : Int → Int} (h : okF f) {c z : Int} (h0 : 0 ≤ c) (h4 : c ≤ 4) (e : f c = z) : 0 ≤ z ∧ z ≤ 7 ∧ psum f c + z ≤ 7 ∧ 0 ≤ psum f c := by
  obtain ⟨a0, a1, a2, a3, a4, a5⟩ := h
  have hb : bsum f = f 0 + f 1 + f 2 + f 3 + f 4 := rfl
  subst e
  rcases five ⟨h0, h4⟩ with rfl | rfl | rfl | rfl | rfl <;> simp [psum] <;> omega
theorem colAt_at {f : Int → Int} (h : okF f) {c j : Int} (h0 : 0 ≤ c) (h4 : c ≤ 4) (h1 : psum f c ≤ j) (h2 : j < psum f c + f c) : colAt f j = c := by
  obtain ⟨a0, a1, a2, a3, a4, a5⟩ := h
  have hb : bsum f = f 0 + f 1 + f 2 + f 3 + f 4 := rfl
  unfold colAt
  rcases five ⟨h0, h4⟩ with rfl | rfl | rfl | rfl | rfl <;> simp [psum] at h1 h2 <;> repeat' split
  all_goals omega
def Bds (B f : Int → Int) (p : Int) : Prop := ∀ j, 0 ≤ j → j < p → B j = colAt f j
theorem Bds_0 {B f : Int → Int} : Bds B f 0 := fun j a b => by omega
theorem Bds_push {B B2 f : Int → Int} {p c z : Int} (h : Bds B f p) (hf : okF f) (e : B2 = up B p c) (h0 : 0 ≤ c) (h4 : c ≤ 4) (ez : f c = z) (h1 : psum f c ≤ p) (h2 : p < psum f c + z) : Bds B2 f (p + 1) := by
  subst e
  intro j a b
  by_cases q : j = p
  · rw [q, up_same, colAt_at hf h0 h4 h1 (by omega)]
  · rw [up_ne q]
    exact h j a (by omega)
def RowsTo (R f : Int → Int) (k : Int) : Prop := ∀ j, 0 ≤ j → j < k → R j = pk3 (itB f j.toNat) (bsum f).toNat
theorem RowsTo_0 {R f : Int → Int} : RowsTo R f 0 := fun j a b => by omega
theorem RowsTo_push {R R2 f B : Int → Int} {k r more : Int} (h : RowsTo R f k) (e : R2 = up R k r) (hm : more = 1 → EqOn (bsum f) B (itB f k.toNat)) (h1 : more = 1) (hr : pk3 B (bsum f).toNat = r) : RowsTo R2 f (k + 1) := by
  subst e
  intro j a b
  by_cases q : j = k
  · rw [q, up_same, ← hr]
    exact pk3_congr _ (fun i c d => hm h1 i c (by omega))
  · rw [up_ne q]
    exact h j a (by omega)
theorem it_r {f B : Int → Int} {k r more p : Int} (h : okF f) (hk0 : 0 ≤ k) (hk : k + more ≤ Hi f) (hm : more = 1 → EqOn (bsum f) B (itB f k.toNat)) (h1 : more = 1) (hp : p = bsum f) (hr : r = NOr p B) : k + 1 + r ≤ Hi f ∧ Hi f ≤ k + 1 + 1260 * r := by
  have h2 := NOr_congr (hm h1)
  have hle := Hn_le h
  subst hp
  unfold Hi at *
  by_cases q : k.toNat + 1 < Hn f
  · rw [it_more h q] at h2
    omega
  · rw [it_last h (k := k.toNat) (by omega)] at h2
    omega
theorem it_go {f B B2 : Int → Int} {k r more p : Int} (hk0 : 0 ≤ k) (hm : more = 1 → EqOn (bsum f) B (itB f k.toNat)) (h1 : more = 1) (hp : p = bsum f) (e : B2 = NOf p B) : r = 1 → EqOn (bsum f) B2 (itB f (k + 1).toNat) := fun _ => by
  subst hp e
  rw [show (k + 1).toNat = k.toNat + 1 by omega]
  exact NOf_congr (hm h1)
theorem NOf_Rg {B C : Int → Int} {p : Int} (h : Rg B 7 0 4) (h0 : 0 ≤ p) (h7 : p ≤ 7) (e : C = NOf p B) : Rg C 7 0 4 := by
  subst e
  intro j a b
  unfold NOf
  by_cases q : lowN p B < 0
  · rw [if_pos q]
    exact h j a b
  rw [if_neg q]
  have r1 := lowG_rng B (p - 1).toNat
  have el : lowN p B = lowG B (p - 1).toNat := rfl
  rw [← el] at r1
  have hl3 := lowG_spec B (p - 1).toNat
  rw [← el] at hl3
  have hs := highG_spec B (B (lowN p B)) p.toNat
  have eh : highN p B = highG B (B (lowN p B)) p.toNat := rfl
  rw [← eh] at hs
  have r2 : 0 ≤ highN p B ∧ highN p B < p := by
    rcases hs with ⟨k1, k2⟩ | ⟨k1, k2, _⟩
    · rcases hl3 with ⟨h1, _⟩ | ⟨h1, h2, h3, _⟩
      · omega
      · have := k2 (lowN p B + 1) (by omega) (by omega)
        omega
    · omega
  have hsw : ∀ i, 0 ≤ i → i < 7 → 0 ≤ swp B (lowN p B) (highN p B) i ∧ swp B (lowN p B) (highN p B) i ≤ 4 := fun i c d => by
    unfold swp
    repeat' split
    · exact h _ (by omega) (by omega)
    · exact h _ (by omega) (by omega)
    · exact h i c d
  unfold revf
  split
  · exact hsw _ (by omega) (by omega)
  · exact hsw j a b
theorem Hi_rng {f : Int → Int} (h : okF f) : 1 ≤ Hi f ∧ Hi f ≤ 1260 := by
  have h1 := Hn_le h
  have h2 := Hn_pos (f := f)
  unfold Hi
  omega
theorem bsum_rng {f : Int → Int} (h : okF f) : 0 ≤ bsum f ∧ bsum f ≤ 7 := ⟨bsum_pos h, h.2.2.2.2.2⟩
theorem Bds_it {B f : Int → Int} {p : Int} (h : Bds B f p) (hp : p = bsum f) : (1 : Int) = 1 → EqOn (bsum f) B (itB f (0 : Int).toNat) := fun _ j a b => h j a (by omega)
