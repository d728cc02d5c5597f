/-! the i-th token -/
noncomputable def tkc (T : Int → Int) (n p : Int) : Int := the (fun c => ∃ st bh v, TkR T n p c st bh v)
noncomputable def tks (T : Int → Int) (n p : Int) : Int := the (fun st => ∃ c bh v, TkR T n p c st bh v)
noncomputable def tkb (T : Int → Int) (n p : Int) : Int := the (fun bh => ∃ c st v, TkR T n p c st bh v)
noncomputable def tkv (T : Int → Int) (n p : Int) : Int := the (fun v => ∃ c st bh, TkR T n p c st bh v)
theorem TkR.is {T : Int → Int} {n p c st bh v : Int} (h : TkR T n p c st bh v) : c = tkc T n p ∧ st = tks T n p ∧ bh = tkb T n p ∧ v = tkv T n p := by
  refine ⟨the_of ⟨st, bh, v, h⟩ ?_, the_of ⟨c, bh, v, h⟩ ?_, the_of ⟨c, st, v, h⟩ ?_, the_of ⟨c, st, bh, h⟩ ?_⟩
  · rintro a b ⟨_, _, _, x⟩ ⟨_, _, _, y⟩
    exact (TkR.one x y).1
  · rintro a b ⟨_, _, _, x⟩ ⟨_, _, _, y⟩
    exact (TkR.one x y).2.1
  · rintro a b ⟨_, _, _, x⟩ ⟨_, _, _, y⟩
    exact (TkR.one x y).2.2.1
  · rintro a b ⟨_, _, _, x⟩ ⟨_, _, _, y⟩
    exact (TkR.one x y).2.2.2
noncomputable def tkN (T : Int → Int) (n : Int) : Nat → Int
  | 0 => 0
  | i + 1 => tkb T n (tkN T n i)
noncomputable def CTk (T : Int → Int) (n i : Int) : Int := if 0 ≤ i then tkc T n (tkN T n i.toNat) else 0
noncomputable def VT (T : Int → Int) (n i : Int) : Int := tkv T n (tkN T n i.toNat)
noncomputable def ST (T : Int → Int) (n i : Int) : Int := tks T n (tkN T n i.toNat)
theorem tkN_next {T : Int → Int} {n i c st bh v : Int} (i0 : 0 ≤ i) (h : TkR T n (tkN T n i.toNat) c st bh v) : tkN T n (i + 1).toNat = bh := by
  rw [show (i + 1).toNat = i.toNat + 1 by omega]
  exact h.is.2.2.1.symm
/-- the class's number of a token beside the reference's -/
abbrev TcR (tk c st n : Int) : Prop := (tk = 17 ∧ c = 0 ∧ st = n) ∨ (tk = 15 ∧ c = 0 ∧ st < n) ∨ (0 ≤ tk ∧ tk ≤ 14 ∧ c = tk + 1 ∧ st < n) ∨ (tk = 16 ∧ c = 50 ∧ st < n) ∨ (100 ≤ tk ∧ c = tk ∧ st < n)
/-- the reader stands at the i-th token -/
def TkX (T : Int → Int) (n i tk st bh va : Int) : Prop := ∃ v, TkR T n (tkN T n i.toNat) (CTk T n i) st bh v ∧ TcR tk (CTk T n i) st n ∧ (CTk T n i = 50 → va = v)
/-- where the scanning for the i-th token begins -/
def Ps (T : Int → Int) (n i b : Int) : Prop := 0 ≤ i ∧ tkN T n i.toNat = b
theorem Ps_0 {T : Int → Int} {n : Int} : Ps T n 0 0 := ⟨Int.le_refl _, rfl⟩
theorem CTk_at {T : Int → Int} {n i : Int} (h : 0 ≤ i) : CTk T n i = tkc T n (tkN T n i.toNat) := if_pos h
theorem TkX.of {T : Int → Int} {n i p c tk st bh va v : Int} (q : Ps T n i p) (h : TkR T n p c st bh v) (k : TcR tk c st n) (e : c = 50 → va = v) : TkX T n i tk st bh va := by
  obtain ⟨i0, rfl⟩ := q
  have w : c = CTk T n i := h.is.1.trans (CTk_at i0).symm
  subst w
  exact ⟨v, h, k, e⟩
theorem TkX.ps {T : Int → Int} {n i tk st bh va : Int} (h : TkX T n i tk st bh va) (i0 : 0 ≤ i) : Ps T n (i + 1) bh := by
  obtain ⟨v, h, _, _⟩ := h
  exact ⟨by omega, tkN_next i0 h⟩
theorem TkX.c {T : Int → Int} {n i tk st bh va : Int} (h : TkX T n i tk st bh va) : TcR tk (CTk T n i) st n := h.elim (fun _ q => q.2.1)
theorem TkX.s {T : Int → Int} {n i tk st bh va : Int} (h : TkX T n i tk st bh va) : st = ST T n i := h.elim (fun _ q => q.1.is.2.1)
theorem TkX.v {T : Int → Int} {n i tk st bh va : Int} (h : TkX T n i tk st bh va) (e : CTk T n i = 50) : va = VT T n i := h.elim (fun _ q => (q.2.2 e).trans q.1.is.2.2.2)
/-- where a fault is told -/
abbrev FlX (T : Int → Int) (n i fl : Int) : Prop := fl = ST T n i
def LfK (C V : Int → Int) (t : Int) : Prop := (C t = 50 ∧ V t ≤ 1000) ∨ (8 ≤ C t ∧ C t ≤ 15)
def LF (T : Int → Int) (n : Int) : Int → Prop := LfK (CTk T n) (VT T n)
def EnT (T : Int → Int) (n : Int) : Int → Prop := fun i => ST T n i = n
section TkXs
variable {T : Int → Int} {n i p c tk st bh va v z a b : Int}
theorem TkX.sg (h : TkX T n i tk st bh va) (v0 : 100 ≤ v) : CTk T n i = v ↔ tk = v := by
  have c := h.c
  rcases c with c | c | c | c | c <;> omega
theorem TkX.wd (h : TkX T n i tk st bh va) (v0 : 0 ≤ v) (v1 : v ≤ 14) (ec : c = v + 1) : CTk T n i = c ↔ tk = v := by
  have q := h.c
  rcases q with q | q | q | q | q <;> omega
theorem TkX.lf (h : TkX T n i tk st bh va) : LF T n i ↔ ((tk = 16 ∧ va ≤ 1000) ∨ (7 ≤ tk ∧ tk ≤ 14)) := by
  have c := h.c
  unfold LF LfK
  constructor
  · rintro (⟨w1, w2⟩ | ⟨w1, w2⟩)
    · rw [← h.v w1] at w2
      rcases c with c | c | c | c | c <;> omega
    · rcases c with c | c | c | c | c <;> omega
  · rintro (⟨w1, w2⟩ | ⟨w1, w2⟩)
    · have e : CTk T n i = 50 := by rcases c with c | c | c | c | c <;> omega
      refine Or.inl ⟨e, ?_⟩
      rw [← h.v e]; exact w2
    · refine Or.inr ?_
      rcases c with c | c | c | c | c <;> omega
theorem TkX.en (h : TkX T n i tk st bh va) : EnT T n i ↔ tk = 17 := by
  have c := h.c
  have s := h.s
  show ST T n i = n ↔ tk = 17
  rw [← s]
  rcases c with c | c | c | c | c <;> omega
theorem TkX.lo (h : TkX T n i tk st bh va) (e : st = n) : tk = 17 := by
  have c := h.c
  rcases c with c | c | c | c | c <;> omega
theorem TkX.e (q : Ps T n i p) (h : RunT T 32 32 n p st) (e : st = n) (eb : bh = n) : TkX T n i 17 st bh va := TkX.of q (c := 0) (v := 0) ⟨h, Or.inl ⟨e, rfl, eb, rfl⟩⟩ (Or.inl ⟨rfl, rfl, e⟩) (fun w => absurd w (by decide))
theorem TkX.w (q : Ps T n i p) (h : RunT T 32 32 n p st) (l : st < n) (e : T st = z) (z0 : 97 ≤ z) (z1 : z ≤ 122) (r : RunT T 97 122 n st bh) (w : WoC T st bh c) (k : (tk = 15 ∧ c = 0) ∨ (0 ≤ tk ∧ tk ≤ 14 ∧ c = tk + 1)) : TkX T n i tk st bh va := TkX.of q (c := c) (v := 0) ⟨h, Or.inr (Or.inl ⟨l, by rw [e]; exact z0, by rw [e]; exact z1, r, w, rfl⟩)⟩ (by rcases k with k | k <;> omega) (fun w => by omega)
theorem TkX.d (q : Ps T n i p) (h : RunT T 32 32 n p st) (l : st < n) (e : T st = z) (z0 : 48 ≤ z) (z1 : z ≤ 57) (r : RunT T 48 57 n st bh) (w : va = dgV T st (bh - st).toNat) : TkX T n i 16 st bh va := TkX.of q (c := 50) (v := va) ⟨h, Or.inr (Or.inr (Or.inl ⟨l, by rw [e]; exact z0, by rw [e]; exact z1, r, rfl, w⟩))⟩ (by omega) (fun _ => rfl)
theorem TkX.s1 (q : Ps T n i p) (h : RunT T 32 32 n p st) (l : st < n) (e : T st = z) (nl : ¬ (97 ≤ z ∧ z ≤ 122)) (nd : ¬ (48 ≤ z ∧ z ≤ 57)) (z0 : 0 ≤ z) (eb : bh = st + 1) (et : tk = z + 100) : TkX T n i tk st bh va := TkX.of q (c := 100 + z) (v := 0) ⟨h, Or.inr (Or.inr (Or.inr ⟨l, by rw [e]; exact nl, by rw [e]; exact nd, eb, by rw [e], rfl⟩))⟩ (by omega) (fun w => by omega)
end TkXs
/-! scanning -/
def BlT (T : Int → Int) (v a b : Int) : Prop := ∀ j, a ≤ j → j < b → T j = v
theorem RunT_bl {T : Int → Int} {n a b : Int} (h : BlT T 32 a b) (ab : a ≤ b) (bn : b ≤ n) (e : b < n → ¬ T b = 32) : RunT T 32 32 n a b := ⟨ab, bn, fun j x y => by rw [h j x y]; exact ⟨Int.le_refl _, Int.le_refl _⟩, fun w g => e w (by omega)⟩
def InT (T : Int → Int) (lo hi a b : Int) : Prop := ∀ j, a ≤ j → j < b → lo ≤ T j ∧ T j ≤ hi
theorem InT_0 {T : Int → Int} {lo hi a : Int} : InT T lo hi a a := fun j x y => by omega
theorem InT.step {T : Int → Int} {lo hi a b z : Int} (h : InT T lo hi a b) (e : T b = z) (z0 : lo ≤ z) (z1 : z ≤ hi) : InT T lo hi a (b + 1) := fun j x y => by
  by_cases q : j = b
  · rw [q, e]; exact ⟨z0, z1⟩
  · exact h j x (by omega)
theorem InT.run {T : Int → Int} {lo hi n a b : Int} (h : InT T lo hi a b) (ab : a ≤ b) (bn : b ≤ n) (e : b < n → ¬ (lo ≤ T b ∧ T b ≤ hi)) : RunT T lo hi n a b := ⟨ab, bn, h, e⟩
theorem BlT_0 {T : Int → Int} {v a : Int} : BlT T v a a := fun j x y => by omega
theorem BlT.step {T : Int → Int} {v a b z : Int} (h : BlT T v a b) (e : T b = z) (ez : z = v) : BlT T v a (b + 1) := fun j x y => by
  by_cases q : j = b
  · rw [q, e]; exact ez
  · exact h j x (by omega)
theorem dgV_step {T : Int → Int} {a b v z w : Int} (q : v = dgV T a (b - a).toNat) (ab : a ≤ b) (ez : T b = z) (z0 : 48 ≤ z) (z1 : z ≤ 57) (ew : w = min 1001 (10 * v + z - 48)) (v0 : 0 ≤ v) (v1 : v ≤ 1001) : w = dgV T a (b + 1 - a).toNat := by
  rw [show (b + 1 - a).toNat = (b - a).toNat + 1 by omega]
  unfold dgV
  rw [← q, show a + (((b - a).toNat : Nat) : Int) = b by omega, ez]
  by_cases h : 1000 < v
  · rw [if_pos h]; omega
  · rw [if_neg h]
    by_cases g : 1000 < 10 * v + z - 48
    · rw [if_pos g]; omega
    · rw [if_neg g]; omega
theorem dgV_rng {T : Int → Int} {a : Int} : ∀ k : Nat, (∀ j : Int, a ≤ j → j < a + k → 48 ≤ T j ∧ T j ≤ 57) → 0 ≤ dgV T a k ∧ dgV T a k ≤ 1001
  | 0, _ => ⟨Int.le_refl _, (by show (0 : Int) ≤ 1001; decide)⟩
  | k + 1, h => by
    have u := dgV_rng k (fun j x y => h j x (by omega))
    have v := h (a + k) (by omega) (by omega)
    unfold dgV
    split
    · exact ⟨by decide, by decide⟩
    · split
      · exact ⟨by decide, by decide⟩
      · omega
/-- the reference's value beside: the same up to 1000, above both are -/
def VaR (v w : Int) : Prop := (w ≤ 1000 ∧ v = w) ∨ (1000 < w ∧ v = 1001)
theorem VaR_0 : VaR 0 0 := Or.inl ⟨by decide, rfl⟩
/-! a word is sought among the words -/
def MtT (T : Int → Int) (a b i : Int) : Prop := ∀ j, wsg i.toNat ≤ j → j < i → a + (j - wsg i.toNat) < b ∧ T (a + (j - wsg i.toNat)) = wch j
def WnI (T : Int → Int) (a b nu at_ sm i : Int) : Prop := nu = wnm i.toNat ∧ at_ = a + (i - wsg i.toNat) ∧ (sm = 1 ↔ MtT T a b i) ∧ ∀ k, 0 ≤ k → k < i → ¬ WdE T a b k
theorem wsg_bl {i : Int} (i0 : 0 ≤ i) (e : wch i = 32) : wsg (i + 1).toNat = i + 1 ∧ wnm (i + 1).toNat = wnm i.toNat + 1 := by
  rw [show (i + 1).toNat = i.toNat + 1 by omega]
  have u : wsg (i.toNat + 1) = if wch ((i.toNat : Nat) : Int) = 32 then ((i.toNat : Nat) : Int) + 1 else wsg i.toNat := rfl
  have v : wnm (i.toNat + 1) = if wch ((i.toNat : Nat) : Int) = 32 then wnm i.toNat + 1 else wnm i.toNat := rfl
  rw [u, v, show ((i.toNat : Nat) : Int) = i by omega, if_pos e, if_pos e]
  exact ⟨rfl, rfl⟩
theorem wsg_le {i : Int} (i0 : 0 ≤ i) (e : ¬ wch i = 32) : wsg (i + 1).toNat = wsg i.toNat ∧ wnm (i + 1).toNat = wnm i.toNat := by
  rw [show (i + 1).toNat = i.toNat + 1 by omega]
  have u : wsg (i.toNat + 1) = if wch ((i.toNat : Nat) : Int) = 32 then ((i.toNat : Nat) : Int) + 1 else wsg i.toNat := rfl
  have v : wnm (i.toNat + 1) = if wch ((i.toNat : Nat) : Int) = 32 then wnm i.toNat + 1 else wnm i.toNat := rfl
  rw [u, v, show ((i.toNat : Nat) : Int) = i by omega, if_neg e, if_neg e]
  exact ⟨rfl, rfl⟩
set_option maxRecDepth 100000 in
theorem wnm_14 : ∀ k : Fin 73, wch (k.1 : Int) = 32 → wnm k.1 ≤ 14 := by decide +kernel
section WnIs
variable {T : Int → Int} {a b nu at_ sm i z w : Int}
theorem WnI.zero : WnI T a b 0 a 1 0 := ⟨rfl, by show a = a + (0 - 0); omega, ⟨fun _ j x y => by have x : (0 : Int) ≤ j := x; omega, fun _ => rfl⟩, fun k x y => by omega⟩
theorem WnI.one (h : WnI T a b nu at_ sm i) (i0 : 0 ≤ i) (nb : ¬ wch i = 32) (s1 : sm = 1) (l : at_ < b) (e : T at_ = z) (ew : wch i = w) (zw : z = w) : WnI T a b nu (at_ + 1) 1 (i + 1) := by
  obtain ⟨h1, h2, h3, h4⟩ := h
  obtain ⟨g1, g2⟩ := wsg_le i0 nb
  refine ⟨by rw [g2]; exact h1, by rw [g1]; omega, ⟨fun _ => ?_, fun _ => rfl⟩, fun k x y => ?_⟩
  · intro j x y
    rw [g1] at x ⊢
    by_cases q : j = i
    · rw [q, ← h2]
      exact ⟨l, by rw [e, zw, ew]⟩
    · exact h3.mp s1 j x (by omega)
  · by_cases q : k = i
    · rw [q]; exact fun w => nb w.1
    · exact h4 k x (by omega)
theorem WnI.no (h : WnI T a b nu at_ sm i) (i0 : 0 ≤ i) (nb : ¬ wch i = 32) (n : ¬ sm = 1 ∨ b ≤ at_ ∨ ¬ T at_ = wch i) : WnI T a b nu (at_ + 1) 0 (i + 1) := by
  obtain ⟨h1, h2, h3, h4⟩ := h
  obtain ⟨g1, g2⟩ := wsg_le i0 nb
  have r := wsg_rng i.toNat
  refine ⟨by rw [g2]; exact h1, by rw [g1]; omega, ⟨fun q => absurd q (by decide), fun m => ?_⟩, fun k x y => ?_⟩
  · exfalso
    have m1 : MtT T a b i := fun j x y => by
      have u := m j (by rw [g1]; exact x) (by omega)
      rw [g1] at u; exact u
    have m2 := m i (by rw [g1]; omega) (by omega)
    rw [g1, ← h2] at m2
    rcases n with n | n | n
    · exact n (h3.mpr m1)
    · omega
    · exact n m2.2
  · by_cases q : k = i
    · rw [q]; exact fun w => nb w.1
    · exact h4 k x (by omega)
theorem WnI.bl (h : WnI T a b nu at_ sm i) (i0 : 0 ≤ i) (e : wch i = 32) (n : ¬ sm = 1 ∨ ¬ at_ = b) : WnI T a b (nu + 1) a 1 (i + 1) := by
  obtain ⟨h1, h2, h3, h4⟩ := h
  obtain ⟨g1, g2⟩ := wsg_bl i0 e
  refine ⟨by rw [g2, h1], by rw [g1]; omega, ⟨fun _ j x y => by rw [g1] at x; omega, fun _ => rfl⟩, fun k x y => ?_⟩
  by_cases q : k = i
  · rw [q]
    intro w
    rcases n with n | n
    · refine n (h3.mpr (fun j x y => ⟨?_, w.2.2 j x y⟩))
      have u := w.2.1
      omega
    · have u := w.2.1
      omega
  · exact h4 k x (by omega)
theorem WnI.hit (h : WnI T a b nu at_ sm i) (i0 : 0 ≤ i) (i1 : i < 73) (e : wch i = 32) (s1 : sm = 1) (g : at_ = b) : WoC T a b (nu + 1) ∧ ((nu = 15 ∧ nu + 1 = 0) ∨ (0 ≤ nu ∧ nu ≤ 14 ∧ nu + 1 = nu + 1)) := by
  obtain ⟨h1, h2, h3, h4⟩ := h
  have r := wnm_rng i.toNat
  have r2 := wnm_14 ⟨i.toNat, by omega⟩ (by show wch ((i.toNat : Nat) : Int) = 32; rw [show ((i.toNat : Nat) : Int) = i by omega]; exact e)
  have r2 : wnm i.toNat ≤ 14 := r2
  exact ⟨Or.inl ⟨i, i0, i1, ⟨e, by omega, fun j x y => (h3.mp s1 j x y).2⟩, by rw [h1]⟩, Or.inr ⟨by omega, by omega, rfl⟩⟩
theorem WnI.end (h : WnI T a b nu at_ sm i) (i1 : 73 ≤ i) : WoC T a b 0 ∧ (((15 : Int) = 15 ∧ (0 : Int) = 0) ∨ ((0 : Int) ≤ 15 ∧ (15 : Int) ≤ 14 ∧ (0 : Int) = 15 + 1)) := ⟨Or.inr ⟨rfl, fun k x y => h.2.2.2 k x (by omega)⟩, Or.inl ⟨rfl, rfl⟩⟩
end WnIs
/-! the reference's tokens -/
def ub (t : Int → Int) : Int → Int := fun j => if t j < 0 then t j + 256 else t j
theorem ub_at {t : Int → Int} {j y : Int} (e : t j = y) : ub t j = if y < 0 then y + 256 else y := by
  rw [← e]; rfl
theorem ub_p {t : Int → Int} {j y : Int} (e : t j = y) (h : 0 ≤ y) : ub t j = y := by
  rw [ub_at e, if_neg (by omega)]
theorem zand_ub {t : Int → Int} {j y z : Int} (e : t j = y) (h0 : -128 ≤ y) (h1 : y ≤ 127) (ez : zand y 255 = z) : ub t j = z := by
  have hl := (zI y).toBitVec.isLt
  have b : (zI y).toInt = y := zI_toInt ⟨by omega, by omega⟩
  rw [Int32.toInt, BitVec.toInt_eq_toNat_cond] at b
  rw [ub_at e, ← ez, zand255]
  split at b <;> split <;> omega
/-- the words as told to the reference -/
def WdsX (wd : Int → Int) : Prop := ∀ j, 0 ≤ j → j < 73 → wd j = wch j
/-- the first tn tokens as the reference lays them -/
def TbX (T : Int → Int) (n : Int) (cc pl va : Int → Int) (tn : Int) : Prop := ∀ i, 0 ≤ i → i < tn → cc i = CTk T n i ∧ pl i = ST T n i ∧ ST T n i < n ∧ (CTk T n i = 50 → VaR (VT T n i) (va i))
theorem TbX_0 {T : Int → Int} {n : Int} {cc pl va : Int → Int} : TbX T n cc pl va 0 := fun i a b => by omega
/-- a token of the reference: scanned from where the i-th begins -/
def TkP (T : Int → Int) (n i c st bh v : Int) : Prop := ∃ p, Ps T n i p ∧ TkR T n p c st bh v
/-- blanks alone from where the i-th token's scanning begins up to k -/
def PsB (T : Int → Int) (n i k : Int) : Prop := ∃ p, Ps T n i p ∧ p ≤ k ∧ BlT T 32 p k
def RnI (T : Int → Int) (n b k to : Int) : Prop := (97 ≤ b ∧ b ≤ 122 → RunT T 97 122 n k to) ∧ (¬ (97 ≤ b ∧ b ≤ 122) → to = k + 1)
def RnX (T : Int → Int) (n b k to : Int) : Prop := (97 ≤ b ∧ b ≤ 122 → RunT T 97 122 n k to) ∧ (48 ≤ b ∧ b ≤ 57 → RunT T 48 57 n k to) ∧ (¬ (97 ≤ b ∧ b ≤ 122) → ¬ (48 ≤ b ∧ b ≤ 57) → to = k + 1)
def CdX (T : Int → Int) (b k to c : Int) : Prop := (97 ≤ b ∧ b ≤ 122 → WoC T k to c) ∧ (48 ≤ b ∧ b ≤ 57 → c = 50) ∧ (¬ (97 ≤ b ∧ b ≤ 122) → ¬ (48 ≤ b ∧ b ≤ 57) → c = 100 + T k)
section TbXs
variable {T ta : Int → Int} {n i k b to c v st bh p y z w : Int} {cc pl va cc2 pl2 va2 : Int → Int}
theorem PsB_0 : PsB T n 0 0 := ⟨0, Ps_0, Int.le_refl _, BlT_0⟩
theorem PsB.bl (h : PsB T n i k) (e : T k = 32) : PsB T n i (k + 1) := by
  obtain ⟨p, h1, h2, h3⟩ := h
  exact ⟨p, h1, by omega, h3.step e rfl⟩
theorem PsB.run (h : PsB T n i k) (kn : k ≤ n) (e : k < n → ¬ T k = 32) : ∃ p, Ps T n i p ∧ RunT T 32 32 n p k := by
  obtain ⟨p, h1, h2, h3⟩ := h
  exact ⟨p, h1, RunT_bl h3 h2 kn e⟩
theorem TkP.ps (h : TkP T n i c st bh v) : Ps T n (i + 1) bh := by
  obtain ⟨p, ⟨i0, rfl⟩, h⟩ := h
  exact ⟨by omega, tkN_next i0 h⟩
theorem TkP.psb (h : TkP T n i c st bh v) : PsB T n (i + 1) bh := ⟨bh, h.ps, Int.le_refl _, BlT_0⟩
theorem TkP.ec (h : TkP T n i c st bh v) : c = CTk T n i := by
  obtain ⟨p, ⟨i0, rfl⟩, h⟩ := h
  exact h.is.1.trans (CTk_at i0).symm
theorem TkP.es (h : TkP T n i c st bh v) : st = ST T n i := by
  obtain ⟨p, ⟨i0, rfl⟩, h⟩ := h
  exact h.is.2.1
theorem TkP.ev (h : TkP T n i c st bh v) : v = VT T n i := by
  obtain ⟨p, ⟨i0, rfl⟩, h⟩ := h
  exact h.is.2.2.2
theorem TkP.end (h : PsB T n i n) : TkP T n i 0 n n 0 := by
  obtain ⟨p, h1, h2⟩ := h.run (Int.le_refl _) (fun w => absurd w (Int.lt_irrefl _))
  exact ⟨p, h1, h2, Or.inl ⟨rfl, rfl, rfl, rfl⟩⟩
theorem WoC.le (h : WoC T k to c) : c ≤ 15 := by
  rcases h with ⟨m, m0, m1, mw, mc⟩ | h
  · have r2 := wnm_14 ⟨m.toNat, by omega⟩ (by show wch ((m.toNat : Nat) : Int) = 32; rw [show ((m.toNat : Nat) : Int) = m by omega]; exact mw.1)
    have r2 : wnm m.toNat ≤ 14 := r2
    omega
  · omega
theorem TkP.of (h : PsB (ub ta) n i k) (l : k < n) (e : ta k = b) (nb : ¬ b = 32) (b0 : -128 ≤ b) (b1 : b ≤ 127) (r : RnX (ub ta) n b k to) (q : CdX (ub ta) b k to c) : ∃ v, TkP (ub ta) n i c k to v ∧ (c = 50 → (48 ≤ b ∧ b ≤ 57) ∧ v = dgV (ub ta) k (to - k).toNat) := by
  have eb := ub_at e
  obtain ⟨p, h1, h2⟩ := h.run (by omega) (fun _ => by rw [eb]; split <;> omega)
  by_cases g : 97 ≤ b ∧ b ≤ 122
  · have e2 := ub_p e (by omega)
    have w := q.1 g
    exact ⟨0, ⟨p, h1, h2, Or.inr (Or.inl ⟨l, by rw [e2]; exact g.1, by rw [e2]; exact g.2, r.1 g, w, rfl⟩)⟩, fun x => by have := w.le; omega⟩
  · by_cases d : 48 ≤ b ∧ b ≤ 57
    · have e2 := ub_p e (by omega)
      exact ⟨dgV (ub ta) k (to - k).toNat, ⟨p, h1, h2, Or.inr (Or.inr (Or.inl ⟨l, by rw [e2]; exact d.1, by rw [e2]; exact d.2, r.2.1 d, q.2.1 d, rfl⟩))⟩, fun _ => ⟨d, rfl⟩⟩
    · have ec := q.2.2 g d
      refine ⟨0, ⟨p, h1, h2, Or.inr (Or.inr (Or.inr ⟨l, ?_, ?_, r.2.2 g d, ec, rfl⟩))⟩, fun x => ?_⟩
      · rw [eb]; split <;> omega
      · rw [eb]; split <;> omega
      · rw [eb] at ec
        split at ec <;> omega
theorem TbX.add (h : TbX T n cc pl va i) (i0 : 0 ≤ i) (r : TkP T n i c st bh v) (l : st < n) (e1 : cc2 = up cc i c) (e2 : pl2 = up pl i st) (ev : ∀ j, ¬ j = i → va2 j = va j) (e5 : c = 50 → VaR v (va2 i)) : TbX T n cc2 pl2 va2 (i + 1) := fun j a b => by
  subst e1 e2
  by_cases g : j = i
  · rw [g, up_same, up_same]
    exact ⟨r.ec, r.es, by rw [← r.es]; exact l, fun w => by rw [← r.ev]; exact e5 (r.ec.trans w)⟩
  · rw [up_ne g, up_ne g, ev j g]
    exact h j a (by omega)
/-- values while they are read: place i of va told anew -/
theorem VaR.step (h : VaR v w) (ez : T k = z) (z0 : 48 ≤ z) (z1 : z ≤ 57) (hv : v = dgV T p (k - p).toNat) (pk : p ≤ k) (w0 : 0 ≤ w) (hy : (1000000 < w ∧ y = w) ∨ (w ≤ 1000000 ∧ y = 10 * w + z - 48)) : VaR (dgV T p (k + 1 - p).toNat) y := by
  have e : dgV T p (k + 1 - p).toNat = if 1000 < v then 1001 else if 1000 < 10 * v + z - 48 then 1001 else 10 * v + z - 48 := by
    rw [show (k + 1 - p).toNat = (k - p).toNat + 1 by omega, hv, ← ez, show k = p + (((k - p).toNat : Nat) : Int) by omega]
    rw [show (p + (((k - p).toNat : Nat) : Int) - p).toNat = (k - p).toNat by omega]
    rfl
  rw [e]
  unfold VaR at h ⊢
  split
  · omega
  · split <;> omega
end TbXs
/-! behind the last token there is none -/
theorem tkN_end {T : Int → Int} {n i c v : Int} (h : TkP T n i c n n v) : ∀ k : Nat, Ps T n (i + k) n ∨ (k = 0)
  | 0 => Or.inr rfl
  | k + 1 => by
    left
    rcases tkN_end h k with q | q
    · have t : TkP T n (i + k) 0 n n 0 := TkP.end ⟨n, q, Int.le_refl _, BlT_0⟩
      have := t.ps
      rw [show i + (k : Int) + 1 = i + ((k + 1 : Nat) : Int) by omega] at this
      exact this
    · subst q
      exact h.ps
theorem CTk_end {T : Int → Int} {n i : Int} (h : PsB T n i n) {j : Int} (hj : i ≤ j) : CTk T n j = 0 ∧ ST T n j = n := by
  have t := TkP.end h
  obtain ⟨k, rfl⟩ : ∃ k : Nat, j = i + k := ⟨(j - i).toNat, by omega⟩
  rcases tkN_end t k with q | q
  · have u : TkP T n (i + k) 0 n n 0 := TkP.end ⟨n, q, Int.le_refl _, BlT_0⟩
    exact ⟨u.ec.symm, u.es.symm⟩
  · subst q
    have e : i + ((0 : Nat) : Int) = i := by omega
    rw [e]
    exact ⟨t.ec.symm, t.es.symm⟩
/-! a word of the reference -/
def WkI (T : Int → Int) (a b k w : Int) : Prop := wsg k.toNat = k ∧ w = wnm k.toNat + 1 ∧ ∀ m, 0 ≤ m → m < k → ¬ WdE T a b m
def WkN (k n : Int) : Prop := ∀ j, k ≤ j → j < k + n → ¬ wch j = 32
def WkS (wd ta : Int → Int) (a b k n sa i : Int) : Prop := sa = 1 ↔ (n = b - a ∧ ∀ j, 0 ≤ j → j < i → wd (k + j) = ta (a + j))
section WkIs
variable {T wd ta : Int → Int} {a b k n w sa sb i z y : Int}
theorem WkI_0 : WkI T a b 0 1 := ⟨rfl, rfl, fun m x y => by omega⟩
theorem WkN_0 : WkN k 0 := fun j x y => by omega
theorem WkN.add (h : WkN k n) (e : ¬ wch (k + n) = 32) : WkN k (n + 1) := fun j x y => by
  by_cases g : j = k + n
  · rw [g]; exact e
  · exact h j x (by omega)
theorem WkN.sg (h : WkN k n) (k0 : 0 ≤ k) (s : wsg k.toNat = k) : ∀ m : Nat, (m : Int) ≤ n → wsg (k + m).toNat = k ∧ wnm (k + m).toNat = wnm k.toNat
  | 0, _ => by
    rw [show (k + ((0 : Nat) : Int)).toNat = k.toNat by omega]
    exact ⟨s, rfl⟩
  | m + 1, hm => by
    obtain ⟨u1, u2⟩ := WkN.sg h k0 s m (by omega)
    obtain ⟨g1, g2⟩ := wsg_le (i := k + m) (by omega) (h (k + m) (by omega) (by omega))
    rw [show k + ((m + 1 : Nat) : Int) = k + (m : Int) + 1 by omega]
    exact ⟨g1.trans u1, g2.trans u2⟩
theorem WkN.at (h : WkN k n) (k0 : 0 ≤ k) (n0 : 0 ≤ n) (s : wsg k.toNat = k) : wsg (k + n).toNat = k ∧ wnm (k + n).toNat = wnm k.toNat := by
  have u := h.sg k0 s n.toNat (by omega)
  rw [show ((n.toNat : Nat) : Int) = n by omega] at u
  exact u
theorem WkS_y (e : n = b - a) : WkS wd ta a b k n 1 0 := ⟨fun _ => ⟨e, fun j x y => by omega⟩, fun _ => rfl⟩
theorem WkS_n (e : ¬ n = b - a) : WkS wd ta a b k n 0 0 := ⟨fun w => absurd w (by decide), fun w => absurd w.1 e⟩
theorem WkS.yes (h : WkS wd ta a b k n sa i) (i0 : 0 ≤ i) (s1 : sa = 1) (e1 : wd (k + i) = z) (e2 : ta (a + i) = y) (e : z = y) : WkS wd ta a b k n 1 (i + 1) := ⟨fun _ => ⟨(h.mp s1).1, fun j x u => by
  by_cases g : j = i
  · rw [g, e1, e2, e]
  · exact (h.mp s1).2 j x (by omega)⟩, fun _ => rfl⟩
theorem WkS.no (i0 : 0 ≤ i) (e1 : wd (k + i) = z) (e2 : ta (a + i) = y) (e : ¬ z = y) : WkS wd ta a b k n 0 (i + 1) := ⟨fun w => absurd w (by decide), fun w => absurd (by rw [← e1, ← e2]; exact w.2 i i0 (by omega)) e⟩
theorem ub_wch {j m : Int} (hw : WdsX wd) (j0 : 0 ≤ j) (j1 : j < 73) (lo : -128 ≤ ta m) : wd j = ta m ↔ ub ta m = wch j := by
  have r := wch_rg j0 j1
  have e : ub ta m = if ta m < 0 then ta m + 256 else ta m := rfl
  rw [hw j j0 j1, e]
  split
  · constructor
    · intro w; omega
    · intro w; omega
  · exact ⟨fun w => w.symm, fun w => w.symm⟩
theorem WkS.hit (h : WkS wd ta a b k n sa i) (hw : WdsX wd) (hi : i = n) (s1 : sa = 1) (q : WkI (ub ta) a b k w) (m : WkN k n) (k0 : 0 ≤ k) (n0 : 0 ≤ n) (k1 : k + n < 73) (e : wch (k + n) = 32) (a0 : 0 ≤ a) (b4 : b ≤ 400) (tl : Rg ta 400 (-128) 127) : WoC (ub ta) a b w := by
  obtain ⟨g1, g2⟩ := m.at k0 n0 q.1
  have u := h.mp s1
  refine Or.inl ⟨k + n, by omega, k1, ⟨e, by omega, fun j x y => ?_⟩, by rw [g2]; exact q.2.1⟩
  rw [g1] at x ⊢
  have v := u.2 (j - k) (by omega) (by omega)
  rw [show k + (j - k) = j by omega] at v
  exact (ub_wch hw (by omega) (by omega) (tl _ (by omega) (by omega)).1).mp v
theorem WkS.miss (h : WkS wd ta a b k n sa i) (hw : WdsX wd) (hi : i ≤ n) (s0 : ¬ sa = 1) (q : WkI (ub ta) a b k w) (m : WkN k n) (k0 : 0 ≤ k) (n0 : 0 ≤ n) (k1 : k + n < 73) (e : wch (k + n) = 32) (a0 : 0 ≤ a) (b4 : b ≤ 400) (tl : Rg ta 400 (-128) 127) : WkI (ub ta) a b (k + n + 1) (w + 1) := by
  obtain ⟨g1, g2⟩ := m.at k0 n0 q.1
  obtain ⟨f1, f2⟩ := wsg_bl (i := k + n) (by omega) e
  refine ⟨f1, by rw [f2, g2]; have := q.2.1; omega, fun c x y => ?_⟩
  by_cases c1 : c < k
  · exact q.2.2 c x c1
  · by_cases c2 : c = k + n
    · rw [c2]
      intro d
      obtain ⟨_, d2, d3⟩ := d
      rw [g1] at d2 d3
      refine s0 (h.mpr ⟨by omega, fun j x y => ?_⟩)
      have v := d3 (k + j) (by omega) (by omega)
      rw [show k + j - k = j by omega] at v
      exact (ub_wch hw (by omega) (by omega) (tl _ (by omega) (by omega)).1).mpr v
    · exact fun d => m c (by omega) (by omega) d.1
theorem WkI.end (q : WkI T a b k w) (h : 73 ≤ k) : WoC T a b 0 := Or.inr ⟨rfl, fun m x y => q.2.2 m x (by omega)⟩
end WkIs
/-! tokens are told by the first n bytes alone -/
theorem RunT.ex {T : Int → Int} {lo hi n : Int} : ∀ (k : Nat) (a : Int), a ≤ n → (n - a).toNat = k → ∃ b, RunT T lo hi n a b
  | 0, a, h, e => ⟨a, Int.le_refl _, h, fun j x y => by omega, fun w => by omega⟩
  | k + 1, a, h, e => by
    by_cases g : lo ≤ T a ∧ T a ≤ hi
    · obtain ⟨b, b1, b2, b3, b4⟩ := RunT.ex (T := T) (lo := lo) (hi := hi) (n := n) k (a + 1) (by omega) (by omega)
      refine ⟨b, by omega, b2, fun j x y => ?_, b4⟩
      by_cases q : j = a
      · rw [q]; exact g
      · exact b3 j (by omega) y
    · exact ⟨a, Int.le_refl _, h, fun j x y => by omega, fun _ => g⟩
theorem WoC.ex {T : Int → Int} (a b : Int) : ∃ c, WoC T a b c := by
  by_cases h : ∃ k, 0 ≤ k ∧ k < 73 ∧ WdE T a b k
  · obtain ⟨k, k0, k1, kw⟩ := h
    exact ⟨_, Or.inl ⟨k, k0, k1, kw, rfl⟩⟩
  · exact ⟨0, Or.inr ⟨rfl, fun k k0 k1 kw => h ⟨k, k0, k1, kw⟩⟩⟩
theorem TkR.ex {T : Int → Int} {n p : Int} (pn : p ≤ n) : ∃ c st bh v, TkR T n p c st bh v ∧ p ≤ bh ∧ bh ≤ n := by
  obtain ⟨st, r⟩ := RunT.ex (T := T) (lo := 32) (hi := 32) (n := n) (n - p).toNat p pn rfl
  have r1 := r.1
  have r2 := r.2.1
  by_cases e : st = n
  · exact ⟨0, st, n, 0, ⟨r, Or.inl ⟨e, rfl, rfl, rfl⟩⟩, pn, Int.le_refl _⟩
  · by_cases g : 97 ≤ T st ∧ T st ≤ 122
    · obtain ⟨bh, q⟩ := RunT.ex (T := T) (lo := 97) (hi := 122) (n := n) (n - st).toNat st r2 rfl
      obtain ⟨c, hc⟩ := WoC.ex (T := T) st bh
      have q1 := q.1
      exact ⟨c, st, bh, 0, ⟨r, Or.inr (Or.inl ⟨by omega, g.1, g.2, q, hc, rfl⟩)⟩, by omega, q.2.1⟩
    · by_cases d : 48 ≤ T st ∧ T st ≤ 57
      · obtain ⟨bh, q⟩ := RunT.ex (T := T) (lo := 48) (hi := 57) (n := n) (n - st).toNat st r2 rfl
        have q1 := q.1
        exact ⟨50, st, bh, _, ⟨r, Or.inr (Or.inr (Or.inl ⟨by omega, d.1, d.2, q, rfl, rfl⟩))⟩, by omega, q.2.1⟩
      · exact ⟨100 + T st, st, st + 1, 0, ⟨r, Or.inr (Or.inr (Or.inr ⟨by omega, g, d, rfl, rfl, rfl⟩))⟩, by omega, by omega⟩
section Tkcg
variable {T U : Int → Int} {n p c st bh v a b k lo hi : Int}
theorem RunT.cg (e : EqN T U n) (a0 : 0 ≤ a) (h : RunT T lo hi n a b) : RunT U lo hi n a b := by
  obtain ⟨h1, h2, h3, h4⟩ := h
  refine ⟨h1, h2, fun j x y => ?_, fun w => ?_⟩
  · rw [← e j (by omega) (by omega)]; exact h3 j x y
  · rw [← e b (by omega) w]; exact h4 w
theorem WdE.cg (e : EqN T U n) (a0 : 0 ≤ a) (bn : b ≤ n) (h : WdE T a b k) : WdE U a b k := by
  obtain ⟨h1, h2, h3⟩ := h
  exact ⟨h1, h2, fun j x y => by rw [← e _ (by omega) (by omega)]; exact h3 j x y⟩
theorem WoC.cg (e : EqN T U n) (a0 : 0 ≤ a) (bn : b ≤ n) (h : WoC T a b c) : WoC U a b c := by
  rcases h with ⟨k, k0, k1, kw, kc⟩ | h
  · exact Or.inl ⟨k, k0, k1, kw.cg e a0 bn, kc⟩
  · exact Or.inr ⟨h.1, fun k k0 k1 kw => h.2 k k0 k1 (WdE.cg (EqN.sy e) a0 bn kw)⟩
theorem dgV_cg (e : EqN T U n) (a0 : 0 ≤ a) : ∀ k : Nat, a + k ≤ n → dgV T a k = dgV U a k
  | 0, _ => rfl
  | k + 1, h => by
    unfold dgV
    rw [dgV_cg e a0 k (by omega), e (a + k) (by omega) (by omega)]
theorem TkR.cg (e : EqN T U n) (p0 : 0 ≤ p) (h : TkR T n p c st bh v) : TkR U n p c st bh v := by
  obtain ⟨r, h⟩ := h
  have s0 := r.1
  refine ⟨r.cg e p0, ?_⟩
  rcases h with h | ⟨h1, h2, h3, h4, h5, h6⟩ | ⟨h1, h2, h3, h4, h5, h6⟩ | ⟨h1, h2, h3, h4, h5, h6⟩
  · exact Or.inl h
  · have es := e st (by omega) h1
    refine Or.inr (Or.inl ⟨h1, by rw [← es]; exact h2, by rw [← es]; exact h3, h4.cg e (by omega), h5.cg e (by omega) h4.2.1, h6⟩)
  · have es := e st (by omega) h1
    have q1 := h4.1
    have q2 := h4.2.1
    refine Or.inr (Or.inr (Or.inl ⟨h1, by rw [← es]; exact h2, by rw [← es]; exact h3, h4.cg e (by omega), h5, ?_⟩))
    rw [h6]
    exact dgV_cg e (by omega) _ (by omega)
  · have es := e st (by omega) h1
    exact Or.inr (Or.inr (Or.inr ⟨h1, by rw [← es]; exact h2, by rw [← es]; exact h3, h4, by rw [← es]; exact h5, h6⟩))
theorem tk_cg (e : EqN T U n) (p0 : 0 ≤ p) (pn : p ≤ n) : tkc T n p = tkc U n p ∧ tks T n p = tks U n p ∧ tkb T n p = tkb U n p ∧ tkv T n p = tkv U n p := by
  obtain ⟨c, st, bh, v, h, _⟩ := TkR.ex (T := T) pn
  have u := h.is
  have w := (h.cg e p0).is
  exact ⟨u.1.symm.trans w.1, u.2.1.symm.trans w.2.1, u.2.2.1.symm.trans w.2.2.1, u.2.2.2.symm.trans w.2.2.2⟩
theorem tkN_in (n0 : 0 ≤ n) : ∀ i : Nat, 0 ≤ tkN T n i ∧ tkN T n i ≤ n
  | 0 => ⟨Int.le_refl _, n0⟩
  | i + 1 => by
    have u : 0 ≤ tkN T n i ∧ tkN T n i ≤ n := tkN_in n0 i
    obtain ⟨c, st, bh, v, h, h1, h2⟩ := TkR.ex (T := T) u.2
    have w := h.is.2.2.1
    show 0 ≤ tkb T n (tkN T n i) ∧ tkb T n (tkN T n i) ≤ n
    omega
theorem tkN_cg (e : EqN T U n) (n0 : 0 ≤ n) : ∀ i : Nat, tkN T n i = tkN U n i
  | 0 => rfl
  | i + 1 => by
    have u := tkN_in (T := T) n0 i
    show tkb T n (tkN T n i) = tkb U n (tkN U n i)
    rw [← tkN_cg e n0 i]
    exact (tk_cg e u.1 u.2).2.2.1
theorem CTk_cg (e : EqN T U n) (n0 : 0 ≤ n) : CTk T n = CTk U n := by
  funext i
  have u := tkN_in (T := T) n0 i.toNat
  unfold CTk
  rw [← tkN_cg e n0, (tk_cg e u.1 u.2).1]
theorem VT_cg (e : EqN T U n) (n0 : 0 ≤ n) : VT T n = VT U n := by
  funext i
  have u := tkN_in (T := T) n0 i.toNat
  unfold VT
  rw [← tkN_cg e n0, (tk_cg e u.1 u.2).2.2.2]
theorem ST_cg (e : EqN T U n) (n0 : 0 ≤ n) : ST T n = ST U n := by
  funext i
  have u := tkN_in (T := T) n0 i.toNat
  unfold ST
  rw [← tkN_cg e n0, (tk_cg e u.1 u.2).2.1]
theorem LF_cg (e : EqN T U n) (n0 : 0 ≤ n) : LF T n = LF U n := by
  unfold LF
  rw [CTk_cg e n0, VT_cg e n0]
theorem EnT_cg (e : EqN T U n) (n0 : 0 ≤ n) : EnT T n = EnT U n := by
  unfold EnT
  rw [ST_cg e n0]
end Tkcg
