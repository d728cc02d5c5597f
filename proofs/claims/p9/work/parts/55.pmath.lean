/-! rows for Parting: steps by where they lead, the tree of a search -/
def Tt (sf : Int → Int) (h i : Int) : Int := zand (sf (22 * h + i)) 2047
def c1 (sf : Int → Int) (t h : Int) : Nat → Nat
  | 0 => 0
  | i + 1 => c1 sf t h i + (if Tt sf h i = t then 1 else 0)
def c2 (df sf : Int → Int) (t : Int) : Nat → Nat
  | 0 => 0
  | h + 1 => c2 df sf t h + c1 sf t h (df h).toNat
/-- how many of the steps ahead of (h, i) lead to t -/
def CT (df sf : Int → Int) (t h i : Int) : Int := (c2 df sf t h.toNat + c1 sf t h i.toNat : Nat)
theorem CT_00 (df sf : Int → Int) (t : Int) : CT df sf t 0 0 = 0 := rfl
theorem CT_pos (df sf : Int → Int) (t h i : Int) : 0 ≤ CT df sf t h i := by unfold CT; omega
theorem CT_i {df sf : Int → Int} {t h i : Int} (h0 : 0 ≤ i) : CT df sf t h (i + 1) = CT df sf t h i + (if Tt sf h i = t then 1 else 0) := by
  unfold CT
  rw [show (i + 1).toNat = i.toNat + 1 by omega]
  show ((c2 df sf t h.toNat + (c1 sf t h i.toNat + (if Tt sf h ((i.toNat : Nat) : Int) = t then 1 else 0)) : Nat) : Int) = _
  rw [show ((i.toNat : Nat) : Int) = i by omega]
  split <;> omega
theorem CT_h {df sf : Int → Int} {t h d : Int} (h0 : 0 ≤ h) (e : df h = d) : CT df sf t (h + 1) 0 = CT df sf t h d := by
  unfold CT
  rw [show (h + 1).toNat = h.toNat + 1 by omega]
  show ((c2 df sf t h.toNat + c1 sf t ((h.toNat : Nat) : Int) (df ((h.toNat : Nat) : Int)).toNat + 0 : Nat) : Int) = _
  rw [show ((h.toNat : Nat) : Int) = h by omega, e]
  omega
theorem c1_congr {sf sg : Int → Int} {t h : Int} : ∀ i : Nat, (∀ j : Int, 0 ≤ j → j < i → sg (22 * h + j) = sf (22 * h + j)) → c1 sg t h i = c1 sf t h i
  | 0, _ => rfl
  | i + 1, q => by
    unfold c1 Tt
    rw [c1_congr i (fun j a b => q j a (by omega)), q i (by omega) (by omega)]
theorem c2_congr {df sf dg sg : Int → Int} {t many : Int} (hk : Kept df sf dg sg many) (hs : StOK df sf many) : ∀ h : Nat, (h : Int) ≤ many → (∀ a : Int, 0 ≤ a → a < h → 0 ≤ df a) → c2 dg sg t h = c2 df sf t h
  | 0, _, _ => rfl
  | h + 1, hm, q => by
    obtain ⟨k1, k2⟩ := hk h (by omega) (by omega) (q h (by omega) (by omega))
    have hd := (hs h (by omega) (by omega)).2.1
    unfold c2
    rw [c2_congr hk hs h (by omega) (fun a b c => q a b (by omega)), k1, c1_congr _ (fun j a b => k2 j a (by omega))]
/-- the houses below h are known -/
def KnT (df : Int → Int) (h : Int) : Prop := ∀ a, 0 ≤ a → a < h → 0 ≤ df a
theorem KnT_0 {df : Int → Int} : KnT df 0 := fun a b c => by omega
theorem KnT.keep {df sf dg sg : Int → Int} {many h : Int} (q : KnT df h) (hk : Kept df sf dg sg many) (hm : h ≤ many) : KnT dg h := fun a b c => by
  rw [(hk a b (by omega) (q a b c)).1]
  exact q a b c
theorem KnT.next {df : Int → Int} {h d : Int} (q : KnT df h) (e : df h = d) (hd : 0 ≤ d) : KnT df (h + 1) := fun a b c => by
  by_cases r : a = h
  · rw [r, e]; exact hd
  · exact q a b (by omega)
theorem KnT.at {df : Int → Int} {h m : Int} (q : KnT df m) (h0 : 0 ≤ h) (h1 : h < m) : 0 ≤ df h := q h h0 h1
/-- how often each house is led to, so far -/
def Cnt (st df sf : Int → Int) (many h i : Int) : Prop := ∀ t, 0 ≤ t → t < many → st t = CT df sf t h i
theorem Cnt_0 {st F df sf : Int → Int} {many : Int} (e : st = fillf F 0 1261 0) (hm : many ≤ 1260) : Cnt st df sf many 0 0 := fun t a b => by
  rw [CT_00]
  exact fill_at e a (by omega)
theorem Cnt.keep {st df sf dg sg : Int → Int} {many h : Int} (q : Cnt st df sf many h 0) (hk : Kept df sf dg sg many) (hs : StOK df sf many) (kn : KnT df h) (h0 : 0 ≤ h) (hm : h ≤ many) : Cnt st dg sg many h 0 := fun t a b => by
  rw [q t a b]
  unfold CT
  rw [c2_congr hk hs h.toNat (by omega) (fun a b c => kn a b (by omega))]
  rfl
theorem Cnt.step {st st2 df sf : Int → Int} {many h i t z : Int} (q : Cnt st df sf many h i) (h0 : 0 ≤ i) (ht : zand (sf (22 * h + i)) 2047 = t) (ez : st t = z) (e : st2 = up st t (z + 1)) : Cnt st2 df sf many h (i + 1) := fun u a b => by
  subst e
  rw [CT_i h0, ← q u a b]
  have ht : Tt sf h i = t := ht
  by_cases r : u = t
  · rw [r, up_same, ht, if_pos rfl, ez]
  · rw [up_ne r, ht, if_neg (fun e => r e.symm)]
    omega
theorem Cnt.next {st df sf : Int → Int} {many h i d : Int} (q : Cnt st df sf many h i) (h0 : 0 ≤ h) (e : df h = d) (hi : i = d) : Cnt st df sf many (h + 1) 0 := fun t a b => by
  subst hi
  rw [CT_h h0 e]
  exact q t a b
def SB (C : Int → Int) : Nat → Int
  | 0 => 0
  | n + 1 => SB C n + C n
def sb (C : Int → Int) (t : Int) : Int := SB C t.toNat
theorem sb_0 (C : Int → Int) : sb C 0 = 0 := rfl
theorem sb_step {C : Int → Int} {t : Int} (h : 0 ≤ t) : sb C (t + 1) = sb C t + C t := by
  unfold sb
  rw [show (t + 1).toNat = t.toNat + 1 by omega]
  show SB C t.toNat + C ((t.toNat : Nat) : Int) = _
  rw [show ((t.toNat : Nat) : Int) = t by omega]
theorem SB_le {C D : Int → Int} : ∀ n : Nat, (∀ t : Int, 0 ≤ t → t < n → C t ≤ D t) → SB C n ≤ SB D n
  | 0, _ => Int.le_refl _
  | n + 1, h => by
    have h1 := SB_le n (fun t a b => h t a (by omega))
    have h2 := h n (by omega) (by omega)
    show SB C n + C n ≤ SB D n + D n
    omega
theorem sb_mono {C : Int → Int} {many : Int} (hC : ∀ t, 0 ≤ t → t < many → 0 ≤ C t) : ∀ (k : Nat) (a : Int), 0 ≤ a → a + k ≤ many → sb C a ≤ sb C (a + k)
  | 0, a, _, _ => by simp
  | k + 1, a, h0, h1 => by
    have h2 := sb_mono hC k a h0 (by omega)
    have h3 := hC (a + k) (by omega) (by omega)
    rw [show a + ((k + 1 : Nat) : Int) = a + k + 1 by omega, sb_step (by omega)]
    omega
theorem SB_one (x : Int) : ∀ n : Nat, SB (fun t => if x = t then 1 else 0) n ≤ 1 ∧ (x < 0 ∨ (n : Int) ≤ x → SB (fun t => if x = t then 1 else 0) n = 0)
  | 0 => ⟨by show (0 : Int) ≤ 1; decide, fun _ => rfl⟩
  | n + 1 => by
    obtain ⟨h1, h2⟩ := SB_one x n
    show SB _ n + (if x = (n : Int) then 1 else 0) ≤ 1 ∧ (_ → SB _ n + (if x = (n : Int) then 1 else 0) = 0)
    by_cases q : x = n
    · rw [if_pos q, h2 (by omega)]
      exact ⟨by decide, fun r => by omega⟩
    · rw [if_neg q]
      exact ⟨by omega, fun r => by rw [h2 (by omega)]; rfl⟩
theorem SB_add (C D : Int → Int) : ∀ n : Nat, SB (fun t => C t + D t) n = SB C n + SB D n
  | 0 => rfl
  | n + 1 => by
    show SB _ n + (C n + D n) = SB C n + C n + (SB D n + D n)
    rw [SB_add C D n]
    omega
theorem SB_CT {df sf : Int → Int} (n : Nat) : ∀ (h i : Nat), (∀ a : Int, 0 ≤ a → a < h → df a ≤ 22) → SB (fun t => CT df sf t h i) n ≤ 22 * h + i
  | 0, 0, _ => by
    have : ∀ m : Nat, SB (fun t => CT df sf t ((0 : Nat) : Int) ((0 : Nat) : Int)) m = 0 := fun m => by
      induction m with
      | zero => rfl
      | succ m ih =>
        show SB _ m + CT df sf m 0 0 = 0
        rw [ih, CT_00]
        rfl
    rw [this n]
    omega
  | h, i + 1, q => by
    have h1 := SB_CT (df := df) (sf := sf) n h i q
    have e : (fun t => CT df sf t (h : Int) ((i + 1 : Nat) : Int)) = fun t => CT df sf t (h : Int) (i : Int) + (if Tt sf h i = t then 1 else 0) := by
      funext t
      rw [show ((i + 1 : Nat) : Int) = (i : Int) + 1 by omega]
      exact CT_i (by omega)
    have h2 := (SB_one (Tt sf h i) n).1
    rw [e, SB_add]
    omega
  | h + 1, 0, q => by
    have hd := q h (by omega) (by omega)
    have h1 := SB_CT (df := df) (sf := sf) n h (df h).toNat (fun a b c => q a b (by omega))
    have e : (fun t => CT df sf t ((h + 1 : Nat) : Int) ((0 : Nat) : Int)) = fun t => CT df sf t (h : Int) (((df h).toNat : Nat) : Int) := by
      funext t
      have := CT_h (df := df) (sf := sf) (t := t) (h := (h : Int)) (by omega) rfl
      rw [show ((h + 1 : Nat) : Int) = (h : Int) + 1 by omega, show ((0 : Nat) : Int) = 0 from rfl, this]
      unfold CT
      rw [Int.toNat_natCast, Int.toNat_natCast]
    rw [e]
    omega
  termination_by h i => (h, i)
def Cf (df sf : Int → Int) (many : Int) : Int → Int := fun t => if t < many then CT df sf t many 0 else 0
theorem Cf_pos (df sf : Int → Int) (many t : Int) : 0 ≤ Cf df sf many t := by
  unfold Cf
  split
  · exact CT_pos _ _ _ _ _
  · omega
theorem sb_top {df sf : Int → Int} {many : Int} (hm : 0 ≤ many) (hs : StOK df sf many) : sb (Cf df sf many) many ≤ 22 * many := by
  obtain ⟨n, rfl⟩ := Int.eq_ofNat_of_zero_le hm
  have h1 := SB_CT (df := df) (sf := sf) n n 0 (fun a b c => (hs a b c).2.1)
  have h2 : SB (Cf df sf n) n ≤ SB (fun t => CT df sf t n ((0 : Nat) : Int)) n := SB_le n (fun t a b => by
    unfold Cf
    rw [if_pos b]
    exact Int.le_refl _)
  show SB (Cf df sf n) ((n : Int)).toNat ≤ _
  rw [Int.toNat_natCast]
  omega
/-- the sums so far: below x they stand, from x on the counts -/
def SumB (st C : Int → Int) (many x : Int) : Prop := ∀ t, 0 ≤ t → t ≤ many → st t = if t < x then sb C (t + 1) else C t
theorem SumB_1 {st df sf : Int → Int} {many : Int} (q : Cnt st df sf many many 0) (hz : st many = 0) : SumB st (Cf df sf many) many 1 := fun t a b => by
  by_cases r : t < 1
  · rw [if_pos r, show t = 0 by omega, sb_step (Int.le_refl 0), sb_0]
    by_cases s : (0 : Int) < many
    · rw [q 0 (Int.le_refl 0) s]
      unfold Cf
      rw [if_pos s]
      omega
    · have : many = 0 := by omega
      subst this
      unfold Cf
      rw [if_neg (by omega), hz]
      rfl
  · rw [if_neg r]
    unfold Cf
    by_cases s : t < many
    · rw [if_pos s]
      exact q t a s
    · rw [if_neg s, show t = many by omega, hz]
theorem SumB.step {st st2 C : Int → Int} {many x z w : Int} (q : SumB st C many x) (h1 : 1 ≤ x) (h2 : x ≤ many) (ez : st x = z) (ew : st (x - 1) = w) (e : st2 = up st x (z + w)) : SumB st2 C many (x + 1) := fun t a b => by
  subst e
  have k1 := q x (by omega) h2
  have k2 := q (x - 1) (by omega) (by omega)
  rw [if_neg (by omega)] at k1
  rw [if_pos (by omega), show x - 1 + 1 = x by omega] at k2
  by_cases r : t = x
  · rw [r, up_same, if_pos (by omega), sb_step (by omega)]
    omega
  · rw [up_ne r, q t a b]
    by_cases s : t < x
    · rw [if_pos s, if_pos (by omega)]
    · rw [if_neg s, if_neg (by omega)]
theorem SumB.zr {st df sf : Int → Int} {many x t z : Int} (q : SumB st (Cf df sf many) many x) (hs : StOK df sf many) (hm : 1 ≤ many) (h1260 : many ≤ 1260) (h0 : 0 ≤ t) (h1 : t ≤ many) (e : st t = z) : 0 ≤ z ∧ z ≤ 27720 := by
  have k := q t h0 h1
  have p := Cf_pos df sf many
  have top := sb_top (df := df) (sf := sf) (by omega) hs
  have mono := fun a b (c : 0 ≤ a) (d : a ≤ b) (e : b ≤ many) => by
    have := sb_mono (C := Cf df sf many) (many := many) (fun t _ _ => p t) (b - a).toNat a c (by omega)
    rwa [show a + ((b - a).toNat : Int) = b by omega] at this
  have last : Cf df sf many many = 0 := by unfold Cf; rw [if_neg (by omega)]
  have st1 := sb_step (C := Cf df sf many) h0
  have nn : 0 ≤ sb (Cf df sf many) t := by have := mono 0 t (Int.le_refl 0) h0 h1; rwa [sb_0] at this
  have pt := p t
  have up1 : sb (Cf df sf many) (t + 1) ≤ 22 * many := by
    by_cases r : t = many
    · rw [st1, r, last]; omega
    · have := mono (t + 1) many (by omega) (by omega) (Int.le_refl _)
      omega
  subst e
  rw [k]
  split <;> omega
/-- while the steps are laid: what is left, and what lies there -/
def Lay (st it df sf : Int → Int) (many h i : Int) : Prop := (∀ t, 0 ≤ t → t < many → st t = sb (Cf df sf many) (t + 1) - CT df sf t h i) ∧ st many = sb (Cf df sf many) many ∧ ∀ t k, 0 ≤ t → t < many → st t ≤ k → k < sb (Cf df sf many) (t + 1) → ∃ a b, it k = 22 * a + b ∧ 0 ≤ a ∧ a < many ∧ 0 ≤ b ∧ b < df a ∧ Tt sf a b = t
theorem Lay_0 {st it df sf : Int → Int} {many x : Int} (q : SumB st (Cf df sf many) many x) (hx : many < x) (hm : 1 ≤ many) : Lay st it df sf many 0 0 := by
  have last : Cf df sf many many = 0 := by unfold Cf; rw [if_neg (by omega)]
  refine ⟨fun t a b => ?_, ?_, fun t k a b c d => ?_⟩
  · rw [q t a (by omega), if_pos (by omega), CT_00]; omega
  · rw [q many (by omega) (Int.le_refl _), if_pos (by omega), sb_step (by omega), last]; omega
  · rw [q t a (by omega), if_pos (by omega)] at c
    omega
theorem CT_le {df sf : Int → Int} {many t : Int} (kn : KnT df many) (h0 : 0 ≤ t) : ∀ (n : Nat) (h : Int), 0 ≤ h → h + n = many → CT df sf t h 0 ≤ CT df sf t many 0
  | 0, h, _, e => by rw [show h = many by omega]; exact Int.le_refl _
  | n + 1, h, k0, e => by
    have h1 := CT_le (sf := sf) kn h0 n (h + 1) (by omega) (by omega)
    have h2 := CT_h (df := df) (sf := sf) (t := t) (h := h) k0 rfl
    have h3 : CT df sf t h 0 ≤ CT df sf t h (df h) := by
      unfold CT
      have : c1 sf t h (0 : Int).toNat = 0 := rfl
      omega
    omega
theorem CT_lei {df sf : Int → Int} {t h : Int} : ∀ (n : Nat) (i : Int), 0 ≤ i → CT df sf t h i ≤ CT df sf t h (i + n)
  | 0, i, _ => by simp
  | n + 1, i, h0 => by
    have h1 := CT_lei (df := df) (sf := sf) (t := t) (h := h) n i h0
    have h2 := CT_i (df := df) (sf := sf) (t := t) (h := h) (i := i + n) (by omega)
    rw [show i + ((n + 1 : Nat) : Int) = i + n + 1 by omega, h2]
    split <;> omega
theorem CT_all {df sf : Int → Int} {many t h i : Int} (kn : KnT df many) (t0 : 0 ≤ t) (h0 : 0 ≤ h) (h1 : h < many) (i0 : 0 ≤ i) (i1 : i ≤ df h) : CT df sf t h i ≤ CT df sf t many 0 := by
  have k1 := CT_lei (df := df) (sf := sf) (t := t) (h := h) (df h - i).toNat i i0
  rw [show i + ((df h - i).toNat : Int) = df h by omega] at k1
  have k2 := CT_h (df := df) (sf := sf) (t := t) (h := h) h0 rfl
  have k3 := CT_le (df := df) (sf := sf) kn t0 (many - h - 1).toNat (h + 1) (by omega) (by omega)
  omega
theorem Lay.rng {st it df sf : Int → Int} {many h i t z : Int} (q : Lay st it df sf many h i) (hs : StOK df sf many) (kn : KnT df many) (h0 : 0 ≤ h) (h1 : h < many) (i0 : 0 ≤ i) (i1 : i < df h) (t0 : 0 ≤ t) (t1 : t < many) (ht : zand (sf (22 * h + i)) 2047 = t) (e : st t = z) : 1 ≤ z ∧ z ≤ 22 * many := by
  have k := q.1 t t0 t1
  have c := CT_i (df := df) (sf := sf) (t := t) (h := h) i0
  have ht : Tt sf h i = t := ht
  rw [ht, if_pos rfl] at c
  have c2 := CT_all (df := df) (sf := sf) kn t0 h0 h1 (i := i + 1) (by omega) (by omega)
  have p := Cf_pos df sf many
  have top := sb_top (df := df) (sf := sf) (by omega) hs
  have s1 := sb_step (C := Cf df sf many) t0
  have s2 : Cf df sf many t = CT df sf t many 0 := by unfold Cf; rw [if_pos t1]
  have mono := fun a b (c : 0 ≤ a) (d : a ≤ b) (e : b ≤ many) => by
    have := sb_mono (C := Cf df sf many) (many := many) (fun t _ _ => p t) (b - a).toNat a c (by omega)
    rwa [show a + ((b - a).toNat : Int) = b by omega] at this
  have m1 := mono 0 t (Int.le_refl 0) t0 (by omega)
  have m2 := mono (t + 1) many (by omega) (by omega) (Int.le_refl _)
  rw [sb_0] at m1
  have c0 := CT_pos df sf t h i
  subst e
  omega
theorem Lay.step {st st2 it it2 df sf : Int → Int} {many h i t z x : Int} (q : Lay st it df sf many h i) (hs : StOK df sf many) (kn : KnT df many) (h0 : 0 ≤ h) (h1 : h < many) (i0 : 0 ≤ i) (i1 : i < df h) (t0 : 0 ≤ t) (t1 : t < many) (ht : zand (sf (22 * h + i)) 2047 = t) (e : st t = z) (e1 : st2 = up st t (z - 1)) (ex : x = 22 * h + i) (e2 : it2 = up it (z - 1) x) : Lay st2 it2 df sf many h (i + 1) := by
  have k := q.1 t t0 t1
  have c := CT_i (df := df) (sf := sf) (t := t) (h := h) i0
  have ht' : Tt sf h i = t := ht
  rw [ht', if_pos rfl] at c
  have c2 := CT_all (df := df) (sf := sf) kn t0 h0 h1 (i := i + 1) (by omega) (by omega)
  have p := Cf_pos df sf many
  have s1 := sb_step (C := Cf df sf many) t0
  have s2 : Cf df sf many t = CT df sf t many 0 := by unfold Cf; rw [if_pos t1]
  have mono := fun a b (c : 0 ≤ a) (d : a ≤ b) (e : b ≤ many) => by
    have := sb_mono (C := Cf df sf many) (many := many) (fun t _ _ => p t) (b - a).toNat a c (by omega)
    rwa [show a + ((b - a).toNat : Int) = b by omega] at this
  subst e e1 ex e2
  refine ⟨fun u a b => ?_, ?_, fun u k2 a b c3 d => ?_⟩
  · rw [CT_i i0]
    by_cases r : u = t
    · rw [r, up_same, ht', if_pos rfl]; omega
    · rw [up_ne r, ht', if_neg (fun e => r e.symm), q.1 u a b]; omega
  · rw [up_ne (by omega)]; exact q.2.1
  · by_cases r : k2 = st t - 1
    · have hu : u = t := by
        rcases Int.lt_trichotomy u t with w | w | w
        · have := mono (u + 1) t (by omega) (by omega) (by omega)
          omega
        · exact w
        · rw [up_ne (by omega), q.1 u a b] at c3
          have m1 := mono (t + 1) u (by omega) (by omega) (by omega)
          have c0 := CT_pos df sf t h i
          have s3 := sb_step (C := Cf df sf many) a
          have s4 : Cf df sf many u = CT df sf u many 0 := by unfold Cf; rw [if_pos b]
          have c4 := CT_all (df := df) (sf := sf) (t := u) kn a h0 h1 (i := i) (by omega) (by omega)
          omega
      subst hu
      rw [r, up_same]
      exact ⟨h, i, rfl, h0, h1, i0, i1, ht'⟩
    · rw [up_ne r]
      refine q.2.2 u k2 a b ?_ d
      by_cases w : u = t
      · subst w
        rw [up_same] at c3
        omega
      · rw [up_ne w] at c3
        exact c3
theorem Lay.next {st it df sf : Int → Int} {many h i d : Int} (q : Lay st it df sf many h i) (h0 : 0 ≤ h) (e : df h = d) (hi : i = d) : Lay st it df sf many (h + 1) 0 := by
  subst hi
  refine ⟨fun t a b => ?_, q.2⟩
  rw [CT_h h0 e]
  exact q.1 t a b
/-- the steps that lead to a house stand together -/
def Into (st it df sf : Int → Int) (many : Int) : Prop := (∀ t, 0 ≤ t → t ≤ many → 0 ≤ st t ∧ st t ≤ 22 * many) ∧ ∀ t k, 0 ≤ t → t < many → st t ≤ k → k < st (t + 1) → ∃ a b, it k = 22 * a + b ∧ 0 ≤ a ∧ a < many ∧ 0 ≤ b ∧ b < df a ∧ Tt sf a b = t
theorem Into_of {st it df sf : Int → Int} {many : Int} (q : Lay st it df sf many many 0) (hs : StOK df sf many) (hm : 1 ≤ many) : Into st it df sf many := by
  have p := Cf_pos df sf many
  have top := sb_top (df := df) (sf := sf) (by omega) hs
  have mono := fun a b (c : 0 ≤ a) (d : a ≤ b) (e : b ≤ many) => by
    have := sb_mono (C := Cf df sf many) (many := many) (fun t _ _ => p t) (b - a).toNat a c (by omega)
    rwa [show a + ((b - a).toNat : Int) = b by omega] at this
  have key : ∀ t, 0 ≤ t → t ≤ many → st t = sb (Cf df sf many) t := fun t a b => by
    by_cases r : t = many
    · rw [r]; exact q.2.1
    · have s1 := sb_step (C := Cf df sf many) a
      have s2 : Cf df sf many t = CT df sf t many 0 := by unfold Cf; rw [if_pos (by omega)]
      rw [q.1 t a (by omega)]
      omega
  refine ⟨fun t a b => ?_, fun t k a b c d => q.2.2 t k a b c (by rwa [key (t + 1) (by omega) (by omega)] at d)⟩
  have m1 := mono 0 t (Int.le_refl 0) a b
  have m2 := mono t many a b (Int.le_refl _)
  rw [sb_0] at m1
  rw [key t a b]
  omega
/-- a step that may lead to a house in a search -/
def Vis (by_ df sf : Int → Int) (many h step : Int) : Prop := ∃ a b, step = 22 * a + b ∧ 0 ≤ a ∧ a < many ∧ 0 ≤ b ∧ b < df a ∧ (a ≠ h → ¬ by_ a = -1) ∧ (a = h → ¬ by_ (Tt sf a b) = -1)
def Tree (by_ df sf : Int → Int) (many x : Int) : Prop := (¬ by_ x = -1) ∧ ∀ h, 0 ≤ h → h < many → ¬ by_ h = -1 → h = x ∨ Vis by_ df sf many h (by_ h)
theorem Tree_0 {G F H df sf : Int → Int} {many x : Int} (e : G = fillf F 0 1260 (-1)) (e2 : H = up G x 0) (hm : many ≤ 1260) : Tree H df sf many x := by
  subst e2
  refine ⟨by rw [up_same]; decide, fun h h0 h1 hb => ?_⟩
  by_cases r : h = x
  · exact Or.inl r
  · rw [up_ne r, fill_at e h0 (by omega)] at hb
    exact absurd rfl hb
theorem Tree.visit {by_ by2 df sf : Int → Int} {many x h step z : Int} (q : Tree by_ df sf many x) (v : Vis by_ df sf many h step) (hs : 0 ≤ step) (ez : by_ h = z) (hz : z = -1) (e : by2 = up by_ h step) : Tree by2 df sf many x := by
  subst e
  have keep : ∀ y, ¬ by_ y = -1 → ¬ up by_ h step y = -1 := fun y w => by
    by_cases r : y = h
    · rw [r, up_same]; omega
    · rw [up_ne r]; exact w
  refine ⟨keep x q.1, fun y y0 y1 yb => ?_⟩
  by_cases r : y = h
  · right
    rw [r, up_same]
    obtain ⟨a, b, v1, v2, v3, v4, v5, v6, v7⟩ := v
    exact ⟨a, b, v1, v2, v3, v4, v5, fun w => keep _ (v6 w), fun w => keep _ (v7 w)⟩
  · rw [up_ne r] at yb ⊢
    rcases q.2 y y0 y1 yb with w | ⟨a, b, v1, v2, v3, v4, v5, v6, v7⟩
    · exact Or.inl w
    · exact Or.inr ⟨a, b, v1, v2, v3, v4, v5, fun w => keep _ (v6 w), fun w => keep _ (v7 w)⟩
/-- visited stays visited -/
def KB (by_ by2 : Int → Int) : Prop := ∀ y, ¬ by_ y = -1 → ¬ by2 y = -1
theorem KB.refl {b : Int → Int} : KB b b := fun _ h => h
theorem KB.up {b b2 : Int → Int} {h s : Int} (e : b2 = up b h s) (hs : 0 ≤ s) : KB b b2 := fun y w => by
  subst e
  by_cases r : y = h
  · rw [r, up_same]; omega
  · rw [up_ne r]; exact w
theorem Vis_f {by_ df sf : Int → Int} {many a b t s : Int} (a0 : 0 ≤ a) (a1 : a < many) (b0 : 0 ≤ b) (b1 : b < df a) (es : s = 22 * a + b) (hv : ¬ by_ a = -1) (ht : zand (sf (22 * a + b)) 2047 = t) : Vis by_ df sf many t s := ⟨a, b, es, a0, a1, b0, b1, fun _ => hv, fun e => by
  have ht : Tt sf a b = t := ht
  rw [ht, ← e]
  exact hv⟩
theorem Into.at {st it df sf : Int → Int} {many h k s1 s2 z : Int} (q : Into st it df sf many) (hs : StOK df sf many) (h0 : 0 ≤ h) (h1 : h < many) (e1 : st h = s1) (e2 : st (h + 1) = s2) (k1 : s1 ≤ k) (k2 : k < s2) (e : it k = z) : ∃ a b, z = 22 * a + b ∧ 0 ≤ a ∧ a < many ∧ 0 ≤ b ∧ b < df a ∧ b < 22 ∧ Tt sf a b = h := by
  obtain ⟨a, b, q1, q2, q3, q4, q5, q6⟩ := q.2 h k h0 h1 (by omega) (by omega)
  have := (hs a q2 q3).2.1
  exact ⟨a, b, by rw [← e]; exact q1, q2, q3, q4, q5, by omega, q6⟩
theorem Tree.at {by_ df sf : Int → Int} {many x h z : Int} (q : Tree by_ df sf many x) (hs : StOK df sf many) (h0 : 0 ≤ h) (h1 : h < many) (e : by_ h = z) (hz : ¬ z = -1) (hx : ¬ h = x) : ∃ a b, z = 22 * a + b ∧ 0 ≤ a ∧ a < many ∧ 0 ≤ b ∧ b < df a ∧ b < 22 ∧ (a ≠ h → ¬ by_ a = -1) ∧ (a = h → ¬ by_ (Tt sf a b) = -1) := by
  rcases q.2 h h0 h1 (by rw [e]; exact hz) with w | ⟨a, b, v1, v2, v3, v4, v5, v6, v7⟩
  · exact absurd w hx
  · have := (hs a v2 v3).2.1
    exact ⟨a, b, by rw [← e]; exact v1, v2, v3, v4, v5, by omega, v6, v7⟩
def NOld (a a2 n : Nat) : Prop := a2 = a ∨ n ≤ a2
