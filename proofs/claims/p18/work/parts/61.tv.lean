/-! what a law's tokens tell: values by the words asked (none: BROKEN); from token t up to t2 -/
abbrev DV : Type := (Int → Int) → Option Int
abbrev DR : Type := Int → Int → DV → Prop
def bndO (v : Int) : Option Int := if -1000000000 ≤ v ∧ v ≤ 1000000000 then some v else none
def arO (c a b : Int) : Option Int := if c = 143 then bndO (a + b) else if c = 145 then bndO (a - b) else if c = 142 then bndO (a * b) else if b = 0 then none else bndO (Int.tdiv a b)
def cmO (c a b : Int) : Int := if c = 160 then (if a < b then 1 else 0) else if c = 162 then (if b < a then 1 else 0) else if a = b then 1 else 0
def biO (g : Int → Int → Option Int) (f h : DV) : DV := fun w => match f w, h w with
  | some a, some b => g a b
  | _, _ => none
def arC (c : Int) (f h : DV) : DV := biO (arO c) f h
def cmC (c : Int) (f h : DV) : DV := biO (fun a b => some (cmO c a b)) f h
def orC (f h : DV) : DV := fun w => match f w with
  | none => none
  | some a => if a = 0 then h w else some a
def anC (f h : DV) : DV := fun w => match f w with
  | none => none
  | some a => if a = 0 then some a else h w
def ntC (d : Int) (f : DV) : DV := fun w => match f w with
  | none => none
  | some a => if d = 1 then (if a = 0 then some 1 else some 0) else some a
def LfD (C V : Int → Int) : DR := fun t t2 f => t2 = t + 1 ∧ ((C t = 50 ∧ 0 ≤ V t ∧ V t ≤ 1000 ∧ f = fun _ => some (V t)) ∨ (8 ≤ C t ∧ C t ≤ 15 ∧ f = fun w => some (w (C t - 8))))
def ChD (It : DR) (op : Int → Prop) (cb : Int → DV → DV → DV) (C : Int → Int) : Nat → Int → DV → Int → DV → Prop
  | 0 => fun t f t2 g => ¬ op (C t) ∧ t2 = t ∧ g = f
  | n + 1 => fun t f t2 g => op (C t) ∧ ∃ t1 h, It (t + 1) t1 h ∧ ChD It op cb C n t1 (cb (C t) f h) t2 g
def SeD (It : DR) (op : Int → Prop) (cb : Int → DV → DV → DV) (C : Int → Int) : DR := fun t t2 g => ∃ t1 f, It t t1 f ∧ ∃ n, ChD It op cb C n t1 f t2 g
def PaD (B : DR) (C V : Int → Int) : DR := fun t t2 f => (C t = 191 ∧ B t t2 f) ∨ (¬ C t = 191 ∧ LfD C V t t2 f)
/-- k brackets more may stand within -/
def BsD (C V : Int → Int) : Nat → DR
  | 0 => fun _ _ _ => False
  | k + 1 => fun t t2 f => ∃ t1, SeD (SeD (PaD (BsD C V k) C V) opM arC C) opA arC C (t + 1) t1 f ∧ C t1 = 193 ∧ t2 = t1 + 1
def PtD (C V : Int → Int) (k : Nat) : DR := PaD (BsD C V k) C V
def TmD (C V : Int → Int) (k : Nat) : DR := SeD (PtD C V k) opM arC C
def SmD (C V : Int → Int) (k : Nat) : DR := SeD (TmD C V k) opA arC C
def PlD (B Sm : DR) (C : Int → Int) : DR := fun t t2 f => ∃ s g, t ≤ s ∧ NtX C t s ∧ ¬ C s = 7 ∧ f = ntC ((s - t) % 2) g ∧ ((C s = 140 ∧ B s t2 g) ∨ (¬ C s = 140 ∧ ∃ t1 a b, Sm s t1 a ∧ opC (C t1) ∧ Sm (t1 + 1) t2 b ∧ g = cmC (C t1) a b))
def BtD (C V : Int → Int) : Nat → DR
  | 0 => fun _ _ _ => False
  | k + 1 => fun t t2 f => ∃ t1, SeD (SeD (PlD (BtD C V k) (SmD C V k) C) opN (fun _ => anC) C) opO (fun _ => orC) C (t + 1) t1 f ∧ C t1 = 141 ∧ t2 = t1 + 1
def PnD (C V : Int → Int) (k : Nat) : DR := PlD (BtD C V k) (SmD C V k) C
def BoD (C V : Int → Int) (k : Nat) : DR := SeD (PnD C V k) opN (fun _ => anC) C
def TeD (C V : Int → Int) (k : Nat) : DR := SeD (BoD C V k) opO (fun _ => orC) C
def IfD (C V : Int → Int) : DR := fun t t2 g => (C t = 4 ∧ TeD C V 8 (t + 1) t2 g) ∨ (¬ C t = 4 ∧ t2 = t ∧ g = fun _ => some 1)
/-- a clause: its kind (1 takes, 2 lets, 3 bars), its SUM, its TEST -/
def ClD (C V : Int → Int) (t t2 k : Int) (f g : DV) : Prop := (C t = 1 ∧ k = 1 ∧ ∃ t1, SmD C V 8 (t + 1) t1 f ∧ IfD C V t1 t2 g) ∨ ((C t = 2 ∨ C t = 3) ∧ k = C t ∧ (f = fun _ => some 0) ∧ IfD C V (t + 1) t2 g)
def hld (f g : DV) (w : Int → Int) : Prop := ∃ a b, f w = some a ∧ g w = some b ∧ ¬ b = 0
noncomputable def clV (k : Int) (f g : DV) : VS := fun w s => if k = 1 then (s.1, s.2.1, s.2.2.1, iF (hld f g w) (clmp ((f w).getD 0)) s.2.2.2) else if k = 2 then (1, iF (hld f g w) 1 s.2.1, s.2.2.1, s.2.2.2) else (s.1, s.2.1, iF (hld f g w) 1 s.2.2.1, s.2.2.2)
def LaD (C V : Int → Int) (En : Int → Prop) : Nat → Int → VS → VS → Prop
  | 0 => fun t A R => ¬ C t = 159 ∧ En t ∧ R = A
  | m + 1 => fun t A R => C t = 159 ∧ ∃ t1 k f g, ClD C V (t + 1) t1 k f g ∧ LaD C V En m t1 (fun w s => clV k f g w (A w s)) R
def LwD (C V : Int → Int) (En : Int → Prop) (R : VS) : Prop := ∃ t1 k f g m, ClD C V 0 t1 k f g ∧ LaD C V En m t1 (clV k f g) R
/-! a reading that goes well tells values -/
section Exs
variable {C V : Int → Int}
theorem ChR.ex {It : RR} {ItD : DR} {op : Int → Prop} {cb : Int → DV → DV → DV} (h : ∀ t q t2 q2, It t q 1 t2 q2 → ∃ f, ItD t t2 f) : ∀ (n : Nat) (t q t2 q2 : Int) (f : DV), ChR It op C n t q 1 t2 q2 → ∃ g, ChD ItD op cb C n t f t2 g
  | 0, t, q, t2, q2, f, k => ⟨f, k.1, k.2.2.1, rfl⟩
  | n + 1, t, q, t2, q2, f, k => by
    obtain ⟨ho, k⟩ := k
    rcases k with k | ⟨t1, q1, k1, k2⟩
    · exact absurd k.2.2 (by decide)
    · obtain ⟨a, ha⟩ := h _ _ _ _ k1
      obtain ⟨g, hg⟩ := ChR.ex h n _ _ _ _ (cb (C t) f a) k2
      exact ⟨g, ho, t1, a, ha, hg⟩
theorem SeR.ex {It : RR} {ItD : DR} {op : Int → Prop} {cb : Int → DV → DV → DV} (h : ∀ t q t2 q2, It t q 1 t2 q2 → ∃ f, ItD t t2 f) {t q t2 q2 : Int} (k : SeR It op C t q 1 t2 q2) : ∃ g, SeD ItD op cb C t t2 g := by
  rcases k with k | ⟨t1, q1, k1, n, k2⟩
  · exact absurd k.2 (by decide)
  · obtain ⟨f, hf⟩ := h _ _ _ _ k1
    obtain ⟨g, hg⟩ := ChR.ex (cb := cb) h n _ _ _ _ f k2
    exact ⟨g, t1, f, hf, n, hg⟩
theorem PaR.ex (hV : ∀ t, 0 ≤ V t) {B : RR} {BD : DR} (h : ∀ t q t2 q2, B t q 1 t2 q2 → ∃ f, BD t t2 f) {t q t2 q2 : Int} (k : PaR B C (LfK C V) t q 1 t2 q2) : ∃ f, PaD BD C V t t2 f := by
  rcases k with ⟨k1, k2⟩ | ⟨k1, k2⟩
  · obtain ⟨f, hf⟩ := h _ _ _ _ k2
    exact ⟨f, Or.inl ⟨k1, hf⟩⟩
  · rcases k2 with ⟨l, _, _, e, _⟩ | ⟨_, e, _⟩
    · rcases l with l | l
      · exact ⟨_, Or.inr ⟨k1, e, Or.inl ⟨l.1, hV t, l.2, rfl⟩⟩⟩
      · exact ⟨_, Or.inr ⟨k1, e, Or.inr ⟨l.1, l.2, rfl⟩⟩⟩
    · exact absurd e (by decide)
theorem BsR.ex (hV : ∀ t, 0 ≤ V t) : ∀ (k : Nat) (t q t2 q2 : Int), BsR C (LfK C V) k t q 1 t2 q2 → ∃ f, BsD C V k t t2 f
  | 0, t, q, t2, q2, h => by
    rcases h with h | h
    · exact absurd h.2.1 (by decide)
    · exact absurd h.1 id
  | k + 1, t, q, t2, q2, h => by
    rcases h with h | ⟨_, h⟩
    · exact absurd h.2.1 (by decide)
    · rcases h with h | ⟨t1, q1, h, h2⟩
      · exact absurd h.2 (by decide)
      · rcases h2 with h2 | h2
        · obtain ⟨f, hf⟩ := SeR.ex (It := SeR (PaR (BsR C (LfK C V) k) C (LfK C V)) opM C) (ItD := SeD (PaD (BsD C V k) C V) opM arC C) (op := opA) (cb := arC) (fun t q t2 q2 e => SeR.ex (It := PaR (BsR C (LfK C V) k) C (LfK C V)) (ItD := PaD (BsD C V k) C V) (op := opM) (cb := arC) (fun t q t2 q2 e => PaR.ex hV (B := BsR C (LfK C V) k) (BD := BsD C V k) (BsR.ex hV k) e) e) h
          exact ⟨f, t1, hf, h2.1, h2.2.2.1⟩
        · exact absurd h2.2.1 (by decide)
theorem SmR.ex (hV : ∀ t, 0 ≤ V t) (k : Nat) {t q t2 q2 : Int} (h : SmR C (LfK C V) k t q 1 t2 q2) : ∃ f, SmD C V k t t2 f := SeR.ex (It := TmR C (LfK C V) k) (ItD := TmD C V k) (op := opA) (cb := arC) (fun t q t2 q2 e => SeR.ex (It := PtR C (LfK C V) k) (ItD := PtD C V k) (op := opM) (cb := arC) (fun t q t2 q2 e => PaR.ex hV (B := BsR C (LfK C V) k) (BD := BsD C V k) (BsR.ex hV k) e) e) h
theorem PlR.ex {B Sm : RR} {BD SmX : DR} (hb : ∀ t q t2 q2, B t q 1 t2 q2 → ∃ f, BD t t2 f) (hs : ∀ t q t2 q2, Sm t q 1 t2 q2 → ∃ f, SmX t t2 f) {t q t2 q2 : Int} (k : PlR B Sm C t q 1 t2 q2) : ∃ f, PlD BD SmX C t t2 f := by
  obtain ⟨s, s0, s1, s2, k⟩ := k
  rcases k with ⟨k1, k2⟩ | ⟨k1, k2⟩
  · obtain ⟨g, hg⟩ := hb _ _ _ _ k2
    exact ⟨_, s, g, s0, s1, s2, rfl, Or.inl ⟨k1, hg⟩⟩
  · rcases k2 with k2 | ⟨t1, q1, k2, k3⟩
    · exact absurd k2.2 (by decide)
    · rcases k3 with k3 | ⟨o, k3⟩
      · exact absurd k3.2.1 (by decide)
      · obtain ⟨a, ha⟩ := hs _ _ _ _ k2
        obtain ⟨b, hb⟩ := hs _ _ _ _ k3
        exact ⟨_, s, _, s0, s1, s2, rfl, Or.inr ⟨k1, t1, a, b, ha, o, hb, rfl⟩⟩
theorem BtR.ex (hV : ∀ t, 0 ≤ V t) : ∀ (k : Nat) (t q t2 q2 : Int), BtR C (LfK C V) k t q 1 t2 q2 → ∃ f, BtD C V k t t2 f
  | 0, t, q, t2, q2, h => by
    rcases h with h | h
    · exact absurd h.2.1 (by decide)
    · exact absurd h.1 id
  | k + 1, t, q, t2, q2, h => by
    rcases h with h | ⟨_, h⟩
    · exact absurd h.2.1 (by decide)
    · rcases h with h | ⟨t1, q1, h, h2⟩
      · exact absurd h.2 (by decide)
      · rcases h2 with h2 | h2
        · obtain ⟨f, hf⟩ := SeR.ex (It := SeR (PlR (BtR C (LfK C V) k) (SmR C (LfK C V) k) C) opN C) (ItD := SeD (PlD (BtD C V k) (SmD C V k) C) opN (fun _ => anC) C) (op := opO) (cb := fun _ => orC) (fun t q t2 q2 e => SeR.ex (It := PlR (BtR C (LfK C V) k) (SmR C (LfK C V) k) C) (ItD := PlD (BtD C V k) (SmD C V k) C) (op := opN) (cb := fun _ => anC) (fun t q t2 q2 e => PlR.ex (B := BtR C (LfK C V) k) (BD := BtD C V k) (Sm := SmR C (LfK C V) k) (SmX := SmD C V k) (BtR.ex hV k) (fun _ _ _ _ e => SmR.ex hV k e) e) e) h
          exact ⟨f, t1, hf, h2.1, h2.2.2.1⟩
        · exact absurd h2.2.1 (by decide)
theorem TeR.ex (hV : ∀ t, 0 ≤ V t) (k : Nat) {t q t2 q2 : Int} (h : TeR C (LfK C V) k t q 1 t2 q2) : ∃ f, TeD C V k t t2 f := SeR.ex (It := BoR C (LfK C V) k) (ItD := BoD C V k) (op := opO) (cb := fun _ => orC) (fun t q t2 q2 e => SeR.ex (It := PnR C (LfK C V) k) (ItD := PnD C V k) (op := opN) (cb := fun _ => anC) (fun t q t2 q2 e => PlR.ex (B := BtR C (LfK C V) k) (BD := BtD C V k) (Sm := SmR C (LfK C V) k) (SmX := SmD C V k) (BtR.ex hV k) (fun _ _ _ _ e => SmR.ex hV k e) e) e) h
theorem IfR.ex (hV : ∀ t, 0 ≤ V t) {t q t2 q2 : Int} (h : IfR C (LfK C V) t q 1 t2 q2) : ∃ g, IfD C V t t2 g := by
  rcases h with ⟨h1, h2⟩ | ⟨h1, _, h2, _⟩
  · obtain ⟨g, hg⟩ := TeR.ex hV 8 h2
    exact ⟨g, Or.inl ⟨h1, hg⟩⟩
  · exact ⟨_, Or.inr ⟨h1, h2, rfl⟩⟩
theorem ClR.ex (hV : ∀ t, 0 ≤ V t) {t q t2 q2 : Int} (h : ClR C (LfK C V) t q 1 t2 q2) : ∃ k f g, ClD C V t t2 k f g := by
  rcases h with ⟨h1, h2⟩ | ⟨h1, h2⟩ | h
  · rcases h2 with h2 | ⟨t1, q1, h2, h3⟩
    · exact absurd h2.2 (by decide)
    · obtain ⟨f, hf⟩ := SmR.ex hV 8 h2
      obtain ⟨g, hg⟩ := IfR.ex hV h3
      exact ⟨1, f, g, Or.inl ⟨h1, rfl, t1, hf, hg⟩⟩
  · obtain ⟨g, hg⟩ := IfR.ex hV h2
    exact ⟨C t, _, g, Or.inr ⟨h1, rfl, rfl, hg⟩⟩
  · exact absurd h.2.2.2.1 (by decide)
theorem LaR.ex (hV : ∀ t, 0 ≤ V t) {En : Int → Prop} : ∀ (m : Nat) (t q t2 : Int) (A : VS), LaR C (LfK C V) En m t q 1 t2 → ∃ n R, LaD C V En n t A R
  | 0, t, q, t2, A, h => by
    rcases h with h | ⟨h1, h⟩
    · exact absurd h.2.1 (by decide)
    · rcases h with h | h
      · exact ⟨0, A, h1, h.1, rfl⟩
      · exact absurd h.2.1 (by decide)
  | m + 1, t, q, t2, A, h => by
    rcases h with ⟨h1, h⟩ | ⟨h1, h⟩
    · rcases h with ⟨_, _, h⟩ | ⟨t1, q1, h, h2⟩
      · exact absurd h (by decide)
      · obtain ⟨k, f, g, hc⟩ := ClR.ex hV h
        obtain ⟨n, R, hr⟩ := LaR.ex hV m _ _ _ (fun w s => clV k f g w (A w s)) h2
        exact ⟨n + 1, R, h1, t1, k, f, g, hc, hr⟩
    · rcases h with h | h
      · exact ⟨0, A, h1, h.1, rfl⟩
      · exact absurd h.2.1 (by decide)
theorem LwR.ex (hV : ∀ t, 0 ≤ V t) {En : Int → Prop} {t2 : Int} (h : LwR C (LfK C V) En 1 t2) : ∃ R, LwD C V En R := by
  rcases h with ⟨_, _, h⟩ | ⟨t1, q1, h, h2⟩
  · exact absurd h (by decide)
  · obtain ⟨k, f, g, hc⟩ := ClR.ex hV h
    obtain ⟨n, R, hr⟩ := LaR.ex hV 11 _ _ _ (clV k f g) h2
    exact ⟨R, t1, k, f, g, n, hc, hr⟩
end Exs
/-! there is one value alone -/
def FnD (R : DR) : Prop := ∀ t a f b g, R t a f → R t b g → a = b ∧ f = g
section Fns
variable {C V : Int → Int}
theorem FnD_ch {It : DR} {op : Int → Prop} {cb : Int → DV → DV → DV} (F : FnD It) : ∀ (n m : Nat) (t : Int) (f : DV) (a : Int) (g : DV) (b : Int) (h : DV), ChD It op cb C n t f a g → ChD It op cb C m t f b h → a = b ∧ g = h
  | 0, 0, t, f, a, g, b, h, x, y => ⟨x.2.1.trans y.2.1.symm, x.2.2.trans y.2.2.symm⟩
  | 0, m + 1, t, f, a, g, b, h, x, y => absurd y.1 x.1
  | n + 1, 0, t, f, a, g, b, h, x, y => absurd x.1 y.1
  | n + 1, m + 1, t, f, a, g, b, h, x, y => by
    obtain ⟨_, t1, u, x1, x2⟩ := x
    obtain ⟨_, s1, v, y1, y2⟩ := y
    obtain ⟨rfl, rfl⟩ := F _ _ _ _ _ x1 y1
    exact FnD_ch F n m _ _ _ _ _ _ x2 y2
theorem FnD_se {It : DR} {op : Int → Prop} {cb : Int → DV → DV → DV} (F : FnD It) : FnD (SeD It op cb C) := fun t a f b g x y => by
  obtain ⟨t1, u, x1, n, x2⟩ := x
  obtain ⟨s1, v, y1, m, y2⟩ := y
  obtain ⟨rfl, rfl⟩ := F _ _ _ _ _ x1 y1
  exact FnD_ch F n m _ _ _ _ _ _ x2 y2
theorem FnD_lf : FnD (LfD C V) := fun t a f b g x y => by
  obtain ⟨x1, x2⟩ := x
  obtain ⟨y1, y2⟩ := y
  refine ⟨x1.trans y1.symm, ?_⟩
  rcases x2 with ⟨a1, a0, a2, a3⟩ | ⟨a1, a2, a3⟩ <;> rcases y2 with ⟨b1, b0, b2, b3⟩ | ⟨b1, b2, b3⟩
  · exact a3.trans b3.symm
  · omega
  · omega
  · exact a3.trans b3.symm
theorem FnD_pa {B : DR} (F : FnD B) : FnD (PaD B C V) := fun t a f b g x y => by
  rcases x with ⟨x1, x2⟩ | ⟨x1, x2⟩ <;> rcases y with ⟨y1, y2⟩ | ⟨y1, y2⟩
  · exact F _ _ _ _ _ x2 y2
  · exact absurd x1 y1
  · exact absurd y1 x1
  · exact FnD_lf _ _ _ _ _ x2 y2
theorem FnD_bs : ∀ k : Nat, FnD (BsD C V k)
  | 0 => fun _ _ _ _ _ x => absurd x id
  | k + 1 => fun t a f b g x y => by
    obtain ⟨t1, x1, x2, x3⟩ := x
    obtain ⟨s1, y1, y2, y3⟩ := y
    have u := FnD_se (FnD_se (FnD_pa (FnD_bs k))) _ _ _ _ _ x1 y1
    exact ⟨by have := u.1; omega, u.2⟩
theorem FnD_sm (k : Nat) : FnD (SmD C V k) := FnD_se (FnD_se (FnD_pa (FnD_bs k)))
theorem FnD_pl {B Sm : DR} (F : FnD B) (G : FnD Sm) : FnD (PlD B Sm C) := fun t a f b g x y => by
  obtain ⟨s, u, s0, s1, s2, e1, x⟩ := x
  obtain ⟨r, v, r0, r1, r2, e2, y⟩ := y
  have e : s = r := by
    rcases Int.lt_trichotomy s r with w | w | w
    · exact absurd (r1 s s0 w) s2
    · exact w
    · exact absurd (s1 r r0 w) r2
  subst e
  rcases x with ⟨x1, x2⟩ | ⟨x1, t1, p, q, x2, x3, x4, x5⟩ <;> rcases y with ⟨y1, y2⟩ | ⟨y1, z1, c, d, y2, y3, y4, y5⟩
  · have w := F _ _ _ _ _ x2 y2
    exact ⟨w.1, by rw [e1, e2, w.2]⟩
  · exact absurd x1 y1
  · exact absurd y1 x1
  · obtain ⟨rfl, rfl⟩ := G _ _ _ _ _ x2 y2
    obtain ⟨rfl, rfl⟩ := G _ _ _ _ _ x4 y4
    exact ⟨rfl, by rw [e1, e2, x5, y5]⟩
theorem FnD_bt : ∀ k : Nat, FnD (BtD C V k)
  | 0 => fun _ _ _ _ _ x => absurd x id
  | k + 1 => fun t a f b g x y => by
    obtain ⟨t1, x1, x2, x3⟩ := x
    obtain ⟨s1, y1, y2, y3⟩ := y
    have u := FnD_se (FnD_se (FnD_pl (FnD_bt k) (FnD_sm k))) _ _ _ _ _ x1 y1
    exact ⟨by have := u.1; omega, u.2⟩
theorem FnD_te (k : Nat) : FnD (TeD C V k) := FnD_se (FnD_se (FnD_pl (FnD_bt k) (FnD_sm k)))
theorem FnD_if : FnD (IfD C V) := fun t a f b g x y => by
  rcases x with ⟨x1, x2⟩ | ⟨x1, x2, x3⟩ <;> rcases y with ⟨y1, y2⟩ | ⟨y1, y2, y3⟩
  · exact FnD_te 8 _ _ _ _ _ x2 y2
  · exact absurd x1 y1
  · exact absurd y1 x1
  · exact ⟨x2.trans y2.symm, x3.trans y3.symm⟩
theorem ClD.one {t a b k l : Int} {f g h i : DV} (x : ClD C V t a k f g) (y : ClD C V t b l h i) : a = b ∧ k = l ∧ f = h ∧ g = i := by
  rcases x with ⟨x1, x2, t1, x3, x4⟩ | ⟨x1, x2, x3, x4⟩ <;> rcases y with ⟨y1, y2, s1, y3, y4⟩ | ⟨y1, y2, y3, y4⟩
  · obtain ⟨rfl, rfl⟩ := FnD_sm 8 _ _ _ _ _ x3 y3
    obtain ⟨rfl, rfl⟩ := FnD_if _ _ _ _ _ x4 y4
    exact ⟨rfl, by omega, rfl, rfl⟩
  · omega
  · omega
  · obtain ⟨rfl, rfl⟩ := FnD_if _ _ _ _ _ x4 y4
    exact ⟨rfl, by omega, x3.trans y3.symm, rfl⟩
theorem LaD.one {En : Int → Prop} : ∀ (n m : Nat) (t : Int) (A R Q : VS), LaD C V En n t A R → LaD C V En m t A Q → R = Q
  | 0, 0, t, A, R, Q, x, y => x.2.2.trans y.2.2.symm
  | 0, m + 1, t, A, R, Q, x, y => absurd y.1 x.1
  | n + 1, 0, t, A, R, Q, x, y => absurd x.1 y.1
  | n + 1, m + 1, t, A, R, Q, x, y => by
    obtain ⟨_, t1, k, f, g, x1, x2⟩ := x
    obtain ⟨_, s1, l, h, i, y1, y2⟩ := y
    obtain ⟨rfl, rfl, rfl, rfl⟩ := ClD.one x1 y1
    exact LaD.one n m _ _ _ _ x2 y2
theorem LwD.one {En : Int → Prop} {R Q : VS} (x : LwD C V En R) (y : LwD C V En Q) : R = Q := by
  obtain ⟨t1, k, f, g, n, x1, x2⟩ := x
  obtain ⟨s1, l, h, i, m, y1, y2⟩ := y
  obtain ⟨rfl, rfl, rfl, rfl⟩ := ClD.one x1 y1
  exact LaD.one n m _ _ _ _ x2 y2
end Fns
