/-! what reading a law's tokens comes to: from token t with q parts so far; ok 1: it goes on at t2 with q2 parts; ok 0: token t2 can't go on (q2 0) -/
abbrev RR : Type := Int → Int → Int → Int → Int → Prop
def FnX (R : RR) : Prop := ∀ t q a b c a2 b2 c2, R t q a b c → R t q a2 b2 c2 → a = a2 ∧ b = b2 ∧ c = c2
def NoR : RR := fun _ _ _ _ _ => False
/-- what stands in brackets -/
def BrR (cl : Int) (al : Prop) (Sub : RR) (C : Int → Int) : RR := fun t q ok t2 q2 => (¬ al ∧ ok = 0 ∧ t2 = t ∧ q2 = 0) ∨ (al ∧ ((Sub (t + 1) q 0 t2 q2 ∧ ok = 0) ∨ ∃ t1 q1, Sub (t + 1) q 1 t1 q1 ∧ ((C t1 = cl ∧ ok = 1 ∧ t2 = t1 + 1 ∧ q2 = q1) ∨ (¬ C t1 = cl ∧ ok = 0 ∧ t2 = t1 ∧ q2 = 0))))
def PaR (B : RR) (C : Int → Int) (F : Int → Prop) : RR := fun t q ok t2 q2 => (C t = 191 ∧ B t q ok t2 q2) ∨ (¬ C t = 191 ∧ ((F t ∧ q < 50 ∧ ok = 1 ∧ t2 = t + 1 ∧ q2 = q + 1) ∨ (¬ (F t ∧ q < 50) ∧ ok = 0 ∧ t2 = t ∧ q2 = 0)))
def ChR (It : RR) (op : Int → Prop) (C : Int → Int) : Nat → RR
  | 0 => fun t q ok t2 q2 => ¬ op (C t) ∧ ok = 1 ∧ t2 = t ∧ q2 = q
  | n + 1 => fun t q ok t2 q2 => op (C t) ∧ ((n = 0 ∧ It (t + 1) q 0 t2 q2 ∧ ok = 0) ∨ ∃ t1 q1, It (t + 1) q 1 t1 q1 ∧ ChR It op C n t1 q1 ok t2 q2)
def SeR (It : RR) (op : Int → Prop) (C : Int → Int) : RR := fun t q ok t2 q2 => (It t q 0 t2 q2 ∧ ok = 0) ∨ ∃ t1 q1, It t q 1 t1 q1 ∧ ∃ n, ChR It op C n t1 q1 ok t2 q2
def opM (c : Int) : Prop := c = 142 ∨ c = 147
def opA (c : Int) : Prop := c = 143 ∨ c = 145
def opC (c : Int) : Prop := c = 160 ∨ c = 161 ∨ c = 162
def opO (c : Int) : Prop := c = 5
def opN (c : Int) : Prop := c = 6
/-- k brackets more may stand within -/
def BsR (C : Int → Int) (F : Int → Prop) : Nat → RR
  | 0 => BrR 193 False NoR C
  | k + 1 => BrR 193 True (SeR (SeR (PaR (BsR C F k) C F) opM C) opA C) C
def PtR (C : Int → Int) (F : Int → Prop) (k : Nat) : RR := PaR (BsR C F k) C F
def TmR (C : Int → Int) (F : Int → Prop) (k : Nat) : RR := SeR (PtR C F k) opM C
def SmR (C : Int → Int) (F : Int → Prop) (k : Nat) : RR := SeR (TmR C F k) opA C
/-- a plain test: rows of not, then brackets or two sums -/
def PlR (B Sm : RR) (C : Int → Int) : RR := fun t q ok t2 q2 => ∃ s, t ≤ s ∧ (∀ j, t ≤ j → j < s → C j = 7) ∧ ¬ C s = 7 ∧
  ((C s = 140 ∧ B s q ok t2 q2) ∨
   (¬ C s = 140 ∧ ((Sm s q 0 t2 q2 ∧ ok = 0) ∨ ∃ t1 q1, Sm s q 1 t1 q1 ∧ ((¬ opC (C t1) ∧ ok = 0 ∧ t2 = t1 ∧ q2 = 0) ∨ (opC (C t1) ∧ Sm (t1 + 1) q1 ok t2 q2)))))
def BtR (C : Int → Int) (F : Int → Prop) : Nat → RR
  | 0 => BrR 141 False NoR C
  | k + 1 => BrR 141 True (SeR (SeR (PlR (BtR C F k) (SmR C F k) C) opN C) opO C) C
def PnR (C : Int → Int) (F : Int → Prop) (k : Nat) : RR := PlR (BtR C F k) (SmR C F k) C
def BoR (C : Int → Int) (F : Int → Prop) (k : Nat) : RR := SeR (PnR C F k) opN C
def TeR (C : Int → Int) (F : Int → Prop) (k : Nat) : RR := SeR (BoR C F k) opO C
/-- what may stand behind: if and a test -/
def IfR (C : Int → Int) (F : Int → Prop) : RR := fun t q ok t2 q2 => (C t = 4 ∧ TeR C F 8 (t + 1) q ok t2 q2) ∨ (¬ C t = 4 ∧ ok = 1 ∧ t2 = t ∧ q2 = q)
def ClR (C : Int → Int) (F : Int → Prop) : RR := fun t q ok t2 q2 =>
  (C t = 1 ∧ ((SmR C F 8 (t + 1) q 0 t2 q2 ∧ ok = 0) ∨ ∃ t1 q1, SmR C F 8 (t + 1) q 1 t1 q1 ∧ IfR C F t1 q1 ok t2 q2)) ∨
  ((C t = 2 ∨ C t = 3) ∧ IfR C F (t + 1) q ok t2 q2) ∨ (¬ C t = 1 ∧ ¬ C t = 2 ∧ ¬ C t = 3 ∧ ok = 0 ∧ t2 = t ∧ q2 = 0)
/-- so many clauses more may stand; En: the tokens end there -/
def LaR (C : Int → Int) (F En : Int → Prop) : Nat → Int → Int → Int → Int → Prop
  | 0 => fun t q ok t2 => (C t = 159 ∧ ok = 0 ∧ t2 = t + 1) ∨ (¬ C t = 159 ∧ ((En t ∧ ok = 1 ∧ t2 = t) ∨ (¬ En t ∧ ok = 0 ∧ t2 = t)))
  | m + 1 => fun t q ok t2 => (C t = 159 ∧ ((∃ q2, ClR C F (t + 1) q 0 t2 q2 ∧ ok = 0) ∨ ∃ t1 q1, ClR C F (t + 1) q 1 t1 q1 ∧ LaR C F En m t1 q1 ok t2)) ∨ (¬ C t = 159 ∧ ((En t ∧ ok = 1 ∧ t2 = t) ∨ (¬ En t ∧ ok = 0 ∧ t2 = t)))
def LwR (C : Int → Int) (F En : Int → Prop) (ok t2 : Int) : Prop := (∃ q2, ClR C F 0 0 0 t2 q2 ∧ ok = 0) ∨ ∃ t1 q1, ClR C F 0 0 1 t1 q1 ∧ LaR C F En 11 t1 q1 ok t2
/-! there is one outcome alone -/
theorem FnX.ok {R : RR} (f : FnX R) {t q b c b2 c2 : Int} (h : R t q 0 b c) (g : R t q 1 b2 c2) : False := absurd (f t q 0 b c 1 b2 c2 h g).1 (by decide)
theorem FnX_no : FnX NoR := fun _ _ _ _ _ _ _ _ h => absurd h id
theorem FnX_br {cl : Int} {al : Prop} {Sub : RR} {C : Int → Int} (f : FnX Sub) : FnX (BrR cl al Sub C) := fun t q a b c a2 b2 c2 h g => by
  rcases h with h | ⟨ha, h⟩ <;> rcases g with g | ⟨ga, g⟩
  · exact ⟨by omega, by omega, by omega⟩
  · exact absurd ga h.1
  · exact absurd ha g.1
  · rcases h with h | ⟨t1, q1, h, h2⟩ <;> rcases g with g | ⟨s1, p1, g, g2⟩
    · have u := f _ _ _ _ _ _ _ _ h.1 g.1
      exact ⟨by omega, u.2.1, u.2.2⟩
    · exact absurd (f.ok h.1 g) id
    · exact absurd (f.ok g.1 h) id
    · have u := f _ _ _ _ _ _ _ _ h g
      obtain ⟨_, rfl, rfl⟩ := u
      rcases h2 with h2 | h2 <;> rcases g2 with g2 | g2
      · exact ⟨by omega, by omega, by omega⟩
      · exact absurd h2.1 g2.1
      · exact absurd g2.1 h2.1
      · exact ⟨by omega, by omega, by omega⟩
theorem FnX_pa {B : RR} {C : Int → Int} {F : Int → Prop} (f : FnX B) : FnX (PaR B C F) := fun t q a b c a2 b2 c2 h g => by
  rcases h with ⟨hc, h⟩ | ⟨hc, h⟩ <;> rcases g with ⟨gc, g⟩ | ⟨gc, g⟩
  · exact f _ _ _ _ _ _ _ _ h g
  · exact absurd hc gc
  · exact absurd gc hc
  · rcases h with ⟨h1, h2, h3, h4, h5⟩ | ⟨h1, h2, h3, h4⟩ <;> rcases g with ⟨g1, g2, g3, g4, g5⟩ | ⟨g1, g2, g3, g4⟩
    · exact ⟨by omega, by omega, by omega⟩
    · exact absurd ⟨h1, h2⟩ g1
    · exact absurd ⟨g1, g2⟩ h1
    · exact ⟨by omega, by omega, by omega⟩
theorem FnX_ch {It : RR} {op : Int → Prop} {C : Int → Int} (f : FnX It) : ∀ (n m : Nat) (t q a b c a2 b2 c2 : Int), ChR It op C n t q a b c → ChR It op C m t q a2 b2 c2 → a = a2 ∧ b = b2 ∧ c = c2
  | 0, 0, t, q, a, b, c, a2, b2, c2, h, g => by
    obtain ⟨h1, h2, h3, h4⟩ := h
    obtain ⟨g1, g2, g3, g4⟩ := g
    exact ⟨by omega, by omega, by omega⟩
  | 0, m + 1, t, q, a, b, c, a2, b2, c2, h, g => absurd g.1 h.1
  | n + 1, 0, t, q, a, b, c, a2, b2, c2, h, g => absurd h.1 g.1
  | n + 1, m + 1, t, q, a, b, c, a2, b2, c2, h, g => by
    rcases h.2 with h | ⟨t1, q1, h, h2⟩ <;> rcases g.2 with g | ⟨s1, p1, g, g2⟩
    · have u := f _ _ _ _ _ _ _ _ h.2.1 g.2.1
      exact ⟨h.2.2.trans g.2.2.symm, u.2.1, u.2.2⟩
    · exact absurd (f.ok h.2.1 g) id
    · exact absurd (f.ok g.2.1 h) id
    · have u := f _ _ _ _ _ _ _ _ h g
      obtain ⟨_, rfl, rfl⟩ := u
      exact FnX_ch f n m _ _ _ _ _ _ _ _ h2 g2
theorem FnX_se {It : RR} {op : Int → Prop} {C : Int → Int} (f : FnX It) : FnX (SeR It op C) := fun t q a b c a2 b2 c2 h g => by
  rcases h with h | ⟨t1, q1, h, n, h2⟩ <;> rcases g with g | ⟨s1, p1, g, m, g2⟩
  · have u := f _ _ _ _ _ _ _ _ h.1 g.1
    exact ⟨h.2.trans g.2.symm, u.2.1, u.2.2⟩
  · exact absurd (f.ok h.1 g) id
  · exact absurd (f.ok g.1 h) id
  · have u := f _ _ _ _ _ _ _ _ h g
    obtain ⟨_, rfl, rfl⟩ := u
    exact FnX_ch f n m _ _ _ _ _ _ _ _ h2 g2
theorem FnX_bs {C : Int → Int} {F : Int → Prop} : ∀ k : Nat, FnX (BsR C F k)
  | 0 => FnX_br FnX_no
  | k + 1 => FnX_br (FnX_se (FnX_se (FnX_pa (FnX_bs k))))
theorem FnX_sm {C : Int → Int} {F : Int → Prop} (k : Nat) : FnX (SmR C F k) := FnX_se (FnX_se (FnX_pa (FnX_bs k)))
theorem FnX_pl {B Sm : RR} {C : Int → Int} (f2 : FnX B) (f : FnX Sm) : FnX (PlR B Sm C) := fun t q a b c a2 b2 c2 h g => by
  obtain ⟨s, s0, s1, s2, h⟩ := h
  obtain ⟨r, r0, r1, r2, g⟩ := g
  have e : s = r := by
    rcases Int.lt_trichotomy s r with w | w | w
    · exact absurd (r1 s s0 w) s2
    · exact w
    · exact absurd (s1 r r0 w) r2
  subst e
  rcases h with ⟨hc, h⟩ | ⟨hc, h⟩ <;> rcases g with ⟨gc, g⟩ | ⟨gc, g⟩
  · exact f2 _ _ _ _ _ _ _ _ h g
  · exact absurd hc gc
  · exact absurd gc hc
  · rcases h with h | ⟨t1, q1, h, h2⟩ <;> rcases g with g | ⟨p1, p2, g, g2⟩
    · have u := f _ _ _ _ _ _ _ _ h.1 g.1
      exact ⟨h.2.trans g.2.symm, u.2.1, u.2.2⟩
    · exact absurd (f.ok h.1 g) id
    · exact absurd (f.ok g.1 h) id
    · have u := f _ _ _ _ _ _ _ _ h g
      obtain ⟨_, rfl, rfl⟩ := u
      rcases h2 with ⟨h1, h2, h3, h4⟩ | h2 <;> rcases g2 with ⟨g1, g2, g3, g4⟩ | g2
      · exact ⟨by omega, by omega, by omega⟩
      · exact absurd g2.1 h1
      · exact absurd h2.1 g1
      · exact f _ _ _ _ _ _ _ _ h2.2 g2.2
theorem FnX_bt {C : Int → Int} {F : Int → Prop} : ∀ k : Nat, FnX (BtR C F k)
  | 0 => FnX_br FnX_no
  | k + 1 => FnX_br (FnX_se (FnX_se (FnX_pl (FnX_bt k) (FnX_sm k))))
theorem FnX_te {C : Int → Int} {F : Int → Prop} (k : Nat) : FnX (TeR C F k) := FnX_se (FnX_se (FnX_pl (FnX_bt k) (FnX_sm k)))
theorem FnX_if {C : Int → Int} {F : Int → Prop} : FnX (IfR C F) := fun t q a b c a2 b2 c2 h g => by
  rcases h with h | h <;> rcases g with g | g
  · exact FnX_te 8 _ _ _ _ _ _ _ _ h.2 g.2
  · exact absurd h.1 g.1
  · exact absurd g.1 h.1
  · obtain ⟨_, h2, h3, h4⟩ := h
    obtain ⟨_, g2, g3, g4⟩ := g
    exact ⟨by omega, by omega, by omega⟩
theorem FnX_cl {C : Int → Int} {F : Int → Prop} : FnX (ClR C F) := fun t q a b c a2 b2 c2 h g => by
  rcases h with ⟨hc, h⟩ | ⟨hc, h⟩ | h <;> rcases g with ⟨gc, g⟩ | ⟨gc, g⟩ | g
  · rcases h with h | ⟨t1, q1, h, h2⟩ <;> rcases g with g | ⟨p1, p2, g, g2⟩
    · have u := FnX_sm 8 _ _ _ _ _ _ _ _ h.1 g.1
      exact ⟨h.2.trans g.2.symm, u.2.1, u.2.2⟩
    · exact absurd (FnX.ok (FnX_sm 8) h.1 g) id
    · exact absurd (FnX.ok (FnX_sm 8) g.1 h) id
    · have u := FnX_sm 8 _ _ _ _ _ _ _ _ h g
      obtain ⟨_, rfl, rfl⟩ := u
      exact FnX_if _ _ _ _ _ _ _ _ h2 g2
  · exfalso; omega
  · exact absurd hc g.1
  · exfalso; omega
  · exact FnX_if _ _ _ _ _ _ _ _ h g
  · exfalso
    obtain ⟨g1, g2, g3, _⟩ := g
    omega
  · exact absurd gc h.1
  · exfalso
    obtain ⟨h1, h2, h3, _⟩ := h
    omega
  · obtain ⟨_, _, _, h2, h3, h4⟩ := h
    obtain ⟨_, _, _, g2, g3, g4⟩ := g
    exact ⟨by omega, by omega, by omega⟩
theorem EnOne {E : Prop} {t a b a2 b2 : Int} (h : (E ∧ a = 1 ∧ b = t) ∨ (¬ E ∧ a = 0 ∧ b = t)) (g : (E ∧ a2 = 1 ∧ b2 = t) ∨ (¬ E ∧ a2 = 0 ∧ b2 = t)) : a = a2 ∧ b = b2 := by
  rcases h with ⟨h1, h2, h3⟩ | ⟨h1, h2, h3⟩ <;> rcases g with ⟨g1, g2, g3⟩ | ⟨g1, g2, g3⟩
  · exact ⟨by omega, by omega⟩
  · exact absurd h1 g1
  · exact absurd g1 h1
  · exact ⟨by omega, by omega⟩
theorem LaR.one {C : Int → Int} {F En : Int → Prop} : ∀ (m : Nat) (t q a b a2 b2 : Int), LaR C F En m t q a b → LaR C F En m t q a2 b2 → a = a2 ∧ b = b2
  | 0, t, q, a, b, a2, b2, h, g => by
    rcases h with h | ⟨hc, h⟩ <;> rcases g with g | ⟨gc, g⟩
    · exact ⟨by omega, by omega⟩
    · exact absurd h.1 gc
    · exact absurd g.1 hc
    · exact EnOne h g
  | m + 1, t, q, a, b, a2, b2, h, g => by
    rcases h with ⟨hc, h⟩ | ⟨hc, h⟩ <;> rcases g with ⟨gc, g⟩ | ⟨gc, g⟩
    · rcases h with ⟨_, h, h2⟩ | ⟨t1, q1, h, h2⟩ <;> rcases g with ⟨_, g, g2⟩ | ⟨p1, p2, g, g2⟩
      · have u := FnX_cl _ _ _ _ _ _ _ _ h g
        exact ⟨h2.trans g2.symm, u.2.1⟩
      · exact absurd (FnX.ok FnX_cl h g) id
      · exact absurd (FnX.ok FnX_cl g h) id
      · have u := FnX_cl _ _ _ _ _ _ _ _ h g
        obtain ⟨_, rfl, rfl⟩ := u
        exact LaR.one m _ _ _ _ _ _ h2 g2
    · exact absurd hc gc
    · exact absurd gc hc
    · exact EnOne h g
theorem LwR.one {C : Int → Int} {F En : Int → Prop} {a b a2 b2 : Int} (h : LwR C F En a b) (g : LwR C F En a2 b2) : a = a2 ∧ b = b2 := by
  rcases h with ⟨_, h, h2⟩ | ⟨t1, q1, h, h2⟩ <;> rcases g with ⟨_, g, g2⟩ | ⟨p1, p2, g, g2⟩
  · have u := FnX_cl _ _ _ _ _ _ _ _ h g
    exact ⟨h2.trans g2.symm, u.2.1⟩
  · exact absurd (FnX.ok FnX_cl h g) id
  · exact absurd (FnX.ok FnX_cl g h) id
  · have u := FnX_cl _ _ _ _ _ _ _ _ h g
    obtain ⟨_, rfl, rfl⟩ := u
    exact LaR.one 11 _ _ _ _ _ _ h2 g2
/-! building outcomes step by step -/
section RRb
variable {It B Sm Sub : RR} {op : Int → Prop} {C : Int → Int} {F En : Int → Prop} {cl t q t1 q1 t2 q2 s ok : Int}
theorem BrR.n : BrR cl False Sub C t q 0 t 0 := Or.inl ⟨id, rfl, rfl, rfl⟩
theorem BrR.b (h : Sub (t + 1) q 0 t2 q2) : BrR cl True Sub C t q 0 t2 q2 := Or.inr ⟨trivial, Or.inl ⟨h, rfl⟩⟩
theorem BrR.y (h : Sub (t + 1) q 1 t1 q1) (e : C t1 = cl) : BrR cl True Sub C t q 1 (t1 + 1) q1 := Or.inr ⟨trivial, Or.inr ⟨t1, q1, h, Or.inl ⟨e, rfl, rfl, rfl⟩⟩⟩
theorem BrR.w (h : Sub (t + 1) q 1 t1 q1) (e : ¬ C t1 = cl) : BrR cl True Sub C t q 0 t1 0 := Or.inr ⟨trivial, Or.inr ⟨t1, q1, h, Or.inr ⟨e, rfl, rfl, rfl⟩⟩⟩
theorem PaR.br (e : C t = 191) (h : B t q ok t2 q2) : PaR B C F t q ok t2 q2 := Or.inl ⟨e, h⟩
theorem PaR.y (e : ¬ C t = 191) (f : F t) (h : q < 50) : PaR B C F t q 1 (t + 1) (q + 1) := Or.inr ⟨e, Or.inl ⟨f, h, rfl, rfl, rfl⟩⟩
theorem PaR.w (e : ¬ C t = 191) (f : ¬ (F t ∧ q < 50)) : PaR B C F t q 0 t 0 := Or.inr ⟨e, Or.inr ⟨f, rfl, rfl, rfl⟩⟩
/-- the beginning of a row, up to t1 with q1 -/
def SeP (It : RR) (op : Int → Prop) (C : Int → Int) (t q t1 q1 : Int) : Prop := ∀ n ok t2 q2, ChR It op C n t1 q1 ok t2 q2 → SeR It op C t q ok t2 q2
theorem SeP.one (h : It t q 1 t1 q1) : SeP It op C t q t1 q1 := fun n _ _ _ c => Or.inr ⟨t1, q1, h, n, c⟩
theorem SeR.b (h : It t q 0 t2 q2) : SeR It op C t q 0 t2 q2 := Or.inl ⟨h, rfl⟩
theorem SeP.add (p : SeP It op C t q t1 q1) (o : op (C t1)) (h : It (t1 + 1) q1 1 t2 q2) : SeP It op C t q t2 q2 := fun n _ _ _ c => p (n + 1) _ _ _ ⟨o, Or.inr ⟨t2, q2, h, c⟩⟩
theorem SeP.bad (p : SeP It op C t q t1 q1) (o : op (C t1)) (h : It (t1 + 1) q1 0 t2 q2) : SeR It op C t q 0 t2 q2 := p 1 _ _ _ ⟨o, Or.inl ⟨rfl, h, rfl⟩⟩
theorem SeP.end (p : SeP It op C t q t1 q1) (o : ¬ op (C t1)) : SeR It op C t q 1 t1 q1 := p 0 _ _ _ ⟨o, rfl, rfl, rfl⟩
abbrev NtX (C : Int → Int) (t s : Int) : Prop := ∀ j, t ≤ j → j < s → C j = 7
theorem NtX_0 : NtX C t t := fun j a b => by omega
theorem NtX.add (h : NtX C t s) (e : C s = 7) : NtX C t (s + 1) := fun j a b => by
  by_cases g : j = s
  · rw [g]; exact e
  · exact h j a (by omega)
theorem PlR.br (h0 : t ≤ s) (h : NtX C t s) (e7 : ¬ C s = 7) (e : C s = 140) (k : B s q ok t2 q2) : PlR B Sm C t q ok t2 q2 := ⟨s, h0, h, e7, Or.inl ⟨e, k⟩⟩
theorem PlR.b1 (h0 : t ≤ s) (h : NtX C t s) (e7 : ¬ C s = 7) (e : ¬ C s = 140) (k : Sm s q 0 t2 q2) : PlR B Sm C t q 0 t2 q2 := ⟨s, h0, h, e7, Or.inr ⟨e, Or.inl ⟨k, rfl⟩⟩⟩
theorem PlR.w (h0 : t ≤ s) (h : NtX C t s) (e7 : ¬ C s = 7) (e : ¬ C s = 140) (k : Sm s q 1 t1 q1) (o : ¬ opC (C t1)) : PlR B Sm C t q 0 t1 0 := ⟨s, h0, h, e7, Or.inr ⟨e, Or.inr ⟨t1, q1, k, Or.inl ⟨o, rfl, rfl, rfl⟩⟩⟩⟩
theorem PlR.y (h0 : t ≤ s) (h : NtX C t s) (e7 : ¬ C s = 7) (e : ¬ C s = 140) (k : Sm s q 1 t1 q1) (o : opC (C t1)) (k2 : Sm (t1 + 1) q1 ok t2 q2) : PlR B Sm C t q ok t2 q2 := ⟨s, h0, h, e7, Or.inr ⟨e, Or.inr ⟨t1, q1, k, Or.inr ⟨o, k2⟩⟩⟩⟩
theorem IfR.y (e : C t = 4) (h : TeR C F 8 (t + 1) q ok t2 q2) : IfR C F t q ok t2 q2 := Or.inl ⟨e, h⟩
theorem IfR.n (e : ¬ C t = 4) : IfR C F t q 1 t q := Or.inr ⟨e, rfl, rfl, rfl⟩
theorem ClR.tb (e : C t = 1) (h : SmR C F 8 (t + 1) q 0 t2 q2) : ClR C F t q 0 t2 q2 := Or.inl ⟨e, Or.inl ⟨h, rfl⟩⟩
theorem ClR.tk (e : C t = 1) (h : SmR C F 8 (t + 1) q 1 t1 q1) (k : IfR C F t1 q1 ok t2 q2) : ClR C F t q ok t2 q2 := Or.inl ⟨e, Or.inr ⟨t1, q1, h, k⟩⟩
theorem ClR.l (e : C t = 2 ∨ C t = 3) (k : IfR C F (t + 1) q ok t2 q2) : ClR C F t q ok t2 q2 := Or.inr (Or.inl ⟨e, k⟩)
theorem ClR.w (e1 : ¬ C t = 1) (e2 : ¬ C t = 2) (e3 : ¬ C t = 3) : ClR C F t q 0 t 0 := Or.inr (Or.inr ⟨e1, e2, e3, rfl, rfl, rfl⟩)
/-- the beginning of a law: a clause ends at t1, m more may stand -/
def LwX (C : Int → Int) (F En : Int → Prop) (m : Nat) (t1 q1 : Int) : Prop := ∀ ok t2, LaR C F En m t1 q1 ok t2 → LwR C F En ok t2
theorem LwX.one (h : ClR C F 0 0 1 t1 q1) : LwX C F En 11 t1 q1 := fun _ _ k => Or.inr ⟨t1, q1, h, k⟩
theorem LwR.b (h : ClR C F 0 0 0 t2 q2) : LwR C F En 0 t2 := Or.inl ⟨q2, h, rfl⟩
theorem LwX.add {m : Nat} (p : LwX C F En (m + 1) t1 q1) (e : C t1 = 159) (h : ClR C F (t1 + 1) q1 1 t2 q2) : LwX C F En m t2 q2 := fun _ _ k => p _ _ (Or.inl ⟨e, Or.inr ⟨t2, q2, h, k⟩⟩)
theorem LwX.bad {m : Nat} (p : LwX C F En (m + 1) t1 q1) (e : C t1 = 159) (h : ClR C F (t1 + 1) q1 0 t2 q2) : LwR C F En 0 t2 := p _ _ (Or.inl ⟨e, Or.inl ⟨q2, h, rfl⟩⟩)
theorem LwX.full (p : LwX C F En 0 t1 q1) (e : C t1 = 159) : LwR C F En 0 (t1 + 1) := p _ _ (Or.inl ⟨e, rfl, rfl⟩)
theorem LwX.y {m : Nat} (p : LwX C F En m t1 q1) (e : ¬ C t1 = 159) (h : En t1) : LwR C F En 1 t1 := by
  cases m with
  | zero => exact p _ _ (Or.inr ⟨e, Or.inl ⟨h, rfl, rfl⟩⟩)
  | succ m => exact p _ _ (Or.inr ⟨e, Or.inl ⟨h, rfl, rfl⟩⟩)
theorem LwX.n {m : Nat} (p : LwX C F En m t1 q1) (e : ¬ C t1 = 159) (h : ¬ En t1) : LwR C F En 0 t1 := by
  cases m with
  | zero => exact p _ _ (Or.inr ⟨e, Or.inr ⟨h, rfl, rfl⟩⟩)
  | succ m => exact p _ _ (Or.inr ⟨e, Or.inr ⟨h, rfl, rfl⟩⟩)
end RRb
theorem LwX.m {C : Int → Int} {F En : Int → Prop} {m k : Nat} {t q : Int} (p : LwX C F En m t q) (e : m = k) : LwX C F En k t q := e ▸ p
/-- the clauses read so far: good, so many more may stand; or the fault is told -/
def CpI (T : Int → Int) (n gd i tk st bh va pa fl : Int) : Prop := (gd = 1 ∧ ∃ (t : Int) (m : Nat), (m : Int) + i = 12 ∧ TkX T n t tk st bh va ∧ 0 ≤ t ∧ LwX (CTk T n) (LF T n) (EnT T n) m t pa) ∨ (gd = 0 ∧ ∃ t, LwR (CTk T n) (LF T n) (EnT T n) 0 t ∧ FlX T n t fl)
theorem CpI.go {T : Int → Int} {n gd i tk st bh va pa fl t : Int} {m : Nat} (e : (m : Int) + i = 12) (g : gd = 1) (h : TkX T n t tk st bh va) (t0 : 0 ≤ t) (x : LwX (CTk T n) (LF T n) (EnT T n) m t pa) : CpI T n gd i tk st bh va pa fl := Or.inl ⟨g, t, m, e, h, t0, x⟩
theorem CpI.no {T : Int → Int} {n gd i tk st bh va pa fl t : Int} (g : gd = 0) (h : LwR (CTk T n) (LF T n) (EnT T n) 0 t) (f : FlX T n t fl) : CpI T n gd i tk st bh va pa fl := Or.inr ⟨g, t, h, f⟩
theorem CpI.is {T : Int → Int} {n gd i tk st bh va pa fl : Int} (h : CpI T n gd i tk st bh va pa fl) (g : gd = 1) : ∃ (t : Int) (m : Nat), (m : Int) + i = 12 ∧ TkX T n t tk st bh va ∧ 0 ≤ t ∧ LwX (CTk T n) (LF T n) (EnT T n) m t pa := by
  rcases h with h | h
  · exact h.2
  · exact absurd h.1 (by omega)
theorem CpI.not {T : Int → Int} {n gd i tk st bh va pa fl : Int} (h : CpI T n gd i tk st bh va pa fl) (g : gd = 0) : ∃ t, LwR (CTk T n) (LF T n) (EnT T n) 0 t ∧ FlX T n t fl := by
  rcases h with h | h
  · exact absurd h.1 (by omega)
  · exact h.2
