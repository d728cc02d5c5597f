/-! the reference's reading of tokens: how a fault is told; S: the tokens' places -/
def BdX (R : RR) (S : Int → Int) (t q b0 b2 : Int) : Prop := (b0 = -1 ∧ ∃ t2, R t q 0 t2 0 ∧ b2 = S t2) ∨ (0 ≤ b0 ∧ b2 = b0)
section BdXs
variable {R R2 It B Sm Sub : RR} {S : Int → Int} {op : Int → Prop} {C : Int → Int} {F En : Int → Prop} {cl t q t1 q1 t2 q2 u r s ok b b0 b1 b2 x tk lv tk2 lv2 n : Int}
theorem BdX.st (h : BdX R S t q b0 b2) (g : 0 ≤ b0) : b2 = b0 := by
  rcases h with h | h
  · exact absurd h.1 (by omega)
  · exact h.2
theorem BdX.map (h : BdX R S u r b b2) (e : b = -1) (e0 : b0 = -1) (f : ∀ t2, R u r 0 t2 0 → R2 t q 0 t2 0) : BdX R2 S t q b0 b2 := by
  rcases h with ⟨_, t2, h, w⟩ | h
  · exact Or.inl ⟨e0, t2, f t2 h, w⟩
  · exact absurd h.1 (by omega)
theorem BdX.own (e : b0 = -1) (h : R t q 0 t2 0) (w : b2 = S t2) : BdX R S t q b0 b2 := Or.inl ⟨e, t2, h, w⟩
theorem BdX.old (g : 0 ≤ b0) (e : b2 = b0) : BdX R S t q b0 b2 := Or.inr ⟨g, e⟩
theorem BdX.to (h : BdX R S t q b0 b) (e : b2 = b) : BdX R S t q b0 b2 := e ▸ h
theorem BdX.se (h : BdX It S t q b0 b2) : BdX (SeR It op C) S t q b0 b2 := by
  rcases h with ⟨e, t2, h, w⟩ | h
  · exact Or.inl ⟨e, t2, SeR.b h, w⟩
  · exact Or.inr h
theorem BrR.bb (ex : x = t + 1) (h : Sub x q 0 t2 q2) : BrR cl True Sub C t q 0 t2 q2 := BrR.b (ex ▸ h)
theorem BrR.y2 (ex : x = t + 1) (h : Sub x q 1 t1 q1) (e : C t1 = cl) (et : t2 = t1 + 1) : BrR cl True Sub C t q 1 t2 q1 := et ▸ BrR.y (ex ▸ h) e
theorem BrR.w2 (ex : x = t + 1) (h : Sub x q 1 t1 q1) (e : ¬ C t1 = cl) : BrR cl True Sub C t q 0 t1 0 := BrR.w (ex ▸ h) e
theorem PaR.y2 (e : ¬ C t = 191) (f : F t) (h : q < 50) (et : t2 = t + 1) (eq : q2 = q + 1) : PaR B C F t q 1 t2 q2 := et ▸ eq ▸ PaR.y e f h
theorem PlR.y2 (h0 : t ≤ s) (h : NtX C t s) (e7 : ¬ C s = 7) (e : ¬ C s = 140) (k : Sm s q 1 t1 q1) (o : opC (C t1)) (ex : x = t1 + 1) (k2 : Sm x q1 ok t2 q2) : PlR B Sm C t q ok t2 q2 := PlR.y h0 h e7 e k o (ex ▸ k2)
theorem IfR.y2 (e : C t = 4) (ex : x = t + 1) (h : TeR C F 8 x q ok t2 q2) : IfR C F t q ok t2 q2 := IfR.y e (ex ▸ h)
theorem ClR.tb2 (e : C t = 1) (ex : x = t + 1) (h : SmR C F 8 x q 0 t2 q2) : ClR C F t q 0 t2 q2 := ClR.tb e (ex ▸ h)
theorem ClR.tt (e : C t = 1) (ex : x = t + 1) (h : SmR C F 8 x q 1 t1 q1) (k : IfR C F t1 q1 ok t2 q2) : ClR C F t q ok t2 q2 := ClR.tk e (ex ▸ h) k
theorem ClR.l2 (e : C t = 2 ∨ C t = 3) (ex : x = t + 1) (k : IfR C F x q ok t2 q2) : ClR C F t q ok t2 q2 := ClR.l e (ex ▸ k)
def ChI (It : RR) (op : Int → Prop) (C S : Int → Int) (t q b0 b tk lv : Int) : Prop := (b = -1 ∧ b0 = -1 ∧ SeP It op C t q tk lv) ∨ (0 ≤ b ∧ BdX (SeR It op C) S t q b0 b)
theorem ChI.y (e : b = -1) (e0 : b0 = -1) (h : It t q 1 tk lv) : ChI It op C S t q b0 b tk lv := Or.inl ⟨e, e0, SeP.one h⟩
theorem ChI.no (g : 0 ≤ b) (h : BdX It S t q b0 b) : ChI It op C S t q b0 b tk lv := Or.inr ⟨g, h.se⟩
theorem ChI.add (h : ChI It op C S t q b0 b tk lv) (e : b = -1) (o : op (C tk)) (ex : x = tk + 1) (k : It x lv 1 tk2 lv2) (e2 : b2 = -1) : ChI It op C S t q b0 b2 tk2 lv2 := by
  rcases h with ⟨_, e0, p⟩ | h
  · exact Or.inl ⟨e2, e0, p.add o (ex ▸ k)⟩
  · exact absurd h.1 (by omega)
theorem ChI.bad (h : ChI It op C S t q b0 b tk lv) (e : b = -1) (o : op (C tk)) (ex : x = tk + 1) (k : BdX It S x lv b1 b2) (e1 : b1 = -1) (g : 0 ≤ b2) : ChI It op C S t q b0 b2 tk2 lv2 := by
  rcases h with ⟨_, e0, p⟩ | h
  · rcases k with ⟨_, t2, k, w⟩ | k
    · exact Or.inr ⟨g, Or.inl ⟨e0, t2, p.bad o (ex ▸ k), w⟩⟩
    · exact absurd k.1 (by omega)
  · exact absurd h.1 (by omega)
theorem ChI.yes (h : ChI It op C S t q b0 b tk lv) (e : b = -1) (no : ¬ op (C tk)) : SeR It op C t q 1 tk lv := by
  rcases h with ⟨_, _, p⟩ | h
  · exact p.end no
  · exact absurd h.1 (by omega)
theorem ChI.not (h : ChI It op C S t q b0 b tk lv) (g : 0 ≤ b) : BdX (SeR It op C) S t q b0 b := by
  rcases h with ⟨e, _⟩ | h
  · exact absurd e (by omega)
  · exact h.2
def RdI (C : Int → Int) (F En : Int → Prop) (S : Int → Int) (n b tk lv : Int) : Prop := (b = -1 ∧ ∃ m : Nat, (m : Int) + n = 12 ∧ LwX C F En m tk lv) ∨ (0 ≤ b ∧ ∃ t, LwR C F En 0 t ∧ b = S t)
theorem RdI.one (e : b = -1) (en : n = 1) (h : ClR C F 0 0 1 tk lv) : RdI C F En S n b tk lv := Or.inl ⟨e, 11, by omega, LwX.one h⟩
theorem RdI.onb (g : 0 ≤ b) (h : BdX (ClR C F) S 0 0 b0 b) (e0 : b0 = -1) : RdI C F En S n b tk lv := by
  rcases h with ⟨_, t2, h, w⟩ | h
  · exact Or.inr ⟨g, t2, LwR.b h, w⟩
  · exact absurd h.1 (by omega)
theorem RdI.le (h : RdI C F En S n b tk lv) (e : b = -1) : n ≤ 12 := by
  rcases h with ⟨_, m, hm, _⟩ | h
  · omega
  · exact absurd h.1 (by omega)
theorem RdI.add (h : RdI C F En S n b tk lv) (e : b = -1) (n1 : n < 12) (c : C tk = 159) (ex : x = tk + 1) (k : ClR C F x lv 1 tk2 lv2) (e2 : b2 = -1) : RdI C F En S (n + 1) b2 tk2 lv2 := by
  rcases h with ⟨_, m, hm, p⟩ | h
  · obtain ⟨m2, rfl⟩ : ∃ m2 : Nat, m = m2 + 1 := ⟨m - 1, by omega⟩
    exact Or.inl ⟨e2, m2, by omega, p.add c (ex ▸ k)⟩
  · exact absurd h.1 (by omega)
theorem RdI.bad (h : RdI C F En S n b tk lv) (e : b = -1) (n1 : n < 12) (c : C tk = 159) (ex : x = tk + 1) (k : BdX (ClR C F) S x lv b1 b2) (e1 : b1 = -1) (g : 0 ≤ b2) : RdI C F En S (n + 1) b2 tk2 lv2 := by
  rcases h with ⟨_, m, hm, p⟩ | h
  · obtain ⟨m2, rfl⟩ : ∃ m2 : Nat, m = m2 + 1 := ⟨m - 1, by omega⟩
    rcases k with ⟨_, t2, k, w⟩ | k
    · exact Or.inr ⟨g, t2, p.bad c (ex ▸ k), w⟩
    · exact absurd k.1 (by omega)
  · exact absurd h.1 (by omega)
theorem RdI.full (h : RdI C F En S n b tk lv) (e : b = -1) (n1 : n = 12) (c : C tk = 159) (w : b2 = S (tk + 1)) (g : 0 ≤ b2) : RdI C F En S (n + 1) b2 tk2 lv2 := by
  rcases h with ⟨_, m, hm, p⟩ | h
  · exact Or.inr ⟨g, tk + 1, LwX.full (p.m (by omega)) c, w⟩
  · exact absurd h.1 (by omega)
theorem RdI.y (h : RdI C F En S n b tk lv) (e : b = -1) (no : ¬ C tk = 159) (en : En tk) : LwR C F En 1 tk := by
  rcases h with ⟨_, m, hm, p⟩ | h
  · exact p.y no en
  · exact absurd h.1 (by omega)
theorem RdI.no (h : RdI C F En S n b tk lv) (e : b = -1) (no : ¬ C tk = 159) (en : ¬ En tk) (w : b2 = S tk) : ∃ t, LwR C F En 0 t ∧ b2 = S t := by
  rcases h with ⟨_, m, hm, p⟩ | h
  · exact ⟨tk, p.n no en, w⟩
  · exact absurd h.1 (by omega)
theorem RdI.bd (h : RdI C F En S n b tk lv) (g : 0 ≤ b) : ∃ t, LwR C F En 0 t ∧ b = S t := by
  rcases h with ⟨e, _⟩ | h
  · exact absurd e (by omega)
  · exact h.2
end BdXs
/-- the tokens' places -/
def PlT (pl S : Int → Int) (n : Int) : Prop := ∀ t, 0 ≤ t → t ≤ n → pl t = S t
theorem PlT.at {pl S : Int → Int} {n t z : Int} (h : PlT pl S n) (t0 : 0 ≤ t) (t1 : t ≤ n) (e : pl t = z) : z = S t := e.symm.trans (h t t0 t1)
section Tbl
variable {T : Int → Int} {n tn : Int} {cc pl va cc2 pl2 va2 : Int → Int}
/-- the table as a whole: codes, leaves, places -/
theorem TbX.codes (h : TbX T n cc pl va tn) (p : PsB T n tn n) (t0 : 0 ≤ tn) : Cc cc tn = CTk T n := by
  funext t
  unfold Cc
  by_cases g : 0 ≤ t ∧ t < tn
  · rw [if_pos g]; exact (h t g.1 g.2).1
  · rw [if_neg g]
    by_cases l : 0 ≤ t
    · exact ((CTk_end p (j := t) (by omega)).1).symm
    · unfold CTk
      rw [if_neg l]
theorem TbX.lf (h : TbX T n cc pl va tn) (p : PsB T n tn n) (t0 : 0 ≤ tn) : LfK (Cc cc tn) va = LF T n := by
  funext t
  unfold LF LfK
  rw [h.codes p t0]
  by_cases g : 0 ≤ t ∧ t < tn
  · refine propext (or_congr (and_congr_right (fun w => ?_)) Iff.rfl)
    have u := (h t g.1 g.2).2.2.2 w
    unfold VaR at u
    omega
  · have e : CTk T n t = 0 := by
      by_cases l : 0 ≤ t
      · exact (CTk_end p (j := t) (by omega)).1
      · unfold CTk
        rw [if_neg l]
    rw [e]
    refine propext ⟨fun w => ?_, fun w => ?_⟩ <;> (exfalso; omega)
theorem TbX.places (h : TbX T n cc pl va tn) (p : PsB T n tn n) (e : pl2 = up pl tn n) : PlT pl2 (ST T n) tn := fun t a b => by
  subst e
  by_cases g : t = tn
  · rw [g, up_same]; exact ((CTk_end p (j := tn) (Int.le_refl _)).2).symm
  · rw [up_ne g]; exact (h t a (by omega)).2.1
theorem TbX.en (h : TbX T n cc pl va tn) (p : PsB T n tn n) {t : Int} (t0 : 0 ≤ t) : EnT T n t ↔ tn ≤ t := by
  show ST T n t = n ↔ tn ≤ t
  by_cases g : t < tn
  · have u := (h t t0 g).2.2.1
    omega
  · have u := (CTk_end p (j := t) (by omega)).2
    omega
theorem Cc_up {i v : Int} (h : tn ≤ i) : Cc (up cc i v) tn = Cc cc tn := by
  funext t
  unfold Cc
  by_cases g : 0 ≤ t ∧ t < tn
  · rw [if_pos g, if_pos g, up_ne (by omega)]
  · rw [if_neg g, if_neg g]
theorem LfK_up {C : Int → Int} {i v : Int} (h : ¬ C i = 50) : LfK C (up va i v) = LfK C va := by
  funext t
  unfold LfK
  by_cases g : t = i
  · rw [g]
    exact propext (or_congr ⟨fun w => absurd w.1 h, fun w => absurd w.1 h⟩ Iff.rfl)
  · rw [up_ne g]
end Tbl
theorem LwQ.hi {K Kx K2 cc : Int → Int} {t n k w : Int} (h : LwQ K Kx cc t n k) (t0 : 0 ≤ t) (e : K2 = up Kx 62 w) (ew : w = K 62 + 1) : EqN K2 (up K 62 (K 62 + 1)) 64 := fun j a b => by
  subst e ew
  by_cases g : j = 62
  · rw [g, up_same, up_same]
  · rw [up_ne g, up_ne g]; exact h.1 j (by omega) (by omega)
