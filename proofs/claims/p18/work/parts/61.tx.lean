/-! code as it is laid: from the token t at sz up to t2 at sz2 (q, q2: parts) -/
def SgS (D : DR) (cd cd2 : Int → Int) (t t2 sz sz2 q q2 : Int) : Prop := (∀ j, j < sz → cd2 j = cd j) ∧ ∃ f, D t t2 f ∧ CoG cd2 sz sz2 (q2 - q) f
/-- the beginning of a row -/
def SgP (It : DR) (op : Int → Prop) (cb : Int → DV → DV → DV) (C cd cx : Int → Int) (t sz q t1 zx q1 : Int) : Prop := (∀ j, j < sz → cx j = cd j) ∧ ∃ f, CoG cx sz zx (q1 - q) f ∧ ∀ n t2 g, ChD It op cb C n t1 f t2 g → SeD It op cb C t t2 g
def SgC (C V cd cd2 : Int → Int) (t t2 sz sz2 : Int) : Prop := (∀ j, j < sz → cd2 j = cd j) ∧ ∃ k f g, ClD C V t t2 k f g ∧ ClG cd2 sz sz2 k f g
section Sgs
variable {D It B Sm : DR} {op : Int → Prop} {cb : Int → DV → DV → DV} {C V cd cx c1 c2 c3 : Int → Int} {t t1 t2 sz sz2 zx z2 q q1 q2 k e v v1 v3 s d n : Int}
theorem SgS.le (h : SgS D cd cx t t1 sz zx q q1) : sz ≤ zx := h.2.elim (fun _ x => x.2.1)
theorem SgP.le (h : SgP It op cb C cd cx t sz q t1 zx q1) : sz ≤ zx := h.2.elim (fun _ x => x.1.1)
theorem SgP.one (h : SgS It cd cx t t1 sz zx q q1) : SgP It op cb C cd cx t sz q t1 zx q1 := by
  obtain ⟨h1, f, h2, h3⟩ := h
  exact ⟨h1, f, h3, fun n _ _ c => ⟨t1, f, h2, n, c⟩⟩
theorem SgP.end (h : SgP It op cb C cd cx t sz q t1 zx q1) (no : ¬ op (C t1)) : SgS (SeD It op cb C) cd cx t t1 sz zx q q1 := by
  obtain ⟨h1, f, h2, h3⟩ := h
  exact ⟨h1, f, h3 0 _ _ ⟨no, rfl, rfl⟩, h2⟩
theorem SgP.ar (p : SgP It op arC C cd cx t sz q t1 zx q1) (o : op (C t1)) (h : SgS It cx c2 (t1 + 1) t2 zx z2 q1 q2) (e3 : c3 = up c2 z2 v) (i : InX c3 z2 k 0) (kc : (k = 2 ∧ C t1 = 143) ∨ (k = 3 ∧ C t1 = 145) ∨ (k = 4 ∧ C t1 = 142) ∨ (k = 5 ∧ C t1 = 147)) : SgP It op arC C cd c3 t sz q t2 (z2 + 1) q2 := by
  have l1 := p.le
  have l2 := h.le
  obtain ⟨p1, f, p2, p3⟩ := p
  obtain ⟨h1, g, h2, h3⟩ := h
  have e0 : ∀ j, j < z2 → c3 j = c2 j := fun j w => by rw [e3, up_ne (by omega)]
  refine ⟨fun j w => (e0 j (by omega)).trans ((h1 j (by omega)).trans (p1 j w)), arC (C t1) f g, ?_, fun n a b c => p3 (n + 1) a b ⟨o, t2, g, h2, c⟩⟩
  have x := CoG.ar (t := C t1) (p2.cg (G := c3) (fun j a b => (e0 j (by omega)).trans (h1 j b))) (h3.cg (G := c3) (fun j a b => e0 j b)) i kc
  rw [show q1 - q + (q2 - q1) = q2 - q by omega] at x
  exact x
theorem SgP.skip (p : SgP It op (fun _ => cb 0) C cd cx t sz q t1 zx q1) (o : op (C t1)) (e1 : c1 = up cx zx v1) (h : SgS It c1 c2 (t1 + 1) t2 (zx + 1) z2 q1 q2) (e3 : c3 = up c2 zx v3) (i : InX c3 zx k z2) (kc : ∀ {F : Int → Int} {a b e m1 m2 : Int} {f g : DV}, CoG F a b m1 f → InX F b k e → CoG F (b + 1) e m2 g → CoG F a e (m1 + m2) (cb 0 f g)) : SgP It op (fun _ => cb 0) C cd c3 t sz q t2 z2 q2 := by
  have l1 := p.le
  have l2 := h.le
  obtain ⟨p1, f, p2, p3⟩ := p
  obtain ⟨h1, g, h2, h3⟩ := h
  have e0 : ∀ j, ¬ j = zx → c3 j = c2 j := fun j w => by rw [e3, up_ne w]
  have e4 : ∀ j, j < zx → c3 j = cx j := fun j w => (e0 j (by omega)).trans ((h1 j (by omega)).trans (by rw [e1, up_ne (by omega)]))
  refine ⟨fun j w => (e4 j (by omega)).trans (p1 j w), cb 0 f g, ?_, fun n a b c => p3 (n + 1) a b ⟨o, t2, g, h2, c⟩⟩
  have x := kc (p2.cg (G := c3) (fun j a b => e4 j b)) i (h3.cg (G := c3) (fun j a b => e0 j (by omega)))
  rw [show q1 - q + (q2 - q1) = q2 - q by omega] at x
  exact x
theorem SgP.or (p : SgP It opO (fun _ => orC) C cd cx t sz q t1 zx q1) (o : opO (C t1)) (e1 : c1 = up cx zx v1) (h : SgS It c1 c2 (t1 + 1) t2 (zx + 1) z2 q1 q2) (e3 : c3 = up c2 zx v3) (i : InX c3 zx 10 z2) : SgP It opO (fun _ => orC) C cd c3 t sz q t2 z2 q2 := SgP.skip (cb := fun _ => orC) p o e1 h e3 i (fun x i y => CoG.or x i y)
theorem SgP.and (p : SgP It opN (fun _ => anC) C cd cx t sz q t1 zx q1) (o : opN (C t1)) (e1 : c1 = up cx zx v1) (h : SgS It c1 c2 (t1 + 1) t2 (zx + 1) z2 q1 q2) (e3 : c3 = up c2 zx v3) (i : InX c3 zx 11 z2) : SgP It opN (fun _ => anC) C cd c3 t sz q t2 z2 q2 := SgP.skip (cb := fun _ => anC) p o e1 h e3 i (fun x i y => CoG.and x i y)
theorem SgS.num (ne : ¬ C t = 191) (c : C t = 50) (l : V t ≤ 1000) (l0 : 0 ≤ V t) (e1 : c2 = up cd sz v) (i : InX c2 sz 0 e) (ev : e = V t) (eq : q2 = q + 1) : SgS (PaD B C V) cd c2 t (t + 1) sz (sz + 1) q q2 := by
  refine ⟨fun j w => by rw [e1, up_ne (by omega)], fun _ => some (V t), Or.inr ⟨ne, rfl, Or.inl ⟨c, l0, l, rfl⟩⟩, ?_⟩
  rw [show q2 - q = 1 by omega, ← ev]
  exact CoG.num i (by omega) (by omega)
theorem SgS.word (ne : ¬ C t = 191) (a : 8 ≤ C t) (b : C t ≤ 15) (e1 : c2 = up cd sz v) (i : InX c2 sz 1 e) (ev : e = C t - 8) (eq : q2 = q + 1) : SgS (PaD B C V) cd c2 t (t + 1) sz (sz + 1) q q2 := by
  refine ⟨fun j w => by rw [e1, up_ne (by omega)], fun w => some (w (C t - 8)), Or.inr ⟨ne, rfl, Or.inr ⟨a, b, rfl⟩⟩, ?_⟩
  rw [show q2 - q = 1 by omega, ← ev]
  exact CoG.word i (by omega) (by omega)
theorem SgS.pbr (c : C t = 191) (h : SgS B cd c2 t t2 sz sz2 q q2) : SgS (PaD B C V) cd c2 t t2 sz sz2 q q2 := ⟨h.1, h.2.elim (fun f x => ⟨f, Or.inl ⟨c, x.1⟩, x.2⟩)⟩
theorem SgS.br1 {n : Nat} (h : SgS (SmD C V n) cd c2 (t + 1) t1 sz sz2 q q2) (c : C t1 = 193) : SgS (BsD C V (n + 1)) cd c2 t (t1 + 1) sz sz2 q q2 := ⟨h.1, h.2.elim (fun f x => ⟨f, ⟨t1, x.1, c, rfl⟩, x.2⟩)⟩
theorem SgS.br2 {n : Nat} (h : SgS (TeD C V n) cd c2 (t + 1) t1 sz sz2 q q2) (c : C t1 = 141) : SgS (BtD C V (n + 1)) cd c2 t (t1 + 1) sz sz2 q q2 := ⟨h.1, h.2.elim (fun f x => ⟨f, ⟨t1, x.1, c, rfl⟩, x.2⟩)⟩
/-- what stands behind the rows of not -/
def SgT (B Sm : DR) (C cd c2 : Int → Int) (s t2 sz sz2 q q2 : Int) : Prop := (∀ j, j < sz → c2 j = cd j) ∧ ∃ g, ((C s = 140 ∧ B s t2 g) ∨ (¬ C s = 140 ∧ ∃ t1 a b, Sm s t1 a ∧ opC (C t1) ∧ Sm (t1 + 1) t2 b ∧ g = cmC (C t1) a b)) ∧ CoG c2 sz sz2 (q2 - q) g
theorem SgT.br (c : C s = 140) (h : SgS B cd c2 s t2 sz sz2 q q2) : SgT B Sm C cd c2 s t2 sz sz2 q q2 := ⟨h.1, h.2.elim (fun g x => ⟨g, Or.inl ⟨c, x.1⟩, x.2⟩)⟩
theorem SgT.cm (ne : ¬ C s = 140) (h : SgS Sm cd c1 s t1 sz zx q q1) (o : opC (C t1)) (g : SgS Sm c1 c2 (t1 + 1) t2 zx z2 q1 q2) (e3 : c3 = up c2 z2 v) (i : InX c3 z2 k 0) (kc : (k = 6 ∧ C t1 = 160) ∨ (k = 7 ∧ C t1 = 162) ∨ (k = 8 ∧ C t1 = 161)) : SgT B Sm C cd c3 s t2 sz (z2 + 1) q q2 := by
  have l1 := h.le
  have l2 := g.le
  obtain ⟨h1, a, h2, h3⟩ := h
  obtain ⟨g1, b, g2, g3⟩ := g
  have e0 : ∀ j, j < z2 → c3 j = c2 j := fun j w => by rw [e3, up_ne (by omega)]
  refine ⟨fun j w => (e0 j (by omega)).trans ((g1 j (by omega)).trans (h1 j w)), _, Or.inr ⟨ne, t1, a, b, h2, o, g2, rfl⟩, ?_⟩
  have x := CoG.cm (t := C t1) (h3.cg (G := c3) (fun j a b => (e0 j (by omega)).trans (g1 j b))) (g3.cg (G := c3) (fun j a b => e0 j b)) i kc
  rw [show q1 - q + (q2 - q1) = q2 - q by omega] at x
  exact x
theorem SgT.end0 (h : SgT B Sm C cd c2 s t2 sz sz2 q q2) (h0 : t ≤ s) (nt : NtX C t s) (n7 : ¬ C s = 7) (ed : d = (s - t) % 2) (z : d = 0) : SgS (PlD B Sm C) cd c2 t t2 sz sz2 q q2 := by
  obtain ⟨h1, g, h2, h3⟩ := h
  refine ⟨h1, _, ⟨s, g, h0, nt, n7, rfl, h2⟩, ?_⟩
  have e : ntC ((s - t) % 2) g = g := by
    funext w
    unfold ntC
    cases g w with
    | none => rfl
    | some a => exact if_neg (by omega)
  rw [e]
  exact h3
theorem SgT.end1 (h : SgT B Sm C cd c2 s t2 sz z2 q q2) (h0 : t ≤ s) (nt : NtX C t s) (n7 : ¬ C s = 7) (ed : d = (s - t) % 2) (z : d = 1) (e3 : c3 = up c2 z2 v) (i : InX c3 z2 9 e) {y2 : Int} (ez : y2 = z2 + 1) : SgS (PlD B Sm C) cd c3 t t2 sz y2 q q2 := by
  subst ez
  obtain ⟨h1, g, h2, h3⟩ := h
  have l := h3.1
  have e0 : ∀ j, j < z2 → c3 j = c2 j := fun j w => by rw [e3, up_ne (by omega)]
  refine ⟨fun j w => (e0 j (by omega)).trans (h1 j w), _, ⟨s, g, h0, nt, n7, rfl, h2⟩, ?_⟩
  rw [show (s - t) % 2 = 1 by omega]
  exact CoG.deny (h3.cg (G := c3) (fun j a b => e0 j b)) i
/-- an "if", or none -/
theorem SgS.ify (c : C t = 4) (h : SgS (TeD C V 8) cd c2 t1 t2 sz sz2 q q2) (et : t1 = t + 1) : SgS (IfD C V) cd c2 t t2 sz sz2 q q2 := by
  subst et
  exact ⟨h.1, h.2.elim (fun f x => ⟨f, Or.inl ⟨c, x.1⟩, x.2⟩)⟩
theorem SgS.ifn (c : ¬ C t = 4) (e1 : c2 = up cd sz v) (i : InX c2 sz 0 1) : SgS (IfD C V) cd c2 t t sz (sz + 1) q (q + 1) := by
  refine ⟨fun j w => by rw [e1, up_ne (by omega)], fun _ => some 1, Or.inr ⟨c, rfl, rfl⟩, ?_⟩
  rw [show q + 1 - q = 1 by omega]
  exact CoG.num i (by decide) (by decide)
theorem SgC.takes (c : C t = 1) (h : SgS (SmD C V 8) cd c1 (t + 1) t1 sz zx q q1) (g : SgS (IfD C V) c1 c2 t1 t2 zx z2 q1 q2) (e3 : c3 = up c2 z2 v) (i : InX c3 z2 12 e) (q0 : 0 ≤ q) (q50 : q2 ≤ 51) (qq : q ≤ q1) (q5 : q1 ≤ 50) {y2 : Int} (ez : y2 = z2 + 1) : SgC C V cd c3 t t2 sz y2 := by
  subst ez
  have l1 := h.le
  have l2 := g.le
  obtain ⟨h1, a, h2, h3⟩ := h
  obtain ⟨g1, b, g2, g3⟩ := g
  have e0 : ∀ j, j < z2 → c3 j = c2 j := fun j w => by rw [e3, up_ne (by omega)]
  refine ⟨fun j w => (e0 j (by omega)).trans ((g1 j (by omega)).trans (h1 j w)), 1, a, b, Or.inl ⟨c, rfl, t1, h2, g2⟩, ?_⟩
  exact ClG.takes (h3.cg (G := c3) (fun j a b => (e0 j (by omega)).trans (g1 j b))) (g3.cg (G := c3) (fun j a b => e0 j b)) i (by omega) (by omega)
theorem SgC.test (c : (k = 13 ∧ C t = 2) ∨ (k = 14 ∧ C t = 3)) (g : SgS (IfD C V) cd c2 (t + 1) t2 sz z2 q q2) (e3 : c3 = up c2 z2 v) (i : InX c3 z2 k e) (q0 : 0 ≤ q) (q50 : q2 ≤ 51) {y2 : Int} (ez : y2 = z2 + 1) : SgC C V cd c3 t t2 sz y2 := by
  subst ez
  have l2 := g.le
  obtain ⟨g1, b, g2, g3⟩ := g
  have e0 : ∀ j, j < z2 → c3 j = c2 j := fun j w => by rw [e3, up_ne (by omega)]
  refine ⟨fun j w => (e0 j (by omega)).trans (g1 j w), C t, _, b, Or.inr ⟨by omega, rfl, rfl, g2⟩, ?_⟩
  exact ClG.test (g3.cg (G := c3) (fun j a b => e0 j b)) i (by omega) (by omega)
end Sgs
/-! a law read so far: its code, what it tells -/
def PrC (C V : Int → Int) (En : Int → Prop) (cd : Int → Int) (t z : Int) : Prop := ∃ A, PrG cd z A ∧ ∀ n R, LaD C V En n t A R → LwD C V En R
theorem PrC.one {C V cd c2 : Int → Int} {En : Int → Prop} {t z : Int} (h : SgC C V cd c2 0 t 0 z) : PrC C V En c2 t z := by
  obtain ⟨_, k, f, g, h1, h2⟩ := h
  exact ⟨_, PrG.one h2, fun n R q => ⟨t, k, f, g, n, h1, q⟩⟩
theorem PrC.add {C V cd c2 : Int → Int} {En : Int → Prop} {t z t2 z2 : Int} (p : PrC C V En cd t z) (c : C t = 159) (h : SgC C V cd c2 (t + 1) t2 z z2) : PrC C V En c2 t2 z2 := by
  obtain ⟨A, p1, p2⟩ := p
  obtain ⟨h0, k, f, g, h1, h2⟩ := h
  exact ⟨_, PrG.add (p1.cg (G := c2) (fun j _ b => h0 j b)) h2, fun n R q => p2 (n + 1) R ⟨c, t2, k, f, g, h1, q⟩⟩
/-- the whole law -/
theorem PrC.end {C V cd : Int → Int} {En : Int → Prop} {t z : Int} (p : PrC C V En cd t z) (c : ¬ C t = 159) (e : En t) : ∃ R, LwD C V En R ∧ PrG cd z R := by
  obtain ⟨A, p1, p2⟩ := p
  exact ⟨A, p2 0 A ⟨c, e, rfl⟩, p1⟩
/-! the class's clauses read so far, with their code -/
def CpJ (T : Int → Int) (n : Int) (cd : Int → Int) (gd i tk st bh va pa fl z : Int) : Prop := (gd = 1 ∧ ∃ (t : Int) (m : Nat), (m : Int) + i = 12 ∧ TkX T n t tk st bh va ∧ 0 ≤ t ∧ LwX (CTk T n) (LF T n) (EnT T n) m t pa ∧ PrC (CTk T n) (VT T n) (EnT T n) cd t z) ∨ (gd = 0 ∧ ∃ t, LwR (CTk T n) (LF T n) (EnT T n) 0 t ∧ FlX T n t fl)
theorem CpJ.go {T cd : Int → Int} {n gd i tk st bh va pa fl z t : Int} {m : Nat} (e : (m : Int) + i = 12) (g : gd = 1) (h : TkX T n t tk st bh va) (t0 : 0 ≤ t) (x : LwX (CTk T n) (LF T n) (EnT T n) m t pa) (p : PrC (CTk T n) (VT T n) (EnT T n) cd t z) : CpJ T n cd gd i tk st bh va pa fl z := Or.inl ⟨g, t, m, e, h, t0, x, p⟩
theorem CpJ.no {T cd : Int → Int} {n gd i tk st bh va pa fl z t : Int} (g : gd = 0) (h : LwR (CTk T n) (LF T n) (EnT T n) 0 t) (f : FlX T n t fl) : CpJ T n cd gd i tk st bh va pa fl z := Or.inr ⟨g, t, h, f⟩
theorem CpJ.is {T cd : Int → Int} {n gd i tk st bh va pa fl z : Int} (h : CpJ T n cd gd i tk st bh va pa fl z) (g : gd = 1) : ∃ (t : Int) (m : Nat), (m : Int) + i = 12 ∧ TkX T n t tk st bh va ∧ 0 ≤ t ∧ LwX (CTk T n) (LF T n) (EnT T n) m t pa ∧ PrC (CTk T n) (VT T n) (EnT T n) cd t z := by
  rcases h with h | h
  · exact h.2
  · exact absurd h.1 (by omega)
theorem CpJ.not {T cd : Int → Int} {n gd i tk st bh va pa fl z : Int} (h : CpJ T n cd gd i tk st bh va pa fl z) (g : gd = 0) : ∃ t, LwR (CTk T n) (LF T n) (EnT T n) 0 t ∧ FlX T n t fl := by
  rcases h with h | h
  · exact absurd h.1 (by omega)
  · exact h.2
/-- a law's code tells what its tokens tell -/
def LwCd (T : Int → Int) (n : Int) (cd : Int → Int) (z : Int) : Prop := ∃ R, LwD (CTk T n) (VT T n) (EnT T n) R ∧ PrG cd z R
theorem TkX.c50 {T : Int → Int} {n i tk st bh va : Int} (h : TkX T n i tk st bh va) (e : tk = 16) : CTk T n i = 50 := by
  have q := h.c
  rcases q with q | q | q | q | q <;> omega
theorem TkX.ct {T : Int → Int} {n i tk st bh va : Int} (h : TkX T n i tk st bh va) (a : 0 ≤ tk) (b : tk ≤ 14) : CTk T n i = tk + 1 := by
  have q := h.c
  rcases q with q | q | q | q | q <;> omega
theorem LwCd.cg {T cd F : Int → Int} {n z : Int} (h : LwCd T n cd z) (e : EqN F cd z) : LwCd T n F z := by
  obtain ⟨R, h1, h2⟩ := h
  exact ⟨R, h1, h2.cg e⟩
theorem LwCd.eq {T cd F : Int → Int} {n z y : Int} (h : LwCd T n cd z) (e : EqN F cd y) (ez : z = y) : LwCd T n F y := by
  subst ez
  exact h.cg e
