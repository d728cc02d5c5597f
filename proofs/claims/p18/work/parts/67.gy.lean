/-! tokens stand at or above 0; a law's reading goes forward -/
section Inc
variable {C V : Int → Int}
def IncD (R : DR) : Prop := ∀ t t2 f, R t t2 f → t < t2
theorem IncD_ch {It : DR} {op : Int → Prop} {cb : Int → DV → DV → DV} (F : IncD It) : ∀ (n : Nat) (t : Int) (f : DV) (t2 : Int) (g : DV), ChD It op cb C n t f t2 g → t ≤ t2
  | 0, t, f, t2, g, h => Int.le_of_eq h.2.1.symm
  | n + 1, t, f, t2, g, h => by
    obtain ⟨_, t1, u, h1, h2⟩ := h
    have a := F _ _ _ h1
    have b := IncD_ch F n _ _ _ _ h2
    omega
theorem IncD_se {It : DR} {op : Int → Prop} {cb : Int → DV → DV → DV} (F : IncD It) : IncD (SeD It op cb C) := fun t t2 f h => by
  obtain ⟨t1, u, h1, n, h2⟩ := h
  have a := F _ _ _ h1
  have b := IncD_ch F n _ _ _ _ h2
  omega
theorem IncD_pa {B : DR} (F : IncD B) : IncD (PaD B C V) := fun t t2 f h => by
  rcases h with ⟨_, h⟩ | ⟨_, h⟩
  · exact F _ _ _ h
  · have e := h.1
    omega
theorem IncD_bs : ∀ k : Nat, IncD (BsD C V k)
  | 0 => fun _ _ _ h => absurd h id
  | k + 1 => fun t t2 f h => by
    obtain ⟨t1, h1, h2, h3⟩ := h
    have a := IncD_se (IncD_se (IncD_pa (IncD_bs k))) _ _ _ h1
    omega
theorem IncD_pt (k : Nat) : IncD (PtD C V k) := IncD_pa (IncD_bs k)
theorem IncD_tm (k : Nat) : IncD (TmD C V k) := IncD_se (IncD_pt k)
theorem IncD_sm (k : Nat) : IncD (SmD C V k) := IncD_se (IncD_tm k)
theorem IncD_pl {B Sm : DR} (F : IncD B) (G : IncD Sm) : IncD (PlD B Sm C) := fun t t2 f h => by
  obtain ⟨s, g, s0, _, _, _, h⟩ := h
  rcases h with ⟨_, h⟩ | ⟨_, t1, a, b, h1, _, h2, _⟩
  · have u := F _ _ _ h
    omega
  · have u := G _ _ _ h1
    have v := G _ _ _ h2
    omega
theorem IncD_bt : ∀ k : Nat, IncD (BtD C V k)
  | 0 => fun _ _ _ h => absurd h id
  | k + 1 => fun t t2 f h => by
    obtain ⟨t1, h1, h2, h3⟩ := h
    have a := IncD_se (IncD_se (IncD_pl (IncD_bt k) (IncD_sm k))) _ _ _ h1
    omega
theorem IncD_pn (k : Nat) : IncD (PnD C V k) := IncD_pl (IncD_bt k) (IncD_sm k)
theorem IncD_bo (k : Nat) : IncD (BoD C V k) := IncD_se (IncD_pn k)
theorem IncD_te (k : Nat) : IncD (TeD C V k) := IncD_se (IncD_bo k)
end Inc
/-! asking: what a sum, a test comes to, live or not, broken or not -/
def EvS (lv bk : Int) (w : Int → Int) (f : DV) (r b2 : Int) : Prop := (-1000000000 ≤ r ∧ r ≤ 1000000000) ∧ (lv = 0 → r = 0 ∧ b2 = bk) ∧ (bk = 1 → b2 = 1) ∧ (lv = 1 → bk = 0 → (f w = none → b2 = 1) ∧ ∀ v, f w = some v → b2 = 0 ∧ r = v)
def EvT (lv bk : Int) (w : Int → Int) (f : DV) (r b2 : Int) : Prop := (lv = 0 → b2 = bk) ∧ (bk = 1 → b2 = 1) ∧ (lv = 1 → bk = 0 → (f w = none → b2 = 1) ∧ ∀ v, f w = some v → b2 = 0 ∧ (r = 1 ↔ ¬ v = 0))
/-- what bounded() does -/
def BdR (lv bk x r b2 : Int) : Prop := (lv = 1 → (1000000000 < x ∨ x < -1000000000) → b2 = 1 ∧ r = 0) ∧ (¬ (lv = 1 ∧ (1000000000 < x ∨ x < -1000000000)) → b2 = bk ∧ (bk = 1 → r = 0) ∧ (bk = 0 → r = x))
/-- a row that is read: from go on, so far v -/
def TlX (Ev : DV → Int → Int → Prop) (It : DR) (op : Int → Prop) (cb : Int → DV → DV → DV) (C : Int → Int) (go v bk e : Int) (g : DV) : Prop := ∃ n f, ChD It op cb C n go f e g ∧ Ev f v bk
section Evs
variable {Ev : DV → Int → Int → Prop} {It : DR} {op : Int → Prop} {cb : Int → DV → DV → DV} {C w : Int → Int} {a e go v bk lv b1 b2 b3 u x r y q : Int} {f g h : DV}
theorem SeD.opn (F : IncD It) (k : SeD It op cb C a e g) : ∃ m f, It a m f ∧ a < m ∧ m ≤ e ∧ ∀ (Ev : DV → Int → Int → Prop) v b, Ev f v b → TlX Ev It op cb C m v b e g := by
  obtain ⟨m, f, k1, n, k2⟩ := k
  exact ⟨m, f, k1, F _ _ _ k1, IncD_ch F n _ _ _ _ k2, fun Ev v b q => ⟨n, f, k2, q⟩⟩
theorem TlX.next (F : IncD It) (k : TlX Ev It op cb C go v bk e g) (o : op (C go)) : ∃ m f f1, It (go + 1) m f1 ∧ go + 1 < m ∧ m ≤ e ∧ Ev f v bk ∧ ∀ r b, Ev (cb (C go) f f1) r b → TlX Ev It op cb C m r b e g := by
  obtain ⟨n, f, k1, k2⟩ := k
  cases n with
  | zero => exact absurd o k1.1
  | succ n =>
    obtain ⟨_, m, f1, k3, k4⟩ := k1
    exact ⟨m, f, f1, k3, F _ _ _ k3, IncD_ch F n _ _ _ _ k4, k2, fun r b q => ⟨n, _, k4, q⟩⟩
theorem TlX.stop (k : TlX Ev It op cb C go v bk e g) (o : ¬ op (C go)) : go = e ∧ Ev g v bk := by
  obtain ⟨n, f, k1, k2⟩ := k
  cases n with
  | zero => exact ⟨k1.2.1.symm, by rw [k1.2.2]; exact k2⟩
  | succ n => exact absurd k1.1 o
theorem biO_n {o : Int → Int → Option Int} (p : f w = none) : biO o f h w = none := by
  unfold biO
  rw [p]
theorem biO_m {o : Int → Int → Option Int} (p : f w = some x) (q : h w = none) : biO o f h w = none := by
  unfold biO
  rw [p, q]
theorem biO_s {o : Int → Int → Option Int} (p : f w = some x) (q : h w = some y) : biO o f h w = o x y := by
  unfold biO
  rw [p, q]
/-- two sums joined -/
theorem EvS.bi {o : Int → Int → Option Int} (e1 : EvS lv bk w f v b1) (e2 : EvS lv b1 w h u b2) (rg : -1000000000 ≤ r ∧ r ≤ 1000000000) (z : lv = 0 → v = 0 → u = 0 → r = 0 ∧ b3 = b2) (k : b2 = 1 → b3 = 1) (y : lv = 1 → b2 = 0 → (o v u = none → b3 = 1) ∧ ∀ x, o v u = some x → b3 = 0 ∧ r = x) : EvS lv bk w (biO o f h) r b3 := by
  refine ⟨rg, fun l0 => ?_, fun k1 => k (e2.2.2.1 (e1.2.2.1 k1)), fun l1 k0 => ?_⟩
  · have p := e1.2.1 l0
    have q := e2.2.1 l0
    have s := z l0 p.1 q.1
    exact ⟨s.1, by omega⟩
  · have p := e1.2.2.2 l1 k0
    cases hf : f w with
    | none =>
      rw [biO_n hf]
      exact ⟨fun _ => k (e2.2.2.1 (p.1 hf)), fun _ q => by cases q⟩
    | some a =>
      obtain ⟨p1, p2⟩ := p.2 a hf
      have q := e2.2.2.2 l1 p1
      cases hh : h w with
      | none =>
        rw [biO_m hf hh]
        exact ⟨fun _ => k (q.1 hh), fun _ q => by cases q⟩
      | some c =>
        obtain ⟨q1, q2⟩ := q.2 c hh
        rw [biO_s hf hh, ← p2, ← q2]
        exact y l1 q1
theorem bndO_n {x : Int} (k : 1000000000 < x ∨ x < -1000000000) : bndO x = none := if_neg (by omega)
theorem bndO_s {x : Int} (k : -1000000000 ≤ x) (j : x ≤ 1000000000) : bndO x = some x := if_pos ⟨k, j⟩
theorem BdR.ar {c : Int} (d : BdR lv b2 x r b3) (ao : lv = 1 → b2 = 0 → arO c v u = bndO x) (l : lv = 0 ∨ lv = 1) (kb : b2 = 0 ∨ b2 = 1) (z : lv = 0 → v = 0 → u = 0 → x = 0) (e1 : EvS lv bk w f v b1) (e2 : EvS lv b1 w h u b2) : EvS lv bk w (arC c f h) r b3 := by
  refine EvS.bi e1 e2 ?_ (fun l0 v0 u0 => ?_) (fun k1 => ?_) (fun l1 k0 => ?_)
  · rcases l with l | l
    · have x0 := z l (e1.2.1 l).1 (e2.2.1 l).1
      have p := d.2 (fun q => by have := q.1; omega)
      rcases kb with kb | kb
      · have := p.2.2 kb; omega
      · have := p.2.1 kb; omega
    · by_cases o : 1000000000 < x ∨ x < -1000000000
      · have := (d.1 l o).2; omega
      · have p := d.2 (fun q => o q.2)
        rcases kb with kb | kb
        · have := p.2.2 kb; omega
        · have := p.2.1 kb; omega
  · have x0 := z l0 v0 u0
    have p := d.2 (fun q => by have := q.1; omega)
    refine ⟨?_, p.1⟩
    rcases kb with kb | kb
    · have := p.2.2 kb; omega
    · exact p.2.1 kb
  · by_cases o : lv = 1 ∧ (1000000000 < x ∨ x < -1000000000)
    · exact (d.1 o.1 o.2).1
    · have := (d.2 o).1; omega
  · rw [ao l1 k0]
    by_cases o : 1000000000 < x ∨ x < -1000000000
    · rw [bndO_n o]
      exact ⟨fun _ => (d.1 l1 o).1, fun _ q => by cases q⟩
    · rw [bndO_s (by omega) (by omega)]
      have p := d.2 (fun q => o q.2)
      refine ⟨fun q => (by cases q), fun s q => ?_⟩
      cases q
      exact ⟨p.1.trans k0, p.2.2 k0⟩
theorem EvS.add {c : Int} (ec : c = 143) (l : lv = 0 ∨ lv = 1) (kb : b2 = 0 ∨ b2 = 1) (e1 : EvS lv bk w f v b1) (e2 : EvS lv b1 w h u b2) (ex : x = v + u) (d : BdR lv b2 x r b3) : EvS lv bk w (arC c f h) r b3 := BdR.ar d (fun _ _ => by rw [ex, ec]; exact if_pos rfl) l kb (fun _ _ _ => by omega) e1 e2
theorem EvS.sub {c : Int} (ec : c = 145) (l : lv = 0 ∨ lv = 1) (kb : b2 = 0 ∨ b2 = 1) (e1 : EvS lv bk w f v b1) (e2 : EvS lv b1 w h u b2) (ex : x = v - u) (d : BdR lv b2 x r b3) : EvS lv bk w (arC c f h) r b3 := BdR.ar d (fun _ _ => by rw [ex, ec]; unfold arO; rw [if_neg (by decide), if_pos rfl]) l kb (fun _ _ _ => by omega) e1 e2
theorem EvS.mul {c : Int} (ec : c = 142) (l : lv = 0 ∨ lv = 1) (kb : b2 = 0 ∨ b2 = 1) (e1 : EvS lv bk w f v b1) (e2 : EvS lv b1 w h u b2) (ex : v * u = x) (d : BdR lv b2 x r b3) : EvS lv bk w (arC c f h) r b3 := BdR.ar d (fun _ _ => by rw [← ex, ec]; unfold arO; rw [if_neg (by decide), if_neg (by decide), if_pos rfl]) l kb (fun _ a _ => by rw [← ex, a, Int.zero_mul]) e1 e2
/-- divided by what is not 0 -/
theorem EvS.div {c : Int} (ec : c = 147) (l : lv = 0 ∨ lv = 1) (kb : b2 = 0 ∨ b2 = 1) (e1 : EvS lv bk w f v b1) (e2 : EvS lv b1 w h u b2) (n : ¬ u = 0) (ex : Int.tdiv v u = x) (d : BdR lv b2 x r b3) : EvS lv bk w (arC c f h) r b3 := BdR.ar d (fun _ _ => by rw [← ex, ec]; unfold arO; rw [if_neg (by decide), if_neg (by decide), if_neg (by decide), if_neg n]) l kb (fun _ _ z => absurd z n) e1 e2
/-- divided by 0: broken, if it is live; q: broken as it is then -/
theorem EvS.div0 {c : Int} (ec : c = 147) (l : lv = 0 ∨ lv = 1) (kb : b2 = 0 ∨ b2 = 1) (e1 : EvS lv bk w f v b1) (e2 : EvS lv b1 w h u b2) (z : u = 0) (ex : x = v) (eq : (lv = 1 → q = 1) ∧ (lv = 0 → q = b2)) (d : BdR lv q x r b3) : EvS lv bk w (arC c f h) r b3 := by
  have rg := e1.1
  have p := d.2 (fun o => by have := o.2; omega)
  have ao : arO c v u = none := by rw [ec]; unfold arO; rw [if_neg (by decide), if_neg (by decide), if_neg (by decide), if_pos z]
  have q01 : q = 0 ∨ q = 1 := by
    rcases l with l | l
    · have := eq.2 l; omega
    · have := eq.1 l; omega
  refine EvS.bi e1 e2 ?_ (fun l0 v0 u0 => ?_) (fun k1 => ?_) (fun l1 k0 => ?_)
  · rcases q01 with k | k
    · have := p.2.2 k; omega
    · have := p.2.1 k; omega
  · refine ⟨?_, p.1.trans (eq.2 l0)⟩
    rcases q01 with k | k
    · have := p.2.2 k; omega
    · exact p.2.1 k
  · rcases l with l | l
    · rw [p.1, eq.2 l]; exact k1
    · rw [p.1]; exact eq.1 l
  · rw [ao]
    exact ⟨fun _ => by rw [p.1]; exact eq.1 l1, fun _ q => by cases q⟩
/-- a leaf -/
theorem EvS.lf0 (z : lv = 0 ∨ bk = 1) (l : lv = 0 ∨ lv = 1) : EvS lv bk w f 0 bk := ⟨⟨by decide, by decide⟩, fun _ => ⟨rfl, rfl⟩, fun k => k, fun l1 k0 => by omega⟩
theorem EvS.lf1 (e : f = fun _ => some x) (x0 : 0 ≤ x) (x1 : x ≤ 1000) (l : lv = 1) (k : bk = 0) : EvS lv bk w f x bk := ⟨⟨by omega, by omega⟩, fun q => by omega, fun q => q, fun _ _ => by
  rw [e]
  exact ⟨fun q => (by cases q), fun v q => by cases q; exact ⟨k, rfl⟩⟩⟩
theorem EvS.lf2 (e : f = fun w => some (w y)) (ew : w y = x) (x0 : -1000000000 ≤ x) (x1 : x ≤ 1000000000) (l : lv = 1) (k : bk = 0) : EvS lv bk w f x bk := ⟨⟨x0, x1⟩, fun q => by omega, fun q => q, fun _ _ => by
  rw [e]
  exact ⟨fun q => (by cases q), fun v q => by
    have q : some (w y) = some v := q
    rw [ew] at q
    cases q
    exact ⟨k, rfl⟩⟩⟩
/-! tests -/
theorem EvT.cm {c : Int} (e1 : EvS lv bk w f v b1) (e2 : EvS lv b1 w h u b2) (y : lv = 1 → b2 = 0 → (r = 1 ↔ ¬ cmO c v u = 0)) : EvT lv bk w (cmC c f h) r b2 := by
  refine ⟨fun l0 => (e2.2.1 l0).2.trans (e1.2.1 l0).2, fun k => e2.2.2.1 (e1.2.2.1 k), fun l1 k0 => ?_⟩
  have p := e1.2.2.2 l1 k0
  unfold cmC
  cases hf : f w with
  | none =>
    rw [biO_n hf]
    exact ⟨fun _ => e2.2.2.1 (p.1 hf), fun _ q => by cases q⟩
  | some a =>
    obtain ⟨p1, p2⟩ := p.2 a hf
    have q := e2.2.2.2 l1 p1
    cases hh : h w with
    | none =>
      rw [biO_m hf hh]
      exact ⟨fun _ => q.1 hh, fun _ q => by cases q⟩
    | some d =>
      obtain ⟨q1, q2⟩ := q.2 d hh
      rw [biO_s hf hh, ← p2, ← q2]
      refine ⟨fun s => (by cases s), fun s hs => ?_⟩
      cases hs
      exact ⟨q1, y l1 q1⟩
theorem cmO_160 {c : Int} (e : c = 160) : ¬ cmO c v u = 0 ↔ v < u := by
  subst e
  unfold cmO
  rw [if_pos rfl]
  split <;> omega
theorem cmO_162 {c : Int} (e : c = 162) : ¬ cmO c v u = 0 ↔ u < v := by
  subst e
  unfold cmO
  rw [if_neg (by decide), if_pos rfl]
  split <;> omega
theorem cmO_161 {c : Int} (a : ¬ c = 160) (b : ¬ c = 162) : ¬ cmO c v u = 0 ↔ v = u := by
  unfold cmO
  rw [if_neg a, if_neg b]
  split <;> omega
/-- the rows of not: d of them, modulo 2 -/
theorem EvT.nt {d n : Int} (e1 : EvT lv bk w g v b2) (v01 : v = 0 ∨ v = 1) (nd : n = d) (d01 : d = 0 ∨ d = 1) (er : (v = n → r = 0) ∧ (¬ v = n → r = 1)) : EvT lv bk w (ntC d g) r b2 := by
  refine ⟨e1.1, e1.2.1, fun l1 k0 => ?_⟩
  have p := e1.2.2 l1 k0
  unfold ntC
  cases hg : g w with
  | none => exact ⟨fun _ => p.1 hg, fun _ q => by cases q⟩
  | some a =>
    obtain ⟨p1, p2⟩ := p.2 a hg
    have r01 : r = 0 ∨ r = 1 := by
      by_cases c : v = n
      · exact Or.inl (er.1 c)
      · exact Or.inr (er.2 c)
    have key : ∀ s, (if d = 1 then (if a = 0 then some 1 else some 0) else some a) = some s → (r = 1 ↔ ¬ s = 0) := fun s hs => by
      rcases d01 with d0 | d1
      · rw [if_neg (by omega)] at hs
        cases hs
        refine ⟨fun q => ?_, fun q => ?_⟩
        · refine p2.mp ?_
          rcases v01 with z | z
          · have := er.1 (by omega); omega
          · exact z
        · exact er.2 (by have := p2.mpr q; omega)
      · rw [if_pos d1] at hs
        by_cases a0 : a = 0
        · rw [if_pos a0] at hs
          cases hs
          refine ⟨fun _ => by decide, fun _ => er.2 (fun q => ?_)⟩
          exact (p2.mp (by omega)) a0
        · rw [if_neg a0] at hs
          cases hs
          have v1 := p2.mpr a0
          have z := er.1 (by omega)
          exact ⟨fun q => by omega, fun q => absurd rfl q⟩
    refine ⟨fun q => ?_, fun s hs => ⟨p1, key s hs⟩⟩
    exfalso
    have q : (if d = 1 then (if a = 0 then some 1 else some 0) else some a) = none := q
    revert q
    split
    · split <;> exact fun q => by cases q
    · exact fun q => by cases q
/-- or: l2 is whether what stands behind is live -/
theorem EvT.or {l2 : Int} (e1 : EvT lv bk w f v b1) (e2 : EvT l2 b1 w h u b2) (v01 : v = 0 ∨ v = 1) (el : (lv = 1 → v = 0 → l2 = 1) ∧ (lv = 0 ∨ ¬ v = 0 → l2 = 0)) (er : (v = 0 → r = u) ∧ (¬ v = 0 → r = v)) : EvT lv bk w (orC f h) r b2 := by
  refine ⟨fun l0 => (e2.1 (el.2 (Or.inl l0))).trans (e1.1 l0), fun k => e2.2.1 (e1.2.1 k), fun l1 k0 => ?_⟩
  have p := e1.2.2 l1 k0
  unfold orC
  cases hf : f w with
  | none => exact ⟨fun _ => e2.2.1 (p.1 hf), fun _ q => by cases q⟩
  | some a =>
    obtain ⟨p1, p2⟩ := p.2 a hf
    show ((if a = 0 then h w else some a) = none → b2 = 1) ∧ ∀ s, (if a = 0 then h w else some a) = some s → b2 = 0 ∧ (r = 1 ↔ ¬ s = 0)
    by_cases a0 : a = 0
    · rw [if_pos a0]
      have v0 : v = 0 := by
        rcases v01 with z | z
        · exact z
        · exact absurd a0 (p2.mp z)
      rw [er.1 v0]
      exact e2.2.2 (el.1 l1 v0) p1
    · rw [if_neg a0]
      have v1 := p2.mpr a0
      refine ⟨fun q => (by cases q), fun s hs => ?_⟩
      cases hs
      refine ⟨(e2.1 (el.2 (Or.inr (by omega)))).trans p1, ?_⟩
      rw [er.2 (by omega)]
      exact p2
/-- and -/
theorem EvT.an {l2 : Int} (e1 : EvT lv bk w f v b1) (e2 : EvT l2 b1 w h u b2) (v01 : v = 0 ∨ v = 1) (el : (lv = 1 → ¬ v = 0 → l2 = 1) ∧ (lv = 0 ∨ v = 0 → l2 = 0)) (er : (v = 0 → r = 0) ∧ (¬ v = 0 → r = u)) : EvT lv bk w (anC f h) r b2 := by
  refine ⟨fun l0 => (e2.1 (el.2 (Or.inl l0))).trans (e1.1 l0), fun k => e2.2.1 (e1.2.1 k), fun l1 k0 => ?_⟩
  have p := e1.2.2 l1 k0
  unfold anC
  cases hf : f w with
  | none => exact ⟨fun _ => e2.2.1 (p.1 hf), fun _ q => by cases q⟩
  | some a =>
    obtain ⟨p1, p2⟩ := p.2 a hf
    show ((if a = 0 then some a else h w) = none → b2 = 1) ∧ ∀ s, (if a = 0 then some a else h w) = some s → b2 = 0 ∧ (r = 1 ↔ ¬ s = 0)
    by_cases a0 : a = 0
    · rw [if_pos a0]
      have v0 : v = 0 := by
        rcases v01 with z | z
        · exact z
        · exact absurd a0 (p2.mp z)
      refine ⟨fun q => (by cases q), fun s hs => ?_⟩
      cases hs
      refine ⟨(e2.1 (el.2 (Or.inr v0))).trans p1, fun q => ?_, fun q => absurd a0 q⟩
      have := er.1 v0
      omega
    · rw [if_neg a0]
      have v1 := p2.mpr a0
      rw [er.2 (by omega)]
      exact e2.2.2 (el.1 l1 (by omega)) p1
end Evs
/-! parts, brackets, tests, clauses as they are asked -/
def PoD (B Sm : DR) (C : Int → Int) : DR := fun s t2 g => (C s = 140 ∧ B s t2 g) ∨ (¬ C s = 140 ∧ ∃ t1 a b, Sm s t1 a ∧ opC (C t1) ∧ Sm (t1 + 1) t2 b ∧ g = cmC (C t1) a b)
def PsD (C V : Int → Int) (k : Nat) : DR := PoD (BtD C V k) (SmD C V k) C
def Vd (K : Int → Int) (x : Int) : Int := if 0 ≤ x ∧ x < 2400 then K (2470 + x) else 0
section Asks
variable {B Sm : DR} {C V w : Int → Int} {s t e z y k : Int} {f g : DV}
theorem PaD.br (h : PaD B C V t e f) (c : C t = 191) : B t e f := by
  rcases h with ⟨_, h⟩ | ⟨n, _⟩
  · exact h
  · exact absurd c n
theorem PaD.lf (h : PaD B C V t e f) (n : ¬ C t = 191) : LfD C V t e f := by
  rcases h with ⟨c, _⟩ | ⟨_, h⟩
  · exact absurd c n
  · exact h
theorem BsD.sub {k : Nat} (h : BsD C V (k + 1) t e f) : SmD C V k (t + 1) (e - 1) f ∧ t + 1 < e - 1 := by
  obtain ⟨t1, h1, _, h3⟩ := h
  have u := IncD_sm k _ _ _ h1
  rw [show e - 1 = t1 by omega]
  exact ⟨h1, u⟩
theorem BtD.sub {k : Nat} (h : BtD C V (k + 1) t e f) : TeD C V k (t + 1) (e - 1) f ∧ t + 1 < e - 1 := by
  obtain ⟨t1, h1, _, h3⟩ := h
  have u := IncD_te k _ _ _ h1
  rw [show e - 1 = t1 by omega]
  exact ⟨h1, u⟩
/-- a leaf by its code -/
theorem LfD.n (h : LfD C V t e f) (c : C t = 50) (ez : V t = z) : e = t + 1 ∧ 0 ≤ z ∧ z ≤ 1000 ∧ f = fun _ => some z := by
  obtain ⟨h1, h2⟩ := h
  rcases h2 with ⟨_, a, b, h3⟩ | ⟨a, b, _⟩
  · rw [ez] at a b h3
    exact ⟨h1, a, b, h3⟩
  · omega
theorem LfD.wd (h : LfD C V t e f) (ec : C t = z) (n : ¬ z = 50) : e = t + 1 ∧ 8 ≤ z ∧ z ≤ 15 ∧ f = fun w => some (w (z - 8)) := by
  obtain ⟨h1, h2⟩ := h
  rw [ec] at h2
  rcases h2 with ⟨a, _⟩ | ⟨a, b, h3⟩
  · exact absurd a n
  · exact ⟨h1, a, b, h3⟩
theorem LfD.ee (h : LfD C V t e f) : e = t + 1 := h.1
theorem PlD.opn {k : Nat} (h : PnD C V k t e f) : ∃ s g, t ≤ s ∧ NtX C t s ∧ ¬ C s = 7 ∧ s < e ∧ f = ntC ((s - t) % 2) g ∧ PsD C V k s e g := by
  obtain ⟨s, g, s0, s1, s2, s3, h⟩ := h
  refine ⟨s, g, s0, s1, s2, ?_, s3, h⟩
  rcases h with ⟨_, h⟩ | ⟨_, t1, a, b, h1, _, h2, _⟩
  · exact IncD_bt k _ _ _ h
  · have u := IncD_sm k _ _ _ h1
    have v := IncD_sm k _ _ _ h2
    omega
theorem PsD.br {k : Nat} (h : PsD C V k t e f) (c : C t = 140) : BtD C V k t e f := by
  rcases h with ⟨_, h⟩ | ⟨n, _⟩
  · exact h
  · exact absurd c n
theorem PsD.two {k : Nat} (h : PsD C V k t e f) (n : ¬ C t = 140) : ∃ m a b, SmD C V k t m a ∧ t < m ∧ opC (C m) ∧ m + 1 < e ∧ SmD C V k (m + 1) e b ∧ f = cmC (C m) a b := by
  rcases h with ⟨c, _⟩ | ⟨_, t1, a, b, h1, o, h2, q⟩
  · exact absurd c n
  · exact ⟨t1, a, b, h1, IncD_sm k _ _ _ h1, o, IncD_sm k _ _ _ h2, h2, q⟩
end Asks
/-- a law that stands from s on -/
def LwDa (C V : Int → Int) (En : Int → Prop) (s : Int) (R : VS) : Prop := ∃ t1 k f g m, ClD C V s t1 k f g ∧ LaD C V En m t1 (clV k f g) R
/-- what is still to be asked from go on: a clause, or nothing (go is behind the end) -/
def NxD (C V : Int → Int) (En : Int → Prop) (go : Int) (A R : VS) : Prop := (∃ t1 k f g m, ClD C V go t1 k f g ∧ LaD C V En m t1 (fun w s => clV k f g w (A w s)) R) ∨ (En (go - 1) ∧ R = A)
def NxI (C V : Int → Int) (En : Int → Prop) (w : Int → Int) (go ha le ba tt : Int) (R : VS) : Prop := ∃ A : VS, A w (0, 0, 0, 1) = (ha, le, ba, tt) ∧ NxD C V En go A R
section Nxs
variable {C V w : Int → Int} {En : Int → Prop} {R A : VS} {go ha le ba tt s c k is sm sb r tb ha2 le2 ba2 tt2 y z : Int} {f g : DV}
theorem NxI.of (h : LwDa C V En s R) : NxI C V En w s 0 0 0 1 R := ⟨fun _ s => s, rfl, Or.inl h⟩
theorem ClD.inc {t t2 : Int} (h : ClD C V t t2 k f g) : t < t2 := by
  rcases h with ⟨_, _, t1, h1, h2⟩ | ⟨_, _, _, h2⟩
  · have u := IncD_sm 8 _ _ _ h1
    rcases h2 with ⟨_, h2⟩ | ⟨_, h2, _⟩
    · have v := IncD_te 8 _ _ _ h2
      omega
    · omega
  · rcases h2 with ⟨_, h2⟩ | ⟨_, h2, _⟩
    · have v := IncD_te 8 _ _ _ h2
      omega
    · omega
theorem ClD.hd {t t2 : Int} (h : ClD C V t t2 k f g) : C t = 1 ∨ C t = 2 ∨ C t = 3 := by
  rcases h with h | h
  · exact Or.inl h.1
  · exact Or.inr h.1
theorem NxI.cl (h : NxI C V En w go ha le ba tt R) (n : ¬ En (go - 1)) : ∃ t1 k f g, ClD C V go t1 k f g ∧ go < t1 ∧ (C t1 = 159 ∨ En t1) ∧ ∀ ha2 le2 ba2 tt2, clV k f g w (ha, le, ba, tt) = (ha2, le2, ba2, tt2) → NxI C V En w (t1 + 1) ha2 le2 ba2 tt2 R := by
  obtain ⟨A, hA, h⟩ := h
  rcases h with ⟨t1, k, f, g, m, h1, h2⟩ | h
  · have key : ∀ ha2 le2 ba2 tt2, clV k f g w (ha, le, ba, tt) = (ha2, le2, ba2, tt2) → (fun w s => clV k f g w (A w s)) w (0, 0, 0, 1) = (ha2, le2, ba2, tt2) := fun ha2 le2 ba2 tt2 q => by
      show clV k f g w (A w (0, 0, 0, 1)) = _
      rw [hA]; exact q
    cases m with
    | zero => exact ⟨t1, k, f, g, h1, h1.inc, Or.inr h2.2.1, fun a b c d q => ⟨_, key a b c d q, Or.inr ⟨by rw [show t1 + 1 - 1 = t1 by omega]; exact h2.2.1, h2.2.2⟩⟩⟩
    | succ m =>
      obtain ⟨h3, t2, k2, f2, g2, h4, h5⟩ := h2
      exact ⟨t1, k, f, g, h1, h1.inc, Or.inl h3, fun a b c d q => ⟨_, key a b c d q, Or.inl ⟨t2, k2, f2, g2, m, h4, h5⟩⟩⟩
  · exact absurd h.1 n
theorem NxI.end (h : NxI C V En w go ha le ba tt R) (c : C go = 0) : R w (0, 0, 0, 1) = (ha, le, ba, tt) := by
  obtain ⟨A, hA, h⟩ := h
  rcases h with ⟨t1, k, f, g, m, h1, _⟩ | h
  · have u := h1.hd
    omega
  · rw [h.2]; exact hA
theorem ClD.kc {t t2 : Int} (h : ClD C V t t2 k f g) (e : C t = c) : (c = 1 ∧ k = 1) ∨ ((c = 2 ∨ c = 3) ∧ k = c) := by
  rw [← e]
  rcases h with ⟨a, b, _⟩ | ⟨a, b, _⟩
  · exact Or.inl ⟨a, b⟩
  · exact Or.inr ⟨a, b⟩
/-- a clause takes: its sum, then what stands behind -/
theorem ClD.tk {t t2 : Int} (h : ClD C V t t2 k f g) (e : C t = 1) : ∃ m, SmD C V 8 (t + 1) m f ∧ t + 1 < m ∧ IfD C V m t2 g ∧ m ≤ t2 := by
  rcases h with ⟨_, _, t1, h1, h2⟩ | ⟨a, _⟩
  · refine ⟨t1, h1, IncD_sm 8 _ _ _ h1, h2, ?_⟩
    rcases h2 with ⟨_, h2⟩ | ⟨_, h2, _⟩
    · have v := IncD_te 8 _ _ _ h2
      omega
    · omega
  · omega
theorem ClD.n {t t2 : Int} (h : ClD C V t t2 k f g) (e : ¬ C t = 1) : (f = fun _ => some 0) ∧ IfD C V (t + 1) t2 g ∧ t + 1 ≤ t2 := by
  rcases h with ⟨a, _⟩ | ⟨_, _, h1, h2⟩
  · exact absurd a e
  · refine ⟨h1, h2, ?_⟩
    rcases h2 with ⟨_, h2⟩ | ⟨_, h2, _⟩
    · have v := IncD_te 8 _ _ _ h2
      omega
    · omega
theorem IfD.yy {t t2 : Int} (h : IfD C V t t2 g) (e : C t = 4) : TeD C V 8 (t + 1) t2 g ∧ t + 1 < t2 := by
  rcases h with ⟨_, h⟩ | ⟨a, _⟩
  · exact ⟨h, IncD_te 8 _ _ _ h⟩
  · exact absurd e a
theorem IfD.n {t t2 : Int} (h : IfD C V t t2 g) (e : ¬ C t = 4) : t2 = t ∧ EvT 1 0 w g 1 0 := by
  rcases h with ⟨a, _⟩ | ⟨_, a, b⟩
  · exact absurd a e
  · refine ⟨a, fun q => by omega, fun q => q, fun _ _ => ?_⟩
    rw [b]
    exact ⟨fun q => (by cases q), fun v q => by cases q; exact ⟨rfl, fun _ => by decide, fun _ => rfl⟩⟩
theorem EvS.c0 (e : f = fun _ => some 0) : EvS 1 0 w f 0 0 := ⟨⟨by decide, by decide⟩, fun q => by omega, fun q => q, fun _ _ => by
  rw [e]
  exact ⟨fun q => (by cases q), fun v q => by cases q; exact ⟨rfl, rfl⟩⟩⟩
/-- the clause holds -/
theorem hld_of (a : EvS 1 0 w f sm sb) (b : EvT 1 0 w g r tb) : hld f g w ↔ sb = 0 ∧ tb = 0 ∧ r = 1 := by
  have p := a.2.2.2 rfl rfl
  have q := b.2.2 rfl rfl
  constructor
  · intro h
    obtain ⟨x, v, hx, hv, n⟩ := h
    exact ⟨(p.2 x hx).1, (q.2 v hv).1, (q.2 v hv).2.mpr n⟩
  · intro h
    cases hx : f w with
    | none => have := p.1 hx; omega
    | some x =>
      cases hv : g w with
      | none => have := q.1 hv; omega
      | some v => exact ⟨x, v, hx, hv, (q.2 v hv).2.mp h.2.2⟩
theorem hld_s (a : EvS 1 0 w f sm sb) (h : hld f g w) : f w = some sm := by
  obtain ⟨x, v, hx, _⟩ := h
  rw [hx, (((a.2.2.2 rfl rfl).2 x hx).2)]
theorem clV_of (hc : (c = 1 ∧ k = 1) ∨ ((c = 2 ∨ c = 3) ∧ k = c)) (H : is = 1 ↔ hld f g w) (A : EvS 1 0 w f sm sb) (a : (c = 2 → ha2 = 1) ∧ (¬ c = 2 → ha2 = ha)) (b : (c = 2 → is = 1 → le2 = 1) ∧ (¬ c = 2 ∨ ¬ is = 1 → le2 = le)) (d : (c = 3 → is = 1 → ba2 = 1) ∧ (¬ c = 3 ∨ ¬ is = 1 → ba2 = ba)) (t : (c = 1 → is = 1 → tt2 = clmp sm) ∧ (¬ c = 1 ∨ ¬ is = 1 → tt2 = tt)) : clV k f g w (ha, le, ba, tt) = (ha2, le2, ba2, tt2) := by
  unfold clV
  rcases hc with ⟨c1, k1⟩ | ⟨c1, k1⟩
  · rw [if_pos k1, a.2 (by omega), b.2 (Or.inl (by omega)), d.2 (Or.inl (by omega))]
    by_cases h : hld f g w
    · rw [iF_pos h, t.1 c1 (H.mpr h), hld_s A h]; rfl
    · rw [iF_neg h, t.2 (Or.inr (fun q => h (H.mp q)))]
  · rw [if_neg (by omega), t.2 (Or.inl (by omega))]
    rcases c1 with c1 | c1
    · rw [if_pos (by omega), a.1 c1, d.2 (Or.inl (by omega))]
      by_cases h : hld f g w
      · rw [iF_pos h, b.1 c1 (H.mpr h)]
      · rw [iF_neg h, b.2 (Or.inr (fun q => h (H.mp q)))]
    · rw [if_neg (by omega), a.2 (by omega), b.2 (Or.inl (by omega))]
      by_cases h : hld f g w
      · rw [iF_pos h, d.1 c1 (H.mpr h)]
      · rw [iF_neg h, d.2 (Or.inr (fun q => h (H.mp q)))]
end Nxs
/-- R is what the law in force tells, as it is kept -/
def LwM (K : Int → Int) (R : VS) : Prop := (K 63 = -1 ∧ R = fun _ s => s) ∨ (0 ≤ K 63 ∧ LwDa (Cd K (400 * K 63 + K (64 + K 63))) (Vd K) (fun t => t = 400 * K 63 + K (64 + K 63)) (400 * K 63) R)
/-- what asking comes to -/
def VdX (R : VS) (B : Int → Int) (p dy l r tl tt : Int) : Prop := (tl = 1 → vQ R B p dy l r = tt) ∧ (¬ tl = 1 → vQ R B p dy l r = 0)
section Vdx
variable {K B w f0 f1 f2 f3 f4 f5 f6 f7 f8 : Int → Int} {R : VS} {p dy l r a b c d x tl tt ha le ba t0 g ge s z : Int}
theorem wdE_of (e1 : f1 = up f0 0 l) (e2 : f2 = up f1 1 r) (e3 : f3 = up f2 2 a) (e4 : f4 = up f3 3 b) (e5 : f5 = up f4 4 x) (e6 : f6 = up f5 5 c) (e7 : f7 = up f6 6 p) (e8 : f8 = up f7 7 d) (ex : x = r - l) : EqN f8 (wdF l r a b c p d) 8 := fun j j0 j8 => by
  rw [e8, e7, e6, e5, e4, e3, e2, e1, ex]
  have q : j = 0 ∨ j = 1 ∨ j = 2 ∨ j = 3 ∨ j = 4 ∨ j = 5 ∨ j = 6 ∨ j = 7 := by omega
  rcases q with q | q | q | q | q | q | q | q <;> subst q <;> rfl
theorem vdR_of (e : R w (0, 0, 0, 1) = (ha, le, ba, tt)) (y : (if ha = 1 then le = 1 else w 4 = 1) ∧ ¬ ba = 1) : vdR R w = tt := by
  unfold vdR
  rw [e]
  exact if_pos y
theorem vdR_no (e : R w (0, 0, 0, 1) = (ha, le, ba, tt)) (y : ¬ ((if ha = 1 then le = 1 else w 4 = 1) ∧ ¬ ba = 1)) : vdR R w = 0 := by
  unfold vdR
  rw [e]
  exact if_neg y
/-- no law in force: places side by side -/
theorem VdX.n (h : R = fun _ s => s) (e : (tl = 1 → r = l + 1) ∧ (¬ tl = 1 → ¬ r = l + 1)) (et : tt = 1) : VdX R B p dy l r tl tt := by
  have q : R (wdF l r (B l) (B r) (B 0) p dy) (0, 0, 0, 1) = (0, 0, 0, 1) := by rw [h]
  have w4 : wdF l r (B l) (B r) (B 0) p dy 4 = r - l := rfl
  refine ⟨fun t => ?_, fun t => ?_⟩
  · rw [et]
    exact vdR_of q ⟨by rw [if_neg (by decide), w4]; have := e.1 t; omega, by decide⟩
  · exact vdR_no q (fun y => by
      have y1 := y.1
      rw [if_neg (by decide), w4] at y1
      exact e.2 t (by omega))
theorem VdX.y (e : R (wdF l r a b c p dy) (0, 0, 0, 1) = (ha, le, ba, tt)) (ea : a = B l) (eb : b = B r) (ec : c = B 0) (t0e : t0 = 1 ↔ r = l + 1) (y : tl = 1 ↔ ((ha = 1 → le = 1) ∧ (¬ ha = 1 → t0 = 1)) ∧ ¬ ba = 1) : VdX R B p dy l r tl tt := by
  have w4 : wdF l r a b c p dy 4 = r - l := rfl
  have k : ((if ha = 1 then le = 1 else wdF l r a b c p dy 4 = 1) ∧ ¬ ba = 1) ↔ tl = 1 := by
    rw [y, w4]
    by_cases h : ha = 1
    · rw [if_pos h]
      exact ⟨fun q => ⟨⟨fun _ => q.1, fun n => absurd h n⟩, q.2⟩, fun q => ⟨q.1.1 h, q.2⟩⟩
    · rw [if_neg h]
      exact ⟨fun q => ⟨⟨fun n => absurd n h, fun _ => t0e.mpr (by have := q.1; omega)⟩, q.2⟩, fun q => ⟨by have := t0e.mp (q.1.2 h); omega, q.2⟩⟩
  unfold VdX vQ vD
  rw [← ea, ← eb, ← ec]
  exact ⟨fun t => vdR_of e (k.mpr t), fun t => vdR_no e (fun q => t (k.mp q))⟩
theorem LwM.n (h : LwM K R) (e : K 63 = -1) : R = fun _ s => s := by
  rcases h with h | h
  · exact h.2
  · have := h.1
    omega
theorem LwM.y (h : LwM K R) (e : K 63 = x) (x0 : 0 ≤ x) (es : s = 400 * x) (ez : K (64 + x) = z) (eg : ge = s + z) : LwDa (Cd K ge) (Vd K) (fun t => t = ge) s R := by
  rcases h with h | h
  · have := h.1
    omega
  · have q := h.2
    rw [e, ez, ← es, ← eg] at q
    exact q
end Vdx
theorem zo_of {x : Int} (a : 0 ≤ x) (b : x ≤ 1) : x = 0 ∨ x = 1 := by omega
theorem cd_at {C : Int → Int} {a b z : Int} (e : a = b) (h : C b = z) : C a = z := by rw [e]; exact h
theorem BsD.pos {C V : Int → Int} {t e : Int} {f : DV} {k : Nat} (h : BsD C V k t e f) : ∃ j : Nat, k = j + 1 ∧ SmD C V j (t + 1) (e - 1) f ∧ t + 1 < e - 1 := by
  cases k with
  | zero => exact absurd h id
  | succ j => exact ⟨j, rfl, BsD.sub h⟩
theorem BtD.pos {C V : Int → Int} {t e : Int} {f : DV} {k : Nat} (h : BtD C V k t e f) : ∃ j : Nat, k = j + 1 ∧ TeD C V j (t + 1) (e - 1) f ∧ t + 1 < e - 1 := by
  cases k with
  | zero => exact absurd h id
  | succ j => exact ⟨j, rfl, BtD.sub h⟩
theorem EvS.lfn {C K w : Int → Int} {t e c i x lv bk : Int} {f : DV} (h : LfD C (Vd K) t e f) (t0 : 0 ≤ t) (t1 : t < 2400) (ec : C t = c) (c50 : c = 50) (ei : i = 2470 + t) (ev : K i = x) (l : lv = 1) (k : bk = 0) : EvS lv bk w f x bk := by
  have q := h.n (ec.trans c50) (show Vd K t = x by unfold Vd; rw [if_pos ⟨t0, t1⟩, ← ei]; exact ev)
  exact EvS.lf1 q.2.2.2 q.2.1 q.2.2.1 l k
theorem EvS.lfw {C V aq w : Int → Int} {t e c i x lv bk : Int} {f : DV} (h : LfD C V t e f) (ec : C t = c) (n : ¬ c = 50) (q : EqN aq w 8) (o : Rg w 8 (-1000000000) 1000000000) (ei : i = c - 8) (ev : aq i = x) (l : lv = 1) (k : bk = 0) : EvS lv bk w f x bk := by
  have p := h.wd ec n
  have e2 : w (c - 8) = x := by
    have u := q (c - 8) (by omega) (by omega)
    rw [← u, ← ei]; exact ev
  have b := o (c - 8) (by omega) (by omega)
  rw [e2] at b
  exact EvS.lf2 p.2.2.2 e2 b.1 b.2 l k
theorem Cd_lt {K : Int → Int} {ge x z : Int} (h : Cd K ge x = z) (n : ¬ z = 0) : x < ge := by
  by_cases q : x < ge
  · exact q
  · exact absurd (h.symm.trans (Cd_out (by omega))) n
theorem wdF_rg {l r a b c p d : Int} (l0 : 0 ≤ l) (l1 : l ≤ 7) (r0 : 0 ≤ r) (r1 : r ≤ 7) (a0 : 0 ≤ a) (a1 : a ≤ 7) (b0 : 0 ≤ b) (b1 : b ≤ 7) (c0 : 0 ≤ c) (c1 : c ≤ 7) (p0 : 0 ≤ p) (p1 : p ≤ 7) (d0 : 0 ≤ d) (d1 : d ≤ 99) : Rg (wdF l r a b c p d) 8 (-1000000000) 1000000000 := fun j j0 j8 => by
  have q : j = 0 ∨ j = 1 ∨ j = 2 ∨ j = 3 ∨ j = 4 ∨ j = 5 ∨ j = 6 ∨ j = 7 := by omega
  rcases q with q | q | q | q | q | q | q | q <;> subst q
  · show -1000000000 ≤ l ∧ l ≤ 1000000000; omega
  · show -1000000000 ≤ r ∧ r ≤ 1000000000; omega
  · show -1000000000 ≤ a ∧ a ≤ 1000000000; omega
  · show -1000000000 ≤ b ∧ b ≤ 1000000000; omega
  · show -1000000000 ≤ r - l ∧ r - l ≤ 1000000000; omega
  · show -1000000000 ≤ c ∧ c ≤ 1000000000; omega
  · show -1000000000 ≤ p ∧ p ≤ 1000000000; omega
  · show -1000000000 ≤ d ∧ d ≤ 1000000000; omega
theorem clmp_1 {x : Int} (h : x < 1) : 1 = clmp x := (if_pos h).symm
theorem clmp_99 {x : Int} (h : 99 < x) : 99 = clmp x := by
  unfold clmp
  rw [if_neg (by omega), if_pos h]
theorem clmp_m {x : Int} (h : 1 ≤ x) (h2 : x ≤ 99) : x = clmp x := by
  unfold clmp
  rw [if_neg (by omega), if_neg (by omega)]
