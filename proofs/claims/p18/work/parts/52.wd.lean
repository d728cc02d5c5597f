/-! the houses that fit the clues -/
def ftP (es : Int → jES) (ca cb : Int → Int) (n h : Int) : Prop := ∀ k, 0 ≤ k → k < n → (bfZ es (ca k)).1 h = cb k
/-- how many of the first h are set -/
noncomputable def cT (T : Int → Int) (h : Int) : Int := cntP (fun y => T y = 1) h.toNat
noncomputable def ftN (es : Int → jES) (ca cb : Int → Int) (c m : Int) : Int := cntP (ftP es ca cb c) m.toNat
/-- the one of those below m that has i in front of it -/
def NtP (P : Int → Prop) (m i r : Int) : Prop := 0 ≤ r ∧ r < m ∧ P r ∧ cntP P r.toNat = i
noncomputable def ftF (es : Int → jES) (ca cb : Int → Int) (c m i : Int) : Int := if i = -1 then ftN es ca cb c m else if 0 ≤ i ∧ i < ftN es ca cb c m then the (NtP (ftP es ca cb c) m i) else -1
def FtL (es : Int → jES) (ca cb : Int → Int) (m k : Int) (T : Int → Int) : Prop := ∀ h, 0 ≤ h → h < m → (0 ≤ T h ∧ T h ≤ 1) ∧ (T h = 1 ↔ ftP es ca cb k h)
def FtM (es : Int → jES) (ca cb : Int → Int) (m k h : Int) (T : Int → Int) : Prop := ∀ y, 0 ≤ y → y < m → (0 ≤ T y ∧ T y ≤ 1) ∧ (y < h → (T y = 1 ↔ ftP es ca cb (k + 1) y)) ∧ (h ≤ y → (T y = 1 ↔ ftP es ca cb k y))
/-- v: whether it is set, and as far as told -/
def FtV (T F : Int → Int) (h b v : Int) : Prop := (v = 1 ∧ T h = 1 ∧ F h = b) ∨ (v = 0 ∧ ¬ (T h = 1 ∧ F h = b))
/-- those that are set, in a row -/
def FtC (T : Int → Int) (m h n : Int) (G : Int → Int) : Prop := n = cT T h ∧ ∀ j, 0 ≤ j → j < n → 0 ≤ G j ∧ G j < m ∧ T (G j) = 1 ∧ cT T (G j) = j
def FtE (es : Int → jES) (ca cb : Int → Int) (c m n : Int) (T G : Int → Int) : Prop := FtL es ca cb m c T ∧ FtC T m m n G
section Fts
variable {es : Int → jES} {ca cb ca2 cb2 T T2 F G G2 W O : Int → Int} {m k h n v b c i r x y z z2 w r0 : Int} {P Q : Int → Prop}
theorem cntP_nn : ∀ n : Nat, 0 ≤ cntP P n
  | 0 => Int.le_refl 0
  | n + 1 => by
    have a := cntP_nn n
    show 0 ≤ cntP P n + iF (P n) 1 0
    by_cases p : P n
    · rw [iF_pos p]; omega
    · rw [iF_neg p]; omega
theorem cntP_le {a : Nat} : ∀ n : Nat, a ≤ n → cntP P a ≤ cntP P n
  | 0, l => by
    rw [show a = 0 by omega]
    exact Int.le_refl _
  | n + 1, l => by
    by_cases e : a = n + 1
    · rw [e]
      exact Int.le_refl _
    · have u := cntP_le (a := a) n (by omega)
      show cntP P a ≤ cntP P n + iF (P n) 1 0
      by_cases p : P n
      · rw [iF_pos p]; omega
      · rw [iF_neg p]; omega
theorem cntP_y {y : Int} (y0 : 0 ≤ y) (p : P y) : cntP P (y + 1).toNat = cntP P y.toNat + 1 := by
  rw [show (y + 1).toNat = y.toNat + 1 by omega]
  show cntP P y.toNat + iF (P ((y.toNat : Nat) : Int)) 1 0 = _
  rw [iF_pos (by rw [show ((y.toNat : Nat) : Int) = y by omega]; exact p)]
theorem cntP_n {y : Int} (y0 : 0 ≤ y) (p : ¬ P y) : cntP P (y + 1).toNat = cntP P y.toNat := by
  rw [show (y + 1).toNat = y.toNat + 1 by omega]
  show cntP P y.toNat + iF (P ((y.toNat : Nat) : Int)) 1 0 = _
  rw [iF_neg (by rw [show ((y.toNat : Nat) : Int) = y by omega]; exact p)]
  omega
theorem NtP.one (a b : Int) (p : NtP P m i a) (q : NtP P m i b) : a = b := by
  rcases Int.lt_trichotomy a b with l | l | l
  · have u := cntP_y p.1 p.2.2.1
    have v := cntP_le (P := P) (a := (a + 1).toNat) b.toNat (by omega)
    have p4 := p.2.2.2
    have q4 := q.2.2.2
    omega
  · exact l
  · have u := cntP_y q.1 q.2.2.1
    have v := cntP_le (P := P) (a := (b + 1).toNat) a.toNat (by omega)
    have p4 := p.2.2.2
    have q4 := q.2.2.2
    omega
theorem cT_0 : cT T 0 = 0 := rfl
theorem cT_y (h0 : 0 ≤ h) (e : T h = z) (z1 : z = 1) : cT T (h + 1) = cT T h + 1 := cntP_y (P := fun y => T y = 1) h0 (e.trans z1)
theorem cT_n (h0 : 0 ≤ h) (e : T h = z) (z1 : ¬ z = 1) : cT T (h + 1) = cT T h := cntP_n (P := fun y => T y = 1) h0 (by rw [e]; exact z1)
theorem cT_nn : 0 ≤ cT T h := cntP_nn _
theorem cT_le (a : k ≤ h) : cT T k ≤ cT T h := cntP_le _ (by omega)
theorem FtL_0 (e : T = fillf T2 0 m 1) : FtL es ca cb m 0 T := fun h h0 h1 => by
  rw [fill_at e h0 h1]
  exact ⟨⟨by decide, by decide⟩, fun _ k a b => by omega, fun _ => rfl⟩
theorem FtL.start (w : FtL es ca cb m k T) : FtM es ca cb m k 0 T := fun y y0 y1 => ⟨(w y y0 y1).1, fun q => by omega, fun _ => (w y y0 y1).2⟩
theorem FtM.end (w : FtM es ca cb m k h T) (e : h = m) (en : n = k + 1) : FtL es ca cb m n T := fun y y0 y1 => by
  rw [en]
  exact ⟨(w y y0 y1).1, (w y y0 y1).2.1 (by omega)⟩
theorem ftP_suc (k0 : 0 ≤ k) : ftP es ca cb (k + 1) y ↔ ftP es ca cb k y ∧ (bfZ es (ca k)).1 y = cb k := ⟨fun h => ⟨fun j a b => h j a (by omega), h k k0 (by omega)⟩, fun h j a b => by
  by_cases e : j = k
  · rw [e]; exact h.2
  · exact h.1 j a (by omega)⟩
theorem FtM.go (w : FtM es ca cb m k h T) (k0 : 0 ≤ k) (h0 : 0 ≤ h) (h1 : h < m) (f : F h = (bfZ es (ca k)).1 h) (eb : cb k = b) (q : FtV T F h b v) (e : T2 = up T h v) (en : n = h + 1) : FtM es ca cb m k n T2 := fun y y0 y1 => by
  rw [e, en]
  by_cases g : y = h
  · rw [g, up_same]
    have u := (w h h0 h1).2.2 (Int.le_refl _)
    have s := ftP_suc (es := es) (ca := ca) (cb := cb) (y := h) k0
    rw [← f, eb, ← u] at s
    refine ⟨?_, fun _ => ?_, fun l => by omega⟩
    · rcases q with q | q
      · rw [q.1]; exact ⟨by decide, by decide⟩
      · rw [q.1]; exact ⟨by decide, by decide⟩
    · rw [s]
      rcases q with q | q
      · exact ⟨fun _ => q.2, fun _ => q.1⟩
      · exact ⟨fun p => by rw [q.1] at p; exact absurd p (by decide), fun p => absurd p q.2⟩
  · rw [up_ne g]
    have u := w y y0 y1
    exact ⟨u.1, fun l => u.2.1 (by omega), fun l => u.2.2 (by omega)⟩
theorem FtV.yes (e : T h = z) (z1 : z = 1) (f : F h = w) (g : w = b) (ev : v = 1) : FtV T F h b v := Or.inl ⟨ev, e.trans z1, f.trans g⟩
theorem FtV.n1 (e : T h = z) (z1 : ¬ z = 1) (ev : v = 0) : FtV T F h b v := Or.inr ⟨ev, fun q => z1 (e.symm.trans q.1)⟩
theorem FtV.n2 (f : F h = w) (g : ¬ w = b) (ev : v = 0) : FtV T F h b v := Or.inr ⟨ev, fun q => g (f.symm.trans q.2)⟩
theorem FtV.cg {F2 : Int → Int} (q : FtV T F h b v) (e : F2 = F) : FtV T F2 h b v := e ▸ q
theorem FtC_0 : FtC T m 0 0 G := ⟨rfl, fun j a b => by omega⟩
theorem FtC.yes (w : FtC T m h n G) (h0 : 0 ≤ h) (h1 : h < m) (e : T h = z) (z1 : z = 1) (eg : G2 = up G n h) (ei : i = n + 1) (ek : k = h + 1) : FtC T m k i G2 := by
  obtain ⟨w1, w2⟩ := w
  refine ⟨by rw [ek, cT_y h0 e z1, ei, w1], fun j a b => ?_⟩
  rw [eg]
  by_cases g : j = n
  · rw [g, up_same]
    exact ⟨h0, h1, e.trans z1, w1.symm⟩
  · rw [up_ne g]
    exact w2 j a (by omega)
theorem FtC.no (w : FtC T m h n G) (h0 : 0 ≤ h) (e : T h = z) (z1 : ¬ z = 1) (ek : k = h + 1) : FtC T m k n G := ⟨by rw [ek, cT_n h0 e z1]; exact w.1, w.2⟩
theorem FtL.cnt (w : FtL es ca cb m c T) (h0 : h ≤ m) : cT T h = cntP (ftP es ca cb c) h.toNat := cntP_congr _ (fun y y0 y1 => (w y y0 (by omega)).2)
theorem ftF_a (w : FtL es ca cb m c T) (e : x = -1) (r1 : r = cT T m) : r = ftF es ca cb c m x := by
  unfold ftF
  rw [if_pos e, r1]
  exact w.cnt (Int.le_refl _)
theorem ftF_y (w : FtL es ca cb m c T) (x0 : 0 ≤ x) (x1 : x < cT T m) (r0 : 0 ≤ r) (r1 : r < m) (e : T r = z) (z1 : z = 1) (q : cT T r = x) : r = ftF es ca cb c m x := by
  have a := w.cnt (Int.le_refl m)
  unfold ftF
  rw [if_neg (by omega), if_pos ⟨x0, by unfold ftN; omega⟩]
  refine the_of ⟨r0, r1, ?_, ?_⟩ NtP.one
  · exact (w r r0 r1).2.mp (e.trans z1)
  · rw [← w.cnt (by omega)]
    exact q
theorem ftF_o (w : FtL es ca cb m c T) (n1 : ¬ x = -1) (o : x < 0 ∨ cT T m ≤ x) : -1 = ftF es ca cb c m x := by
  have a := w.cnt (Int.le_refl m)
  unfold ftF
  rw [if_neg n1, if_neg (by unfold ftN; omega)]
theorem FtE.at (w : FtE es ca cb c m n T G) (x0 : 0 ≤ x) (x1 : x < n) (e : G x = r) : r = ftF es ca cb c m x := by
  have u := w.2.2 x x0 x1
  rw [e] at u
  exact ftF_y w.1 x0 (by rw [← w.2.1]; exact x1) u.1 u.2.1 u.2.2.1 rfl u.2.2.2
theorem FtE.all (w : FtE es ca cb c m n T G) (e : x = -1) : n = ftF es ca cb c m x := ftF_a w.1 e w.2.1
theorem FtE.out (w : FtE es ca cb c m n T G) (n1 : ¬ x = -1) (o : x < 0 ∨ n ≤ x) : -1 = ftF es ca cb c m x := ftF_o w.1 n1 (by rw [← w.2.1]; exact o)
theorem ftP_cg (e1 : ∀ k, 0 ≤ k → k < c → ca k = ca2 k) (e2 : ∀ k, 0 ≤ k → k < c → cb k = cb2 k) : ftP es ca cb c = ftP es ca2 cb2 c := by
  funext y
  exact propext ⟨fun h k a b => by rw [← e1 k a b, ← e2 k a b]; exact h k a b, fun h k a b => by rw [e1 k a b, e2 k a b]; exact h k a b⟩
theorem ftF_cg (e1 : ∀ k, 0 ≤ k → k < c → ca k = ca2 k) (e2 : ∀ k, 0 ≤ k → k < c → cb k = cb2 k) : ftF es ca cb c m x = ftF es ca2 cb2 c m x := by
  unfold ftF ftN
  rw [ftP_cg e1 e2]
theorem FtE.ess {es2 : Int → jES} (w : FtE es ca cb c m n T G) (e : es2 = es) : FtE es2 ca cb c m n T G := by
  rw [e]
  exact w
end Fts
theorem FtE.rgv {es : Int → jES} {ca cb T G : Int → Int} {c m n x r : Int} (w : FtE es ca cb c m n T G) (x0 : 0 ≤ x) (x1 : x < n) (e : G x = r) : 0 ≤ r ∧ r < m := by
  have u := w.2.2 x x0 x1
  rw [e] at u
  exact ⟨u.1, u.2.1⟩
theorem ftF_m {es : Int → jES} {ca cb : Int → Int} {c d m n x : Int} (e1 : c = d) (e2 : m = n) : ftF es ca cb c m x = ftF es ca cb d n x := by rw [e1, e2]
