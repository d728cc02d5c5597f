/-! rows that hold a walk -/
def WkC (m : Int) (s : jBF) (F W O : Int → Int) (r : Int) : Prop := r = s.2.2.2 ∧ (∀ y, 0 ≤ y → y < m → F y = s.1 y) ∧ (∀ y, 0 ≤ y → y < m → ¬ F y = -1 → W y = s.2.1 y) ∧ ∀ j, 0 ≤ j → j < r → O j = s.2.2.1 j
def WkE (es : Int → jES) (m x : Int) (F W O : Int → Int) (r : Int) : Prop := ∃ n : Nat, BfE es x n ∧ WkC m (bfs es x n) F W O r
section Wks
variable {m r h y x v c : Int} {s : jBF} {F W O F2 W2 O2 : Int → Int} {es : Int → jES} {n : Nat}
theorem WkC.new (w : WkC m s F W O r) (r0 : 0 ≤ r) (h0 : 0 ≤ h) (h1 : h < m) (y0 : 0 ≤ y) (y1 : y < m) (e : F y = -1) (ev : v = F h + 1) (e1 : F2 = up F y v) (e2 : W2 = up W y 0) (e3 : O2 = up O r y) : WkC m (bfn h y s) F2 W2 O2 (r + 1) := by
  obtain ⟨w1, w2, w3, w4⟩ := w
  have q : bfn h y s = (up s.1 y (s.1 h + 1), up s.2.1 y 0, up s.2.2.1 s.2.2.2 y, s.2.2.2 + 1) := if_pos ((w2 y y0 y1).symm.trans e)
  rw [q, e1, e2, e3]
  refine ⟨by rw [w1], fun z z0 z1 => ?_, fun z z0 z1 k => ?_, fun j j0 j1 => ?_⟩
  · show up F y v z = up s.1 y (s.1 h + 1) z
    by_cases g : z = y
    · rw [g, up_same, up_same, ev, w2 h h0 h1]
    · rw [up_ne g, up_ne g]
      exact w2 z z0 z1
  · show up W y 0 z = up s.2.1 y 0 z
    by_cases g : z = y
    · rw [g, up_same, up_same]
    · rw [up_ne g] at k
      rw [up_ne g, up_ne g]
      exact w3 z z0 z1 k
  · show up O r y j = up s.2.2.1 s.2.2.2 y j
    rw [← w1]
    by_cases g : j = r
    · rw [g, up_same, up_same]
    · rw [up_ne g, up_ne g]
      exact w4 j j0 (by omega)
theorem WkC.old (w : WkC m s F W O r) (y0 : 0 ≤ y) (y1 : y < m) (e : ¬ F y = -1) : WkC m (bfn h y s) F W O r := by
  have q : bfn h y s = s := if_neg (fun k => e ((w.2.1 y y0 y1).trans k))
  rw [q]
  exact w
theorem WkC.cnt (w : WkC m s F W O r) (h0 : 0 ≤ h) (h1 : h < m) (y0 : 0 ≤ y) (y1 : y < m) (hf : 0 ≤ F h) (e : F y = F h + 1) (ec : c = min 1000000000 (W y + W h)) (e2 : W2 = up W y c) : WkC m (bfc h y s) F W2 O r := by
  obtain ⟨w1, w2, w3, w4⟩ := w
  have q : bfc h y s = (s.1, up s.2.1 y (min 1000000000 (s.2.1 y + s.2.1 h)), s.2.2) := if_pos (by rw [← w2 y y0 y1, ← w2 h h0 h1]; exact e)
  rw [q, e2]
  refine ⟨w1, w2, fun z z0 z1 k => ?_, w4⟩
  show up W y c z = up s.2.1 y _ z
  by_cases g : z = y
  · rw [g, up_same, up_same, ec, w3 y y0 y1 (by omega), w3 h h0 h1 (by omega)]
  · rw [up_ne g, up_ne g]
    exact w3 z z0 z1 k
theorem WkC.nct (w : WkC m s F W O r) (h0 : 0 ≤ h) (h1 : h < m) (y0 : 0 ≤ y) (y1 : y < m) (e : ¬ F y = F h + 1) : WkC m (bfc h y s) F W O r := by
  have q : bfc h y s = s := if_neg (fun k => e (by rw [w.2.1 y y0 y1, w.2.1 h h0 h1]; exact k))
  rw [q]
  exact w
theorem WkE.far (w : WkE es m x F W O r) (y0 : 0 ≤ y) (y1 : y < m) : F y = (bfZ es x).1 y := by
  obtain ⟨n, a, b⟩ := w
  rw [bfZ_is a]
  exact b.2.1 y y0 y1
theorem WkE.many (w : WkE es m x F W O r) (y0 : 0 ≤ y) (y1 : y < m) (k : ¬ F y = -1) : W y = (bfZ es x).2.1 y := by
  obtain ⟨n, a, b⟩ := w
  rw [bfZ_is a]
  exact b.2.2.1 y y0 y1 k
theorem WkE.none (w : WkE es m x F W O r) (x0 : 0 ≤ x) (x1 : x < m) (er : EsR es m) (y0 : 0 ≤ y) (y1 : y < m) (k : F y = -1) : 0 = (bfZ es x).2.1 y := by
  obtain ⟨n, a, b⟩ := w
  rw [bfZ_is a]
  obtain ⟨d, _, i⟩ := bfs_I x0 x1 er n a.2
  exact (i.un y ((b.2.1 y y0 y1).symm.trans k)).symm
theorem WkE.found (w : WkE es m x F W O r) : r = (bfZ es x).2.2.2 := by
  obtain ⟨n, a, b⟩ := w
  rw [bfZ_is a]
  exact b.1
/-- the farthest ones stand at the end: those from i on are far as the last one is, the one in front is not -/
theorem WkE.last {i f : Int} (w : WkE es m x F W O r) (x0 : 0 ≤ x) (x1 : x < m) (er : EsR es m) (i0 : 0 ≤ i) (i1 : i ≤ r) (hl : F (O (r - 1)) = f) (al : ∀ j, i ≤ j → j < r → F (O j) = f) (no : i = 0 ∨ ¬ F (O (i - 1)) = f) (M : Nat) (eM : m = M) : cntP (fun y => F y = f) M = r - i ∧ ∀ y, 0 ≤ y → y < m → (F y = f ↔ ∃ j, i ≤ j ∧ j < r ∧ O j = y) := by
  obtain ⟨n, a, b1, b2, b3, b4⟩ := w
  obtain ⟨d, d0, I⟩ := bfs_I x0 x1 er n a.2
  have r1 : 1 ≤ r := by rw [b1]; exact I.r1
  have og : ∀ j, 0 ≤ j → j < r → 0 ≤ O j ∧ O j < m := fun j j0 j1 => by
    have u := I.rg j j0 (by omega)
    rw [b4 j j0 j1]
    exact ⟨u.1, u.2.1⟩
  have fo : ∀ j, 0 ≤ j → j < r → F (O j) = (bfs es x n).1 ((bfs es x n).2.2.1 j) := fun j j0 j1 => by
    have u := og j j0 j1
    rw [b2 (O j) u.1 u.2, b4 j j0 j1]
  have fg : ∀ j, 0 ≤ j → j < r → 0 ≤ F (O j) := fun j j0 j1 => by
    rw [fo j j0 j1]
    exact (I.rg j j0 (by omega)).2.2.1
  have so : ∀ i j, 0 ≤ i → i ≤ j → j < r → F (O i) ≤ F (O j) := fun i j p q t => by
    rw [fo i p (by omega), fo j (by omega) t]
    exact I.so i j p q (by omega)
  have f0 : 0 ≤ f := by rw [← hl]; exact fg _ (by omega) (by omega)
  have lt : ∀ j, 0 ≤ j → j < i → ¬ F (O j) = f := fun j j0 j1 e => by
    rcases no with no | no
    · omega
    · have u := so j (i - 1) j0 (by omega) (by omega)
      have v := so (i - 1) (r - 1) (by omega) (by omega) (by omega)
      omega
  have iff : ∀ y, 0 ≤ y → y < m → (F y = f ↔ ∃ j, i ≤ j ∧ j < r ∧ O j = y) := fun y y0 y1 => ⟨fun e => by
    rcases I.fd y y0 y1 with k | ⟨j, j0, j1, k⟩
    · rw [← b2 y y0 y1] at k
      omega
    · rw [← b4 j j0 (by omega)] at k
      refine ⟨j, ?_, by omega, k⟩
      refine Decidable.byContradiction (fun q => lt j j0 (by omega) (by rw [k]; exact e)), fun ⟨j, j0, j1, k⟩ => by
    rw [← k]
    exact al j j0 j1⟩
  refine ⟨?_, iff⟩
  obtain ⟨c, hc⟩ := Int.eq_ofNat_of_zero_le (show 0 ≤ r - i by omega)
  have e : i + c = r := by omega
  rw [cntP_congr M (fun y y0 y1 => iff y y0 (by omega)), ← e]
  have u := cntP_inj (O := O) (n := M) i0 c (fun j j0 j1 => by have u := og j (by omega) (by omega); omega) (fun p q p0 pq q1 k => by
    rw [b4 p (by omega) (by omega), b4 q (by omega) (by omega)] at k
    exact I.ij p q (by omega) pq (by omega) k)
  rw [u]
  omega
end Wks
