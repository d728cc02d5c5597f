/-! a walk under way: k houses are left; so many steps of the next one are taken -/
def WkM (es : Int → jES) (m x k : Int) (F W O : Int → Int) (r : Int) : Prop := ∃ n : Nat, (n : Int) = k ∧ (∀ j : Nat, j < n → (j : Int) < (bfs es x j).2.2.2) ∧ WkC m (bfs es x n) F W O r
def WkL (es : Int → jES) (m x k h i : Int) (F W O : Int → Int) (r : Int) : Prop := ∃ n a : Nat, (n : Int) = k ∧ (a : Int) = i ∧ (∀ j : Nat, j < n + 1 → (j : Int) < (bfs es x j).2.2.2) ∧ h = (bfs es x n).2.2.1 n ∧ WkC m (bfl h ((es h).take a) (bfs es x n)) F W O r
/-- what was not found is not counted -/
def WkU (m : Int) (F W : Int → Int) : Prop := ∀ y, 0 ≤ y → y < m → F y = -1 → W y = 0
section Wkn
variable {m r h y x v c k i i2 k2 t d : Int} {F W O F2 W2 O2 : Int → Int} {es : Int → jES}
theorem WkM.start (e1 : F2 = up F x 0) (e2 : W2 = up W x 1) (e3 : O2 = up O 0 x) (f : ∀ y, 0 ≤ y → y < m → F y = -1) : WkM es m x 0 F2 W2 O2 1 := by
  refine ⟨0, rfl, fun j w => absurd w (Nat.not_lt_zero _), rfl, fun y y0 y1 => ?_, fun y y0 y1 q => ?_, fun j j0 j1 => ?_⟩
  · show F2 y = up (fun _ => -1) x 0 y
    rw [e1]
    by_cases g : y = x
    · rw [g, up_same, up_same]
    · rw [up_ne g, up_ne g]
      exact f y y0 y1
  · show W2 y = up (fun _ => 0) x 1 y
    by_cases g : y = x
    · rw [e2, g, up_same, up_same]
    · rw [e1, up_ne g] at q
      exact absurd (f y y0 y1) q
  · show O2 j = up (fun _ => 0) 0 x j
    have z : j = 0 := by omega
    rw [e3, z, up_same, up_same]
theorem WkM.open0 (w : WkM es m x k F W O r) (k0 : 0 ≤ k) (l : k < r) (e : O k = h) : WkL es m x k h 0 F W O r := by
  obtain ⟨n, a, b, c⟩ := w
  have c1 := c.1
  refine ⟨n, 0, a, rfl, fun j q => ?_, ?_, c⟩
  · by_cases g : j = n
    · rw [g]; omega
    · exact b j (by omega)
  · rw [← e, a]
    exact c.2.2.2 k k0 l
theorem WkL.shut (w : WkL es m x k h i F W O r) (e : ((es h).length : Int) ≤ i) (ek : k2 = k + 1) : WkM es m x k2 F W O r := by
  obtain ⟨n, a, b, c, d, f, g⟩ := w
  refine ⟨n + 1, by omega, d, ?_⟩
  rw [bfl_all (by omega)] at g
  show WkC m (bfl ((bfs es x n).2.2.1 n) (es ((bfs es x n).2.2.1 n)) (bfs es x n)) F W O r
  rw [← f]
  exact g
/-- a distance of the house that is being left -/
theorem WkL.f0 (w : WkL es m x k h i F W O r) (x0 : 0 ≤ x) (x1 : x < m) (er : EsR es m) : 0 ≤ F h ∧ (0 ≤ h ∧ h < m) ∧ ∀ y, 0 ≤ y → y < m → -1 ≤ F y := by
  obtain ⟨n, a, b, c, d, f, g⟩ := w
  obtain ⟨d1, d0, I⟩ := bfs_I x0 x1 er n (fun j q => d j (by omega))
  obtain ⟨⟨u, v⟩, w, J⟩ := I.step (d n (by omega))
  rw [← f] at u v w J
  have K := BfI.lst u v w ((es h).take a) _ J rfl (fun p hp => er h u v p (List.mem_of_mem_take hp))
  have e : ∀ (q : jES) (s : jBF), BfI m x (n + 1) (s.1 h) s → (∀ p ∈ q, 0 ≤ p.1 ∧ p.1 < m) → 0 ≤ s.1 h → (bfl h q s).1 h = s.1 h := fun q => by
    induction q with
    | nil => intro s _ _ _; rfl
    | cons p q hq =>
      intro s b hp s0
      have z := hp p (List.mem_cons_self ..)
      obtain ⟨b1, b2⟩ := b.vis u v rfl s0 z.1 z.2
      have y := hq (bfv h p.1 s) (by rw [b2]; exact b1) (fun z w => hp z (List.mem_cons_of_mem _ w)) (by rw [b2]; exact s0)
      exact y.trans b2
  have e2 := e ((es h).take a) _ J (fun p hp => er h u v p (List.mem_of_mem_take hp)) w
  refine ⟨by rw [g.2.1 h u v, e2]; exact w, ⟨u, v⟩, fun y y0 y1 => ?_⟩
  rw [g.2.1 y y0 y1]
  rcases K.fd y y0 y1 with q | ⟨j, j0, j1, q⟩
  · omega
  · have z := (K.rg j j0 j1).2.2.1
    rw [q] at z
    omega
/-- one step more: y is new or not, is counted or not -/
theorem WkL.go (w : WkL es m x k h i F W O r) (e : (es h)[i.toNat]? = some (y, t)) (ei : i2 = i + 1) {F2 W2 O2 : Int → Int} {r2 : Int} (q : ∀ s, WkC m s F W O r → WkC m (bfv h y s) F2 W2 O2 r2) : WkL es m x k h i2 F2 W2 O2 r2 := by
  obtain ⟨n, a, b, c, d, f, g⟩ := w
  refine ⟨n, a + 1, b, by omega, d, f, ?_⟩
  have ea : i.toNat = a := by omega
  rw [ea] at e
  rw [bfl_more e]
  exact q _ g
theorem WkL.nc (w : WkL es m x k h i F W O r) (e : (es h)[i.toNat]? = some (y, t)) (ei : i2 = i + 1) (x0 : 0 ≤ x) (x1 : x < m) (er : EsR es m) (y0 : 0 ≤ y) (y1 : y < m) (r0 : 0 ≤ r) (n : F y = -1) (ev : v = F h + 1) (e1 : F2 = up F y v) (e2 : W2 = up W y 0) (e3 : O2 = up O r y) (ec : c = min 1000000000 (W2 y + W2 h)) {W3 : Int → Int} (e4 : W3 = up W2 y c) {r2 : Int} (e5 : r2 = r + 1) : WkL es m x k h i2 F2 W3 O2 r2 := by
  obtain ⟨f0, ⟨h0, h1⟩, _⟩ := w.f0 x0 x1 er
  have ne : ¬ h = y := fun g => by rw [g] at f0; omega
  refine w.go e ei (fun s g => ?_)
  have a := g.new r0 h0 h1 y0 y1 n ev e1 e2 e3
  rw [e5]
  refine a.cnt h0 h1 y0 y1 ?_ ?_ ec e4
  · rw [e1, up_ne ne]; exact f0
  · rw [e1, up_same, up_ne ne]; exact ev
theorem WkL.oc (w : WkL es m x k h i F W O r) (e : (es h)[i.toNat]? = some (y, t)) (ei : i2 = i + 1) (x0 : 0 ≤ x) (x1 : x < m) (er : EsR es m) (y0 : 0 ≤ y) (y1 : y < m) (n : ¬ F y = -1) (ev : F y = F h + 1) (ec : c = min 1000000000 (W y + W h)) (e4 : W2 = up W y c) : WkL es m x k h i2 F W2 O r := by
  obtain ⟨f0, ⟨h0, h1⟩, _⟩ := w.f0 x0 x1 er
  exact w.go e ei (fun s g => (g.old y0 y1 n).cnt h0 h1 y0 y1 f0 ev ec e4)
theorem WkL.on (w : WkL es m x k h i F W O r) (e : (es h)[i.toNat]? = some (y, t)) (ei : i2 = i + 1) (x0 : 0 ≤ x) (x1 : x < m) (er : EsR es m) (y0 : 0 ≤ y) (y1 : y < m) (n : ¬ F y = -1) (ev : ¬ F y = F h + 1) : WkL es m x k h i2 F W O r := by
  obtain ⟨f0, ⟨h0, h1⟩, _⟩ := w.f0 x0 x1 er
  exact w.go e ei (fun s g => (g.old y0 y1 n).nct h0 h1 y0 y1 ev)
/-! the same, what is left being known for a house with a distance -/
theorem WkL.nc2 (w : WkL es m x k h i F W O r) (e : (es h)[i.toNat]? = some (y, t)) (ei : i2 = i + 1) (h0 : 0 ≤ h) (h1 : h < m) (f0 : 0 ≤ F h) (y0 : 0 ≤ y) (y1 : y < m) (r0 : 0 ≤ r) (n : F y = -1) (ev : v = F h + 1) (e1 : F2 = up F y v) (e2 : W2 = up W y 0) (e3 : O2 = up O r y) (ec : c = min 1000000000 (W2 y + W2 h)) {W3 : Int → Int} (e4 : W3 = up W2 y c) {r2 : Int} (e5 : r2 = r + 1) : WkL es m x k h i2 F2 W3 O2 r2 := by
  have ne : ¬ h = y := fun g => by rw [g] at f0; omega
  refine w.go e ei (fun s g => ?_)
  have a := g.new r0 h0 h1 y0 y1 n ev e1 e2 e3
  rw [e5]
  refine a.cnt h0 h1 y0 y1 ?_ ?_ ec e4
  · rw [e1, up_ne ne]; exact f0
  · rw [e1, up_same, up_ne ne]; exact ev
theorem WkL.oc2 (w : WkL es m x k h i F W O r) (e : (es h)[i.toNat]? = some (y, t)) (ei : i2 = i + 1) (h0 : 0 ≤ h) (h1 : h < m) (f0 : 0 ≤ F h) (y0 : 0 ≤ y) (y1 : y < m) (n : ¬ F y = -1) (ev : F y = F h + 1) (ec : c = min 1000000000 (W y + W h)) (e4 : W2 = up W y c) : WkL es m x k h i2 F W2 O r := by
  exact w.go e ei (fun s g => (g.old y0 y1 n).cnt h0 h1 y0 y1 f0 ev ec e4)
theorem WkL.on2 (w : WkL es m x k h i F W O r) (e : (es h)[i.toNat]? = some (y, t)) (ei : i2 = i + 1) (h0 : 0 ≤ h) (h1 : h < m) (f0 : 0 ≤ F h) (y0 : 0 ≤ y) (y1 : y < m) (n : ¬ F y = -1) (ev : ¬ F y = F h + 1) : WkL es m x k h i2 F W O r := by
  exact w.go e ei (fun s g => (g.old y0 y1 n).nct h0 h1 y0 y1 ev)
theorem WkM.end (w : WkM es m x k F W O r) (k0 : 0 ≤ k) (l : k = r) : WkE es m x F W O r := by
  obtain ⟨n, a, b, c⟩ := w
  exact ⟨n, ⟨by rw [← c.1]; omega, b⟩, c⟩
end Wkn
section Wku
variable {m y x v c : Int} {F W F2 W2 G : Int → Int}
theorem up_id (h : W y = 0) : W = up W y 0 := by
  funext z
  by_cases g : z = y
  · rw [g, up_same, h]
  · rw [up_ne g]
theorem WkU.start (e1 : F2 = up F x 0) (e2 : W2 = up W x 1) (g : W = fillf G 0 m 0) : WkU m F2 W2 := fun y y0 y1 q => by
  by_cases k : y = x
  · rw [e1, k, up_same] at q
    omega
  · rw [e2, up_ne k]
    exact fill_at g y0 y1
theorem WkU.up1 (u : WkU m F W) (e1 : F2 = up F y v) (n : ¬ v = -1) (e2 : W2 = up W y c) : WkU m F2 W2 := fun z z0 z1 q => by
  by_cases k : z = y
  · rw [e1, k, up_same] at q
    exact absurd q n
  · rw [e1, up_ne k] at q
    rw [e2, up_ne k]
    exact u z z0 z1 q
theorem WkU.up2 (u : WkU m F W) (n : ¬ F y = -1) (e2 : W2 = up W y c) : WkU m F W2 := fun z z0 z1 q => by
  by_cases k : z = y
  · rw [k] at q
    exact absurd q n
  · rw [e2, up_ne k]
    exact u z z0 z1 q
end Wku
