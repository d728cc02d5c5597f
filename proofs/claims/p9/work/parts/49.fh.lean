/-! the machine: how many houses it sorts -/
def SoH (ff sa sb : Int → Int) (but m h : Int) : Prop := EqOn (bsum ff) (thC sa sb but (itB ff h.toNat) m.toNat) (itB ff 0)
noncomputable def soN (P : Int → Prop) : Nat → Int
  | 0 => 0
  | n + 1 => soN P n + iF (P n) 1 0
theorem soN_step {P : Int → Prop} {n h d : Int} (q : n = soN P h.toNat) (h0 : 0 ≤ h) (hd : (P h ∧ d = n + 1) ∨ (¬ P h ∧ d = n)) : d = soN P (h + 1).toNat := by
  rw [show (h + 1).toNat = h.toNat + 1 by omega]
  show d = soN P h.toNat + iF (P ((h.toNat : Nat) : Int)) 1 0
  rw [show ((h.toNat : Nat) : Int) = h by omega, ← q]
  rcases hd with g | g
  · rw [iF_pos g.1]; exact g.2
  · rw [iF_neg g.1]; omega
theorem soN_rng {P : Int → Prop} : ∀ n : Nat, 0 ≤ soN P n ∧ soN P n ≤ n
  | 0 => ⟨Int.le_refl _, Int.le_refl _⟩
  | n + 1 => by
    have u := soN_rng (P := P) n
    show 0 ≤ soN P n + iF (P n) 1 0 ∧ soN P n + iF (P n) 1 0 ≤ ((n + 1 : Nat) : Int)
    by_cases g : P n
    · rw [iF_pos g]; omega
    · rw [iF_neg g]; omega
theorem soN_cg {P Q : Int → Prop} : ∀ n : Nat, (∀ h : Int, 0 ≤ h → h < n → (P h ↔ Q h)) → soN P n = soN Q n
  | 0, _ => rfl
  | n + 1, e => by
    show soN P n + iF (P n) 1 0 = soN Q n + iF (Q n) 1 0
    rw [soN_cg n (fun h a b => e h a (by omega)), iF_congr (e n (by omega) (by omega)) (fun _ => rfl) (fun _ => rfl)]
theorem SoH_row {R ff sa sb : Int → Int} {n p m h r z but mm : Int} (v : SwV sa sb n p) (hR : RowsTo R ff mm) (hf : okF ff) (hm : mm = Hi ff) (hp : p = bsum ff) (m0 : 0 ≤ m) (m1 : m ≤ n) (h0 : 0 ≤ h) (h1 : h < mm) (er : pk3 (thC sa sb but (itB ff h.toNat) m.toNat) p.toNat = r) (ez : R 0 = z) : r = z ↔ SoH ff sa sb but m h := by
  have hb := bsum_rng hf
  have i0 := it_inv hf 0 (by have := Hi_rng hf; unfold Hi at this; omega)
  have ih := it_inv hf h.toNat (by unfold Hi at hm; omega)
  have e0 : z = pk3 (itB ff 0) p.toNat := by
    rw [← ez, hR 0 (by decide) (by omega), hp]; rfl
  have o := thC_ok (but := but) v (by rw [hp]; exact ih.2.2) m.toNat (by omega)
  refine ⟨fun g => ?_, fun g => ?_⟩
  · have u := pk3_inj (p := p) (by omega) (by omega) o (by rw [hp]; exact i0.2.2) (by rw [er, g, e0])
    rw [hp] at u; exact u
  · rw [← er, e0]
    exact pk3_congr _ (fun j a b => g j a (by omega))
theorem thC_cong {sa sb ta tb : Int → Int} {but : Int} {B : Int → Int} (h1 : EqN sa ta 12) (h2 : EqN sb tb 12) : ∀ k : Nat, k ≤ 12 → thC sa sb but B k = thC ta tb but B k
  | 0, _ => rfl
  | k + 1, hk => by
    unfold thC
    rw [thC_cong h1 h2 k (by omega), h1 k (by omega) (by omega), h2 k (by omega) (by omega)]
theorem SoH_cg {ff S sa sb ta tb : Int → Int} {but m h : Int} (hf : ∀ j, 0 ≤ j → j < 5 → ff j = S j) (h1 : EqN sa ta 12) (h2 : EqN sb tb 12) (m1 : m ≤ 12) : SoH ff sa sb but m h ↔ SoH S ta tb but m h := by
  unfold SoH
  rw [bsum_sm hf, itB_same hf, itB_same hf, thC_cong h1 h2 m.toNat (by omega)]
/-- the first that is not so -/
def FuR (P : Int → Prop) (m r : Int) : Prop := (r = -1 ∧ ∀ t, 0 ≤ t → t < m → P t) ∨ (0 ≤ r ∧ r < m ∧ ¬ P r ∧ ∀ t, 0 ≤ t → t < r → P t)
theorem FuR.one {P : Int → Prop} {m : Int} (a b : Int) (h : FuR P m a) (g : FuR P m b) : a = b := by
  rcases h with h | h <;> rcases g with g | g
  · omega
  · exact absurd (h.2 b g.1 g.2.1) g.2.2.1
  · exact absurd (g.2 a h.1 h.2.1) h.2.2.1
  · rcases Int.lt_trichotomy a b with q | q | q
    · exact absurd (g.2.2.2 a h.1 q) h.2.2.1
    · exact q
    · exact absurd (h.2.2.2 b g.1 q) g.2.2.1
theorem FuR.cg {P Q : Int → Prop} {m m2 r : Int} (em : m = m2) (e : ∀ h : Int, 0 ≤ h → h < m → (P h ↔ Q h)) (q : FuR P m r) : FuR Q m2 r := by
  subst em
  rcases q with q | q
  · exact Or.inl ⟨q.1, fun t a b => (e t a b).mp (q.2 t a b)⟩
  · exact Or.inr ⟨q.1, q.2.1, fun w => q.2.2.1 ((e r q.1 q.2.1).mpr w), fun t a b => (e t a (by omega)).mp (q.2.2.2 t a b)⟩
def AlT (P : Int → Prop) (h : Int) : Prop := ∀ t, 0 ≤ t → t < h → P t
theorem AlT_0 {P : Int → Prop} : AlT P 0 := fun t a b => by omega
theorem AlT.step {P : Int → Prop} {h : Int} (q : AlT P h) (g : P h) : AlT P (h + 1) := fun t a b => by
  by_cases e : t = h
  · rw [e]; exact g
  · exact q t a (by omega)
/-- going down: the lowest so far that is not so -/
def FuD (P : Int → Prop) (h m f : Int) : Prop := (f = -1 ∧ ∀ t, h < t → t < m → P t) ∨ (h < f ∧ f < m ∧ ¬ P f ∧ ∀ t, h < t → t < f → P t)
theorem FuD_0 {P : Int → Prop} {m : Int} : FuD P (m - 1) m (-1) := Or.inl ⟨rfl, fun t a b => by omega⟩
theorem FuD.yes {P : Int → Prop} {h m f : Int} (q : FuD P h m f) (g : P h) : FuD P (h - 1) m f := by
  have s : ∀ t, h - 1 < t → ¬ h < t → P t := fun t a b => by
    have e : t = h := by omega
    rw [e]; exact g
  rcases q with q | q
  · refine Or.inl ⟨q.1, fun t a b => ?_⟩
    by_cases l : h < t
    · exact q.2 t l b
    · exact s t a l
  · refine Or.inr ⟨by omega, q.2.1, q.2.2.1, fun t a b => ?_⟩
    by_cases l : h < t
    · exact q.2.2.2 t l b
    · exact s t a l
theorem FuD.no {P : Int → Prop} {h m f : Int} (h1 : h < m) (g : ¬ P h) : FuD P (h - 1) m h := Or.inr ⟨by omega, h1, g, fun t a b => by omega⟩
theorem FuD.end {P : Int → Prop} {m f : Int} (q : FuD P (-1) m f) : FuR P m f := by
  rcases q with q | q
  · exact Or.inl ⟨q.1, fun t a b => q.2 t (by omega) b⟩
  · exact Or.inr ⟨by omega, q.2.1, q.2.2.1, fun t a b => q.2.2.2 t (by omega) b⟩
/-- bits of those that are so -/
noncomputable def ndB (c : Int → Prop) : Nat → Int
  | 0 => 0
  | k + 1 => iF (c k) (zor (ndB c k) (zshl 1 k)) (ndB c k)
theorem ndB_zr {c : Int → Prop} : ∀ k : Nat, zr (ndB c k)
  | 0 => by
    show zr 0
    decide
  | k + 1 => by
    show zr (iF (c k) (zor (ndB c k) (zshl 1 k)) (ndB c k))
    by_cases g : c k
    · rw [iF_pos g]; exact zr_toInt _
    · rw [iF_neg g]; exact ndB_zr k
theorem ndB_step {c : Int → Prop} {b i d : Int} (q : b = ndB c i.toNat) (i0 : 0 ≤ i) (hd : (c i ∧ d = zor b (zshl 1 i)) ∨ (¬ c i ∧ d = b)) : d = ndB c (i + 1).toNat := by
  rw [show (i + 1).toNat = i.toNat + 1 by omega]
  show d = iF (c ((i.toNat : Nat) : Int)) (zor (ndB c i.toNat) (zshl 1 ((i.toNat : Nat) : Int))) (ndB c i.toNat)
  rw [show ((i.toNat : Nat) : Int) = i by omega, ← q]
  rcases hd with g | g
  · rw [iF_pos g.1]; exact g.2
  · rw [iF_neg g.1]; exact g.2
theorem ndB_cg {c e : Int → Prop} : ∀ k : Nat, (∀ h : Int, 0 ≤ h → h < k → (c h ↔ e h)) → ndB c k = ndB e k
  | 0, _ => rfl
  | k + 1, w => by
    show iF (c k) (zor (ndB c k) (zshl 1 k)) (ndB c k) = iF (e k) (zor (ndB e k) (zshl 1 k)) (ndB e k)
    rw [ndB_cg k (fun h a b => w h a (by omega))]
    exact iF_congr (w k (by omega) (by omega)) (fun _ => rfl) (fun _ => rfl)
theorem zor_0 {x : Int} (h : zr x) : zor x 0 = x := by
  unfold zor
  rw [show zI 0 = 0 from rfl, Int32.or_zero, zI_toInt h]
/-- the least that is no less -/
def LeR (g : Int → Int) (all r : Int) : Prop := 0 ≤ r ∧ all ≤ g r ∧ ∀ t, 0 ≤ t → t < r → g t < all
theorem LeR.one {g : Int → Int} {all : Int} (a b : Int) (h : LeR g all a) (k : LeR g all b) : a = b := by
  rcases Int.lt_trichotomy a b with q | q | q
  · have := k.2.2 a h.1 q
    have := h.2.1
    omega
  · exact q
  · have := h.2.2 b k.1 q
    have := k.2.1
    omega
