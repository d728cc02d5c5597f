/-! the breadth-first walk over the lists of steps: far, how many rows (capped), order of finding, how many found -/
abbrev jBF : Type := (Int → Int) × (Int → Int) × (Int → Int) × Int
def bfn (h y : Int) (s : jBF) : jBF := if s.1 y = -1 then (up s.1 y (s.1 h + 1), up s.2.1 y 0, up s.2.2.1 s.2.2.2 y, s.2.2.2 + 1) else s
def bfc (h y : Int) (s : jBF) : jBF := if s.1 y = s.1 h + 1 then (s.1, up s.2.1 y (min 1000000000 (s.2.1 y + s.2.1 h)), s.2.2) else s
def bfv (h y : Int) (s : jBF) : jBF := bfc h y (bfn h y s)
def bfl (h : Int) : jES → jBF → jBF
  | [], s => s
  | e :: q, s => bfl h q (bfv h e.1 s)
def bf0 (x : Int) : jBF := (up (fun _ => -1) x 0, up (fun _ => 0) x 1, up (fun _ => 0) 0 x, 1)
def bfs (es : Int → jES) (x : Int) : Nat → jBF
  | 0 => bf0 x
  | n + 1 => bfl ((bfs es x n).2.2.1 n) (es ((bfs es x n).2.2.1 n)) (bfs es x n)
/-- the walk ends behind n houses -/
def BfE (es : Int → jES) (x : Int) (n : Nat) : Prop := (bfs es x n).2.2.2 = n ∧ ∀ k : Nat, k < n → (k : Int) < (bfs es x k).2.2.2
theorem BfE.one {es : Int → jES} {x : Int} {n m : Nat} (a : BfE es x n) (b : BfE es x m) : n = m := by
  rcases Nat.lt_trichotomy n m with h | h | h
  · have u := b.2 n h
    have v := a.1
    omega
  · exact h
  · have u := a.2 m h
    have v := b.1
    omega
noncomputable def bfN (es : Int → jES) (x : Int) : Nat := Classical.epsilon (fun n => BfE es x n)
noncomputable def bfZ (es : Int → jES) (x : Int) : jBF := bfs es x (bfN es x)
theorem bfZ_is {es : Int → jES} {x : Int} {n : Nat} (a : BfE es x n) : bfZ es x = bfs es x n := by
  have u : BfE es x (bfN es x) := Classical.epsilon_spec (p := fun n => BfE es x n) ⟨n, a⟩
  unfold bfZ
  rw [u.one a]
section Bfs
variable {h y x m : Int} {s t : jBF} {q q2 : jES} {es : Int → jES} {n : Nat}
theorem bfl_app : ∀ (q : jES) (s : jBF), bfl h (q ++ q2) s = bfl h q2 (bfl h q s)
  | [], _ => rfl
  | e :: q, s => bfl_app q (bfv h e.1 s)
theorem bfl_more {i : Nat} {t : Int} (e : q[i]? = some (y, t)) : bfl h (q.take (i + 1)) s = bfv h y (bfl h (q.take i) s) := by
  rw [List.take_add_one, e, bfl_app]
  rfl
theorem bfl_all {i : Nat} (e : q.length ≤ i) : bfl h (q.take i) s = bfl h q s := by rw [List.take_of_length_le e]
/-- what holds in every walk: what is found is what has a distance; each once, in order of distance; where a walk stands (k: houses left, d: the distance of the one that is being left) -/
def BfI (m : Int) (x : Int) (k : Int) (d : Int) (s : jBF) : Prop := (0 ≤ k) ∧ (k ≤ s.2.2.2) ∧ (1 ≤ s.2.2.2) ∧ (∀ j, 0 ≤ j → j < s.2.2.2 → 0 ≤ s.2.2.1 j ∧ s.2.2.1 j < m ∧ 0 ≤ s.1 (s.2.2.1 j) ∧ s.1 (s.2.2.1 j) ≤ d + 1) ∧ (∀ i j, 0 ≤ i → i ≤ j → j < s.2.2.2 → s.1 (s.2.2.1 i) ≤ s.1 (s.2.2.1 j)) ∧ (∀ j, k ≤ j → j < s.2.2.2 → d ≤ s.1 (s.2.2.1 j)) ∧ (∀ y, 0 ≤ y → y < m → s.1 y = -1 ∨ ∃ j, 0 ≤ j ∧ j < s.2.2.2 ∧ s.2.2.1 j = y) ∧ (∀ y, s.1 y = -1 → s.2.1 y = 0) ∧ (∀ i j, 0 ≤ i → i < j → j < s.2.2.2 → ¬ s.2.2.1 i = s.2.2.1 j) ∧ (∀ y, 0 ≤ s.2.1 y ∧ s.2.1 y ≤ 1000000000)
theorem BfI.k0 {k d : Int} (b : BfI m x k d s) : 0 ≤ k := b.1
theorem BfI.kr {k d : Int} (b : BfI m x k d s) : k ≤ s.2.2.2 := b.2.1
theorem BfI.r1 {k d : Int} (b : BfI m x k d s) : 1 ≤ s.2.2.2 := b.2.2.1
theorem BfI.rg {k d : Int} (b : BfI m x k d s) : ∀ j, 0 ≤ j → j < s.2.2.2 → 0 ≤ s.2.2.1 j ∧ s.2.2.1 j < m ∧ 0 ≤ s.1 (s.2.2.1 j) ∧ s.1 (s.2.2.1 j) ≤ d + 1 := b.2.2.2.1
theorem BfI.so {k d : Int} (b : BfI m x k d s) : ∀ i j, 0 ≤ i → i ≤ j → j < s.2.2.2 → s.1 (s.2.2.1 i) ≤ s.1 (s.2.2.1 j) := b.2.2.2.2.1
theorem BfI.hi {k d : Int} (b : BfI m x k d s) : ∀ j, k ≤ j → j < s.2.2.2 → d ≤ s.1 (s.2.2.1 j) := b.2.2.2.2.2.1
theorem BfI.fd {k d : Int} (b : BfI m x k d s) : ∀ y, 0 ≤ y → y < m → s.1 y = -1 ∨ ∃ j, 0 ≤ j ∧ j < s.2.2.2 ∧ s.2.2.1 j = y := b.2.2.2.2.2.2.1
theorem BfI.un {k d : Int} (b : BfI m x k d s) : ∀ y, s.1 y = -1 → s.2.1 y = 0 := b.2.2.2.2.2.2.2.1
theorem BfI.ij {k d : Int} (b : BfI m x k d s) : ∀ i j, 0 ≤ i → i < j → j < s.2.2.2 → ¬ s.2.2.1 i = s.2.2.1 j := b.2.2.2.2.2.2.2.2.1
theorem BfI.wr {k d : Int} (b : BfI m x k d s) : ∀ y, 0 ≤ s.2.1 y ∧ s.2.1 y ≤ 1000000000 := b.2.2.2.2.2.2.2.2.2
theorem BfI.new {k d : Int} (b : BfI m x k d s) (hh : 0 ≤ h) (hm : h < m) (hf : s.1 h = d) (d0 : 0 ≤ d) (y0 : 0 ≤ y) (y1 : y < m) : BfI m x k d (bfn h y s) ∧ (bfn h y s).1 h = d ∧ ¬ (bfn h y s).1 y = -1 := by
  unfold bfn
  by_cases e : s.1 y = -1
  · rw [if_pos e]
    have ny : ∀ j, 0 ≤ j → j < s.2.2.2 → ¬ s.2.2.1 j = y := fun j j0 j1 w => by
      have u := (b.rg j j0 j1).2.2.1
      rw [w, e] at u
      omega
    have nh : ¬ h = y := fun w => by rw [← w, hf] at e; omega
    have o1 : ∀ j, j < s.2.2.2 → up s.2.2.1 s.2.2.2 y j = s.2.2.1 j := fun j w => up_ne (by omega)
    have f1 : ∀ j, 0 ≤ j → j < s.2.2.2 → up s.1 y (s.1 h + 1) (s.2.2.1 j) = s.1 (s.2.2.1 j) := fun j a c => up_ne (ny j a c)
    have r0 := b.r1
    refine ⟨⟨b.k0, ?_, ?_, ?_, ?_, ?_, ?_, ?_, ?_, ?_⟩, (up_ne nh).trans hf, ?_⟩
    · have := b.kr
      show k ≤ s.2.2.2 + 1
      omega
    · show 1 ≤ s.2.2.2 + 1
      omega
    · intro j j0 j1
      have j1 : j < s.2.2.2 + 1 := j1
      show 0 ≤ up s.2.2.1 s.2.2.2 y j ∧ up s.2.2.1 s.2.2.2 y j < m ∧ 0 ≤ up s.1 y (s.1 h + 1) (up s.2.2.1 s.2.2.2 y j) ∧ up s.1 y (s.1 h + 1) (up s.2.2.1 s.2.2.2 y j) ≤ d + 1
      by_cases g : j = s.2.2.2
      · rw [g, up_same, up_same]
        omega
      · rw [o1 j (by omega), f1 j j0 (by omega)]
        exact b.rg j j0 (by omega)
    · intro i j i0 ij j1
      have j1 : j < s.2.2.2 + 1 := j1
      show up s.1 y (s.1 h + 1) (up s.2.2.1 s.2.2.2 y i) ≤ up s.1 y (s.1 h + 1) (up s.2.2.1 s.2.2.2 y j)
      by_cases g : j = s.2.2.2
      · rw [g, up_same, up_same]
        by_cases g2 : i = s.2.2.2
        · rw [g2, up_same, up_same]
          omega
        · rw [o1 i (by omega), f1 i i0 (by omega)]
          have u := (b.rg i i0 (by omega)).2.2.2
          omega
      · rw [o1 j (by omega), f1 j (by omega) (by omega), o1 i (by omega), f1 i i0 (by omega)]
        exact b.so i j i0 ij (by omega)
    · intro j j0 j1
      have j1 : j < s.2.2.2 + 1 := j1
      have k0 := b.k0
      show d ≤ up s.1 y (s.1 h + 1) (up s.2.2.1 s.2.2.2 y j)
      by_cases g : j = s.2.2.2
      · rw [g, up_same, up_same]
        omega
      · rw [o1 j (by omega), f1 j (by omega) (by omega)]
        exact b.hi j j0 (by omega)
    · intro z z0 z1
      show up s.1 y (s.1 h + 1) z = -1 ∨ ∃ j, 0 ≤ j ∧ j < s.2.2.2 + 1 ∧ up s.2.2.1 s.2.2.2 y j = z
      by_cases g : z = y
      · exact Or.inr ⟨s.2.2.2, by omega, by omega, by rw [up_same, g]⟩
      · rcases b.fd z z0 z1 with w | ⟨j, j0, j1, w⟩
        · exact Or.inl ((up_ne g).trans w)
        · exact Or.inr ⟨j, j0, by omega, (o1 j j1).trans w⟩
    · intro z w
      have w : up s.1 y (s.1 h + 1) z = -1 := w
      show up s.2.1 y 0 z = 0
      by_cases g : z = y
      · rw [g, up_same]
      · rw [up_ne g] at w
        rw [up_ne g]
        exact b.un z w
    · intro i j i0 ij j1
      have j1 : j < s.2.2.2 + 1 := j1
      show ¬ up s.2.2.1 s.2.2.2 y i = up s.2.2.1 s.2.2.2 y j
      rw [o1 i (by omega)]
      by_cases g : j = s.2.2.2
      · rw [g, up_same]
        exact ny i i0 (by omega)
      · rw [o1 j (by omega)]
        exact b.ij i j i0 ij (by omega)
    · intro z
      show 0 ≤ up s.2.1 y 0 z ∧ up s.2.1 y 0 z ≤ 1000000000
      by_cases g : z = y
      · rw [g, up_same]
        omega
      · rw [up_ne g]
        exact b.wr z
    · show ¬ up s.1 y (s.1 h + 1) y = -1
      rw [up_same]
      omega
  · rw [if_neg e]
    exact ⟨b, hf, e⟩
theorem BfI.cnt {k d : Int} (b : BfI m x k d s) (ne : ¬ s.1 y = -1) : BfI m x k d (bfc h y s) ∧ (bfc h y s).1 = s.1 := by
  unfold bfc
  by_cases e : s.1 y = s.1 h + 1
  · rw [if_pos e]
    refine ⟨⟨b.k0, b.kr, b.r1, b.rg, b.so, b.hi, b.fd, ?_, b.ij, ?_⟩, rfl⟩
    · intro z w
      have w : s.1 z = -1 := w
      show up s.2.1 y _ z = 0
      rw [up_ne (fun g => ne (by rw [← g]; exact w))]
      exact b.un z w
    · intro z
      have a := b.wr y
      have c := b.wr h
      show 0 ≤ up s.2.1 y _ z ∧ up s.2.1 y _ z ≤ 1000000000
      by_cases g : z = y
      · rw [g, up_same]
        omega
      · rw [up_ne g]
        exact b.wr z
  · rw [if_neg e]
    exact ⟨b, rfl⟩
theorem BfI.vis {k d : Int} (b : BfI m x k d s) (hh : 0 ≤ h) (hm : h < m) (hf : s.1 h = d) (d0 : 0 ≤ d) (y0 : 0 ≤ y) (y1 : y < m) : BfI m x k d (bfv h y s) ∧ (bfv h y s).1 h = d := by
  obtain ⟨a, c, n⟩ := b.new hh hm hf d0 y0 y1
  obtain ⟨e, f⟩ := a.cnt (h := h) n
  exact ⟨e, by unfold bfv; rw [f]; exact c⟩
theorem BfI.lst {k d : Int} (hh : 0 ≤ h) (hm : h < m) (d0 : 0 ≤ d) : ∀ (q : jES) (s : jBF), BfI m x k d s → s.1 h = d → (∀ p ∈ q, 0 ≤ p.1 ∧ p.1 < m) → BfI m x k d (bfl h q s)
  | [], _, b, _, _ => b
  | p :: q, s, b, hf, hq => by
    have u := hq p (List.mem_cons_self ..)
    obtain ⟨a, c⟩ := b.vis hh hm hf d0 u.1 u.2
    exact BfI.lst hh hm d0 q _ a c (fun z w => hq z (List.mem_cons_of_mem _ w))
theorem BfI.step {k d : Int} (b : BfI m x k d s) (l : k < s.2.2.2) : (0 ≤ s.2.2.1 k ∧ s.2.2.1 k < m) ∧ 0 ≤ s.1 (s.2.2.1 k) ∧ BfI m x (k + 1) (s.1 (s.2.2.1 k)) s := by
  have k0 := b.k0
  have u := b.rg k k0 l
  have v := b.hi k (Int.le_refl _) l
  refine ⟨⟨u.1, u.2.1⟩, u.2.2.1, by omega, by omega, b.r1, fun j j0 j1 => ?_, b.so, fun j j0 j1 => b.so k j k0 (by omega) j1, b.fd, b.un, b.ij, b.wr⟩
  have w := b.rg j j0 j1
  exact ⟨w.1, w.2.1, w.2.2.1, by omega⟩
theorem BfI.start (x0 : 0 ≤ x) (x1 : x < m) : BfI m x 0 0 (bf0 x) := by
  have fx : (bf0 x).1 x = 0 := by
    show up (fun _ => -1) x 0 x = 0
    exact up_same _ _ _
  have ox : (bf0 x).2.2.1 0 = x := by
    show up (fun _ => 0) 0 x 0 = x
    exact up_same _ _ _
  have z0 : ∀ j : Int, 0 ≤ j → j < (bf0 x).2.2.2 → j = 0 := fun j a b => by
    have b : j < 1 := b
    omega
  refine ⟨Int.le_refl _, (by decide : (0 : Int) ≤ 1), (by decide : (1 : Int) ≤ 1), fun j a b => ?_, fun i j a c b => ?_, fun j a b => ?_, fun y a b => ?_, fun y w => ?_, fun i j a c b => ?_, fun y => ?_⟩
  · rw [z0 j a b, ox, fx]
    omega
  · rw [z0 j (by omega) b, z0 i a (by have := z0 j (by omega) b; omega)]
    exact Int.le_refl _
  · rw [z0 j a b, ox, fx]
    exact Int.le_refl _
  · by_cases g : y = x
    · exact Or.inr ⟨0, Int.le_refl _, (by decide : (0 : Int) < 1), by rw [ox, g]⟩
    · refine Or.inl ?_
      show up (fun _ => -1) x 0 y = -1
      rw [up_ne g]
  · have ne : ¬ y = x := fun g => by rw [g, fx] at w; omega
    show up (fun _ => 0) x 1 y = 0
    rw [up_ne ne]
  · have := z0 j (by omega) b
    omega
  · show 0 ≤ up (fun _ => 0) x 1 y ∧ up (fun _ => 0) x 1 y ≤ 1000000000
    by_cases g : y = x
    · rw [g, up_same]
      omega
    · rw [up_ne g]
      omega
/-- the steps lead to houses -/
def EsR (es : Int → jES) (m : Int) : Prop := ∀ x, 0 ≤ x → x < m → ∀ p ∈ es x, 0 ≤ p.1 ∧ p.1 < m
theorem bfs_I (x0 : 0 ≤ x) (x1 : x < m) (er : EsR es m) : ∀ n : Nat, (∀ k : Nat, k < n → (k : Int) < (bfs es x k).2.2.2) → ∃ d, 0 ≤ d ∧ BfI m x n d (bfs es x n)
  | 0, _ => ⟨0, Int.le_refl _, BfI.start x0 x1⟩
  | n + 1, hk => by
    obtain ⟨d, d0, b⟩ := bfs_I x0 x1 er n (fun k l => hk k (by omega))
    obtain ⟨⟨u, v⟩, w, c⟩ := b.step (hk n (by omega))
    exact ⟨_, w, BfI.lst u v w _ _ c rfl (er _ u v)⟩
/-- a count of houses -/
noncomputable def cntP (P : Int → Prop) : Nat → Int
  | 0 => 0
  | n + 1 => cntP P n + iF (P n) 1 0
theorem cntP_congr {P Q : Int → Prop} : ∀ n : Nat, (∀ y : Int, 0 ≤ y → y < n → (P y ↔ Q y)) → cntP P n = cntP Q n
  | 0, _ => rfl
  | n + 1, e => by
    have a := cntP_congr n (fun y y0 y1 => e y y0 (by omega))
    have c := e n (by omega) (by omega)
    show cntP P n + iF (P n) 1 0 = cntP Q n + iF (Q n) 1 0
    rw [a, iF_congr c (fun _ => rfl) (fun _ => rfl)]
theorem cntP_add {P Q : Int → Prop} {z : Int} (z0 : 0 ≤ z) (nz : ¬ P z) (e : ∀ y, Q y ↔ P y ∨ y = z) : ∀ n : Nat, cntP Q n = cntP P n + (if z < n then 1 else 0)
  | 0 => by
    rw [if_neg (by omega)]
    rfl
  | n + 1 => by
    have a := cntP_add z0 nz e n
    show cntP Q n + iF (Q n) 1 0 = cntP P n + iF (P n) 1 0 + _
    rw [a]
    by_cases g : (n : Int) = z
    · rw [iF_pos ((e n).mpr (Or.inr g)), iF_neg (by rw [g]; exact nz), if_neg (by omega), if_pos (by omega)]
    · by_cases p : P n
      · rw [iF_pos ((e n).mpr (Or.inl p)), iF_pos p]
        by_cases l : z < n
        · rw [if_pos l, if_pos (by omega)]
        · rw [if_neg l, if_neg (by omega)]
          omega
      · rw [iF_neg (fun q => ((e n).mp q).elim p g), iF_neg p]
        by_cases l : z < n
        · rw [if_pos l, if_pos (by omega)]
          omega
        · rw [if_neg l, if_neg (by omega)]
/-- so many different ones -/
theorem cntP_inj {O : Int → Int} {a : Int} {n : Nat} (a0 : 0 ≤ a) : ∀ c : Nat, (∀ j, a ≤ j → j < a + c → 0 ≤ O j ∧ O j < n) → (∀ i j, a ≤ i → i < j → j < a + c → ¬ O i = O j) → cntP (fun y => ∃ j, a ≤ j ∧ j < a + c ∧ O j = y) n = c
  | 0, _, _ => by
    have u : ∀ n : Nat, cntP (fun y => ∃ j, a ≤ j ∧ j < a + ((0 : Nat) : Int) ∧ O j = y) n = 0 := fun n => by
      induction n with
      | zero => rfl
      | succ k hk =>
        show cntP _ k + iF _ 1 0 = 0
        rw [hk, iF_neg (fun q => by obtain ⟨j, j0, j1, _⟩ := q; omega)]
        rfl
    exact u n
  | c + 1, r, i => by
    have h := cntP_inj (O := O) (n := n) a0 c (fun j j0 j1 => r j j0 (by omega)) (fun p q p0 pq q1 => i p q p0 pq (by omega))
    have rz := r (a + c) (by omega) (by omega)
    have e := cntP_add (P := fun y => ∃ j, a ≤ j ∧ j < a + c ∧ O j = y) (Q := fun y => ∃ j, a ≤ j ∧ j < a + ((c + 1 : Nat) : Int) ∧ O j = y) (z := O (a + c)) rz.1 (fun q => by
      obtain ⟨j, j0, j1, w⟩ := q
      exact i j (a + c) j0 j1 (by omega) w) (fun y => ⟨fun q => by
      obtain ⟨j, j0, j1, w⟩ := q
      by_cases g : j = a + c
      · exact Or.inr (by rw [← w, g])
      · exact Or.inl ⟨j, j0, by omega, w⟩, fun q => by
      rcases q with ⟨j, j0, j1, w⟩ | w
      · exact ⟨j, j0, by omega, w⟩
      · exact ⟨a + c, by omega, by omega, w.symm⟩⟩) n
    rw [e, h, if_pos rz.2]
    omega
end Bfs
