/-! rows of a function, the next order's rank, all orders one behind another -/
def seg (B : Int → Int) : Int → Nat → List Int
  | _, 0 => []
  | a, n + 1 => B a :: seg B (a + 1) n
theorem seg_len (B : Int → Int) : ∀ (n : Nat) (a : Int), (seg B a n).length = n
  | 0, _ => rfl
  | n + 1, a => by
    show (seg B (a + 1) n).length + 1 = n + 1
    rw [seg_len B n]
theorem seg_app (B : Int → Int) : ∀ (n m : Nat) (a : Int), seg B a (n + m) = seg B a n ++ seg B (a + n) m
  | 0, m, a => by
    rw [Nat.zero_add]
    show seg B a m = [] ++ seg B (a + 0) m
    rw [Int.add_zero]
    rfl
  | n + 1, m, a => by
    rw [show n + 1 + m = (n + m) + 1 by omega]
    show B a :: seg B (a + 1) (n + m) = B a :: (seg B (a + 1) n ++ seg B (a + ((n + 1 : Nat) : Int)) m)
    rw [seg_app B n m (a + 1), show a + 1 + (n : Int) = a + ((n + 1 : Nat) : Int) by omega]
theorem seg_congr {B C : Int → Int} : ∀ (n : Nat) (a : Int), (∀ j, a ≤ j → j < a + n → B j = C j) → seg B a n = seg C a n
  | 0, _, _ => rfl
  | n + 1, a, h => by
    show B a :: seg B (a + 1) n = C a :: seg C (a + 1) n
    rw [h a (by omega) (by omega), seg_congr n (a + 1) (fun j h1 h2 => h j (by omega) (by omega))]
theorem seg_mem {B : Int → Int} {c : Int} : ∀ (n : Nat) (a : Int), c ∈ seg B a n → ∃ j, a ≤ j ∧ j < a + n ∧ c = B j
  | 0, _, h => by cases h
  | n + 1, a, h => by
    rcases List.mem_cons.mp h with rfl | h
    · exact ⟨a, by omega, by omega, rfl⟩
    · obtain ⟨j, h1, h2, h3⟩ := seg_mem n (a + 1) h
      exact ⟨j, by omega, by omega, h3⟩
theorem seg_at {B C : Int → Int} : ∀ (n : Nat) (a : Int), seg B a n = seg C a n → ∀ j, a ≤ j → j < a + n → B j = C j
  | 0, _, _, j, h1, h2 => by omega
  | n + 1, a, h, j, h1, h2 => by
    have h : B a :: seg B (a + 1) n = C a :: seg C (a + 1) n := h
    injection h with h3 h4
    by_cases e : j = a
    · rw [e]; exact h3
    · exact seg_at n (a + 1) h4 j (by omega) (by omega)
theorem seg_rev (B : Int → Int) (s : Int) : ∀ (n : Nat) (a : Int), seg (fun j => B (s - j)) a n = (seg B (s - a - n + 1) n).reverse
  | 0, _ => rfl
  | n + 1, a => by
    show B (s - a) :: seg (fun j => B (s - j)) (a + 1) n = (seg B (s - a - ((n + 1 : Nat) : Int) + 1) (n + 1)).reverse
    rw [seg_rev B s n (a + 1), seg_app B n 1, List.reverse_append]
    have e1 : s - a - ((n + 1 : Nat) : Int) + 1 + (n : Int) = s - a := by omega
    have e2 : s - (a + 1) - (n : Int) + 1 = s - a - ((n + 1 : Nat) : Int) + 1 := by omega
    rw [e1, e2]
    rfl
theorem seg_pair {B : Int → Int} {R : Int → Int → Prop} : ∀ (n : Nat) (a : Int), (∀ j k, a ≤ j → j < k → k < a + n → R (B j) (B k)) → (seg B a n).Pairwise R
  | 0, _, _ => List.Pairwise.nil
  | n + 1, a, h => by
    refine List.Pairwise.cons (fun c hc => ?_) (seg_pair n (a + 1) (fun j k h1 h2 h3 => h j k (by omega) h2 (by omega)))
    obtain ⟨j, h1, h2, rfl⟩ := seg_mem n (a + 1) hc
    exact h a j (by omega) (by omega) (by omega)
theorem desc_of {B : Int → Int} {a b : Int} (h : ∀ j, a ≤ j → j + 1 < b → B (j + 1) ≤ B j) : ∀ (n : Nat) (j : Int), a ≤ j → j + n < b → B (j + n) ≤ B j
  | 0, j, _, _ => by simp
  | n + 1, j, h1, h2 => by
    have h3 := desc_of h n j h1 (by omega)
    have h4 := h (j + n) (by omega) (by omega)
    rw [show j + ((n + 1 : Nat) : Int) = j + n + 1 by omega]
    omega
theorem desc_le {B : Int → Int} {a b : Int} (h : ∀ j, a ≤ j → j + 1 < b → B (j + 1) ≤ B j) {j k : Int} (h1 : a ≤ j) (h2 : j ≤ k) (h3 : k < b) : B k ≤ B j := by
  have := desc_of h (k - j).toNat j h1 (by omega)
  rwa [show j + ((k - j).toNat : Int) = k by omega] at this
theorem lowG_spec (B : Int → Int) : ∀ n : Nat, (lowG B n = -1 ∧ ∀ k : Int, 0 ≤ k → k < n → B (k + 1) ≤ B k) ∨ (0 ≤ lowG B n ∧ lowG B n < n ∧ B (lowG B n) < B (lowG B n + 1) ∧ ∀ k, lowG B n < k → k < n → B (k + 1) ≤ B k)
  | 0 => Or.inl ⟨rfl, fun k h1 h2 => by omega⟩
  | n + 1 => by
    unfold lowG
    by_cases e : B n < B (n + 1)
    · rw [if_pos e]
      exact Or.inr ⟨by omega, by omega, e, fun k h1 h2 => by omega⟩
    · rw [if_neg e]
      rcases lowG_spec B n with ⟨h1, h2⟩ | ⟨h1, h2, h3, h4⟩
      · refine Or.inl ⟨h1, fun k k1 k2 => ?_⟩
        by_cases q : k = n
        · rw [q]; omega
        · exact h2 k k1 (by omega)
      · refine Or.inr ⟨h1, by omega, h3, fun k k1 k2 => ?_⟩
        by_cases q : k = n
        · rw [q]; omega
        · exact h4 k k1 (by omega)
theorem highG_spec (B : Int → Int) (v : Int) : ∀ n : Nat, (highG B v n = -1 ∧ ∀ k : Int, 0 ≤ k → k < n → B k ≤ v) ∨ (0 ≤ highG B v n ∧ highG B v n < n ∧ v < B (highG B v n) ∧ ∀ k, highG B v n < k → k < n → B k ≤ v)
  | 0 => Or.inl ⟨rfl, fun k h1 h2 => by omega⟩
  | n + 1 => by
    unfold highG
    by_cases e : v < B n
    · rw [if_pos e]
      exact Or.inr ⟨by omega, by omega, e, fun k h1 h2 => by omega⟩
    · rw [if_neg e]
      rcases highG_spec B v n with ⟨h1, h2⟩ | ⟨h1, h2, h3, h4⟩
      · refine Or.inl ⟨h1, fun k k1 k2 => ?_⟩
        by_cases q : k = n
        · rw [q]; omega
        · exact h2 k k1 (by omega)
      · refine Or.inr ⟨h1, by omega, h3, fun k k1 k2 => ?_⟩
        by_cases q : k = n
        · rw [q]; omega
        · exact h4 k k1 (by omega)
def ind (a c : Int) : Nat := if a = c then 1 else 0
theorem cnt_cons (a : Int) (t : List Int) (c : Int) : cntL (a :: t) c = cntL t c + ind a c := by
  unfold cntL ind
  rw [List.count_cons]
  simp
theorem cnt_up {B : Int → Int} {i v a : Int} {n : Nat} (c : Int) (h1 : a ≤ i) (h2 : i < a + n) : cntL (seg (up B i v) a n) c + ind (B i) c = cntL (seg B a n) c + ind v c := by
  obtain ⟨k, hk⟩ : ∃ k : Nat, (k : Int) = i - a := ⟨(i - a).toNat, by omega⟩
  obtain ⟨m, hm⟩ : ∃ m : Nat, n = k + (m + 1) := ⟨n - k - 1, by omega⟩
  subst hm
  rw [seg_app (up B i v) k (m + 1) a, seg_app B k (m + 1) a, cntL_app, cntL_app]
  have e1 : seg (up B i v) a k = seg B a k := seg_congr k a (fun j q1 q2 => up_ne (by omega))
  have e2 : seg (up B i v) (a + k) (m + 1) = v :: seg B (i + 1) m := by
    rw [show a + (k : Int) = i by omega]
    show up B i v i :: seg (up B i v) (i + 1) m = _
    rw [up_same, seg_congr m (i + 1) (fun j q1 q2 => up_ne (F := B) (i := i) (v := v) (by omega))]
  have e3 : seg B (a + k) (m + 1) = B i :: seg B (i + 1) m := by
    rw [show a + (k : Int) = i by omega]
    rfl
  rw [e1, e2, e3]
  show cntL (seg B a k) c + cntL (v :: seg B (i + 1) m) c + ind (B i) c = cntL (seg B a k) c + cntL (B i :: seg B (i + 1) m) c + ind v c
  rw [cnt_cons, cnt_cons]
  omega
theorem swp_eq (B : Int → Int) (a b : Int) : swp B a b = up (up B a (B b)) b (B a) := by
  funext j
  unfold swp up
  rfl
theorem cnt_swp {B : Int → Int} {i k a : Int} {n : Nat} (h1 : a ≤ i) (h2 : i < a + n) (h3 : a ≤ k) (h4 : k < a + n) : cntL (seg (swp B i k) a n) = cntL (seg B a n) := by
  funext c
  rw [swp_eq]
  have e1 := cnt_up (B := up B i (B k)) (i := k) (v := B i) (a := a) (n := n) c h3 h4
  have e2 := cnt_up (B := B) (i := i) (v := B k) (a := a) (n := n) c h1 h2
  have e3 : up B i (B k) k = B k := by
    by_cases q : k = i
    · rw [q, up_same]
    · rw [up_ne q]
  rw [e3] at e1
  omega
theorem cnt_rev (w : List Int) : cntL w.reverse = cntL w := by
  funext c
  exact List.count_reverse
def okB (p : Int) (B : Int → Int) : Prop := ∀ j, 0 ≤ j → j < p → 0 ≤ B j ∧ B j ≤ 4
theorem okB_seg {p : Int} {B : Int → Int} (h : okB p B) {a : Int} {n : Nat} (h0 : 0 ≤ a) (h1 : a + n ≤ p) : okL (seg B a n) := fun c hc => by
  obtain ⟨j, q1, q2, rfl⟩ := seg_mem n a hc
  exact h j (by omega) (by omega)
/-- a next order: one more in rank; none: the highest -/
theorem NO_rank {p : Int} {B : Int → Int} (hp : 0 ≤ p) (hok : okB p B) :
    (NOr p B = 0 ∧ rank (seg B 0 p.toNat) + 1 = Mw (seg B 0 p.toNat)) ∨
    (NOr p B = 1 ∧ rank (seg (NOf p B) 0 p.toNat) = rank (seg B 0 p.toNat) + 1 ∧ cntL (seg (NOf p B) 0 p.toNat) = cntL (seg B 0 p.toNat) ∧ okB p (NOf p B)) := by
  have hl := lowG_spec B (p - 1).toNat
  have el : lowN p B = lowG B (p - 1).toNat := rfl
  rw [← el] at hl
  rcases hl with ⟨h1, h2⟩ | ⟨h1, h2, h3, h4⟩
  · left
    refine ⟨by unfold NOr; rw [if_pos (by omega)], rank_max _ (okB_seg hok (by omega) (by omega)) (seg_pair _ _ (fun j k q1 q2 q3 => ?_))⟩
    exact desc_le (a := 0) (b := p) (fun j r1 r2 => h2 j r1 (by omega)) q1 (by omega) (by omega)
  · right
    have hh := highG_spec B (B (lowN p B)) p.toNat
    have eh : highN p B = highG B (B (lowN p B)) p.toNat := rfl
    rw [← eh] at hh
    have hN : NOf p B = revf (swp B (lowN p B) (highN p B)) (lowN p B + 1) (p - 1) := by
      unfold NOf
      rw [if_neg (by omega)]
    obtain ⟨a, ha⟩ : ∃ a, lowN p B = a := ⟨_, rfl⟩
    obtain ⟨b, hb⟩ : ∃ b, highN p B = b := ⟨_, rfl⟩
    rw [ha] at h1 h2 h3 h4 hh hN
    rw [hb] at hh hN
    have h2' : a < p - 1 := by omega
    have hd : ∀ j, a + 1 ≤ j → j + 1 < p → B (j + 1) ≤ B j := fun j q1 q2 => h4 j (by omega) (by omega)
    rcases hh with ⟨k1, k2⟩ | ⟨k1, k2, k3, k4⟩
    · have := k2 (a + 1) (by omega) (by omega)
      omega
    have k2' : b < p := by omega
    have hab : a < b := by
      rcases Int.lt_trichotomy a b with q | q | q
      · exact q
      · rw [← q] at k3; omega
      · have := k4 (a + 1) (by omega) (by omega)
        omega
    -- the swapped row
    obtain ⟨S, hS⟩ : ∃ S, swp B a b = S := ⟨_, rfl⟩
    rw [hS] at hN
    have Sa : S a = B b := by
      rw [← hS]; unfold swp; rw [if_neg (by omega), if_pos rfl]
    have Sb : S b = B a := by
      rw [← hS]; unfold swp; rw [if_pos rfl]
    have Sj : ∀ j, j ≠ a → j ≠ b → S j = B j := fun j q1 q2 => by
      rw [← hS]; unfold swp; rw [if_neg q2, if_neg q1]
    have hSd : ∀ j, a + 1 ≤ j → j + 1 < p → S (j + 1) ≤ S j := fun j q1 q2 => by
      have d1 := hd j q1 q2
      by_cases e1 : j + 1 = b
      · rw [e1, Sb, Sj j (by omega) (by omega)]
        rw [e1] at d1
        omega
      · by_cases e2 : j = b
        · rw [e2, Sb, Sj (b + 1) (by omega) (by omega)]
          exact k4 (b + 1) (by omega) (by omega)
        · rw [Sj j (by omega) e2, Sj (j + 1) (by omega) e1]
          exact d1
    obtain ⟨C, hC⟩ : ∃ C, NOf p B = C := ⟨_, rfl⟩
    rw [hC] at hN
    have Clow : ∀ j, j < a → C j = B j := fun j q => by
      rw [hN]; unfold revf; rw [if_neg (by omega)]; exact Sj j (by omega) (by omega)
    have Ca : C a = B b := by
      rw [hN]; unfold revf; rw [if_neg (by omega)]; exact Sa
    have Chi : ∀ j, a + 1 ≤ j → j < p → C j = S (a + p - j) := fun j q1 q2 => by
      rw [hN]; unfold revf; rw [if_pos (by omega)]; congr 1; omega
    obtain ⟨m, hm⟩ : ∃ m : Nat, (m : Int) = p - 1 - a := ⟨(p - 1 - a).toNat, by omega⟩
    obtain ⟨u, hu⟩ : ∃ u : Nat, (u : Int) = a := ⟨a.toNat, by omega⟩
    have hn : p.toNat = u + (m + 1) := by omega
    have sB : seg B 0 p.toNat = seg B 0 u ++ (B a :: seg B (a + 1) m) := by
      rw [hn, seg_app, show (0 : Int) + (u : Int) = a by omega]
      rfl
    have sC : seg C 0 p.toNat = seg B 0 u ++ (B b :: seg C (a + 1) m) := by
      rw [hn, seg_app, show (0 : Int) + (u : Int) = a by omega, seg_congr u 0 (fun j q1 q2 => Clow j (by omega))]
      show _ ++ (C a :: seg C (a + 1) m) = _
      rw [Ca]
    have hok2 : okB p C := fun j q1 q2 => by
      have hSok : ∀ j, 0 ≤ j → j < p → 0 ≤ S j ∧ S j ≤ 4 := fun j r1 r2 => by
        by_cases e1 : j = a
        · rw [e1, Sa]; exact hok b k1 k2'
        · by_cases e2 : j = b
          · rw [e2, Sb]; exact hok a h1 (by omega)
          · rw [Sj j e1 e2]; exact hok j r1 r2
      by_cases e1 : j < a
      · rw [Clow j e1]; exact hok j q1 q2
      · by_cases e2 : j = a
        · rw [e2, Ca]; exact hok b k1 k2'
        · rw [Chi j (by omega) q2]; exact hSok _ (by omega) (by omega)
    have sE : seg C (a + 1) m = (seg S (a + 1) m).reverse := by
      rw [seg_congr m (a + 1) (fun j q1 q2 => Chi j q1 (by omega)), seg_rev S (a + p) m (a + 1), show a + p - (a + 1) - (m : Int) + 1 = a + 1 by omega]
    have hcnt : cntL (B a :: seg B (a + 1) m) = cntL (B b :: seg C (a + 1) m) := by
      have e1 : cntL (seg S a (m + 1)) = cntL (seg B a (m + 1)) := by
        rw [← hS]
        exact cnt_swp (by omega) (by omega) (by omega) (by omega)
      have e2 : seg S a (m + 1) = B b :: seg S (a + 1) m := by
        show S a :: _ = _
        rw [Sa]
      have e3 : seg B a (m + 1) = B a :: seg B (a + 1) m := rfl
      rw [← e3, ← e1, e2]
      funext c
      rw [cnt_cons, cnt_cons, sE, cnt_rev]
    have hrk : rank (B b :: seg C (a + 1) m) = rank (B a :: seg B (a + 1) m) + 1 := by
      refine rank_next ?_ ?_ ?_ ?_ ?_ hcnt k3 ?_
      · exact okB_seg (n := m + 1) hok h1 (by omega)
      · intro c hc
        rcases List.mem_cons.mp hc with rfl | q
        · exact hok b k1 k2'
        · exact okB_seg (n := m) hok2 (by omega) (by omega) c q
      · exact seg_pair _ _ (fun j k q1 q2 q3 => desc_le hd q1 (by omega) (by omega))
      · refine seg_pair _ _ (fun j k q1 q2 q3 => ?_)
        rw [Chi j q1 (by omega), Chi k (by omega) (by omega)]
        exact desc_le hSd (by omega) (by omega) (by omega)
      · rw [seg_len, seg_len]
      · intro c hc
        obtain ⟨j, q1, q2, rfl⟩ := seg_mem m (a + 1) hc
        rintro ⟨r1, r2⟩
        by_cases e : j ≤ b
        · have := desc_le hd q1 e k2'
          omega
        · have := k4 j (by omega) (by omega)
          omega
    refine ⟨by unfold NOr; rw [if_neg (by omega)], ?_, ?_, ?_⟩
    · rw [hC, sB, sC]
      have := rank_app (seg B 0 u) (B a :: seg B (a + 1) m) (B b :: seg C (a + 1) m) (by simp [seg_len]) hcnt
      omega
    · rw [hC, sB, sC, cntL_app, cntL_app, hcnt]
    · rw [hC]; exact hok2
