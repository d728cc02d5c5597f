/-! ranks of rows: how many orders of the same colours are lower -/
def dec (b : Int → Nat) (c : Int) : Int → Nat := fun d => if d = c then b d - 1 else b d
def Nn : Nat → (Int → Nat) → Nat
  | 0, _ => 1
  | n + 1, b => (if b 0 = 0 then 0 else Nn n (dec b 0)) + (if b 1 = 0 then 0 else Nn n (dec b 1)) + (if b 2 = 0 then 0 else Nn n (dec b 2)) + (if b 3 = 0 then 0 else Nn n (dec b 3)) + (if b 4 = 0 then 0 else Nn n (dec b 4))
def tm (n : Nat) (b : Int → Nat) (c : Int) : Nat := if b c = 0 then 0 else Nn n (dec b c)
theorem Nn_succ (n : Nat) (b : Int → Nat) : Nn (n + 1) b = tm n b 0 + tm n b 1 + tm n b 2 + tm n b 3 + tm n b 4 := rfl
def lowS (n : Nat) (b : Int → Nat) (a : Int) : Nat := (if 0 < a then tm n b 0 else 0) + (if 1 < a then tm n b 1 else 0) + (if 2 < a then tm n b 2 else 0) + (if 3 < a then tm n b 3 else 0) + (if 4 < a then tm n b 4 else 0)
def cntL (w : List Int) : Int → Nat := fun c => w.count c
def rank : List Int → Nat
  | [] => 0
  | a :: t => lowS t.length (cntL (a :: t)) a + rank t
def Mw (w : List Int) : Nat := Nn w.length (cntL w)
def okL (w : List Int) : Prop := ∀ a ∈ w, 0 ≤ a ∧ a ≤ 4
theorem tm_zero {n : Nat} {b : Int → Nat} {c : Int} (h : b c = 0) : tm n b c = 0 := by unfold tm; rw [if_pos h]
theorem dec_cnt (a : Int) (t : List Int) : dec (cntL (a :: t)) a = cntL t := by
  funext d
  unfold dec cntL
  by_cases e : d = a
  · subst e
    simp
  · rw [if_neg e, List.count_cons_of_ne (fun h => e h.symm)]
theorem tm_head (a : Int) (t : List Int) : tm t.length (cntL (a :: t)) a = Mw t := by
  unfold tm Mw
  rw [if_neg, dec_cnt]
  unfold cntL
  simp
theorem five {a : Int} (h : 0 ≤ a ∧ a ≤ 4) : a = 0 ∨ a = 1 ∨ a = 2 ∨ a = 3 ∨ a = 4 := by omega
theorem low_le {n : Nat} {b : Int → Nat} {a : Int} (h : 0 ≤ a ∧ a ≤ 4) : lowS n b a + tm n b a ≤ Nn (n + 1) b := by
  rw [Nn_succ]
  unfold lowS
  rcases five h with rfl | rfl | rfl | rfl | rfl <;> simp <;> omega
theorem low_max {n : Nat} {b : Int → Nat} {a : Int} (h : 0 ≤ a ∧ a ≤ 4) (hz : ∀ c, a < c → b c = 0) : lowS n b a + tm n b a = Nn (n + 1) b := by
  rw [Nn_succ]
  unfold lowS
  have z1 : a < 1 → tm n b 1 = 0 := fun q => tm_zero (hz 1 q)
  have z2 : a < 2 → tm n b 2 = 0 := fun q => tm_zero (hz 2 q)
  have z3 : a < 3 → tm n b 3 = 0 := fun q => tm_zero (hz 3 q)
  have z4 : a < 4 → tm n b 4 = 0 := fun q => tm_zero (hz 4 q)
  rcases five h with rfl | rfl | rfl | rfl | rfl <;> simp <;> omega
theorem low_min {n : Nat} {b : Int → Nat} {a : Int} (h : 0 ≤ a ∧ a ≤ 4) (hz : ∀ c, c < a → b c = 0) : lowS n b a = 0 := by
  unfold lowS
  rcases five h with rfl | rfl | rfl | rfl | rfl <;> simp
  · exact tm_zero (hz 0 (by omega))
  · exact ⟨tm_zero (hz 0 (by omega)), tm_zero (hz 1 (by omega))⟩
  · exact ⟨⟨tm_zero (hz 0 (by omega)), tm_zero (hz 1 (by omega))⟩, tm_zero (hz 2 (by omega))⟩
  · exact ⟨⟨⟨tm_zero (hz 0 (by omega)), tm_zero (hz 1 (by omega))⟩, tm_zero (hz 2 (by omega))⟩, tm_zero (hz 3 (by omega))⟩
theorem low_gap {n : Nat} {b : Int → Nat} {x y : Int} (hx : 0 ≤ x ∧ x ≤ 4) (hy : 0 ≤ y ∧ y ≤ 4) (hxy : x < y) (hz : ∀ c, x < c → c < y → b c = 0) : lowS n b y = lowS n b x + tm n b x := by
  unfold lowS
  have z1 : x < 1 → 1 < y → tm n b 1 = 0 := fun q r => tm_zero (hz 1 q r)
  have z2 : x < 2 → 2 < y → tm n b 2 = 0 := fun q r => tm_zero (hz 2 q r)
  have z3 : x < 3 → 3 < y → tm n b 3 = 0 := fun q r => tm_zero (hz 3 q r)
  rcases five hx with rfl | rfl | rfl | rfl | rfl <;> rcases five hy with rfl | rfl | rfl | rfl | rfl <;> first | (exfalso; omega) | (simp <;> omega) | simp
theorem low_lt {n : Nat} {b : Int → Nat} {x y : Int} (hx : 0 ≤ x ∧ x ≤ 4) (hy : 0 ≤ y ∧ y ≤ 4) (hxy : x < y) : lowS n b x + tm n b x ≤ lowS n b y := by
  unfold lowS
  rcases five hx with rfl | rfl | rfl | rfl | rfl <;> rcases five hy with rfl | rfl | rfl | rfl | rfl <;> first | (exfalso; omega) | (simp <;> omega) | simp
theorem rank_lt : ∀ w : List Int, okL w → rank w + 1 ≤ Mw w
  | [], _ => Nat.le_refl _
  | a :: t, h => by
    have h1 := rank_lt t (fun c hc => h c (List.mem_cons_of_mem _ hc))
    have h2 := low_le (n := t.length) (b := cntL (a :: t)) (h a List.mem_cons_self)
    rw [tm_head] at h2
    show lowS t.length (cntL (a :: t)) a + rank t + 1 ≤ Nn (t.length + 1) (cntL (a :: t))
    omega
theorem cnt_zero {w : List Int} {c : Int} (h : ∀ a ∈ w, a ≠ c) : cntL w c = 0 := List.count_eq_zero.mpr (fun q => h c q rfl)
theorem rank_max : ∀ w : List Int, okL w → w.Pairwise (fun a b => b ≤ a) → rank w + 1 = Mw w
  | [], _, _ => rfl
  | a :: t, h, hp => by
    obtain ⟨p1, p2⟩ := List.pairwise_cons.mp hp
    have h1 := rank_max t (fun c hc => h c (List.mem_cons_of_mem _ hc)) p2
    have h2 := low_max (n := t.length) (b := cntL (a :: t)) (h a List.mem_cons_self) (fun c hc => cnt_zero (fun d hd => by
      rcases List.mem_cons.mp hd with rfl | q
      · omega
      · have := p1 d q
        omega))
    rw [tm_head] at h2
    show lowS t.length (cntL (a :: t)) a + rank t + 1 = Nn (t.length + 1) (cntL (a :: t))
    omega
theorem rank_min : ∀ w : List Int, okL w → w.Pairwise (fun a b => a ≤ b) → rank w = 0
  | [], _, _ => rfl
  | a :: t, h, hp => by
    obtain ⟨p1, p2⟩ := List.pairwise_cons.mp hp
    have h1 := rank_min t (fun c hc => h c (List.mem_cons_of_mem _ hc)) p2
    have h2 := low_min (n := t.length) (b := cntL (a :: t)) (h a List.mem_cons_self) (fun c hc => cnt_zero (fun d hd => by
      rcases List.mem_cons.mp hd with rfl | q
      · omega
      · have := p1 d q
        omega))
    show lowS t.length (cntL (a :: t)) a + rank t = 0
    omega
theorem rank_inj : ∀ (w v : List Int), okL w → okL v → w.length = v.length → cntL w = cntL v → rank w = rank v → w = v
  | [], [], _, _, _, _, _ => rfl
  | [], _ :: _, _, _, h, _, _ => by simp at h
  | _ :: _, [], _, _, h, _, _ => by simp at h
  | a :: t, b :: u, ho, hv, hl, hc, hr => by
    have hl2 : t.length = u.length := by simpa using hl
    have hr : lowS t.length (cntL (a :: t)) a + rank t = lowS u.length (cntL (b :: u)) b + rank u := hr
    have ha := ho a List.mem_cons_self
    have hb := hv b List.mem_cons_self
    have ot : okL t := fun c hc => ho c (List.mem_cons_of_mem _ hc)
    have ou : okL u := fun c hc => hv c (List.mem_cons_of_mem _ hc)
    have e1 := tm_head a t
    have e2 := tm_head b u
    have k1 := rank_lt t ot
    have k2 := rank_lt u ou
    rw [← hl2, ← hc] at hr
    rw [← hl2, ← hc] at e2
    have hab : a = b := by
      rcases Int.lt_trichotomy a b with q | q | q
      · have := low_lt (n := t.length) (b := cntL (a :: t)) ha hb q
        omega
      · exact q
      · have := low_lt (n := t.length) (b := cntL (a :: t)) hb ha q
        omega
    subst hab
    have hc2 : cntL t = cntL u := by rw [← dec_cnt a t, ← dec_cnt a u, hc]
    rw [rank_inj t u ot ou hl2 hc2 (by omega)]
theorem cntL_app (u s : List Int) : cntL (u ++ s) = fun c => cntL u c + cntL s c := by
  funext c
  exact List.count_append
theorem rank_app : ∀ (u s v : List Int), s.length = v.length → cntL s = cntL v → rank (u ++ v) + rank s = rank (u ++ s) + rank v
  | [], s, v, _, _ => by simp; omega
  | a :: u, s, v, hl, hc => by
    have h1 := rank_app u s v hl hc
    have h2 : cntL (a :: (u ++ v)) = cntL (a :: (u ++ s)) := by
      rw [← List.cons_append, ← List.cons_append, cntL_app, cntL_app, hc]
    have h3 : (u ++ v).length = (u ++ s).length := by simp [hl]
    show lowS (u ++ v).length (cntL (a :: (u ++ v))) a + rank (u ++ v) + rank s = lowS (u ++ s).length (cntL (a :: (u ++ s))) a + rank (u ++ s) + rank v
    rw [h2, h3]
    omega
theorem rank_next {x y : Int} {d e : List Int} (h1 : okL (x :: d)) (h2 : okL (y :: e)) (hd : d.Pairwise (fun a b => b ≤ a)) (he : e.Pairwise (fun a b => a ≤ b)) (hl : d.length = e.length) (hc : cntL (x :: d) = cntL (y :: e)) (hxy : x < y) (hg : ∀ c ∈ d, ¬ (x < c ∧ c < y)) : rank (y :: e) = rank (x :: d) + 1 := by
  have k1 := rank_max d (fun c hc => h1 c (List.mem_cons_of_mem _ hc)) hd
  have k2 := rank_min e (fun c hc => h2 c (List.mem_cons_of_mem _ hc)) he
  have k3 := low_gap (n := d.length) (b := cntL (x :: d)) (h1 x List.mem_cons_self) (h2 y List.mem_cons_self) hxy (fun c q1 q2 => cnt_zero (fun a ha => by
    rcases List.mem_cons.mp ha with rfl | q
    · omega
    · have := hg a q
      omega))
  rw [tm_head] at k3
  show lowS e.length (cntL (y :: e)) y + rank e = lowS d.length (cntL (x :: d)) x + rank d + 1
  rw [← hc, ← hl]
  omega
