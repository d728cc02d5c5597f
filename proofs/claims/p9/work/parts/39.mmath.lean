/-! rows for the reference: codes of rows, tables of houses -/
def codL : Nat → List Int → Nat
  | acc, [] => acc
  | acc, a :: t => codL (5 * acc + a.toNat) t
theorem codL_add : ∀ (t : List Int) (acc : Nat), codL acc t = acc * 5 ^ t.length + codL 0 t
  | [], acc => by simp [codL]
  | a :: t, acc => by
    show codL (5 * acc + a.toNat) t = acc * 5 ^ (t.length + 1) + codL (5 * 0 + a.toNat) t
    rw [codL_add t (5 * acc + a.toNat), codL_add t (5 * 0 + a.toNat), Nat.pow_succ, Nat.add_mul, Nat.add_mul]
    have : 5 * acc * 5 ^ t.length = acc * (5 ^ t.length * 5) := by
      rw [Nat.mul_comm 5 acc, Nat.mul_assoc, Nat.mul_comm 5]
    omega
theorem codL_lt : ∀ t : List Int, okL t → codL 0 t < 5 ^ t.length
  | [], _ => by decide
  | a :: t, h => by
    have h1 := codL_lt t (fun c hc => h c (List.mem_cons_of_mem _ hc))
    have ha := h a List.mem_cons_self
    show codL (5 * 0 + a.toNat) t < 5 ^ (t.length + 1)
    rw [codL_add, Nat.pow_succ]
    have h2 : (5 * 0 + a.toNat) * 5 ^ t.length ≤ 4 * 5 ^ t.length := Nat.mul_le_mul_right _ (by omega)
    omega
theorem code_mono : ∀ (w v : List Int), okL w → okL v → w.length = v.length → cntL w = cntL v → rank w < rank v → codL 0 w < codL 0 v
  | [], [], _, _, _, _, h => by simp [rank] at h
  | [], _ :: _, _, _, h, _, _ => by simp at h
  | _ :: _, [], _, _, h, _, _ => by simp at h
  | a :: t, b :: u, ho, hv, hl, hc, hr => by
    have hl2 : t.length = u.length := by simpa using hl
    have hr : lowS t.length (cntL (a :: t)) a + rank t < lowS u.length (cntL (b :: u)) b + rank u := hr
    have ha := ho a List.mem_cons_self
    have hb := hv b List.mem_cons_self
    have ot : okL t := fun c hc => ho c (List.mem_cons_of_mem _ hc)
    have ou : okL u := fun c hc => hv c (List.mem_cons_of_mem _ hc)
    have e1 := tm_head a t
    have e2 := tm_head b u
    have k1 := rank_lt t ot
    have k2 := rank_lt u ou
    rw [← hl2, ← hc] at hr
    rw [← hl2, ← hc] at e2
    have c1 := codL_lt t ot
    have c2 := codL_lt u ou
    show codL (5 * 0 + a.toNat) t < codL (5 * 0 + b.toNat) u
    rw [codL_add, codL_add u, ← hl2]
    rcases Int.lt_trichotomy a b with q | q | q
    · have h5 : (5 * 0 + a.toNat + 1) * 5 ^ t.length ≤ (5 * 0 + b.toNat) * 5 ^ t.length := Nat.mul_le_mul_right _ (by omega)
      rw [Nat.add_mul, Nat.one_mul] at h5
      omega
    · subst q
      have hc2 : cntL t = cntL u := by rw [← dec_cnt a t, ← dec_cnt a u, hc]
      have := code_mono t u ot ou hl2 hc2 (by omega)
      omega
    · have := low_lt (n := t.length) (b := cntL (a :: t)) hb ha q
      omega
/-- a row's code, as the programs count it -/
def cod5 (B : Int → Int) : Nat → Int
  | 0 => 0
  | n + 1 => 5 * cod5 B n + B n
theorem cod5_step {B : Int → Int} {i r z r2 : Int} (h : cod5 B i.toNat = r) (h0 : 0 ≤ i) (e : B i = z) (e2 : r2 = 5 * r + z) : cod5 B (i + 1).toNat = r2 := by
  rw [show (i + 1).toNat = i.toNat + 1 by omega]
  unfold cod5
  rw [h, show ((i.toNat : Nat) : Int) = i by omega, e, e2]
theorem cod5_congr {B C : Int → Int} : ∀ n : Nat, (∀ j : Int, 0 ≤ j → j < n → B j = C j) → cod5 B n = cod5 C n
  | 0, _ => rfl
  | n + 1, h => by
    unfold cod5
    rw [cod5_congr n (fun j a b => h j a (by omega)), h n (by omega) (by omega)]
theorem codL_snoc : ∀ (t : List Int) (acc : Nat) (a : Int), codL acc (t ++ [a]) = 5 * codL acc t + a.toNat
  | [], acc, a => rfl
  | b :: t, acc, a => codL_snoc t (5 * acc + b.toNat) a
theorem cod5_L {B : Int → Int} : ∀ n : Nat, okB n B → cod5 B n = (codL 0 (seg B 0 n) : Int)
  | 0, _ => rfl
  | n + 1, h => by
    have h1 := cod5_L n (fun j a b => h j a (by omega))
    have h2 := h n (by omega) (by omega)
    rw [seg_app B n 1 0, show seg B (0 + n) 1 = [B n] by show [B (0 + n)] = _; rw [Int.zero_add], codL_snoc]
    unfold cod5
    rw [h1]
    omega
theorem cod5_rng {B : Int → Int} : ∀ n : Nat, n ≤ 7 → okB n B → 0 ≤ cod5 B n ∧ cod5 B n < 78125 := fun n hn h => by
  rw [cod5_L n h]
  have h1 := codL_lt (seg B 0 n) (okB_seg h (Int.le_refl 0) (by omega))
  rw [seg_len] at h1
  have h2 : 5 ^ n ≤ 5 ^ 7 := Nat.pow_le_pow_right (by decide) hn
  have e : (5 : Nat) ^ 7 = 78125 := by decide
  omega
theorem it_code {f : Int → Int} (h : okF f) {k m : Nat} (hk : k < m) (hm : m < Hn f) : cod5 (itB f k) (bsum f).toNat < cod5 (itB f m) (bsum f).toNat := by
  obtain ⟨k1, k2, k3⟩ := it_inv h k (by omega)
  obtain ⟨m1, m2, m3⟩ := it_inv h m hm
  have hp := bsum_pos h
  have e : ((bsum f).toNat : Int) = bsum f := by omega
  rw [cod5_L _ (by rw [e]; exact k3), cod5_L _ (by rw [e]; exact m3)]
  have := code_mono _ _ (okB_seg k3 (Int.le_refl 0) (by omega)) (okB_seg m3 (Int.le_refl 0) (by omega)) (by rw [seg_len, seg_len]) (k2.trans m2.symm) (by rw [k1, m1]; exact hk)
  omega
/-- the tables of houses -/
def HouT (co cd f : Int → Int) (k : Int) : Prop := ∀ h, 0 ≤ h → h < k → cd h = cod5 (itB f h.toNat) (bsum f).toNat ∧ ∀ j, 0 ≤ j → j < bsum f → co (7 * h + j) = itB f h.toNat j
theorem HouT_0 {co cd f : Int → Int} : HouT co cd f 0 := fun h a b => by omega
/-- the colours of the house that is laid: those ahead of j stand -/
def ColT (co0 co B : Int → Int) (k j : Int) : Prop := (∀ i, 0 ≤ i → i < j → co (7 * k + i) = B i) ∧ ∀ x, x < 7 * k → co x = co0 x
theorem ColT_0 {co B : Int → Int} {k : Int} : ColT co co B k 0 := ⟨fun i a b => by omega, fun _ _ => rfl⟩
theorem ColT.step {co0 co co2 B : Int → Int} {k j z x : Int} (q : ColT co0 co B k j) (ez : B j = z) (hj : 0 ≤ j) (hx : x = 7 * k + j) (e : co2 = up co x z) : ColT co0 co2 B k (j + 1) := by
  subst e hx
  refine ⟨fun i a b => ?_, fun y hy => by rw [up_ne (by omega)]; exact q.2 y hy⟩
  by_cases r : i = j
  · rw [r, up_same, ez]
  · rw [up_ne (by omega)]
    exact q.1 i a (by omega)
theorem HouT.push {co co2 cd cd2 f B : Int → Int} {k p v more : Int} (q : HouT co cd f k) (hk0 : 0 ≤ k) (hc : ColT co co2 B k p) (hp : p = bsum f) (hp7 : p ≤ 7) (hm : more = 1 → EqOn (bsum f) B (itB f k.toNat)) (h1 : more = 1) (hv : cod5 B p.toNat = v) (e : cd2 = up cd k v) : HouT co2 cd2 f (k + 1) := fun h a b => by
  subst e hp
  by_cases r : h = k
  · subst r
    refine ⟨by rw [up_same, ← hv]; exact cod5_congr _ (fun j c d => hm h1 j c (by omega)), fun j c d => ?_⟩
    rw [hc.1 j c d]
    exact hm h1 j c d
  · obtain ⟨q1, q2⟩ := q h a (by omega)
    refine ⟨by rw [up_ne r]; exact q1, fun j c d => ?_⟩
    rw [hc.2 _ (by omega)]
    exact q2 j c d
theorem HouT.col {co cd f : Int → Int} {m h j z : Int} (q : HouT co cd f m) (hf : okF f) (hm : m = Hi f) (h0 : 0 ≤ h) (h1 : h < m) (j0 : 0 ≤ j) (j1 : j < bsum f) (e : co (7 * h + j) = z) : z = itB f h.toNat j ∧ 0 ≤ z ∧ z ≤ 4 := by
  have hx : h.toNat < Hn f := by unfold Hi at hm; omega
  have k := (it_inv hf h.toNat hx).2.2 j j0 j1
  rw [(q h h0 h1).2 j j0 j1] at e
  subst e
  exact ⟨rfl, k⟩
theorem HouT.code {co cd f : Int → Int} {m h z : Int} (q : HouT co cd f m) (hf : okF f) (hm : m = Hi f) (h0 : 0 ≤ h) (h1 : h < m) (e : cd h = z) : 0 ≤ z ∧ z < 78125 := by
  have hx : h.toNat < Hn f := by unfold Hi at hm; omega
  have hp := bsum_pos hf
  have k := cod5_rng (bsum f).toNat (by have := hf.2.2.2.2.2; omega) (by rw [show ((bsum f).toNat : Int) = bsum f by omega]; exact (it_inv hf h.toNat hx).2.2)
  rw [(q h h0 h1).1] at e
  subst e
  exact k
theorem HouT.mono {co cd f : Int → Int} {m a b x y : Int} (q : HouT co cd f m) (hf : okF f) (hm : m = Hi f) (a0 : 0 ≤ a) (hab : a < b) (hb : b < m) (ea : cd a = x) (eb : cd b = y) : x < y := by
  rw [← ea, ← eb, (q a a0 (by omega)).1, (q b (by omega) hb).1]
  exact it_code hf (by omega) (by unfold Hi at hm; omega)
/-- where a code stands, between low and high -/
def Tgt (cd : Int → Int) (m x low high : Int) : Prop := ∀ t, 0 ≤ t → t < m → cd t = x → low ≤ t ∧ t ≤ high
theorem Tgt.low {co cd f : Int → Int} {m x low high mid z : Int} (q : Tgt cd m x low high) (hT : HouT co cd f m) (hf : okF f) (hm : m = Hi f) (m0 : 0 ≤ mid) (m1 : mid < m) (e : cd mid = z) (hz : z < x) : Tgt cd m x (mid + 1) high := fun t a b c => by
  obtain ⟨q1, q2⟩ := q t a b c
  refine ⟨?_, q2⟩
  rcases Int.lt_trichotomy t mid with w | w | w
  · have := hT.mono hf hm a w m1 c e
    omega
  · rw [w, e] at c; omega
  · omega
theorem Tgt.high {co cd f : Int → Int} {m x low high mid z : Int} (q : Tgt cd m x low high) (hT : HouT co cd f m) (hf : okF f) (hm : m = Hi f) (m0 : 0 ≤ mid) (m1 : mid < m) (e : cd mid = z) (hz : x ≤ z) : Tgt cd m x low mid := fun t a b c => by
  obtain ⟨q1, q2⟩ := q t a b c
  refine ⟨q1, ?_⟩
  by_cases w : mid < t
  · have := hT.mono hf hm m0 w b e c
    omega
  · omega
/-- an order of the same beans has a house -/
def Perm5 (B f : Int → Int) : Prop := okB (bsum f) B ∧ cntL (seg B 0 (bsum f).toNat) = cntL (seg (colAt f) 0 (bsum f).toNat)
theorem perm_house {co cd f B : Int → Int} {m x : Int} (hT : HouT co cd f m) (hf : okF f) (hm : m = Hi f) (hB : Perm5 B f) (hx : cod5 B (bsum f).toNat = x) : ∃ t, 0 ≤ t ∧ t < m ∧ cd t = x ∧ EqOn (bsum f) B (itB f t.toNat) := by
  obtain ⟨k, k1, k2⟩ := it_all hf hB.1 hB.2
  have hp := bsum_pos hf
  refine ⟨k, by omega, by unfold Hi at hm; omega, ?_, by rw [Int.toNat_natCast]; exact k2⟩
  rw [(hT k (by omega) (by unfold Hi at hm; omega)).1, Int.toNat_natCast, ← hx]
  exact (cod5_congr _ (fun j a b => k2 j a (by omega))).symm
theorem Perm_it {f : Int → Int} {h : Int} {B : Int → Int} (hf : okF f) (h0 : 0 ≤ h) (h1 : h < Hi f) (e : EqOn (bsum f) B (itB f h.toNat)) : Perm5 B f := by
  obtain ⟨i1, i2, i3⟩ := it_inv hf h.toNat (by unfold Hi at h1; omega)
  refine ⟨fun j a b => by rw [e j a b]; exact i3 j a b, ?_⟩
  rw [e.segs]
  exact i2
theorem Perm5.swap {B C f : Int → Int} {a b : Int} (hf : okF f) (h : Perm5 B f) (a0 : 0 ≤ a) (a1 : a < bsum f) (b0 : 0 ≤ b) (b1 : b < bsum f) (e : C = swp B a b) : Perm5 C f := by
  subst e
  have hp := bsum_pos hf
  refine ⟨fun j c d => ?_, (cnt_swp a0 (by omega) b0 (by omega)).trans h.2⟩
  unfold swp
  repeat' split
  · exact h.1 a a0 a1
  · exact h.1 b b0 b1
  · exact h.1 j c d
theorem cnt_rot {B C : Int → Int} {p : Int} (hp : 1 ≤ p) (hC : ∀ j, 0 ≤ j → j < p - 1 → C j = B (j + 1)) (hl : C (p - 1) = B 0) : cntL (seg C 0 p.toNat) = cntL (seg B 0 p.toNat) := by
  obtain ⟨n, hn⟩ : ∃ n : Nat, p.toNat = n + 1 := ⟨p.toNat - 1, by omega⟩
  have e1 : seg C 0 (n + 1) = seg C 0 n ++ [C (p - 1)] := by
    rw [seg_app C n 1 0]
    show _ ++ [C (0 + n)] = _
    rw [show (0 : Int) + n = p - 1 by omega]
  have e2 : seg C 0 n = seg B 1 n := by
    have : ∀ (k : Nat) (a : Int), 0 ≤ a → a + k ≤ n → seg C a k = seg B (a + 1) k := fun k => by
      induction k with
      | zero => intro a _ _; rfl
      | succ k ih =>
        intro a h0 h1
        show C a :: seg C (a + 1) k = B (a + 1) :: seg B (a + 1 + 1) k
        rw [hC a h0 (by omega), ih (a + 1) (by omega) (by omega)]
    exact this n 0 (Int.le_refl 0) (by omega)
  rw [hn, e1, e2, hl]
  funext c
  show cntL (seg B 1 n ++ [B 0]) c = cntL (B 0 :: seg B (0 + 1) n) c
  rw [cntL_app, cnt_cons]
  show cntL (seg B 1 n) c + cntL [B 0] c = _
  rw [show cntL [B 0] c = cntL [] c + ind (B 0) c from cnt_cons _ _ _]
  have : cntL [] c = 0 := rfl
  rw [show (0 : Int) + 1 = 1 from rfl]
  omega
theorem Perm5.rot {B C f : Int → Int} (hf : okF f) (h : Perm5 B f) (hp : 1 ≤ bsum f) (hC : ∀ j, 0 ≤ j → j < bsum f - 1 → C j = B (j + 1)) (hl : C (bsum f - 1) = B 0) : Perm5 C f := by
  refine ⟨fun j c d => ?_, (cnt_rot hp hC hl).trans h.2⟩
  by_cases q : j < bsum f - 1
  · rw [hC j c q]; exact h.1 _ (by omega) (by omega)
  · rw [show j = bsum f - 1 by omega, hl]; exact h.1 0 (by omega) (by omega)
