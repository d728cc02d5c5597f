/-! all orders of told beans, one behind another; how many; that none is left out -/
def EqOn (p : Int) (B C : Int → Int) : Prop := ∀ j, 0 ≤ j → j < p → B j = C j
theorem EqOn.refl {p : Int} {B : Int → Int} : EqOn p B B := fun _ _ _ => rfl
theorem EqOn.symm {p : Int} {B C : Int → Int} (h : EqOn p B C) : EqOn p C B := fun j a b => (h j a b).symm
theorem EqOn.trans {p : Int} {B C D : Int → Int} (h : EqOn p B C) (k : EqOn p C D) : EqOn p B D := fun j a b => (h j a b).trans (k j a b)
theorem EqOn.segs {p : Int} {B C : Int → Int} (h : EqOn p B C) : seg B 0 p.toNat = seg C 0 p.toNat := seg_congr _ _ (fun j a b => h j a (by omega))
theorem EqOn.of {p : Int} {B C : Int → Int} (h : seg B 0 p.toNat = seg C 0 p.toNat) : EqOn p B C := fun j a b => seg_at _ _ h j a (by omega)
theorem lowG_congr {B C : Int → Int} : ∀ n : Nat, (∀ j : Int, 0 ≤ j → j ≤ n → B j = C j) → lowG B n = lowG C n
  | 0, _ => rfl
  | n + 1, h => by
    unfold lowG
    rw [h n (by omega) (by omega), h (n + 1) (by omega) (by omega), lowG_congr n (fun j a b => h j a (by omega))]
theorem highG_congr {B C : Int → Int} {v : Int} : ∀ n : Nat, (∀ j : Int, 0 ≤ j → j < n → B j = C j) → highG B v n = highG C v n
  | 0, _ => rfl
  | n + 1, h => by
    unfold highG
    rw [h n (by omega) (by omega), highG_congr n (fun j a b => h j a (by omega))]
theorem lowG_rng (B : Int → Int) (n : Nat) : lowG B n < n ∧ -1 ≤ lowG B n := by
  rcases lowG_spec B n with ⟨h1, _⟩ | ⟨h1, h2, _⟩ <;> omega
theorem highG_rng (B : Int → Int) (v : Int) (n : Nat) : highG B v n < n ∧ -1 ≤ highG B v n := by
  rcases highG_spec B v n with ⟨h1, _⟩ | ⟨h1, h2, _⟩ <;> omega
theorem lowN_congr {p : Int} {B C : Int → Int} (h : EqOn p B C) : lowN p B = lowN p C := by
  unfold lowN
  by_cases hp : p ≤ 0
  · rw [show (p - 1).toNat = 0 by omega]
    rfl
  · exact lowG_congr _ (fun j a b => h j a (by omega))
theorem NOr_congr {p : Int} {B C : Int → Int} (h : EqOn p B C) : NOr p B = NOr p C := by
  unfold NOr
  rw [lowN_congr h]
theorem NOf_congr {p : Int} {B C : Int → Int} (h : EqOn p B C) : EqOn p (NOf p B) (NOf p C) := by
  have e1 := lowN_congr h
  by_cases hl : lowN p C < 0
  · unfold NOf
    rw [e1, if_pos hl, if_pos hl]
    exact h
  have r1 := lowG_rng C (p - 1).toNat
  have el : lowN p C = lowG C (p - 1).toNat := rfl
  rw [← el] at r1
  have e2 : highN p B = highN p C := by
    unfold highN
    rw [e1, h (lowN p C) (by omega) (by omega)]
    exact highG_congr _ (fun j a b => h j a (by omega))
  have hs := highG_spec C (C (lowN p C)) p.toNat
  have eh : highN p C = highG C (C (lowN p C)) p.toNat := rfl
  rw [← eh] at hs
  have hl3 := lowG_spec C (p - 1).toNat
  rw [← el] at hl3
  have r2 : 0 ≤ highN p C ∧ highN p C < p := by
    rcases hs with ⟨k1, k2⟩ | ⟨k1, k2, _⟩
    · rcases hl3 with ⟨h1, _⟩ | ⟨h1, h2, h3, _⟩
      · omega
      · have := k2 (lowN p C + 1) (by omega) (by omega)
        omega
    · omega
  unfold NOf
  rw [e1, e2, if_neg hl, if_neg hl]
  have hsw : ∀ j, 0 ≤ j → j < p → swp B (lowN p C) (highN p C) j = swp C (lowN p C) (highN p C) j := fun j a b => by
    unfold swp
    rw [h (lowN p C) (by omega) (by omega), h (highN p C) r2.1 r2.2, h j a b]
  intro j a b
  unfold revf
  by_cases q : lowN p C + 1 ≤ j ∧ j ≤ p - 1
  · rw [if_pos q, if_pos q]
    exact hsw _ (by omega) (by omega)
  · rw [if_neg q, if_neg q]
    exact hsw j a b
def bsum (f : Int → Int) : Int := f 0 + f 1 + f 2 + f 3 + f 4
def colAt (f : Int → Int) : Int → Int := fun j => if j < f 0 then 0 else if j < f 0 + f 1 then 1 else if j < f 0 + f 1 + f 2 then 2 else if j < f 0 + f 1 + f 2 + f 3 then 3 else 4
/-- beans that can be -/
def okF (f : Int → Int) : Prop := 0 ≤ f 0 ∧ 0 ≤ f 1 ∧ 0 ≤ f 2 ∧ 0 ≤ f 3 ∧ 0 ≤ f 4 ∧ bsum f ≤ 7
theorem colAt_rng (f : Int → Int) (j : Int) : 0 ≤ colAt f j ∧ colAt f j ≤ 4 := by
  unfold colAt
  repeat' split
  all_goals omega
theorem colAt_mono {f : Int → Int} (h : okF f) {j k : Int} (hjk : j ≤ k) : colAt f j ≤ colAt f k := by
  obtain ⟨h0, h1, h2, h3, h4, h5⟩ := h
  unfold colAt
  repeat' split
  all_goals omega
def itB (f : Int → Int) : Nat → Int → Int
  | 0 => colAt f
  | k + 1 => NOf (bsum f) (itB f k)
def Hn (f : Int → Int) : Nat := Mw (seg (colAt f) 0 (bsum f).toNat)
theorem it_inv {f : Int → Int} (h : okF f) : ∀ k : Nat, k < Hn f → rank (seg (itB f k) 0 (bsum f).toNat) = k ∧ cntL (seg (itB f k) 0 (bsum f).toNat) = cntL (seg (colAt f) 0 (bsum f).toNat) ∧ okB (bsum f) (itB f k)
  | 0, _ => by
    refine ⟨rank_min _ (fun c hc => ?_) (seg_pair _ _ (fun j k q1 q2 q3 => colAt_mono h (by omega))), rfl, fun j _ _ => colAt_rng f j⟩
    obtain ⟨j, _, _, rfl⟩ := seg_mem _ _ hc
    exact colAt_rng f j
  | k + 1, hk => by
    obtain ⟨h1, h2, h3⟩ := it_inv h k (by omega)
    have hp : 0 ≤ bsum f := by
      obtain ⟨a0, a1, a2, a3, a4, a5⟩ := h
      unfold bsum
      omega
    have hM : Mw (seg (itB f k) 0 (bsum f).toNat) = Hn f := by
      unfold Mw Hn Mw
      rw [h2, seg_len, seg_len]
    rcases NO_rank hp h3 with ⟨_, k2⟩ | ⟨_, k2, k3, k4⟩
    · omega
    · exact ⟨by rw [show itB f (k + 1) = NOf (bsum f) (itB f k) from rfl, k2, h1], k3.trans h2, k4⟩
theorem bsum_pos {f : Int → Int} (h : okF f) : 0 ≤ bsum f := by
  obtain ⟨a0, a1, a2, a3, a4, a5⟩ := h
  unfold bsum
  omega
theorem it_Mw {f : Int → Int} (h : okF f) {k : Nat} (hk : k < Hn f) : Mw (seg (itB f k) 0 (bsum f).toNat) = Hn f := by
  unfold Mw Hn Mw
  rw [(it_inv h k hk).2.1, seg_len, seg_len]
theorem it_more {f : Int → Int} (h : okF f) {k : Nat} (hk : k + 1 < Hn f) : NOr (bsum f) (itB f k) = 1 := by
  have i := it_inv h k (by omega)
  rcases NO_rank (bsum_pos h) i.2.2 with ⟨_, k2⟩ | ⟨k1, _⟩
  · rw [it_Mw h (by omega), i.1] at k2
    omega
  · exact k1
theorem it_last {f : Int → Int} (h : okF f) {k : Nat} (hk : k + 1 = Hn f) : NOr (bsum f) (itB f k) = 0 := by
  have i := it_inv h k (by omega)
  rcases NO_rank (bsum_pos h) i.2.2 with ⟨k1, _⟩ | ⟨_, k2, k3, k4⟩
  · exact k1
  · have := rank_lt _ (okB_seg (a := 0) (n := (bsum f).toNat) k4 (by omega) (by have := bsum_pos h; omega))
    have e : Mw (seg (NOf (bsum f) (itB f k)) 0 (bsum f).toNat) = Hn f := by
      unfold Mw Hn Mw
      rw [k3, i.2.1, seg_len, seg_len]
    rw [e, k2, i.1] at this
    omega
theorem Hn_pos {f : Int → Int} : 1 ≤ Hn f := by
  have := rank_lt (seg (colAt f) 0 (bsum f).toNat) (fun c hc => by
    obtain ⟨j, _, _, rfl⟩ := seg_mem _ _ hc
    exact colAt_rng f j)
  unfold Hn
  omega
/-- no order is left out -/
theorem it_all {f B : Int → Int} (h : okF f) (hB : okB (bsum f) B) (hc : cntL (seg B 0 (bsum f).toNat) = cntL (seg (colAt f) 0 (bsum f).toNat)) : ∃ k : Nat, k < Hn f ∧ EqOn (bsum f) B (itB f k) := by
  have hp := bsum_pos h
  have h1 := rank_lt (seg B 0 (bsum f).toNat) (okB_seg hB (by omega) (by omega))
  have e : Mw (seg B 0 (bsum f).toNat) = Hn f := by
    unfold Mw Hn Mw
    rw [hc, seg_len, seg_len]
  rw [e] at h1
  refine ⟨rank (seg B 0 (bsum f).toNat), by omega, EqOn.of ?_⟩
  obtain ⟨i1, i2, i3⟩ := it_inv h (rank (seg B 0 (bsum f).toNat)) (by omega)
  exact rank_inj _ _ (okB_seg hB (by omega) (by omega)) (okB_seg i3 (by omega) (by omega)) (by rw [seg_len, seg_len]) (hc.trans i2.symm) i1.symm
theorem it_one {f : Int → Int} (h : okF f) {k m : Nat} (hk : k < Hn f) (hm : m < Hn f) (e : EqOn (bsum f) (itB f k) (itB f m)) : k = m := by
  rw [← (it_inv h k hk).1, ← (it_inv h m hm).1, e.segs]
/-- how many at most -/
def N5 : Nat → Nat → Nat → Nat → Nat → Nat → Nat
  | 0, _, _, _, _, _ => 1
  | n + 1, a, b, c, d, e => (match a with | 0 => 0 | a' + 1 => N5 n a' b c d e) + (match b with | 0 => 0 | b' + 1 => N5 n a b' c d e) + (match c with | 0 => 0 | c' + 1 => N5 n a b c' d e) + (match d with | 0 => 0 | d' + 1 => N5 n a b c d' e) + (match e with | 0 => 0 | e' + 1 => N5 n a b c d e')
theorem Nn_N5 : ∀ (n : Nat) (b : Int → Nat), Nn n b = N5 n (b 0) (b 1) (b 2) (b 3) (b 4)
  | 0, _ => rfl
  | n + 1, b => by
    have t : ∀ c, Nn n (dec b c) = N5 n (dec b c 0) (dec b c 1) (dec b c 2) (dec b c 3) (dec b c 4) := fun c => Nn_N5 n (dec b c)
    have d1 : ∀ c : Int, dec b c c = b c - 1 := fun c => by unfold dec; rw [if_pos rfl]
    have d2 : ∀ c d : Int, d ≠ c → dec b c d = b d := fun c d q => by unfold dec; rw [if_neg q]
    unfold Nn N5
    rw [t 0, t 1, t 2, t 3, t 4, d1, d1, d1, d1, d1]
    simp only [d2 0 1 (by decide), d2 0 2 (by decide), d2 0 3 (by decide), d2 0 4 (by decide), d2 1 0 (by decide), d2 1 2 (by decide), d2 1 3 (by decide), d2 1 4 (by decide), d2 2 0 (by decide), d2 2 1 (by decide), d2 2 3 (by decide), d2 2 4 (by decide), d2 3 0 (by decide), d2 3 1 (by decide), d2 3 2 (by decide), d2 3 4 (by decide), d2 4 0 (by decide), d2 4 1 (by decide), d2 4 2 (by decide), d2 4 3 (by decide)]
    congr 1
    · congr 1
      · congr 1
        · congr 1
          · cases b 0 <;> simp
          · cases b 1 <;> simp
        · cases b 2 <;> simp
      · cases b 3 <;> simp
    · cases b 4 <;> simp
set_option maxRecDepth 100000 in
theorem N5_all : ∀ n : Fin 8, ∀ a : Fin 8, ∀ b : Fin 8, ∀ c : Fin 8, ∀ d : Fin 8, a.1 + b.1 + c.1 + d.1 ≤ n.1 → N5 n.1 a.1 b.1 c.1 d.1 (n.1 - a.1 - b.1 - c.1 - d.1) ≤ 1260 := by decide +kernel
theorem cnt_colAt {f : Int → Int} (h : okF f) (c : Int) (hc : 0 ≤ c ∧ c ≤ 4) : cntL (seg (colAt f) 0 (bsum f).toNat) c = (f c).toNat := by
  obtain ⟨a0, a1, a2, a3, a4, a5⟩ := h
  have hb : bsum f = f 0 + f 1 + f 2 + f 3 + f 4 := rfl
  have konst : ∀ (v : Int) (n : Nat) (a : Int), (∀ j, a ≤ j → j < a + n → colAt f j = v) → cntL (seg (colAt f) a n) c = if v = c then n else 0 := fun v n => by
    induction n with
    | zero => intro a _; show cntL [] c = _; split <;> rfl
    | succ n ih =>
      intro a q
      show cntL (colAt f a :: seg (colAt f) (a + 1) n) c = _
      rw [cnt_cons, ih (a + 1) (fun j r1 r2 => q j (by omega) (by omega)), q a (by omega) (by omega)]
      unfold ind
      split <;> omega
  have e : (bsum f).toNat = (f 0).toNat + ((f 1).toNat + ((f 2).toNat + ((f 3).toNat + (f 4).toNat))) := by omega
  rw [e, seg_app, seg_app, seg_app, seg_app, cntL_app, cntL_app, cntL_app, cntL_app]
  show cntL (seg (colAt f) 0 (f 0).toNat) c + (cntL (seg (colAt f) _ (f 1).toNat) c + (cntL (seg (colAt f) _ (f 2).toNat) c + (cntL (seg (colAt f) _ (f 3).toNat) c + cntL (seg (colAt f) _ (f 4).toNat) c))) = _
  rw [konst 0 _ _ (fun j q1 q2 => by unfold colAt; rw [if_pos (by omega)]), konst 1 _ _ (fun j q1 q2 => by unfold colAt; rw [if_neg (by omega), if_pos (by omega)]), konst 2 _ _ (fun j q1 q2 => by unfold colAt; rw [if_neg (by omega), if_neg (by omega), if_pos (by omega)]), konst 3 _ _ (fun j q1 q2 => by unfold colAt; rw [if_neg (by omega), if_neg (by omega), if_neg (by omega), if_pos (by omega)]), konst 4 _ _ (fun j q1 q2 => by unfold colAt; rw [if_neg (by omega), if_neg (by omega), if_neg (by omega), if_neg (by omega)])]
  rcases five hc with rfl | rfl | rfl | rfl | rfl <;> simp
theorem Hn_le {f : Int → Int} (h : okF f) : Hn f ≤ 1260 := by
  unfold Hn Mw
  rw [Nn_N5, seg_len, cnt_colAt h 0 (by omega), cnt_colAt h 1 (by omega), cnt_colAt h 2 (by omega), cnt_colAt h 3 (by omega), cnt_colAt h 4 (by omega)]
  obtain ⟨a0, a1, a2, a3, a4, a5⟩ := h
  have hb : bsum f = f 0 + f 1 + f 2 + f 3 + f 4 := rfl
  have := N5_all ⟨(bsum f).toNat, by omega⟩ ⟨(f 0).toNat, by omega⟩ ⟨(f 1).toNat, by omega⟩ ⟨(f 2).toNat, by omega⟩ ⟨(f 3).toNat, by omega⟩ (by show (f 0).toNat + (f 1).toNat + (f 2).toNat + (f 3).toNat ≤ (bsum f).toNat; omega)
  simp only at this
  rwa [show (bsum f).toNat - (f 0).toNat - (f 1).toNat - (f 2).toNat - (f 3).toNat = (f 4).toNat by omega] at this
