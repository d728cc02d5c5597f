/-! what both sides bear in common: what is kept now and in both images (as the reference keeps it), the tape, the rest -/
abbrev tmk (x y : Int) : Prop := 0 ≤ x ∧ x ≤ 1 ∧ 0 ≤ y ∧ y ≤ 98 * x + 1
abbrev bnk (x y : Int) (F : Int → Int) : Prop := 0 ≤ x ∧ x ≤ 4 ∧ 0 ≤ y ∧ y ≤ 7 ∧ bsum F - F x + y ≤ 7
abbrev swk (x y p : Int) : Prop := 0 ≤ x ∧ x < y ∧ y < p
abbrev kpk (x n : Int) : Prop := 0 ≤ x ∧ x ≤ n
abbrev isB (x y m : Int) : Prop := 0 ≤ x ∧ x < m ∧ 0 ≤ y ∧ y < m
abbrev jAA : Type := (Int → Int) × (Int → Int) × (Int → Int) × (Int → Int) × (Int → Int)
theorem EqN.to {K S S2 : Int → Int} {n : Int} (e : S2 = S) (h : EqN K S n) : EqN K S2 n := e ▸ h
theorem EqN.out {K K2 S : Int → Int} {n i v : Int} (h : EqN K S n) (e : K2 = up K i v) (hi : n ≤ i) : EqN K2 S n := fun j a b => by
  rw [e, up_ne (by omega)]; exact h j a b
theorem bsum_eq {F G : Int → Int} (h : EqN F G 5) : bsum F = bsum G := by
  unfold bsum
  rw [h 0 (by decide) (by decide), h 1 (by decide) (by decide), h 2 (by decide) (by decide), h 3 (by decide) (by decide), h 4 (by decide) (by decide)]
theorem bnk_iff {F G : Int → Int} {x y : Int} (h : EqN F G 5) : bnk x y F ↔ bnk x y G := by
  have b := bsum_eq h
  refine ⟨fun q => ⟨q.1, q.2.1, q.2.2.1, q.2.2.2.1, ?_⟩, fun q => ⟨q.1, q.2.1, q.2.2.1, q.2.2.2.1, ?_⟩⟩
  · rw [← b, ← h x q.1 (by have := q.2.1; omega)]; exact q.2.2.2.2
  · rw [b, h x q.1 (by have := q.2.1; omega)]; exact q.2.2.2.2
/-- behind a change of beans: no walls, no clues, swap-ifs within the places -/
def swQ (S : Int → Int) (p : Int) : (Int → Int) × (Int → Int) × Int := dwL (od S 23) (od S 24) p (S 60).toNat
def nbS (S : Int → Int) : Int → Int := fun j => if j = 59 ∨ j = 61 then 0 else if j = 60 then (swQ S (bsum S)).2.2 else if 23 ≤ j ∧ j < 47 then (if j % 2 = 1 then (swQ S (bsum S)).1 ((j - 23) / 2) else (swQ S (bsum S)).2.1 ((j - 24) / 2)) else S j
theorem nbS_out {S : Int → Int} {j : Int} (h : j < 23 ∨ 47 ≤ j) (a : ¬ j = 59) (b : ¬ j = 60) (c : ¬ j = 61) : nbS S j = S j := by
  unfold nbS
  rw [if_neg (by omega), if_neg b, if_neg (by omega)]
theorem nbS_0 {S : Int → Int} {j : Int} (h : j = 59 ∨ j = 61) : nbS S j = 0 := by
  unfold nbS
  rw [if_pos h]
theorem nbS_60 {S : Int → Int} : nbS S 60 = (swQ S (bsum S)).2.2 := by
  unfold nbS
  rw [if_neg (by decide), if_pos rfl]
theorem nbS_a {S : Int → Int} {j : Int} (h0 : 0 ≤ j) (h1 : j < 12) : nbS S (2 * j + 23) = (swQ S (bsum S)).1 j := by
  unfold nbS
  rw [if_neg (by omega), if_neg (by omega), if_pos (by omega), if_pos (by omega), show (2 * j + 23 - 23) / 2 = j by omega]
theorem nbS_b {S : Int → Int} {j : Int} (h0 : 0 ≤ j) (h1 : j < 12) : nbS S (2 * j + 24) = (swQ S (bsum S)).2.1 j := by
  unfold nbS
  rw [if_neg (by omega), if_neg (by omega), if_pos (by omega), if_neg (by omega), show (2 * j + 24 - 24) / 2 = j by omega]
/-- the class's walls beside the reference's -/
def WS (wa wb : Int → Int) (wc : Int) (S : Int → Int) : Prop := wc = S 59 ∧ (∀ x y, WNo wa wb wc x y ↔ WNo (od S 7) (od S 8) wc x y) ∧ WDi wa wb wc ∧ WDi (od S 7) (od S 8) wc ∧ ∀ k, 0 ≤ k → k < wc → ¬ wa k = wb k
theorem WS_0 {wa wb S : Int → Int} (e : S 59 = 0) : WS wa wb 0 S := ⟨e.symm, fun _ _ => ⟨fun _ => WNo_0, fun _ => WNo_0⟩, fun i j a b c => by omega, fun i j a b c => by omega, fun k a b => by omega⟩
def SC (ff tf wa wb ca cb sa sb : Int → Int) (wc cc sc : Int) (S : Int → Int) : Prop := EqN ff S 5 ∧ EqN tf (fun j => S (5 + j)) 2 ∧ (EqN sa (od S 23) 12 ∧ EqN sb (od S 24) 12 ∧ sc = S 60) ∧ (EqN ca (od S 47) 6 ∧ EqN cb (od S 48) 6 ∧ cc = S 61) ∧ WS wa wb wc S
section SCs
variable {ff tf wa wb ca cb sa sb ff2 tf2 wa2 wb2 ca2 cb2 sa2 sb2 S S1 S2 K K1 K2 T t : Int → Int} {wc cc sc sc2 x y v w p n r m : Int}
theorem SC.to (e : S2 = S) (h : SC ff tf wa wb ca cb sa sb wc cc sc S) : SC ff tf wa wb ca cb sa sb wc cc sc S2 := e ▸ h
theorem SC.pf (h : SC ff tf wa wb ca cb sa sb wc cc sc S) (e : ∀ j, 0 ≤ j → j < 5 → S2 j = S j) : EqN ff S2 5 := fun j a b => (h.1 j a b).trans (e j a b).symm
theorem SC.pt (h : SC ff tf wa wb ca cb sa sb wc cc sc S) (e : ∀ j, 5 ≤ j → j < 7 → S2 j = S j) : EqN tf (fun j => S2 (5 + j)) 2 := fun j a b => (h.2.1 j a b).trans (e (5 + j) (by omega) (by omega)).symm
theorem SC.ps (h : SC ff tf wa wb ca cb sa sb wc cc sc S) (e : ∀ j, 23 ≤ j → j < 47 → S2 j = S j) (e6 : S2 60 = S 60) : EqN sa (od S2 23) 12 ∧ EqN sb (od S2 24) 12 ∧ sc = S2 60 := ⟨fun j a b => (h.2.2.1.1 j a b).trans (e (2 * j + 23) (by omega) (by omega)).symm, fun j a b => (h.2.2.1.2.1 j a b).trans (e (2 * j + 24) (by omega) (by omega)).symm, h.2.2.1.2.2.trans e6.symm⟩
theorem SC.pc (h : SC ff tf wa wb ca cb sa sb wc cc sc S) (e : ∀ j, 47 ≤ j → j < 59 → S2 j = S j) (e6 : S2 61 = S 61) : EqN ca (od S2 47) 6 ∧ EqN cb (od S2 48) 6 ∧ cc = S2 61 := ⟨fun j a b => (h.2.2.2.1.1 j a b).trans (e (2 * j + 47) (by omega) (by omega)).symm, fun j a b => (h.2.2.2.1.2.1 j a b).trans (e (2 * j + 48) (by omega) (by omega)).symm, h.2.2.2.1.2.2.trans e6.symm⟩
theorem WS.cg (h : WS wa wb wc S) (e : ∀ j, 7 ≤ j → j < 23 → S2 j = S j) (e5 : S2 59 = S 59) (n8 : wc ≤ 8) : WS wa wb wc S2 := by
  have a : EqN (od S 7) (od S2 7) wc := fun j c d => (e (2 * j + 7) (by omega) (by omega)).symm
  have b : EqN (od S 8) (od S2 8) wc := fun j c d => (e (2 * j + 8) (by omega) (by omega)).symm
  exact ⟨h.1.trans e5.symm, fun x y => (h.2.1 x y).trans (WNo.cg a b), h.2.2.1, WDi.cg a b h.2.2.2.1, h.2.2.2.2⟩
theorem SC.pw (h : SC ff tf wa wb ca cb sa sb wc cc sc S) (e : ∀ j, 7 ≤ j → j < 23 → S2 j = S j) (e5 : S2 59 = S 59) (n8 : wc ≤ 8) : WS wa wb wc S2 := WS.cg h.2.2.2.2 e e5 n8
theorem SC.bs (h : SC ff tf wa wb ca cb sa sb wc cc sc S) : bsum ff = bsum S := bsum_eq h.1
theorem SC.hi (h : SC ff tf wa wb ca cb sa sb wc cc sc S) : Hi ff = Hi S := Hi_same h.1
theorem SC.c59 (h : SC ff tf wa wb ca cb sa sb wc cc sc S) : wc = S 59 := h.2.2.2.2.1
theorem SC.c60 (h : SC ff tf wa wb ca cb sa sb wc cc sc S) : sc = S 60 := h.2.2.1.2.2
theorem SC.c61 (h : SC ff tf wa wb ca cb sa sb wc cc sc S) : cc = S 61 := h.2.2.2.1.2.2
theorem SC.wno (h : SC ff tf wa wb ca cb sa sb wc cc sc S) : WNo wa wb wc x y ↔ WNo (od S 7) (od S 8) (S 59) x y := by
  have e := h.c59
  have u := h.2.2.2.2.2.1 x y
  rw [← e]; exact u
theorem SC.nb (h : SC ff tf wa wb ca cb sa sb wc cc sc S) (e : EqN ff2 S1 5) (o : ∀ j, 5 ≤ j → j < 62 → S1 j = S j) (n0 : 0 ≤ sc) (n12 : sc ≤ 12) (d : dwL sa sb p sc.toNat = (sa2, sb2, sc2)) (hp : p = bsum ff2) : SC ff2 tf wa wb ca cb sa2 sb2 0 0 sc2 (nbS S1) := by
  have ea : EqN sa (od S1 23) 12 := fun j a b => (h.2.2.1.1 j a b).trans (o (2 * j + 23) (by omega) (by omega)).symm
  have eb : EqN sb (od S1 24) 12 := fun j a b => (h.2.2.1.2.1 j a b).trans (o (2 * j + 24) (by omega) (by omega)).symm
  have e6 : S1 60 = sc := (o 60 (by decide) (by decide)).trans h.c60.symm
  have ep : p = bsum S1 := hp.trans (bsum_eq e)
  have c := dwL_cong (p := p) ea eb sc.toNat (by omega)
  rw [d] at c
  have q : swQ S1 (bsum S1) = dwL (od S1 23) (od S1 24) p sc.toNat := by
    unfold swQ
    rw [e6, ← ep]
  refine ⟨fun j a b => ?_, fun j a b => ?_, ⟨fun j a b => ?_, fun j a b => ?_, ?_⟩, ⟨fun j a b => ?_, fun j a b => ?_, ?_⟩, WS_0 (nbS_0 (Or.inl rfl))⟩
  · rw [nbS_out (by omega) (by omega) (by omega) (by omega)]; exact e j a b
  · show tf j = nbS S1 (5 + j)
    rw [nbS_out (by omega) (by omega) (by omega) (by omega), o _ (by omega) (by omega)]; exact h.2.1 j a b
  · show sa2 j = nbS S1 (2 * j + 23)
    rw [nbS_a a b, q]; exact c.1 j a b
  · show sb2 j = nbS S1 (2 * j + 24)
    rw [nbS_b a b, q]; exact c.2.1 j a b
  · rw [nbS_60, q]; exact c.2.2.1
  · show ca j = nbS S1 (2 * j + 47)
    rw [nbS_out (by omega) (by omega) (by omega) (by omega), o _ (by omega) (by omega)]; exact h.2.2.2.1.1 j a b
  · show cb j = nbS S1 (2 * j + 48)
    rw [nbS_out (by omega) (by omega) (by omega) (by omega), o _ (by omega) (by omega)]; exact h.2.2.2.1.2.1 j a b
  · exact (nbS_0 (Or.inr rfl)).symm
theorem MK.nb (k : EqN K1 S1 62) (nb : NBS K1 K2) (nx : NBX K1 K2) (s0 : 0 ≤ K1 60) (s12 : K1 60 ≤ 12) : EqN K2 (nbS S1) 62 := by
  have c := dwL_cong (p := bsum K1) (EqN.od k (o := 23) (n := 12) (by decide) (by decide)) (EqN.od k (o := 24) (n := 12) (by decide) (by decide)) (K1 60).toNat (by omega)
  have q : swQ S1 (bsum S1) = dwL (od S1 23) (od S1 24) (bsum K1) (K1 60).toNat := by
    unfold swQ
    rw [k 60 (by decide) (by decide), bsum_eq (k.le (by decide))]
  intro j a b
  by_cases h9 : j = 59
  · rw [h9, nbS_0 (Or.inl rfl)]; exact nb.2.1
  by_cases h1 : j = 61
  · rw [h1, nbS_0 (Or.inr rfl)]; exact nb.2.2
  by_cases h6 : j = 60
  · rw [h6, nbS_60, q, nx.2.2]; exact c.2.2.1
  by_cases hr : j < 23 ∨ 47 ≤ j
  · rw [nbS_out hr h9 h6 h1, nb.1 j hr h9 h6 h1]; exact k j a b
  by_cases hm : j % 2 = 1
  · obtain ⟨i, i0, i1, rfl⟩ : ∃ i : Int, 0 ≤ i ∧ i < 12 ∧ j = 2 * i + 23 := ⟨(j - 23) / 2, by omega, by omega, by omega⟩
    rw [nbS_a i0 i1, q]
    exact (nx.1 i i0 i1).trans (c.1 i i0 i1)
  · obtain ⟨i, i0, i1, rfl⟩ : ∃ i : Int, 0 ≤ i ∧ i < 12 ∧ j = 2 * i + 24 := ⟨(j - 24) / 2, by omega, by omega, by omega⟩
    rw [nbS_b i0 i1, q]
    exact (nx.2.1 i i0 i1).trans (c.2.1 i i0 i1)
/-! beans -/
noncomputable def bnS (x y : Int) (S : Int → Int) : Int → Int := iF (bnk x y S) (nbS (up S x y)) S
noncomputable def bnR (x y : Int) (S : Int → Int) : Int := iF (bnk x y S) (S x) (-1)
theorem bnS_n {F : Int → Int} (e : EqN F S 5) (k : ¬ bnk x y F) : bnS x y S = S := iF_neg (fun q => k ((bnk_iff e).mpr q))
theorem bnR_n {F : Int → Int} (e : EqN F S 5) (k : ¬ bnk x y F) : -1 = bnR x y S := (iF_neg (fun q => k ((bnk_iff e).mpr q))).symm
theorem bnR_y {F : Int → Int} (e : EqN F S 5) (k : bnk x y F) (h : F x = r) : r = bnR x y S := by
  unfold bnR
  rw [iF_pos ((bnk_iff e).mp k), ← h]
  exact e x k.1 (by have := k.2.1; omega)
theorem SC.bn1 (h : SC ff tf wa wb ca cb sa sb wc cc sc S) (k : bnk x y ff) (e : ff2 = up ff x y) (n0 : 0 ≤ sc) (n12 : sc ≤ 12) (d : dwL sa sb p sc.toNat = (sa2, sb2, sc2)) (hp : p = bsum ff2) : SC ff2 tf wa wb ca cb sa2 sb2 0 0 sc2 (bnS x y S) := by
  refine SC.to (iF_pos ((bnk_iff h.1).mp k)) (SC.nb h ?_ (fun j a b => up_ne (by have := k.2.1; omega)) n0 n12 d hp)
  rw [e]; exact EqN.ups h.1 rfl rfl
theorem MK.bn1 (h : EqN K S 62) (k : bnk x y K) (e : K1 = up K x y) (nb : NBS K1 K2) (nx : NBX K1 K2) (s0 : 0 ≤ K 60) (s12 : K 60 ≤ 12) : EqN K2 (bnS x y S) 62 := by
  have e6 : K1 60 = K 60 := by rw [e]; exact up_ne (by have := k.2.1; omega)
  refine EqN.to (iF_pos ((bnk_iff (h.le (by decide))).mp k)) (MK.nb ?_ nb nx (by rw [e6]; exact s0) (by rw [e6]; exact s12))
  rw [e]; exact EqN.ups h rfl rfl
/-! terms -/
noncomputable def tmS (x y : Int) (S : Int → Int) : Int → Int := iF (tmk x y) (up S (x + 5) y) S
noncomputable def tmR (x y : Int) (S : Int → Int) : Int := iF (tmk x y) (S (x + 5)) (-1)
theorem tmS_n (k : ¬ tmk x y) : tmS x y S = S := iF_neg k
theorem tmR_n (k : ¬ tmk x y) : -1 = tmR x y S := (iF_neg k).symm
theorem tmR_y (k : tmk x y) (e : r = S (x + 5)) : r = tmR x y S := e.trans (iF_pos k).symm
theorem SC.tm1 (h : SC ff tf wa wb ca cb sa sb wc cc sc S) (k : tmk x y) (e : tf2 = up tf x y) (n8 : wc ≤ 8) : SC ff tf2 wa wb ca cb sa sb wc cc sc (tmS x y S) := by
  have k0 := k.1
  have k1 := k.2.1
  have o : ∀ j, ¬ (5 ≤ j ∧ j < 7) → up S (x + 5) y j = S j := fun j g => up_ne (by omega)
  refine SC.to (iF_pos k) ⟨SC.pf h (fun j _ _ => o j (by omega)), fun j a b => ?_, SC.ps h (fun j _ _ => o j (by omega)) (o 60 (by omega)), SC.pc h (fun j _ _ => o j (by omega)) (o 61 (by omega)), SC.pw h (fun j _ _ => o j (by omega)) (o 59 (by omega)) n8⟩
  show tf2 j = up S (x + 5) y (5 + j)
  rw [e]
  by_cases g : j = x
  · rw [g, up_same, show 5 + x = x + 5 by omega, up_same]
  · rw [up_ne g, up_ne (by omega)]; exact h.2.1 j a b
theorem SC.tmr (h : SC ff tf wa wb ca cb sa sb wc cc sc S) (k : tmk x y) (e : tf x = r) : r = tmR x y S := tmR_y k (by
  have u : tf x = S (5 + x) := h.2.1 x k.1 (by have := k.2.1; omega)
  rw [← e, u, show 5 + x = x + 5 by omega])
theorem MK.tm1 (h : EqN K S 62) (k : tmk x y) (e : K2 = up K (x + 5) y) : EqN K2 (tmS x y S) 62 := by
  refine EqN.to (iF_pos k) ?_
  rw [e]; exact EqN.ups h rfl rfl
theorem MK.tmr (h : EqN K S 62) (k : tmk x y) (e : K (x + 5) = r) : r = tmR x y S := tmR_y k (by rw [← e]; exact h _ (by have := k.1; omega) (by have := k.2.1; omega))
/-! swap-ifs -/
noncomputable def swS (x y : Int) (S : Int → Int) : Int → Int := iF (swk x y (bsum S) ∧ S 60 < 12) (pu3 S 23 60 x y) S
noncomputable def swR (x y : Int) (S : Int → Int) : Int := iF (swk x y (bsum S)) (iF (12 ≤ S 60) (-5) (S 60 + 1)) (-1)
theorem swS_1 (e : p = bsum S) (k : ¬ swk x y p) : swS x y S = S := iF_neg (fun q => k (e ▸ q.1))
theorem swS_5 (e : n = S 60) (k : 12 ≤ n) : swS x y S = S := iF_neg (fun q => by have u := q.2; omega)
theorem swS_y (e : p = bsum S) (k : swk x y p) (en : n = S 60) (kn : n < 12) : swS x y S = pu3 S 23 60 x y := iF_pos ⟨e ▸ k, by omega⟩
theorem swR_1 (e : p = bsum S) (k : ¬ swk x y p) : -1 = swR x y S := (iF_neg (fun q => k (e ▸ q))).symm
theorem swR_5 (e : p = bsum S) (k : swk x y p) (en : n = S 60) (kn : 12 ≤ n) : -5 = swR x y S := ((iF_pos (e ▸ k)).trans (iF_pos (by omega))).symm
theorem swR_y (e : p = bsum S) (k : swk x y p) (en : n = S 60) (kn : n < 12) (er : r = n + 1) : r = swR x y S := by
  rw [er, en]; exact ((iF_pos (e ▸ k)).trans (iF_neg (by omega))).symm
/-- what a pair that comes behind leaves as it was -/
theorem pu3_out {o c : Int} {j : Int} (h0 : 0 ≤ S c) (hc : ¬ j = c) (h : j < o ∨ 2 * S c + o + 1 < j) : pu3 S o c x y j = S j := by
  unfold pu3
  rw [up_ne hc, up_ne (by omega), up_ne (by omega)]
theorem pu3_at {o c : Int} {j : Int} (hc : ¬ j = c) : pu3 S o c x y j = up (up S (2 * S c + o) x) (2 * S c + (o + 1)) y j := by
  unfold pu3
  exact up_ne hc
theorem pu3_a {A : Int → Int} {o c k N : Int} (h : EqN A (od S o) N) (en : n = S c) (c0 : ¬ (o ≤ c ∧ c < 2 * N + o + 1)) (e : K2 = up A n x) : EqN K2 (od (pu3 S o c x y) o) N := fun j a b => by
  show K2 j = pu3 S o c x y (2 * j + o)
  rw [pu3_at (by omega), up_ne (show ¬ 2 * j + o = 2 * S c + (o + 1) by omega), ← en]
  by_cases g : j = n
  · rw [e, g, up_same, up_same]
  · rw [e, up_ne g, up_ne (by omega)]; exact h j a b
theorem pu3_b {A : Int → Int} {o c k N : Int} (h : EqN A (od S (o + 1)) N) (en : n = S c) (c0 : ¬ (o ≤ c ∧ c < 2 * N + o + 1)) (e : K2 = up A n y) : EqN K2 (od (pu3 S o c x y) (o + 1)) N := fun j a b => by
  show K2 j = pu3 S o c x y (2 * j + (o + 1))
  rw [pu3_at (by omega), ← en]
  by_cases g : j = n
  · rw [e, g, up_same, up_same]
  · rw [e, up_ne g, up_ne (show ¬ 2 * j + (o + 1) = 2 * n + (o + 1) by omega), up_ne (by omega)]; exact h j a b
theorem pu3_c {o c : Int} : pu3 S o c x y c = S c + 1 := by
  unfold pu3
  exact up_same _ _ _
theorem pu3_eqN {o c N : Int} (h : EqN K S N) (c0 : 0 ≤ c) (c1 : c < N) : EqN (pu3 K o c x y) (pu3 S o c x y) N := by
  unfold pu3
  rw [h c c0 c1]
  exact EqN.ups (EqN.ups (EqN.ups h rfl rfl) rfl rfl) rfl rfl
theorem SC.sw1 (h : SC ff tf wa wb ca cb sa sb wc cc sc S) (k : swk x y p) (e : p = bsum S) (n0 : 0 ≤ sc) (kn : sc < 12) (n8 : wc ≤ 8) (e1 : sa2 = up sa sc x) (e2 : sb2 = up sb sc y) : SC ff tf wa wb ca cb sa2 sb2 wc cc (sc + 1) (swS x y S) := by
  have e6 := h.c60
  have o : ∀ j, j < 23 ∨ 47 ≤ j → ¬ j = 60 → pu3 S 23 60 x y j = S j := fun j g g2 => pu3_out (by omega) g2 (by omega)
  exact SC.to (swS_y e k e6 kn) ⟨SC.pf h (fun j _ _ => o j (by omega) (by omega)), SC.pt h (fun j _ _ => o j (by omega) (by omega)), ⟨pu3_a (k := 0) h.2.2.1.1 e6 (by omega) e1, pu3_b (k := 0) h.2.2.1.2.1 e6 (by omega) e2, by rw [pu3_c]; omega⟩, SC.pc h (fun j _ _ => o j (by omega) (by omega)) (o 61 (by omega) (by omega)), SC.pw h (fun j _ _ => o j (by omega) (by omega)) (o 59 (by omega) (by omega)) n8⟩
theorem MK.sw1 (h : EqN K S 62) (k : swk x y (bsum K)) (kn : K 60 < 12) (e : K2 = pu3 K 23 60 x y) : EqN K2 (swS x y S) 62 := by
  refine EqN.to (swS_y (bsum_eq (h.le (by decide))) k (h 60 (by decide) (by decide)) kn) ?_
  rw [e]; exact pu3_eqN h (by decide) (by decide)
/-! keep -/
noncomputable def kpS (x : Int) (S : Int → Int) : Int → Int := iF (kpk x (S 60)) (up S 60 x) S
noncomputable def kpR (x : Int) (S : Int → Int) : Int := iF (kpk x (S 60)) (S 60) (-1)
theorem kpS_n (e : n = S 60) (k : ¬ kpk x n) : kpS x S = S := iF_neg (e ▸ k)
theorem kpS_y (e : n = S 60) (k : kpk x n) : kpS x S = up S 60 x := iF_pos (e ▸ k)
theorem kpR_n (e : n = S 60) (k : ¬ kpk x n) : -1 = kpR x S := (iF_neg (e ▸ k)).symm
theorem kpR_y (e : n = S 60) (k : kpk x n) : n = kpR x S := e.trans (iF_pos (e ▸ k)).symm
theorem SC.put60 (h : SC ff tf wa wb ca cb sa sb wc cc sc S) (n8 : wc ≤ 8) : SC ff tf wa wb ca cb sa sb wc cc x (up S 60 x) := by
  have o : ∀ j, ¬ j = 60 → up S 60 x j = S j := fun j g => up_ne g
  have u := SC.ps (S2 := up S 60 sc) h (fun j _ _ => up_ne (by omega)) (by rw [up_same]; exact h.c60)
  exact ⟨SC.pf h (fun j _ _ => o j (by omega)), SC.pt h (fun j _ _ => o j (by omega)), ⟨fun j a b => (h.2.2.1.1 j a b).trans (o (2 * j + 23) (by omega)).symm, fun j a b => (h.2.2.1.2.1 j a b).trans (o (2 * j + 24) (by omega)).symm, (up_same _ _ _).symm⟩, SC.pc h (fun j _ _ => o j (by omega)) (o 61 (by omega)), SC.pw h (fun j _ _ => o j (by omega)) (o 59 (by omega)) n8⟩
theorem SC.kp1 (h : SC ff tf wa wb ca cb sa sb wc cc sc S) (k : kpk x sc) (n8 : wc ≤ 8) : SC ff tf wa wb ca cb sa sb wc cc x (kpS x S) := SC.to (kpS_y h.c60 k) (SC.put60 h n8)
theorem MK.kp1 (h : EqN K S 62) (k : kpk x (K 60)) (e : K2 = up K 60 x) : EqN K2 (kpS x S) 62 := by
  refine EqN.to (kpS_y (h 60 (by decide) (by decide)) k) ?_
  rw [e]; exact EqN.ups h rfl rfl
/-! clues -/
noncomputable def clS (x y : Int) (S : Int → Int) : Int → Int := iF (-1 ≤ y ∧ isA x (Hi S) ∧ S 61 < 6) (pu3 S 47 61 x y) S
noncomputable def clR (x y : Int) (S : Int → Int) : Int := iF (-1 ≤ y) (iF (isA x (Hi S)) (iF (6 ≤ S 61) (-5) (S 61 + 1)) (-2)) (-1)
theorem clS_1 (k : y < -1) : clS x y S = S := iF_neg (fun q => by have u := q.1; omega)
theorem clS_2 (e : m = Hi S) (k : ¬ isA x m) : clS x y S = S := iF_neg (fun q => k (e ▸ q.2.1))
theorem clS_5 (e : n = S 61) (k : 6 ≤ n) : clS x y S = S := iF_neg (fun q => by have u := q.2.2; omega)
theorem clS_y (ky : -1 ≤ y) (e : m = Hi S) (k : isA x m) (en : n = S 61) (kn : n < 6) : clS x y S = pu3 S 47 61 x y := iF_pos ⟨ky, e ▸ k, by omega⟩
theorem clR_1 (k : y < -1) : -1 = clR x y S := (iF_neg (by omega)).symm
theorem clR_2 (ky : -1 ≤ y) (e : m = Hi S) (k : ¬ isA x m) : -2 = clR x y S := ((iF_pos ky).trans (iF_neg (e ▸ k))).symm
theorem clR_5 (ky : -1 ≤ y) (e : m = Hi S) (k : isA x m) (en : n = S 61) (kn : 6 ≤ n) : -5 = clR x y S := ((iF_pos ky).trans ((iF_pos (e ▸ k)).trans (iF_pos (by omega)))).symm
theorem clR_y (ky : -1 ≤ y) (e : m = Hi S) (k : isA x m) (en : n = S 61) (kn : n < 6) (er : r = n + 1) : r = clR x y S := by
  rw [er, en]; exact ((iF_pos ky).trans ((iF_pos (e ▸ k)).trans (iF_neg (by omega)))).symm
theorem SC.cl1 (h : SC ff tf wa wb ca cb sa sb wc cc sc S) (ky : -1 ≤ y) (k : isA x m) (e : m = Hi S) (n0 : 0 ≤ cc) (kn : cc < 6) (n8 : wc ≤ 8) (e1 : ca2 = up ca cc x) (e2 : cb2 = up cb cc y) : SC ff tf wa wb ca2 cb2 sa sb wc (cc + 1) sc (clS x y S) := by
  have e6 := h.c61
  have o : ∀ j, j < 47 ∨ 59 ≤ j → ¬ j = 61 → pu3 S 47 61 x y j = S j := fun j g g2 => pu3_out (by omega) g2 (by omega)
  exact SC.to (clS_y ky e k e6 kn) ⟨SC.pf h (fun j _ _ => o j (by omega) (by omega)), SC.pt h (fun j _ _ => o j (by omega) (by omega)), SC.ps h (fun j _ _ => o j (by omega) (by omega)) (o 60 (by omega) (by omega)), ⟨pu3_a (k := 0) h.2.2.2.1.1 e6 (by omega) e1, pu3_b (k := 0) h.2.2.2.1.2.1 e6 (by omega) e2, by rw [pu3_c]; omega⟩, SC.pw h (fun j _ _ => o j (by omega) (by omega)) (o 59 (by omega) (by omega)) n8⟩
theorem MK.cl1 (h : EqN K S 62) (ky : -1 ≤ y) (k : isA x (Hi K)) (kn : K 61 < 6) (e : K2 = pu3 K 47 61 x y) : EqN K2 (clS x y S) 62 := by
  refine EqN.to (clS_y ky (Hi_same (h.le (by decide))) k (h 61 (by decide) (by decide)) kn) ?_
  rw [e]; exact pu3_eqN h (by decide) (by decide)
def fgS (S : Int → Int) : Int → Int := up S 61 0
theorem SC.fg1 (h : SC ff tf wa wb ca cb sa sb wc cc sc S) (n8 : wc ≤ 8) : SC ff tf wa wb ca cb sa sb wc 0 sc (fgS S) := by
  have o : ∀ j, ¬ j = 61 → fgS S j = S j := fun j g => up_ne g
  exact ⟨SC.pf h (fun j _ _ => o j (by omega)), SC.pt h (fun j _ _ => o j (by omega)), SC.ps h (fun j _ _ => o j (by omega)) (o 60 (by omega)), ⟨fun j a b => (h.2.2.2.1.1 j a b).trans (o (2 * j + 47) (by omega)).symm, fun j a b => (h.2.2.2.1.2.1 j a b).trans (o (2 * j + 48) (by omega)).symm, (up_same _ _ _).symm⟩, SC.pw h (fun j _ _ => o j (by omega)) (o 59 (by omega)) n8⟩
theorem MK.fg1 (h : EqN K S 62) (e : K2 = up K 61 0) : EqN K2 (fgS S) 62 := by
  rw [e]; exact EqN.ups h rfl rfl
end SCs
