/-! the values of numbers are not below 0 -/
theorem tkN_le {T : Int → Int} {n : Int} (n0 : 0 ≤ n) : ∀ k : Nat, tkN T n k ≤ n
  | 0 => n0
  | k + 1 => by
    obtain ⟨c, st, bh, v, h, h1, h2⟩ := TkR.ex (T := T) (tkN_le n0 k)
    have e : tkN T n (k + 1) = bh := h.is.2.2.1.symm
    rw [e]; exact h2
theorem VT_0 {T : Int → Int} {n : Int} (n0 : 0 ≤ n) (i : Int) : 0 ≤ VT T n i := by
  obtain ⟨c, st, bh, v, h, h1, h2⟩ := TkR.ex (T := T) (tkN_le n0 i.toNat)
  have e : VT T n i = v := h.is.2.2.2.symm
  rw [e]
  have q := h.2
  rcases q with q | q | q | q
  · omega
  · omega
  · have ab := q.2.2.2.1
    have u := dgV_rng (T := T) (a := st) (bh - st).toNat (fun j a b => ab.2.2.1 j a (by have := ab.1; omega))
    omega
  · omega
/-! the tape's tokens as they are laid among what is kept -/
section Shs
variable {C C2 V V2 : Int → Int} {s : Int}
/-- a reading, laid s further on; its last token is one -/
def ShD (C : Int → Int) (s : Int) (R R2 : DR) : Prop := ∀ t t2 f, 0 ≤ t → R t t2 f → R2 (s + t) (s + t2) f ∧ t < t2 ∧ ¬ C (t2 - 1) = 0
theorem ShD.ch {It It2 : DR} {op : Int → Prop} {cb : Int → DV → DV → DV} (hC : ∀ j, 0 ≤ j → C2 (s + j) = C j) (F : ShD C s It It2) : ∀ (n : Nat) (t : Int) (f : DV) (t2 : Int) (g : DV), 0 ≤ t → ChD It op cb C n t f t2 g → ChD It2 op cb C2 n (s + t) f (s + t2) g ∧ t ≤ t2 ∧ (t2 = t ∨ ¬ C (t2 - 1) = 0)
  | 0, t, f, t2, g, t0, h => by
    refine ⟨⟨by rw [hC t t0]; exact h.1, by rw [h.2.1], h.2.2⟩, by have := h.2.1; omega, Or.inl h.2.1⟩
  | n + 1, t, f, t2, g, t0, h => by
    obtain ⟨o, t1, a, h1, h2⟩ := h
    have u := F _ _ _ (by omega) h1
    have v := ShD.ch hC F n t1 _ t2 g (by omega) h2
    refine ⟨⟨by rw [hC t t0]; exact o, s + t1, a, by rw [show s + t + 1 = s + (t + 1) by omega]; exact u.1, by rw [hC t t0]; exact v.1⟩, by omega, ?_⟩
    rcases v.2.2 with w | w
    · exact Or.inr (by rw [w]; exact u.2.2)
    · exact Or.inr w
theorem ShD.se {It It2 : DR} {op : Int → Prop} {cb : Int → DV → DV → DV} (hC : ∀ j, 0 ≤ j → C2 (s + j) = C j) (F : ShD C s It It2) : ShD C s (SeD It op cb C) (SeD It2 op cb C2) := fun t t2 f t0 h => by
  obtain ⟨t1, a, h1, n, h2⟩ := h
  have u := F _ _ _ t0 h1
  have v := ShD.ch hC F n t1 a t2 f (by omega) h2
  refine ⟨⟨s + t1, a, u.1, n, v.1⟩, by omega, ?_⟩
  rcases v.2.2 with w | w
  · rw [w]; exact u.2.2
  · exact w
theorem ShD.lf (hC : ∀ j, 0 ≤ j → C2 (s + j) = C j) (hV : ∀ j, 0 ≤ j → C j = 50 → V j ≤ 1000 → V2 (s + j) = V j) : ShD C s (LfD C V) (LfD C2 V2) := fun t t2 f t0 h => by
  obtain ⟨e, h⟩ := h
  refine ⟨⟨by omega, ?_⟩, by omega, ?_⟩
  · rcases h with ⟨a, b, c, d⟩ | ⟨a, b, c⟩
    · rw [hC t t0, hV t t0 a c]
      exact Or.inl ⟨a, b, c, d⟩
    · rw [hC t t0]
      exact Or.inr ⟨a, b, c⟩
  · rw [e, show t + 1 - 1 = t by omega]
    rcases h with ⟨a, _⟩ | ⟨a, _⟩ <;> omega
theorem ShD.pa {B B2 : DR} (hC : ∀ j, 0 ≤ j → C2 (s + j) = C j) (hV : ∀ j, 0 ≤ j → C j = 50 → V j ≤ 1000 → V2 (s + j) = V j) (F : ShD C s B B2) : ShD C s (PaD B C V) (PaD B2 C2 V2) := fun t t2 f t0 h => by
  rcases h with ⟨c, h⟩ | ⟨c, h⟩
  · have u := F _ _ _ t0 h
    exact ⟨Or.inl ⟨by rw [hC t t0]; exact c, u.1⟩, u.2⟩
  · have u := ShD.lf hC hV _ _ _ t0 h
    exact ⟨Or.inr ⟨by rw [hC t t0]; exact c, u.1⟩, u.2⟩
theorem ShD.bs (hC : ∀ j, 0 ≤ j → C2 (s + j) = C j) (hV : ∀ j, 0 ≤ j → C j = 50 → V j ≤ 1000 → V2 (s + j) = V j) : ∀ k : Nat, ShD C s (BsD C V k) (BsD C2 V2 k)
  | 0 => fun _ _ _ _ h => absurd h id
  | k + 1 => fun t t2 f t0 h => by
    obtain ⟨t1, h1, h2, h3⟩ := h
    have u := ShD.se (op := opA) (cb := arC) hC (ShD.se (op := opM) (cb := arC) hC (ShD.pa hC hV (ShD.bs hC hV k))) _ _ _ (by omega) h1
    refine ⟨⟨s + t1, by rw [show s + t + 1 = s + (t + 1) by omega]; exact u.1, by rw [hC t1 (by omega)]; exact h2, by omega⟩, by omega, ?_⟩
    rw [h3, show t1 + 1 - 1 = t1 by omega]
    omega
theorem ShD.sm (hC : ∀ j, 0 ≤ j → C2 (s + j) = C j) (hV : ∀ j, 0 ≤ j → C j = 50 → V j ≤ 1000 → V2 (s + j) = V j) (k : Nat) : ShD C s (SmD C V k) (SmD C2 V2 k) := ShD.se (op := opA) (cb := arC) hC (ShD.se (op := opM) (cb := arC) hC (ShD.pa hC hV (ShD.bs hC hV k)))
theorem ShD.pl {B B2 Sm Sm2 : DR} (hC : ∀ j, 0 ≤ j → C2 (s + j) = C j) (F : ShD C s B B2) (G : ShD C s Sm Sm2) : ShD C s (PlD B Sm C) (PlD B2 Sm2 C2) := fun t t2 f t0 h => by
  obtain ⟨r, g, r0, r1, r2, r3, h⟩ := h
  have nt : NtX C2 (s + t) (s + r) := fun j a b => by
    have u := r1 (j - s) (by omega) (by omega)
    have v := hC (j - s) (by omega)
    rw [show s + (j - s) = j by omega] at v
    rw [v]; exact u
  have e : s + r - (s + t) = r - t := by omega
  rcases h with ⟨c, h⟩ | ⟨c, t1, a, b, h1, o, h2, h3⟩
  · have u := F _ _ _ (by omega) h
    exact ⟨⟨s + r, g, by omega, nt, by rw [hC r (by omega)]; exact r2, by rw [e]; exact r3, Or.inl ⟨by rw [hC r (by omega)]; exact c, u.1⟩⟩, by omega, u.2.2⟩
  · have u := G _ _ _ (by omega) h1
    have v := G _ _ _ (by omega) h2
    refine ⟨⟨s + r, g, by omega, nt, by rw [hC r (by omega)]; exact r2, by rw [e]; exact r3, Or.inr ⟨by rw [hC r (by omega)]; exact c, s + t1, a, b, u.1, by rw [hC t1 (by omega)]; exact o, by rw [show s + t1 + 1 = s + (t1 + 1) by omega]; exact v.1, by rw [hC t1 (by omega)]; exact h3⟩⟩, by omega, v.2.2⟩
theorem ShD.bt (hC : ∀ j, 0 ≤ j → C2 (s + j) = C j) (hV : ∀ j, 0 ≤ j → C j = 50 → V j ≤ 1000 → V2 (s + j) = V j) : ∀ k : Nat, ShD C s (BtD C V k) (BtD C2 V2 k)
  | 0 => fun _ _ _ _ h => absurd h id
  | k + 1 => fun t t2 f t0 h => by
    obtain ⟨t1, h1, h2, h3⟩ := h
    have u := ShD.se (op := opO) (cb := fun _ => orC) hC (ShD.se (op := opN) (cb := fun _ => anC) hC (ShD.pl hC (ShD.bt hC hV k) (ShD.sm hC hV k))) _ _ _ (by omega) h1
    refine ⟨⟨s + t1, by rw [show s + t + 1 = s + (t + 1) by omega]; exact u.1, by rw [hC t1 (by omega)]; exact h2, by omega⟩, by omega, ?_⟩
    rw [h3, show t1 + 1 - 1 = t1 by omega]
    omega
theorem ShD.te (hC : ∀ j, 0 ≤ j → C2 (s + j) = C j) (hV : ∀ j, 0 ≤ j → C j = 50 → V j ≤ 1000 → V2 (s + j) = V j) (k : Nat) : ShD C s (TeD C V k) (TeD C2 V2 k) := ShD.se (op := opO) (cb := fun _ => orC) hC (ShD.se (op := opN) (cb := fun _ => anC) hC (ShD.pl hC (ShD.bt hC hV k) (ShD.sm hC hV k)))
theorem IfD.sh (hC : ∀ j, 0 ≤ j → C2 (s + j) = C j) (hV : ∀ j, 0 ≤ j → C j = 50 → V j ≤ 1000 → V2 (s + j) = V j) {t t2 : Int} {g : DV} (t0 : 0 ≤ t) (h : IfD C V t t2 g) : IfD C2 V2 (s + t) (s + t2) g ∧ t ≤ t2 ∧ (t2 = t ∨ ¬ C (t2 - 1) = 0) := by
  rcases h with ⟨c, h⟩ | ⟨c, h1, h2⟩
  · have u := ShD.te hC hV 8 _ _ _ (by omega) h
    exact ⟨Or.inl ⟨by rw [hC t t0]; exact c, by rw [show s + t + 1 = s + (t + 1) by omega]; exact u.1⟩, by omega, Or.inr u.2.2⟩
  · exact ⟨Or.inr ⟨by rw [hC t t0]; exact c, by omega, h2⟩, by omega, Or.inl h1⟩
theorem ClD.sh (hC : ∀ j, 0 ≤ j → C2 (s + j) = C j) (hV : ∀ j, 0 ≤ j → C j = 50 → V j ≤ 1000 → V2 (s + j) = V j) {t t2 k : Int} {f g : DV} (t0 : 0 ≤ t) (h : ClD C V t t2 k f g) : ClD C2 V2 (s + t) (s + t2) k f g ∧ t < t2 ∧ ¬ C (t2 - 1) = 0 := by
  rcases h with ⟨c, e, t1, h1, h2⟩ | ⟨c, e, h1, h2⟩
  · have u := ShD.sm hC hV 8 _ _ _ (by omega) h1
    have v := IfD.sh hC hV (by omega) h2
    refine ⟨Or.inl ⟨by rw [hC t t0]; exact c, e, s + t1, by rw [show s + t + 1 = s + (t + 1) by omega]; exact u.1, v.1⟩, by omega, ?_⟩
    rcases v.2.2 with w | w
    · rw [w]; exact u.2.2
    · exact w
  · have v := IfD.sh hC hV (by omega) h2
    refine ⟨Or.inr ⟨by rw [hC t t0]; exact c, by rw [hC t t0]; exact e, h1, by rw [show s + t + 1 = s + (t + 1) by omega]; exact v.1⟩, by omega, ?_⟩
    rcases v.2.2 with w | w
    · rw [w, show t + 1 - 1 = t by omega]; omega
    · exact w
theorem LaD.sh (hC : ∀ j, 0 ≤ j → C2 (s + j) = C j) (hV : ∀ j, 0 ≤ j → C j = 50 → V j ≤ 1000 → V2 (s + j) = V j) {En En2 : Int → Prop} (hE : ∀ t, 0 < t → ¬ C (t - 1) = 0 → En t → En2 (s + t)) : ∀ (m : Nat) (t : Int) (A R : VS), 0 < t → ¬ C (t - 1) = 0 → LaD C V En m t A R → LaD C2 V2 En2 m (s + t) A R
  | 0, t, A, R, t0, c, h => ⟨by rw [hC t (by omega)]; exact h.1, hE t t0 c h.2.1, h.2.2⟩
  | m + 1, t, A, R, t0, c, h => by
    obtain ⟨h1, t1, k, f, g, h2, h3⟩ := h
    have u := ClD.sh hC hV (by omega) h2
    exact ⟨by rw [hC t (by omega)]; exact h1, s + t1, k, f, g, by rw [show s + t + 1 = s + (t + 1) by omega]; exact u.1, LaD.sh hC hV hE m t1 _ R (by omega) u.2.2 h3⟩
theorem LwD.sh (hC : ∀ j, 0 ≤ j → C2 (s + j) = C j) (hV : ∀ j, 0 ≤ j → C j = 50 → V j ≤ 1000 → V2 (s + j) = V j) {En En2 : Int → Prop} (hE : ∀ t, 0 < t → ¬ C (t - 1) = 0 → En t → En2 (s + t)) {R : VS} (h : LwD C V En R) : LwDa C2 V2 En2 s R := by
  obtain ⟨t1, k, f, g, m, h1, h2⟩ := h
  have u := ClD.sh hC hV (Int.le_refl 0) h1
  rw [show s + 0 = s by omega] at u
  exact ⟨s + t1, k, f, g, m, u.1, LaD.sh hC hV hE m t1 _ R (by omega) u.2.2 h2⟩
end Shs
theorem LwDa.cg {C C2 V V2 : Int → Int} {En : Int → Prop} {s : Int} {R : VS} (s0 : 0 ≤ s) (hC : C2 = C) (hV : ∀ j, 0 ≤ j → C j = 50 → V j ≤ 1000 → V2 j = V j) (h : LwDa C V En s R) : LwDa C2 V2 En s R := by
  subst hC
  obtain ⟨t1, k, f, g, m, h1, h2⟩ := h
  have c0 : ∀ j, 0 ≤ j → C2 (0 + j) = C2 j := fun j _ => by rw [Int.zero_add]
  have v0 : ∀ j, 0 ≤ j → C2 j = 50 → V j ≤ 1000 → V2 (0 + j) = V j := fun j a b c => by rw [Int.zero_add]; exact hV j a b c
  have u := ClD.sh (s := 0) c0 v0 s0 h1
  have w := LaD.sh (s := 0) (En := En) (En2 := En) c0 v0 (fun t _ _ q => by rw [Int.zero_add]; exact q) m t1 _ R (by omega) u.2.2 h2
  rw [Int.zero_add] at w
  have u1 := u.1
  rw [Int.zero_add, Int.zero_add] at u1
  exact ⟨t1, k, f, g, m, u1, w⟩
/-- behind law(): the new law is laid, those before are as they were -/
def LwK (K K2 T : Int → Int) (n : Int) : Prop := (∀ R, LwD (CTk T n) (VT T n) (EnT T n) R → LwDa (Cd K2 (400 * K 62 + K2 (64 + K 62))) (Vd K2) (fun u => u = 400 * K 62 + K2 (64 + K 62)) (400 * K 62) R) ∧ K2 62 = K 62 + 1 ∧ ∀ s, 0 ≤ s → s < K 62 → K2 (64 + s) = K (64 + s) ∧ (∀ j, 70 ≤ j → j < 70 + 400 * K 62 → K2 j = K j) ∧ ∀ j, 2470 ≤ j → j < 2470 + 400 * K 62 → K2 j = K j
/-- the values beside the codes -/
def LwW (K Kx va : Int → Int) (t k : Int) : Prop := (∀ j, 2470 ≤ j → j < 2470 + 400 * t → Kx j = K j) ∧ ∀ x, 0 ≤ x → x < k → Kx (2470 + 400 * t + x) = va x
/-- the values of the tape's numbers -/
def VaT (T : Int → Int) (n : Int) (va : Int → Int) : Prop := ∀ i, 0 ≤ i → CTk T n i = 50 → VT T n i ≤ 1000 → va i = VT T n i
section Lws2
variable {K Kx K1 K2 cc va va2 T S : Int → Int} {t n k i j v w x z m : Int}
theorem TbX.vat {pl : Int → Int} (h : TbX T n cc pl va t) (p : PsB T n t n) (e : va2 = up va t z) : VaT T n va2 := fun i i0 c l => by
  have lt : i < t := by
    by_cases q : i < t
    · exact q
    · have u := (CTk_end p (j := i) (by omega)).1
      omega
  have u := (h i i0 lt).2.2.2 c
  rw [e, up_ne (by omega)]
  rcases u with u | u
  · exact u.2.symm
  · omega
theorem LwW_0 (e : Kx = up K i n) (ei : i = 64 + t) (t5 : t ≤ 5) : LwW K Kx va t 0 := ⟨fun j a b => by rw [e, up_ne (by omega)], fun x a b => by omega⟩
theorem LwW.add (q : LwW K Kx va t k) (t0 : 0 ≤ t) (t5 : t ≤ 5) (k0 : 0 ≤ k) (k1 : k < 400) (ei : i = 70 + 400 * t + k) (e1 : K1 = up Kx i v) (ev : va k = w) (ej : j = 2470 + 400 * t + k) (e2 : K2 = up K1 j w) : LwW K K2 va t (k + 1) := by
  refine ⟨fun x a b => ?_, fun x a b => ?_⟩
  · rw [e2, e1, up_ne (by omega), up_ne (by omega)]; exact q.1 x a b
  · by_cases r : x = k
    · rw [e2, r, ← ej, up_same, ev]
    · rw [e2, e1, up_ne (by omega), up_ne (by omega)]; exact q.2 x a (by omega)
theorem LwK.of (q : LwQ K Kx cc t n k) (p : LwW K Kx va t k) (et : K 62 = t) (t0 : 0 ≤ t) (t5 : t ≤ 5) (hk : n ≤ k) (n0 : 0 ≤ n) (n1 : n ≤ 400) (e : K2 = up Kx 62 w) (ew : w = t + 1) (hC : Cc cc n = CTk T m) (hE : ∀ t, 0 ≤ t → (EnT T m t ↔ n ≤ t)) (hV : VaT T m va) : LwK K K2 T m := by
  subst et
  have out : ∀ j, ¬ j = 62 → K2 j = Kx j := fun j a => by rw [e, up_ne a]
  have sz : K2 (64 + K 62) = n := by rw [out _ (by omega)]; exact q.2.1
  refine ⟨fun R h => ?_, by rw [e, up_same, ew], fun s s0 s1 => ⟨by rw [out _ (by omega)]; exact q.1 _ (by omega) (by omega), fun j a b => by rw [out _ (by omega)]; exact q.2.2.1 j a b, fun j a b => by rw [out _ (by omega)]; exact p.1 j a b⟩⟩
  rw [sz]
  refine LwD.sh (C := CTk T m) (V := VT T m) (fun j j0 => ?_) (fun j j0 c l => ?_) (fun u u0 c q2 => ?_) h
  · rw [← hC]
    unfold Cd Cc
    by_cases r : j < n
    · rw [if_pos ⟨by omega, by omega⟩, if_pos ⟨j0, r⟩, out _ (by omega), show 70 + (400 * K 62 + j) = 70 + 400 * K 62 + j by omega]
      exact q.2.2.2 j j0 (by omega)
    · rw [if_neg (by omega), if_neg (by omega)]
  · have r : j < n := by
      by_cases r : j < n
      · exact r
      · exfalso
        rw [← hC] at c
        unfold Cc at c
        rw [if_neg (by omega)] at c
        omega
    unfold Vd
    rw [if_pos ⟨by omega, by omega⟩, out _ (by omega), show 2470 + (400 * K 62 + j) = 2470 + 400 * K 62 + j by omega, p.2 j j0 (by omega)]
    exact hV j j0 c l
  · show 400 * K 62 + u = 400 * K 62 + n
    have a := (hE u (by omega)).mp q2
    have b : u - 1 < n := by
      by_cases r : u - 1 < n
      · exact r
      · exfalso
        rw [← hC] at c
        unfold Cc at c
        rw [if_neg (by omega)] at c
        exact c rfl
    omega
end Lws2
