/-! codes, houses of codes, houses read backward, rows -/
theorem HcR.ex {S : Int → Int} {x : Int} (hf : okF S) : ∃ r, HcR S x r := by
  have u := Hi_rng hf
  by_cases h : ∃ t : Int, 0 ≤ t ∧ t < Hi S ∧ cod5 (itB S t.toNat) (bsum S).toNat = x
  · obtain ⟨t, t0, t1, e⟩ := h
    refine ⟨t, by omega, t1, fun _ => e, fun a a0 a1 w => ?_⟩
    have ha : a.toNat < Hn S := by unfold Hi at a1; omega
    have ht : t.toNat < Hn S := by unfold Hi at t1; omega
    rcases Int.lt_trichotomy t a with q | q | q
    · have := it_code hf (k := t.toNat) (m := a.toNat) (by omega) ha
      omega
    · exact q
    · have := it_code hf (k := a.toNat) (m := t.toNat) (by omega) ht
      omega
  · exact ⟨-1, Int.le_refl _, by omega, fun w => absurd w (by decide), fun t a b w => absurd ⟨t, a, b, w⟩ h⟩
theorem OrR.ex {S B : Int → Int} (hf : okF S) : ∃ r, OrR S B r := by
  have u := Hi_rng hf
  by_cases h : ∃ t : Int, 0 ≤ t ∧ t < Hi S ∧ EqOn (bsum S) B (itB S t.toNat)
  · obtain ⟨t, t0, t1, e⟩ := h
    refine ⟨t, by omega, t1, fun _ => e, fun a a0 a1 w => ?_⟩
    have := it_one hf (k := t.toNat) (m := a.toNat) (by unfold Hi at t1; omega) (by unfold Hi at a1; omega) (e.symm.trans w)
    omega
  · exact ⟨-1, Int.le_refl _, by omega, fun w => absurd w (by decide), fun t a b w => absurd ⟨t, a, b, w⟩ h⟩
section Cds
variable {F B S T t : Int → Int} {x y p n r m d : Int}
noncomputable def cdR (x : Int) (S : Int → Int) : Int := iF (isA x (Hi S)) (cod5 (itB S x.toNat) (bsum S).toNat) (-1)
theorem cdR_n (e : m = Hi S) (k : ¬ isA x m) : -1 = cdR x S := (iF_neg (e ▸ k)).symm
theorem cdR_y (h : EqN F S 5) (k : isA x (Hi F)) (ep : p = bsum F) (e : cod5 (itB F x.toNat) p.toNat = r) : r = cdR x S := by
  unfold cdR
  rw [iF_pos (by rw [← Hi_same h]; exact k), ← e, ep, itB_same h, bsum_eq h]
noncomputable def hcR (x : Int) (S : Int → Int) : Int := the (HcR S x)
theorem hcR_of (h : EqN F S 5) (q : HcR F x r) : r = hcR x S := the_of (HcR.cg h q) HcR.one
noncomputable def rdR (x y : Int) (S : Int → Int) : Int := iF (isA x (Hi S)) (iF (y = 0) (the (OrR S (rvB (itB S x.toNat) (bsum S)))) (iF (y = 1) (inN (itB S x.toNat) (bsum S).toNat (bsum S).toNat) (-1))) (-1)
theorem rdR_n (e : m = Hi S) (k : ¬ isA x m) : -1 = rdR x y S := (iF_neg (e ▸ k)).symm
theorem rdR_o (e : m = Hi S) (k : isA x m) (y0 : ¬ y = 0) (y1 : ¬ y = 1) : -1 = rdR x y S := ((iF_pos (e ▸ k)).trans ((iF_neg y0).trans (iF_neg y1))).symm
theorem rdR_1 (h : EqN F S 5) (k : isA x (Hi F)) (y1 : y = 1) (ep : p = bsum F) (e : r = inN (itB F x.toNat) p.toNat p.toNat) : r = rdR x y S := by
  unfold rdR
  rw [iF_pos (by rw [← Hi_same h]; exact k), iF_neg (by omega), iF_pos y1, e, ep, itB_same h, bsum_eq h]
theorem rdR_0 (h : EqN F S 5) (k : isA x (Hi F)) (y0 : y = 0) (ep : p = bsum F) (q : OrR F (rvB (itB F x.toNat) p) r) : r = rdR x y S := by
  unfold rdR
  rw [iF_pos (by rw [← Hi_same h]; exact k), iF_pos y0]
  refine the_of (OrR.cg h (fun j a b => ?_) q) OrR.one
  rw [ep, itB_same h, bsum_eq h]
/-- the house of the row that is told -/
noncomputable def rwR (T : Int → Int) (n : Int) (S : Int → Int) : Int := iF (rwk T n = true) (the (OrR (rwS T n S) T)) (-6)
theorem rwR_n (e : rwk t d = rwk T n) (k : rwk t d = false) : -6 = rwR T n S := (iF_neg (fun q => by rw [← e, k] at q; exact absurd q (by decide))).symm
theorem rwR_y (e : rwk t d = rwk T n) (k : rwk t d = true) (h : EqN F (rwS T n S) 5) (eb : bsum F = d) (et : ∀ j, 0 ≤ j → j < d → T j = B j) (q : OrR F B r) : r = rwR T n S := by
  refine Eq.trans (the_of (OrR.cg h (fun j a b => et j a (by rw [← bsum_eq h] at b; omega)) q) OrR.one) (iF_pos (e.symm.trans k)).symm
theorem TqC.eq (h : TqC t T) (g : rwk t d = true) : ∀ j, 0 ≤ j → j < d → T j = t j := fun j a b => by
  have u := (rwk_in g).1
  exact (h j a (by omega)).symm
theorem TqM.eq (h : TqM t T) (g : rwk t d = true) : ∀ j, 0 ≤ j → j < d → T j = t j := fun j a b => by
  have u := rwk_in g
  have v := h j a (by omega)
  have q := okT_in u.2 j a (by omega)
  rw [v.1] at q
  have z := (sb_col v.2.1 v.2.2).mp q
  rw [v.1, sb_eq z]
end Cds
theorem cdR_zr {x : Int} {aa : jAA} (h : RgX aa) : zr (cdR x aa.1) := iF_in (fun k => by
  have hp := bsum_pos h.1
  have u := cod5_rng (B := itB aa.1 x.toNat) (bsum aa.1).toNat (by have := h.1.2.2.2.2.2; omega) (by rw [show ((bsum aa.1).toNat : Int) = bsum aa.1 by omega]; exact (it_inv h.1 x.toNat (by have := k.2; unfold Hi at this; have := k.1; omega)).2.2)
  omega) (fun _ => by decide)
theorem hcR_zr {x : Int} {aa : jAA} (h : RgX aa) : zr (hcR x aa.1) := by
  obtain ⟨r, hr⟩ := HcR.ex (x := x) h.1
  have u := the_is hr
  have v := Hi_rng h.1
  have a := u.1
  have b := u.2.1
  show -2147483648 ≤ the (HcR aa.1 x) ∧ the (HcR aa.1 x) ≤ 2147483647
  omega
theorem orr_zr {S B : Int → Int} (h : okF S) : zr (the (OrR S B)) := by
  obtain ⟨r, hr⟩ := OrR.ex (B := B) h
  have u := the_is hr
  have v := Hi_rng h
  have a := u.1
  have b := u.2.1
  omega
theorem rdR_zr {x y : Int} {aa : jAA} (h : RgX aa) : zr (rdR x y aa.1) := iF_in (fun _ => iF_in (fun _ => orr_zr h.1) (fun _ => iF_in (fun _ => by
  have hp := bsum_rng h.1
  have u := inN_rng (B := itB aa.1 x.toNat) (p := (bsum aa.1).toNat) (by omega) (bsum aa.1).toNat
  omega) (fun _ => by decide))) (fun _ => by decide)
theorem cnt_rng {t : Int → Int} {c : Int} : ∀ n : Nat, 0 ≤ cnt t c n
  | 0 => Int.le_refl _
  | n + 1 => by
    have u := cnt_rng (t := t) (c := c) n
    unfold cnt
    split <;> omega
theorem cnt_sum {t : Int → Int} : ∀ n : Nat, okT t n = true → cnt t 0 n + cnt t 1 n + cnt t 2 n + cnt t 3 n + cnt t 4 n = n
  | 0, _ => rfl
  | n + 1, h => by
    have h2 : okT t n = true ∧ decide (0 ≤ t n ∧ t n ≤ 4) = true := Bool.and_eq_true_iff.mp h
    have u := cnt_sum (t := t) n h2.1
    have v := of_decide_eq_true h2.2
    unfold cnt
    rcases (show t n = 0 ∨ t n = 1 ∨ t n = 2 ∨ t n = 3 ∨ t n = 4 by omega) with e | e | e | e | e <;> rw [e] <;> simp <;> omega
theorem rwS_ok {T S : Int → Int} {n : Int} (k : rwk T n = true) : okF (rwS T n S) := by
  have u := rwk_in k
  have e : ∀ j, 0 ≤ j → j < 5 → rwS T n S j = cnt T j n.toNat := fun j a b => by
    unfold rwS
    rw [iF_pos k, nbS_out (by omega) (by omega) (by omega) (by omega)]
    unfold rwB
    rw [if_pos ⟨a, b⟩]
  have s := cnt_sum n.toNat u.2
  have r := fun c => cnt_rng (t := T) (c := c) n.toNat
  have r0 := r 0
  have r1 := r 1
  have r2 := r 2
  have r3 := r 3
  have r4 := r 4
  unfold okF bsum
  rw [e 0 (by decide) (by decide), e 1 (by decide) (by decide), e 2 (by decide) (by decide), e 3 (by decide) (by decide), e 4 (by decide) (by decide)]
  omega
theorem rwR_zr {T S : Int → Int} {n : Int} : zr (rwR T n S) := iF_in (fun k => orr_zr (rwS_ok k)) (fun _ => by decide)
