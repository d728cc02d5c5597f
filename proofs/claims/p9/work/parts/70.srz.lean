/-! the reference's swap-ifs, told as the class's -/
theorem thr_thC {K B : Int → Int} {but : Int} : ∀ n : Nat, thr K but B n = thC (od K 23) (od K 24) but B n
  | 0 => rfl
  | n + 1 => by
    unfold thr thC
    rw [thr_thC n, Int.add_comm 24, Int.add_comm 23]
    rfl
theorem SwL.v {K : Int → Int} {n p : Int} (h : SwL K n p) : SwV (od K 23) (od K 24) n p := fun k a b => by
  have u := h k a b
  rw [Int.add_comm 23, Int.add_comm 24] at u
  exact u
theorem SoK_row {co cd K o : Int → Int} {hm m h r z but p : Int} (hT : HouT co cd K hm) (hf : okF K) (hmm : hm = Hi K) (sw : SwL K (K 60) (bsum K)) (hp : p = bsum K) (m0 : 0 ≤ m) (m1 : m ≤ K 60) (h0 : 0 ≤ h) (h1 : h < hm) (eo : EqOn (bsum K) o (thr K but (itB K h.toNat) m.toNat)) (er : cod5 o p.toNat = r) (ez : cd 0 = z) : r = z ↔ SoH K (od K 23) (od K 24) but m h := by
  have hb := bsum_rng hf
  have i0 := it_inv hf 0 (by have := Hi_rng hf; unfold Hi at this; omega)
  have ih := it_inv hf h.toNat (by unfold Hi at hmm; omega)
  have e0 : z = cod5 (itB K 0) (bsum K).toNat := by
    rw [← ez, (hT 0 (by decide) (by omega)).1]; rfl
  have o1 := thC_ok (but := but) sw.v ih.2.2 m.toNat (by omega)
  rw [thr_thC] at eo
  have e1 : cod5 (thC (od K 23) (od K 24) but (itB K h.toNat) m.toNat) (bsum K).toNat = r := by
    rw [← er, hp]
    exact (cod5_congr _ (fun j a b => eo j a (by omega))).symm
  have ep : ((bsum K).toNat : Int) = bsum K := by omega
  refine ⟨fun g => fun j a b => ?_, fun g => ?_⟩
  · exact cod5_inj (bsum K).toNat (by rw [ep]; exact o1) (by rw [ep]; exact i0.2.2) (by rw [e1, g, e0]) j a (by omega)
  · rw [← e1, e0]
    exact cod5_congr _ (fun j a b => g j a (by omega))
/-- counted from above, the same -/
theorem soN_down {P : Int → Prop} {f : Nat → Int} {n : Nat} (h0 : f 0 = 0) (hs : ∀ j : Nat, j < n → f (j + 1) = f j + iF (P ((n : Int) - 1 - (j : Int))) 1 0) : ∀ j : Nat, j ≤ n → f j + soN P (n - j) = soN P n
  | 0, _ => by
    rw [h0, Int.zero_add]; rfl
  | j + 1, hj => by
    have u := soN_down h0 hs j (by omega)
    obtain ⟨k, hk⟩ : ∃ k : Nat, n - j = k + 1 := ⟨n - j - 1, by omega⟩
    rw [hk] at u
    rw [show n - (j + 1) = k by omega, hs j (by omega), show (n : Int) - 1 - (j : Int) = (k : Int) by omega, ← u]
    show _ = f j + (soN P k + iF (P (k : Int)) 1 0)
    omega
/-- the count so far, from above -/
noncomputable def soD (P : Int → Prop) (m : Int) : Nat → Int
  | 0 => 0
  | j + 1 => soD P m j + iF (P (m - 1 - (j : Int))) 1 0
theorem soD_all {P : Int → Prop} {m : Int} (m0 : 0 ≤ m) : soD P m m.toNat = soN P m.toNat := by
  have u := soN_down (P := P) (f := soD P m) (n := m.toNat) rfl (fun j _ => by
    show soD P m j + iF (P (m - 1 - (j : Int))) 1 0 = _
    rw [show ((m.toNat : Nat) : Int) = m by omega]) m.toNat (Nat.le_refl _)
  rw [Nat.sub_self] at u
  have z : soN P 0 = 0 := rfl
  omega
theorem soD_step {P : Int → Prop} {m h n d : Int} (q : n = soD P m (m - 1 - h).toNat) (h0 : 0 ≤ h) (h1 : h < m) (hd : (P h ∧ d = n + 1) ∨ (¬ P h ∧ d = n)) : d = soD P m (m - 1 - (h - 1)).toNat := by
  rw [show (m - 1 - (h - 1)).toNat = (m - 1 - h).toNat + 1 by omega]
  show d = soD P m (m - 1 - h).toNat + iF (P (m - 1 - (((m - 1 - h).toNat : Nat) : Int))) 1 0
  rw [show m - 1 - (((m - 1 - h).toNat : Nat) : Int) = h by omega, ← q]
  rcases hd with g | g
  · rw [iF_pos g.1]; exact g.2
  · rw [iF_neg g.1]; omega
