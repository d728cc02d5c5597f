/-! what the machine sorts -/
def VX (aa : jAA) : Prop := SwL aa.1 (aa.1 60) (bsum aa.1)
theorem VX_of {K : Int → Int} {aa : jAA} (k : SwL K (K 60) (bsum K)) (s12 : K 60 ≤ 12) (h : EqN K aa.1 62) : VX aa := fun j a b => by
  have e6 := h 60 (by decide) (by decide)
  have u := k j a (by omega)
  rw [h _ (by omega) (by omega), h _ (by omega) (by omega), bsum_eq (h.le (by decide))] at u
  exact u
section Sos
variable {ff tf wa wb ca cb sa sb F A B S : Int → Int} {wc cc sc p x n m r but k : Int}
theorem VX.sw (h : SC ff tf wa wb ca cb sa sb wc cc sc S) (v : SwL S (S 60) (bsum S)) (s12 : sc ≤ 12) (ep : p = bsum ff) : SwV sa sb sc p := fun j a b => by
  have e6 := h.c60
  have u := v j a (by omega)
  rw [Int.add_comm 23, Int.add_comm 24, ← h.bs, ← ep] at u
  rw [h.2.2.1.1 j a (by omega), h.2.2.1.2.1 j a (by omega)]
  exact u
theorem so_cg (hf : EqN F S 5) (ha : EqN A (od S 23) 12) (hb : EqN B (od S 24) 12) (em : m = Hi S) (k12 : k ≤ 12) : soN (SoH F A B but k) m.toNat = soN (SoH S (od S 23) (od S 24) but k) (Hi S).toNat := by
  rw [em]
  exact soN_cg _ (fun h _ _ => SoH_cg hf ha hb k12)
noncomputable def soA (S : Int → Int) (but k : Int) : Int := soN (SoH S (od S 23) (od S 24) but k) (Hi S).toNat
noncomputable def soR (x : Int) (S : Int → Int) : Int := iF (x = 0) (soA S (-1) (S 60)) (iF (x = 1) (the (FuR (SoH S (od S 23) (od S 24) (-1) (S 60)) (Hi S))) (iF (x = 2) (ndB (fun k => soA S (-1) (S 60) ≤ soA S k (S 60)) (S 60).toNat) (iF (x = 3) (the (LeR (fun k => soA S (-1) k) (soA S (-1) (S 60)))) (-1))))
theorem soR_0 (hf : EqN F S 5) (ha : EqN A (od S 23) 12) (hb : EqN B (od S 24) 12) (em : m = Hi S) (en : n = S 60) (n12 : n ≤ 12) (x0 : x = 0) (e : r = soN (SoH F A B (-1) n) m.toNat) : r = soR x S := by
  unfold soR
  rw [iF_pos x0, e, so_cg hf ha hb em n12, en]; rfl
theorem soR_1 (hf : EqN F S 5) (ha : EqN A (od S 23) 12) (hb : EqN B (od S 24) 12) (em : m = Hi S) (en : n = S 60) (n12 : n ≤ 12) (x1 : x = 1) (q : FuR (SoH F A B (-1) n) m r) : r = soR x S := by
  unfold soR
  rw [iF_neg (by omega), iF_pos x1]
  refine the_of (FuR.cg em (fun h _ _ => ?_) q) FuR.one
  rw [← en]
  exact SoH_cg hf ha hb n12
theorem soR_2 (hf : EqN F S 5) (ha : EqN A (od S 23) 12) (hb : EqN B (od S 24) 12) (em : m = Hi S) (en : n = S 60) (n12 : n ≤ 12) (x2 : x = 2) (e : r = ndB (fun k => soN (SoH F A B (-1) n) m.toNat ≤ soN (SoH F A B k n) m.toNat) n.toNat) : r = soR x S := by
  unfold soR
  rw [iF_neg (by omega), iF_neg (by omega), iF_pos x2, e, ← en]
  refine ndB_cg _ (fun h _ _ => ?_)
  show soN (SoH F A B (-1) n) m.toNat ≤ soN (SoH F A B h n) m.toNat ↔ soA S (-1) n ≤ soA S h n
  rw [so_cg hf ha hb em n12, so_cg hf ha hb em n12]
  exact Iff.rfl
theorem soR_3 (hf : EqN F S 5) (ha : EqN A (od S 23) 12) (hb : EqN B (od S 24) 12) (em : m = Hi S) (en : n = S 60) (n12 : n ≤ 12) (x3 : x = 3) (rn : r ≤ n) (q : LeR (fun k => soN (SoH F A B (-1) k) m.toNat) (soN (SoH F A B (-1) n) m.toNat) r) : r = soR x S := by
  unfold soR
  rw [iF_neg (by omega), iF_neg (by omega), iF_neg (by omega), iF_pos x3, ← en]
  refine the_of ⟨q.1, ?_, fun t a b => ?_⟩ LeR.one
  · have u : soN (SoH F A B (-1) n) m.toNat ≤ soN (SoH F A B (-1) r) m.toNat := q.2.1
    rw [so_cg hf ha hb em n12, so_cg hf ha hb em (by omega)] at u
    exact u
  · have u : soN (SoH F A B (-1) t) m.toNat < soN (SoH F A B (-1) n) m.toNat := q.2.2 t a b
    rw [so_cg hf ha hb em n12, so_cg hf ha hb em (by omega)] at u
    exact u
theorem soR_o (x0 : ¬ x = 0) (x1 : ¬ x = 1) (x2 : ¬ x = 2) (x3 : ¬ x = 3) : -1 = soR x S := ((iF_neg x0).trans ((iF_neg x1).trans ((iF_neg x2).trans (iF_neg x3)))).symm
noncomputable def sdR (x : Int) (S : Int → Int) : Int := iF (isA x (Hi S)) (the (OrR S (thC (od S 23) (od S 24) (-1) (itB S x.toNat) (S 60).toNat))) (-1)
theorem sdR_n (e : m = Hi S) (k : ¬ isA x m) : -1 = sdR x S := (iF_neg (e ▸ k)).symm
theorem sdR_y (hf : EqN F S 5) (ha : EqN A (od S 23) 12) (hb : EqN B (od S 24) 12) (en : n = S 60) (n12 : n ≤ 12) (k : isA x (Hi F)) (q : OrR F (thC A B (-1) (itB F x.toNat) n.toNat) r) : r = sdR x S := by
  unfold sdR
  rw [iF_pos (by rw [← Hi_same hf]; exact k)]
  refine the_of (OrR.cg hf (fun j a b => ?_) q) OrR.one
  rw [thC_cong ha hb n.toNat (by omega), itB_same hf, en]
end Sos
theorem soA_rng {aa : jAA} (h : RgX aa) {b k : Int} : 0 ≤ soA aa.1 b k ∧ soA aa.1 b k ≤ 1260 := by
  have u := soN_rng (P := SoH aa.1 (od aa.1 23) (od aa.1 24) b k) (Hi aa.1).toNat
  have v := Hi_rng h.1
  show 0 ≤ soN _ _ ∧ soN _ _ ≤ 1260
  omega
theorem FuR.ex {P : Int → Prop} : ∀ m : Nat, ∃ r, FuR P m r
  | 0 => ⟨-1, Or.inl ⟨rfl, fun t a b => by omega⟩⟩
  | m + 1 => by
    obtain ⟨r, h⟩ := FuR.ex (P := P) m
    rcases h with h | h
    · by_cases g : P m
      · refine ⟨-1, Or.inl ⟨rfl, fun t a b => ?_⟩⟩
        by_cases e : t = m
        · rw [e]; exact g
        · exact h.2 t a (by omega)
      · exact ⟨m, Or.inr ⟨by omega, by omega, g, fun t a b => h.2 t a b⟩⟩
    · exact ⟨r, Or.inr ⟨h.1, by omega, h.2.2.1, h.2.2.2⟩⟩
theorem LeR.ex {g : Int → Int} {all : Int} : ∀ n : Nat, all ≤ g n → ∃ r, LeR g all r ∧ r ≤ n := fun n => by
  induction n using Nat.strongRecOn with
  | ind n ih =>
    intro h
    by_cases e : ∃ t : Nat, t < n ∧ all ≤ g t
    · obtain ⟨t, t1, t2⟩ := e
      obtain ⟨r, hr, hn⟩ := ih t t1 t2
      exact ⟨r, hr, by omega⟩
    · refine ⟨n, ⟨by omega, h, fun t a b => ?_⟩, Int.le_refl _⟩
      obtain ⟨k, rfl⟩ := Int.eq_ofNat_of_zero_le a
      by_cases l : all ≤ g k
      · exact absurd ⟨k, by omega, l⟩ e
      · omega
theorem soR_zr {x : Int} {aa : jAA} (h : RgX aa) : zr (soR x aa.1) := iF_in (fun _ => by have := soA_rng h (b := -1) (k := aa.1 60); omega) (fun _ => iF_in (fun _ => by
  have v := Hi_rng h.1
  obtain ⟨r, hr⟩ := FuR.ex (P := SoH aa.1 (od aa.1 23) (od aa.1 24) (-1) (aa.1 60)) (Hi aa.1).toNat
  rw [show (((Hi aa.1).toNat : Nat) : Int) = Hi aa.1 by omega] at hr
  rcases the_is hr with u | u
  · rw [u.1]; decide
  · have a := u.1
    have b := u.2.1
    omega) (fun _ => iF_in (fun _ => ndB_zr _) (fun _ => iF_in (fun _ => by
  have v := h.2.2.1
  obtain ⟨r, hr, hn⟩ := LeR.ex (g := fun k => soA aa.1 (-1) k) (all := soA aa.1 (-1) (aa.1 60)) (aa.1 60).toNat (by
    show soA aa.1 (-1) (aa.1 60) ≤ soA aa.1 (-1) (((aa.1 60).toNat : Nat) : Int)
    rw [show (((aa.1 60).toNat : Nat) : Int) = aa.1 60 by omega]
    exact Int.le_refl _)
  have e := the_of hr LeR.one
  have a := hr.1
  rw [← e]
  omega) (fun _ => by decide))))
theorem sdR_zr {x : Int} {aa : jAA} (h : RgX aa) : zr (sdR x aa.1) := iF_in (fun _ => orr_zr h.1) (fun _ => by decide)
