/-! the range of what is answered -/
def RgX (aa : jAA) : Prop := okF aa.1 ∧ (0 ≤ aa.1 59 ∧ aa.1 59 ≤ 8) ∧ (0 ≤ aa.1 60 ∧ aa.1 60 ≤ 12) ∧ (0 ≤ aa.1 61 ∧ aa.1 61 ≤ 6) ∧ (zr (aa.1 5) ∧ zr (aa.1 6)) ∧ 0 ≤ aa.2.2.2.2 2 ∧ aa.2.2.2.2 2 ≤ 400
theorem RgX_of {ff tf wa wb ca cb sa sb kb : Int → Int} {wc cc sc d : Int} {aa : jAA} (h : SC ff tf wa wb ca cb sa sb wc cc sc aa.1) (o : okF ff) (ec : EC kb d aa.2.2.2.2) (t : Rg tf 2 (-2147483648) 2147483647) (a0 : 0 ≤ wc) (a1 : wc ≤ 8) (b0 : 0 ≤ sc) (b1 : sc ≤ 12) (c0 : 0 ≤ cc) (c1 : cc ≤ 6) (d0 : 0 ≤ d) (d1 : d ≤ 400) : RgX aa := by
  have e9 := h.c59
  have e6 := h.c60
  have e1 := h.c61
  have e2 := ec.2.2
  have t0 : tf 0 = aa.1 5 := h.2.1 0 (by decide) (by decide)
  have t1 : tf 1 = aa.1 6 := h.2.1 1 (by decide) (by decide)
  have z0 := t 0 (by decide) (by decide)
  have z1 := t 1 (by decide) (by decide)
  rw [t0] at z0
  rw [t1] at z1
  exact ⟨okF_same o h.1.sy, ⟨by omega, by omega⟩, ⟨by omega, by omega⟩, ⟨by omega, by omega⟩, ⟨z0, z1⟩, by omega, by omega⟩
theorem iF_in {p : Prop} {a b lo hi : Int} (h1 : p → lo ≤ a ∧ a ≤ hi) (h2 : ¬ p → lo ≤ b ∧ b ≤ hi) : lo ≤ iF p a b ∧ iF p a b ≤ hi := by
  by_cases g : p
  · rw [iF_pos g]; exact h1 g
  · rw [iF_neg g]; exact h2 g
theorem imr_zr (x : Int) : zr (imr x) := by
  unfold imr
  split <;> decide
theorem bkr_zr (x a b : Int) : zr (bkr x a b) := by
  unfold bkr
  repeat' split
  all_goals decide
theorem fdR_zr {aa : jAA} (h : RgX aa) : zr (fdR aa.2.2.2.2) := iF_in (fun g => by have := h.2.2.2.2.2; omega) (fun _ => by decide)
theorem enR_zr {x : Int} {E : Int → Int} (h : zr x) : zr (enR x E) := iF_in (fun _ => h) (fun _ => by decide)
theorem bnR_zr {x y : Int} {aa : jAA} (h : RgX aa) : zr (bnR x y aa.1) := iF_in (fun g => by
  have u := okF_at h.1 g.1 g.2.1 rfl
  omega) (fun _ => by decide)
theorem tmR_zr {x y : Int} {aa : jAA} (h : RgX aa) : zr (tmR x y aa.1) := iF_in (fun g => by
  have g0 := g.1
  have g1 := g.2.1
  by_cases e : x = 0
  · rw [e]; exact h.2.2.2.2.1.1
  · rw [show x = 1 by omega]; exact h.2.2.2.2.1.2) (fun _ => by decide)
theorem swR_zr {x y : Int} {aa : jAA} (h : RgX aa) : zr (swR x y aa.1) := iF_in (fun _ => iF_in (fun _ => by decide) (fun _ => by have := h.2.2.1; omega)) (fun _ => by decide)
theorem kpR_zr {x : Int} {aa : jAA} (h : RgX aa) : zr (kpR x aa.1) := iF_in (fun _ => by have := h.2.2.1; omega) (fun _ => by decide)
theorem clR_zr {x y : Int} {aa : jAA} (h : RgX aa) : zr (clR x y aa.1) := iF_in (fun _ => iF_in (fun _ => iF_in (fun _ => by decide) (fun _ => by have := h.2.2.2.1; omega)) (fun _ => by decide)) (fun _ => by decide)
theorem waR_zr {x y : Int} {aa : jAA} (h : RgX aa) : zr (waR x y aa.1) := iF_in (fun _ => iF_in (fun _ => by decide) (fun _ => iF_in (fun _ => by decide) (fun _ => by have := h.2.1; omega))) (fun _ => by decide)
theorem brR_zr {x y : Int} {aa : jAA} (h : RgX aa) : zr (brR x y aa.1) := iF_in (fun _ => iF_in (fun _ => by decide) (fun _ => by
  have u := flL_cong (x := x) (y := y) (EqN.rf (f := od aa.1 7)) (EqN.rf (f := od aa.1 8)) (aa.1 59).toNat (by have := h.2.1; omega)
  have v := h.2.1
  show -2147483648 ≤ (flL (od aa.1 7) (od aa.1 8) x y (aa.1 59).toNat).2.2 ∧ (flL (od aa.1 7) (od aa.1 8) x y (aa.1 59).toNat).2.2 ≤ 2147483647
  omega)) (fun _ => by decide)
theorem fgR_zr {aa : jAA} (h : RgX aa) : zr (aa.1 61) := by have := h.2.2.2.1; omega
theorem hoR_zr {aa : jAA} (h : RgX aa) : zr (Hi aa.1) := by have := Hi_rng h.1; omega
