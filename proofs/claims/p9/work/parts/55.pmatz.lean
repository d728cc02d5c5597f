/-! rows for Parting, more -/
def OdV (od by_ : Int → Int) (n : Int) : Prop := ∀ j, 0 ≤ j → j < n → ¬ by_ (od j) = -1
theorem OdV_1 {od od2 b b2 : Int → Int} {x : Int} (e : od2 = up od 0 x) (e2 : b2 = up b x 0) : OdV od2 b2 1 := fun j h0 h1 => by
  subst e e2
  rw [show j = 0 by omega, up_same, up_same]
  decide
theorem OdV.at {od b : Int → Int} {n j z : Int} (q : OdV od b n) (h0 : 0 ≤ j) (h1 : j < n) (e : od j = z) : ¬ b z = -1 := by
  subst e
  exact q j h0 h1
theorem OdV.visit {od b od2 b2 : Int → Int} {n h s : Int} (q : OdV od b n) (e : b2 = up b h s) (e2 : od2 = up od n h) (hs : 0 ≤ s) : OdV od2 b2 (n + 1) := fun j h0 h1 => by
  subst e e2
  have keep : ∀ y, ¬ b y = -1 → ¬ up b h s y = -1 := fun y w => by
    by_cases r : y = h
    · rw [r, up_same]; omega
    · rw [up_ne r]; exact w
  by_cases r : j = n
  · rw [r, up_same, up_same]; omega
  · rw [up_ne r]
    exact keep _ (q j h0 (by omega))
theorem Vis_b {by_ df sf : Int → Int} {many a b hs z h : Int} (hz : z = 22 * a + b) (a0 : 0 ≤ a) (a1 : a < many) (b0 : 0 ≤ b) (b1 : b < df a) (ht : Tt sf a b = hs) (hv : ¬ by_ hs = -1) (ha : h = a) : Vis by_ df sf many h z := ⟨a, b, hz, a0, a1, b0, b1, fun e => absurd ha.symm e, fun _ => by rw [ht]; exact hv⟩
