/-! the steps lead to houses -/
section Esr
variable {S B : Int → Int} {Wl : Int → Int → Prop} {V : Int → Int → Int} {x y t l p tn m : Int}
/-- each order has its house, or none -/
theorem OrR.exs (hf : okF S) (hB : okB (bsum S) B) : ∃ r, OrR S B r := by
  have hR : RowsTo (fun h => pk3 (itB S h.toNat) (bsum S).toNat) S (Hi S) := fun _ _ _ => rfl
  by_cases h : ∃ t, 0 ≤ t ∧ t < Hi S ∧ pk3 (itB S t.toNat) (bsum S).toNat = pk3 B (bsum S).toNat
  · obtain ⟨t, t0, t1, e⟩ := h
    exact ⟨t, OrR.find hR hf rfl hB rfl (by omega) t1 (FnR_hit (Rows_mono hR hf rfl) t0 t1 rfl e)⟩
  · exact ⟨-1, OrR.find hR hf rfl hB rfl (by omega) (by unfold Hi; omega) ⟨fun w => absurd w (by decide), fun t a b c => absurd ⟨t, a, b, c⟩ h⟩⟩
theorem sxS_in {e : Int × Int} (h : e ∈ sxS Wl x y t) : e.1 = y ∧ 0 ≤ y := by
  by_cases c : 1 ≤ t ∧ 0 ≤ y ∧ ¬ Wl x y
  · rw [sxS_y c.1 c.2.1 c.2.2] at h
    rw [List.mem_singleton.mp h]
    exact ⟨rfl, c.2.1⟩
  · unfold sxS at h
    rw [iF_neg c] at h
    cases h
theorem sxS_rg (hf : okF S) (hB : okB (bsum S) B) {e : Int × Int} (h : e ∈ sxS Wl x (the (OrR S B)) t) : 0 ≤ e.1 ∧ e.1 < Hi S := by
  obtain ⟨a, b⟩ := sxS_in h
  obtain ⟨r, o⟩ := OrR.exs hf hB
  rw [a]
  exact ⟨b, (the_is o).2.1⟩
theorem sxI_rg (hf : okF S) (hB : okB (bsum S) B) (l0 : 0 ≤ l) : ∀ n : Nat, l + n < bsum S → ∀ e ∈ sxI S Wl V B x l n, 0 ≤ e.1 ∧ e.1 < Hi S
  | 0, _, e, h => by cases h
  | n + 1, q, e, h => by
    have h : e ∈ sxI S Wl V B x l n ++ iF (B l = B (l + 1 + n)) [] (sxS Wl x (the (OrR S (swp B l (l + 1 + n)))) (V l (l + 1 + n))) := h
    rcases List.mem_append.mp h with h | h
    · exact sxI_rg hf hB l0 n (by omega) e h
    · by_cases c : B l = B (l + 1 + n)
      · rw [iF_pos c] at h
        cases h
      · rw [iF_neg c] at h
        exact sxS_rg hf (swp_okB hB l0 (by omega) (by omega) (by omega)) h
theorem sxO_rg (hf : okF S) (hB : okB (bsum S) B) : ∀ n : Nat, n ≤ bsum S → ∀ e ∈ sxO S Wl V B x (bsum S) n, 0 ≤ e.1 ∧ e.1 < Hi S
  | 0, _, e, h => by cases h
  | n + 1, q, e, h => by
    have h : e ∈ sxO S Wl V B x (bsum S) n ++ sxI S Wl V B x n (bsum S - n - 1).toNat := h
    rcases List.mem_append.mp h with h | h
    · exact sxO_rg hf hB n (by omega) e h
    · exact sxI_rg hf hB (by omega) (bsum S - n - 1).toNat (by omega) e h
theorem sxL_rg (hf : okF S) (hB : okB (bsum S) B) : ∀ e ∈ sxL S Wl V B x (bsum S) tn, 0 ≤ e.1 ∧ e.1 < Hi S := fun e h => by
  have hp := bsum_pos hf
  unfold sxL at h
  rcases List.mem_append.mp h with h | h
  · exact sxO_rg hf hB (bsum S).toNat (by omega) e h
  · unfold sxT at h
    by_cases c : tn = 1 ∧ ¬ the (OrR S (tnB B (bsum S))) = x
    · rw [iF_pos c] at h
      exact sxS_rg hf (tnB_okB hB) h
    · rw [iF_neg c] at h
      cases h
theorem FsE.er {es : Int → jES} {gw : jLG} {fo wc : Int} {ff wa wb tf : Int → Int} (h : FsE es gw fo ff wa wb wc p tf m) (hf : okF ff) (hm : m = Hi ff) (hp : p = bsum ff) : EsR es m := fun x x0 x1 e q => by
  obtain ⟨R, _, h2⟩ := h x x0 x1
  rw [h2, hp] at q
  rw [hm]
  exact sxL_rg hf (it_okB hf hm x1) e q
end Esr
theorem WkE.es {es es2 : Int → jES} {m x r : Int} {F W O : Int → Int} (h : WkE es m x F W O r) (e : es2 = es) : WkE es2 m x F W O r := by
  rw [e]
  exact h
