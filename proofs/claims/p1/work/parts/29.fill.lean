/-- Arrays.fill(int[], int): all its places -/
theorem c_fill {l : Launch} {G : jG} {nh : Nat} {fh : Nat → Option va_E} {k n : Nat} {f : Nat → Int32} (v : Int32) (hn : n < 2 ^ 31) (hk : fh k = some (.inl (0, n, .inl f))) : JM l G yJ7_fill_53178 MJ7_fill_53178 { frames := 0, cells := 0, slots := 0, locals := 0 } [.ref k, .int v] (nh, fh) (fun r h9 => r = none ∧ h9 = (nh, hc fh [(k, .inl (0, n, .inl (fun _ => v)))])) := by
  refine JM.of (by decide) rfl (fun h => by cases h) (Nat.le_of_ble_eq_true rfl) ⟨2, rfl⟩ ?_
  refine J_iconst (v := 0) dJ7_fill_53178_0 (by decide) ?_
  refine J_istore_n dJ7_fill_53178_1 rfl (Nat.le_of_ble_eq_true rfl) rfl ?_
  refine J_aload_n dJ7_fill_53178_2 rfl rfl ?_
  refine J_alen (v := nI n) dJ7_fill_53178_3 hk rfl rfl ?_
  refine J_istore_n dJ7_fill_53178_4 rfl (Nat.le_of_ble_eq_true rfl) rfl ?_
  have loop : ∀ (r j : Nat) (i : Int32) (g : Nat → Int32), j + r = n → i = nI j → (∀ x, x < j → g x = v) → J l G MJ7_fill_53178 { frames := 0, cells := 0, slots := 0, locals := 0 } jE (jMQ G { frames := 0, cells := 0, slots := 0, locals := 0 } (fun r h9 => r = none ∧ h9 = (nh, hc fh [(k, .inl (0, n, .inl (fun _ => v)))]))) (nh, hc fh [(k, .inl (0, n, .inl g))]) 0 0 5 [some (.ref k), some (.int v), some (.int i), some (.int (nI n))] [] := by
    intro r
    induction r with
    | zero =>
      intro j i g hj hi hg
      refine J_iload_n dJ7_fill_53178_5 rfl rfl ?_
      refine J_iload_n dJ7_fill_53178_6 rfl rfl ?_
      refine J_icmp_ge (tgt := 20) dJ7_fill_53178_7 (by decide) (fun _ => ?_) (fun q => absurd (by rw [hi]; exact nI_le (by omega) (by omega)) q)
      refine J_cong (f := g) (g := fun _ => v) (k := k) hu_same (fun x hx => hg x (by omega)) ?_
      refine J_hp (fh2 := hc fh [(k, .inl (0, n, .inl (fun _ => v)))]) ?_ ?_
      · funext x
        show hu (hu fh k _) k _ x = hu fh k _ x
        by_cases hx : x = k
        · rw [hx, hu_same, hu_same]
        · rw [hu_ne hx, hu_ne hx, hu_ne hx]
      exact J_vret dJ7_fill_53178_20 rfl (Nat.le_of_ble_eq_true rfl) (Nat.le_of_ble_eq_true rfl) ⟨rfl, rfl⟩
    | succ r ih =>
      intro j i g hj hi hg
      refine J_iload_n dJ7_fill_53178_5 rfl rfl ?_
      refine J_iload_n dJ7_fill_53178_6 rfl rfl ?_
      refine J_icmp_ge (tgt := 20) dJ7_fill_53178_7 (by decide) (fun q => absurd q (by rw [hi]; exact nI_ge (by omega) (by omega))) (fun _ => ?_)
      refine J_aload_n dJ7_fill_53178_10 rfl rfl ?_
      refine J_iload_n dJ7_fill_53178_11 rfl rfl ?_
      refine J_iload_n dJ7_fill_53178_12 rfl rfl ?_
      refine J_iast (i2 := j) dJ7_fill_53178_13 hu_same rfl (by rw [hi]; exact vp_in_nI (by omega) (by omega)) (by rw [hi]; exact nI_clamp (by omega)) ?_
      refine J_iinc (v := i + 1) dJ7_fill_53178_14 rfl rfl (Nat.le_of_ble_eq_true rfl) rfl ?_
      refine J_ls (ls2 := [some (.ref k), some (.int v), some (.int (i + 1)), some (.int (nI n))]) rfl ?_
      refine J_goto (tgt := 5) dJ7_fill_53178_17 (by decide) ?_
      refine J_hp (fh2 := hc fh [(k, .inl (0, n, .inl (upd g j v)))]) ?_ ?_
      · funext x
        show hu (hu fh k _) k _ x = hu fh k _ x
        by_cases hx : x = k
        · rw [hx, hu_same, hu_same]
        · rw [hu_ne hx, hu_ne hx, hu_ne hx]
      refine ih (j + 1) (i + 1) (upd g j v) (by omega) (by rw [hi]; exact nI_1 j) (fun x hx => ?_)
      by_cases e : x = j
      · subst e
        simp [upd]
      · simp [upd, e]
        exact hg x (by omega)
  refine J_hp (fh2 := hc fh [(k, .inl (0, n, .inl f))]) ?_ (loop n 0 0 f (by omega) rfl (fun x hx => absurd hx (by omega)))
  funext x
  show fh x = hu fh k _ x
  by_cases hx : x = k
  · rw [hx, hu_same, hk]
  · rw [hu_ne hx]
