/-! rows for Walks: buckets of houses -/
def HPk (hd lt : Int → Int) (many : Int) : Prop := ∀ b, 0 ≤ b → b < 100 → hd b = -1 ∨ (0 ≤ hd b ∧ hd b < many ∧ 0 ≤ lt (hd b))
def NPk (nx lt : Int → Int) (many : Int) : Prop := ∀ h, 0 ≤ h → h < many → 0 ≤ lt h → nx h = -1 ∨ (0 ≤ nx h ∧ nx h < many ∧ 0 ≤ lt (nx h))
theorem HPk.at {hd lt : Int → Int} {many b z : Int} (h : HPk hd lt many) (h0 : 0 ≤ b) (h1 : b < 100) (e : hd b = z) (hz : ¬ z = -1) : 0 ≤ z ∧ z < many ∧ 0 ≤ lt z := by
  subst e
  exact (h b h0 h1).resolve_left hz
theorem HPk.rng {hd lt : Int → Int} {many b z : Int} (h : HPk hd lt many) (h0 : 0 ≤ b) (h1 : b < 100) (e : hd b = z) : -1 ≤ z ∧ (z < many ∨ z = -1) := by
  subst e
  rcases h b h0 h1 with q | q <;> omega
theorem HPk.fill {G hd lt : Int → Int} {many : Int} (e : G = fillf hd 0 100 (-1)) : HPk G lt many := fun b h0 h1 => Or.inl (fill_at e h0 h1)
theorem NPk.none {nx lt : Int → Int} {many : Int} (h : Rg lt many (-1) (-1)) : NPk nx lt many := fun x h0 h1 h2 => by
  have := h x h0 h1
  omega
theorem enter_ok {hd lt nx lt2 hd2 nx2 : Int → Int} {many x t b z : Int} (hH : HPk hd lt many) (hN : NPk nx lt many) (hx0 : 0 ≤ x) (hx1 : x < many) (ht : 0 ≤ t) (hb0 : 0 ≤ b) (hb1 : b < 100) (e1 : lt2 = up lt x t) (ez : hd b = z) (e2 : nx2 = up nx x z) (e3 : hd2 = up hd b x) : HPk hd2 lt2 many ∧ NPk nx2 lt2 many := by
  subst e1 e2 e3
  have keep : ∀ y, 0 ≤ lt y → 0 ≤ up lt x t y := fun y q => by
    by_cases r : y = x
    · rw [r, up_same]; exact ht
    · rw [up_ne r]; exact q
  have hz : z = -1 ∨ (0 ≤ z ∧ z < many ∧ 0 ≤ up lt x t z) := by
    subst ez
    rcases hH b hb0 hb1 with q | ⟨q1, q2, q3⟩
    · exact Or.inl q
    · exact Or.inr ⟨q1, q2, keep _ q3⟩
  refine ⟨fun c c0 c1 => ?_, fun h h0 h1 h2 => ?_⟩
  · by_cases r : c = b
    · rw [r, up_same]
      exact Or.inr ⟨hx0, hx1, by rw [up_same]; exact ht⟩
    · rw [up_ne r]
      rcases hH c c0 c1 with q | ⟨q1, q2, q3⟩
      · exact Or.inl q
      · exact Or.inr ⟨q1, q2, keep _ q3⟩
  · by_cases r : h = x
    · rw [r, up_same]
      exact hz
    · rw [up_ne r]
      rw [up_ne r] at h2
      rcases hN h h0 h1 h2 with q | ⟨q1, q2, q3⟩
      · exact Or.inl q
      · exact Or.inr ⟨q1, q2, keep _ q3⟩
theorem remove_h {hd lt nx hd2 : Int → Int} {many x b z : Int} (hH : HPk hd lt many) (hN : NPk nx lt many) (hx0 : 0 ≤ x) (hx1 : x < many) (hl : 0 ≤ lt x) (ez : nx x = z) (e : hd2 = up hd b z) : HPk hd2 lt many := by
  subst e
  intro c c0 c1
  by_cases r : c = b
  · rw [r, up_same, ← ez]
    exact hN x hx0 hx1 hl
  · rw [up_ne r]
    exact hH c c0 c1
theorem remove_n {lt nx nx2 : Int → Int} {many x b z : Int} (hN : NPk nx lt many) (hx0 : 0 ≤ x) (hx1 : x < many) (hl : 0 ≤ lt x) (ez : nx x = z) (e : nx2 = up nx b z) : NPk nx2 lt many := by
  subst e
  intro c c0 c1 c2
  by_cases r : c = b
  · rw [r, up_same, ← ez]
    exact hN x hx0 hx1 hl
  · rw [up_ne r]
    exact hN c c0 c1 c2
def RwP (a b : Nat) : Prop := (a = 73 ∧ b = 74) ∨ (a = 74 ∧ b = 73)
theorem Z_any {l : Launch} {G : jG} {M : jM} {R : Room} {E : State → Array Value → Prop} {Q : List Frame → Array Value → State → State → Prop} {h : jH} {ck sk pc : Nat} {ls : List (Option Value)} {st : List Value} {a : Int} (k : ∀ z, zr z → J l G M R E Q h ck sk pc ls (.int (zI z) :: st)) : J l G M R E Q h ck sk pc ls (.int (zI a) :: st) := by
  obtain ⟨z, h1, h2⟩ := zI_of (zI a)
  rw [h2]
  exact k z h1
theorem up_pos {F G : Int → Int} {i v x : Int} (e : G = up F i v) (h : 0 ≤ F x) (hv : 0 ≤ v) : 0 ≤ G x := by
  subst e
  by_cases q : x = i
  · rw [q, up_same]; exact hv
  · rw [up_ne q]; exact h
