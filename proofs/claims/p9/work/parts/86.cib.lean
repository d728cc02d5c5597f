/-! rows for the law: cells of a chain, rows of laws beside other rows, what a growing row costs -/
def AllK (P : Nat → Prop) : List (Nat × va_E) → Prop
  | [] => True
  | q :: L => P q.1 ∧ AllK P L
theorem AllK.mem {P : Nat → Prop} : ∀ {L : List (Nat × va_E)}, AllK P L → ∀ q ∈ L, P q.1
  | [], _, q, h => by cases h
  | p :: L, a, q, h => by
    rcases List.mem_cons.mp h with e | e
    · rw [e]; exact a.1
    · exact AllK.mem a.2 q e
/-- outside the reference's cells -/
def OutM (k : Nat) : Prop := k < 98 ∨ 135 ≤ k
theorem OutM_fx {k : Nat} (h : Fx k) : OutM k := by
  by_cases a : k < 98
  · exact Or.inl a
  · by_cases b : 135 ≤ k
    · exact Or.inr b
    · exfalso
      have w : ∀ j : Fin 37, (98 + j.val) ∈ jFixed := by decide +kernel
      have u := w ⟨k - 98, by omega⟩
      exact h _ u (by show k = 98 + (k - 98); omega)
theorem OutM_le {k : Nat} (h : NLe 135 k) : OutM k := Or.inr h
theorem hc_outM {f : Nat → Option va_E} {L : List (Nat × va_E)} (h : AllK OutM L) (k : Nat) (h0 : 98 ≤ k) (h1 : k < 135) : hc f L k = f k :=
  hc_in (fun q hq e => by have w := AllK.mem h q hq; unfold OutM at w; omega)
def InM (k : Nat) : Prop := 98 ≤ k ∧ k < 135
theorem hc_inM {f : Nat → Option va_E} {L : List (Nat × va_E)} (h : AllK InM L) (k : Nat) (h0 : OutM k) : hc f L k = f k :=
  hc_in (fun q hq e => by have w := AllK.mem h q hq; unfold InM at w; unfold OutM at h0; omega)
theorem NLe.ne61 {k : Nat} (h : NLe 135 k) : NNe k 61 := fun e => by unfold NLe at h; omega
theorem NOld.ne61 {a b nh : Nat} (h : NOld a b nh) (h0 : NNe a 61) (h1 : NLe 135 nh) : NNe b 61 := by
  rcases h with h | h
  · subst h; exact h0
  · intro e
    unfold NLe at h1
    omega
/-- the rows of laws lie beside the rows that grow -/
def LawsX (lf : Nat → Option Nat) (nh ks ku ki ke km ko : Nat) : Prop := ∀ i : Nat, i < 6 → ∀ r, lf i = some r → r < nh ∧ r ≠ ks ∧ r ≠ ku ∧ r ≠ ki ∧ r ≠ ke ∧ r ≠ km ∧ r ≠ ko ∧ r ≠ 61
def LwNe (lf : Nat → Option Nat) (k : Nat) : Prop := ∀ i : Nat, i < 6 → ∀ r, lf i = some r → r ≠ k
theorem LwNe_fx {fh : Nat → Option va_E} {lf : Nat → Option Nat} (h : LawsIn fh lf) (k : Nat) (hk : k ∈ jFixed) : LwNe lf k := fun i hi r e => by
  obtain ⟨r', h1, h2, _⟩ := h i hi
  rw [h1] at e
  cases e
  exact h2 k hk
theorem LwNe_new {lf : Nat → Option Nat} {nh ks ku ki ke km ko k : Nat} (h : LawsX lf nh ks ku ki ke km ko) (hk : NLe nh k) : LwNe lf k := fun i hi r e => by
  have := (h i hi r e).1
  have hk : nh ≤ k := hk
  omega
theorem LwNe_old {lf : Nat → Option Nat} {nh a b : Nat} (h : LwNe lf a) (hn : ∀ i : Nat, i < 6 → ∀ r, lf i = some r → r < nh) (o : NOld a b nh) : LwNe lf b := fun i hi r e => by
  have h1 := h i hi r e
  have h2 := hn i hi r e
  rcases o with w | w
  · rw [w]; exact h1
  · omega
theorem LawsX.lt {lf : Nat → Option Nat} {nh ks ku ki ke km ko : Nat} (h : LawsX lf nh ks ku ki ke km ko) : ∀ i : Nat, i < 6 → ∀ r, lf i = some r → r < nh := fun i hi r e => (h i hi r e).1
theorem LawsX.ks {lf : Nat → Option Nat} {nh ks ku ki ke km ko : Nat} (h : LawsX lf nh ks ku ki ke km ko) : LwNe lf ks := fun i hi r e => (h i hi r e).2.1
theorem LawsX.ku {lf : Nat → Option Nat} {nh ks ku ki ke km ko : Nat} (h : LawsX lf nh ks ku ki ke km ko) : LwNe lf ku := fun i hi r e => (h i hi r e).2.2.1
theorem LawsX.ki {lf : Nat → Option Nat} {nh ks ku ki ke km ko : Nat} (h : LawsX lf nh ks ku ki ke km ko) : LwNe lf ki := fun i hi r e => (h i hi r e).2.2.2.1
theorem LawsX.ke {lf : Nat → Option Nat} {nh ks ku ki ke km ko : Nat} (h : LawsX lf nh ks ku ki ke km ko) : LwNe lf ke := fun i hi r e => (h i hi r e).2.2.2.2.1
theorem LawsX.km {lf : Nat → Option Nat} {nh ks ku ki ke km ko : Nat} (h : LawsX lf nh ks ku ki ke km ko) : LwNe lf km := fun i hi r e => (h i hi r e).2.2.2.2.2.1
theorem LawsX.ko {lf : Nat → Option Nat} {nh ks ku ki ke km ko : Nat} (h : LawsX lf nh ks ku ki ke km ko) : LwNe lf ko := fun i hi r e => (h i hi r e).2.2.2.2.2.2.1
theorem LawsX.sx {lf : Nat → Option Nat} {nh ks ku ki ke km ko : Nat} (h : LawsX lf nh ks ku ki ke km ko) : LwNe lf 61 := fun i hi r e => (h i hi r e).2.2.2.2.2.2.2
theorem LawsX.grow {lf : Nat → Option Nat} {nh nh2 ks ku ki ke km ko ks2 ku2 ki2 ke2 km2 ko2 : Nat} (h : LawsX lf nh ks ku ki ke km ko) (hn : NLe nh nh2) (a : NOld ks ks2 nh) (b : NOld ku ku2 nh) (c : NOld ki ki2 nh) (d : NOld ke ke2 nh) (e : NOld km km2 nh) (f : NOld ko ko2 nh) : LawsX lf nh2 ks2 ku2 ki2 ke2 km2 ko2 := fun i hi r q =>
  ⟨Nat.lt_of_lt_of_le (h i hi r q).1 hn, LwNe_old h.ks h.lt a i hi r q, LwNe_old h.ku h.lt b i hi r q, LwNe_old h.ki h.lt c i hi r q, LwNe_old h.ke h.lt d i hi r q, LwNe_old h.km h.lt e i hi r q, LwNe_old h.ko h.lt f i hi r q, h.sx i hi r q⟩
theorem LawsIn.chain {fh : Nat → Option va_E} {lf : Nat → Option Nat} {L : List (Nat × va_E)} (h : LawsIn fh lf) (a : AllK (LwNe lf) L) : LawsIn (hc fh L) lf := fun i hi => by
  obtain ⟨r, h1, h2, n, F, h3, h4⟩ := h i hi
  refine ⟨r, h1, h2, n, F, ?_, h4⟩
  rw [hc_in (fun q hq e => AllK.mem a q hq i hi r h1 e.symm)]
  exact h3
theorem LwC.lx {f g : Nat → Option Nat} {nh ks ku ki ke km ko : Nat} (q : LwC f g 6) (h : LawsX g nh ks ku ki ke km ko) : LawsX f nh ks ku ki ke km ko := fun i hi r e => h i hi r (by rw [← q i (by omega)]; exact e)
theorem LwC.ne {f g : Nat → Option Nat} {k : Nat} (q : LwC f g 6) (h : LwNe g k) : LwNe f k := fun i hi r e => h i hi r (by rw [← q i (by omega)]; exact e)
/-- one more law -/
theorem LawsIn.more {fh gh : Nat → Option va_E} {lf lf2 : Nat → Option Nat} {a : Int} {nh : Nat} {n : Int} {F : Int → Int} (h : LawsIn gh lf) (e : va_up lf a.toNat (some nh) = lf2) (hn : NLe 135 nh) (hc' : gh nh = some (.inl (0, n.toNat, .inl (zA F)))) (n0 : 0 ≤ n) (n1 : n ≤ 402) (r : Rg F n (-2147483648) 2147483647) : LawsIn gh lf2 := fun i hi => by
  subst e
  unfold va_up
  by_cases q : i = a.toNat
  · rw [if_pos q]
    exact ⟨nh, rfl, Fx_of hn, n, F, hc', n0, by omega, r⟩
  · rw [if_neg q]
    exact h i hi
theorem LawsX.more {lf lf2 : Nat → Option Nat} {a : Int} {nh ks ku ki ke km ko : Nat} (h : LawsX lf nh ks ku ki ke km ko) (e : va_up lf a.toNat (some nh) = lf2) (a1 : NLt ks nh) (a2 : NLt ku nh) (a3 : NLt ki nh) (a4 : NLt ke nh) (a5 : NLt km nh) (a6 : NLt ko nh) (a7 : NLe 135 nh) : LawsX lf2 (nh + 1) ks ku ki ke km ko := fun i hi r q => by
  subst e
  unfold va_up at q
  unfold NLt at a1 a2 a3 a4 a5 a6
  unfold NLe at a7
  by_cases w : i = a.toNat
  · rw [if_pos w] at q
    cases q
    exact ⟨by omega, by omega, by omega, by omega, by omega, by omega, by omega, by omega⟩
  · rw [if_neg w] at q
    have := h i hi r q
    exact ⟨by omega, this.2⟩
/-- what a growing row costs: as much as it is longer thereafter, twice -/
theorem Gs_ex (v : Prop) (n need B : Int) (n0 : 0 ≤ n) (hB : v → need ≤ B) (hn : 2 * n ≤ B) : ∃ S : Int, 0 ≤ S ∧ S ≤ B ∧ (v → n < need → need ≤ S ∧ 2 * n ≤ S) ∧ ∀ n2, n ≤ n2 → (v → n < need → need ≤ n2 ∧ 2 * n ≤ n2) → 2 * n + S ≤ 2 * n2 := by
  by_cases h : v ∧ n < need
  · have hb := hB h.1
    refine ⟨max need (2 * n), by omega, by omega, fun _ _ => by omega, fun n2 a b => ?_⟩
    have := b h.1 h.2
    omega
  · exact ⟨0, by omega, by omega, fun a b => absurd ⟨a, b⟩ h, fun n2 a _ => by omega⟩
theorem sq40 {m : Int} (h0 : 1 ≤ m) (h : m ≤ 40) : m * m ≤ 120000 := by
  have := Int.mul_le_mul h h (by omega) (by decide : (0 : Int) ≤ 40)
  omega
theorem imp_w {a b b2 : Int} {X : Prop} (h : a = b → X) (h1 : a ≤ b) (h2 : b ≤ b2) : a = b2 → X := fun w => h (by omega)
