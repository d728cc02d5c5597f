/-! Chains of cells: hc f L is f with the cells of L on top, the first of them uppermost; the words of the row writer -/
def hc (f : Nat → Option va_E) (L : List (Nat × va_E)) : Nat → Option va_E := L.foldr (fun p g => hu g p.1 p.2) f
/-- only the uppermost of each number -/
def dd : List (Nat × va_E) → List (Nat × va_E)
  | [] => []
  | p :: L => p :: (dd L).filter (fun q => !(Nat.beq q.1 p.1))
theorem hc_in {f : Nat → Option va_E} : ∀ {L : List (Nat × va_E)} {k : Nat}, (∀ q ∈ L, q.1 ≠ k) → hc f L k = f k
  | [], _, _ => rfl
  | p :: L, k, h => by
    show hu (hc f L) p.1 p.2 k = f k
    rw [hu_ne (fun e => h p List.mem_cons_self e.symm)]
    exact hc_in (fun q hq => h q (List.mem_cons_of_mem _ hq))
theorem hc_filter {f : Nat → Option va_E} {n : Nat} : ∀ (L : List (Nat × va_E)) {k : Nat}, k ≠ n → hc f (L.filter (fun q => !(Nat.beq q.1 n))) k = hc f L k
  | [], _, _ => rfl
  | p :: L, k, h => by
    rw [List.filter_cons]
    by_cases e : p.1 = n
    · rw [if_neg (by rw [e, Nat.beq_refl]; decide)]
      show _ = hu (hc f L) p.1 p.2 k
      rw [hu_ne (by rw [e]; exact h)]
      exact hc_filter L h
    · have hb : Nat.beq p.1 n = false := by
        cases hb : Nat.beq p.1 n with
        | false => rfl
        | true => exact absurd (Nat.eq_of_beq_eq_true hb) e
      rw [if_pos (by rw [hb]; decide)]
      show hu (hc f (L.filter _)) p.1 p.2 k = hu (hc f L) p.1 p.2 k
      by_cases e2 : k = p.1
      · rw [e2, hu_same, hu_same]
      · rw [hu_ne e2, hu_ne e2]
        exact hc_filter L h
theorem hc_dd {f : Nat → Option va_E} : ∀ (L : List (Nat × va_E)), hc f (dd L) = hc f L
  | [] => rfl
  | p :: L => by
    funext k
    show hu (hc f ((dd L).filter _)) p.1 p.2 k = hu (hc f L) p.1 p.2 k
    by_cases e : k = p.1
    · rw [e, hu_same, hu_same]
    · rw [hu_ne e, hu_ne e, hc_filter _ e, hc_dd L]
section JD
variable {l : Launch} {G : jG} {M : jM} {R : Room} {E : State → Array Value → Prop} {Q : List Frame → Array Value → State → State → Prop} {nh : Nat} {fh : Nat → Option va_E} {ck sk pc : Nat} {ls : List (Option Value)} {st : List Value}
theorem J_dd {L L2 : List (Nat × va_E)} (h : dd L = L2) (k : J l G M R E Q (nh, hc fh L2) ck sk pc ls st) : J l G M R E Q (nh, hc fh L) ck sk pc ls st := by
  rw [← hc_dd, h]
  exact k
/-- a picture that says less -/
theorem J_less {gh : Nat → Option va_E} (h : ∀ (k : Nat) (e : va_E), gh k = some e → fh k = some e) (k : J l G M R E Q (nh, gh) ck sk pc ls st) : J l G M R E Q (nh, fh) ck sk pc ls st := by
  intro p e s m args below meth c H locs la X hE hP hS hL
  exact k p e s m args below meth c H locs la X hE ⟨hP.1, fun q e' hq => hP.2 q e' (h q e' hq)⟩ hS hL
/-- an array by what it holds within its length -/
theorem J_cong {k t n : Nat} {f g : Nat → Int32} (hf : fh k = some (.inl (t, n, .inl f))) (hg : ∀ j, j < n → f j = g j) (kk : J l G M R E Q (nh, hu fh k (.inl (t, n, .inl g))) ck sk pc ls st) : J l G M R E Q (nh, fh) ck sk pc ls st := by
  intro p e s m args below meth c H locs la X hE hP hS hL
  refine kk p e s m args below meth c H locs la X hE (hP.put ?_ rfl (fun _ _ => rfl)) hS hL
  have h1 : H[G.2.2.1 + k]? = some (arrV (G.2.1 t) n (fun j => .int (f j))) := hP.2 k _ hf
  show H[G.2.2.1 + k]? = some (arrV (G.2.1 t) n (fun j => .int (g j)))
  rw [h1]
  congr 1
  unfold arrV
  congr 2
  funext j
  show Value.int (f j.val) = Value.int (g j.val)
  rw [hg j.val j.isLt]
theorem JM.less {y : MethodName} {rm : Room} {av : List Value} {gh : Nat → Option va_E} {Po : Option Value → jH → Prop} (h : ∀ (k : Nat) (e : va_E), gh k = some e → fh k = some e) (k : JM l G y M rm av (nh, gh) Po) : JM l G y M rm av (nh, fh) Po := by
  intro p e ha hc hk s m args below hf hpre hP hT
  exact k p e ha hc hk s m args below hf hpre ⟨hP.1, ⟨hP.2.1.1, fun q e' hq => hP.2.1.2 q e' (h q e' hq)⟩, hP.2.2⟩ hT
end JD
theorem jin {i : Int32} {n : Nat} (h : (decide (¬ i < 0) && decide (i.toNatClampNeg < n)) = true) : vp_in i n := by
  rw [Bool.and_eq_true, decide_eq_true_eq, decide_eq_true_eq] at h
  intro q
  rcases q with q | q
  · exact h.1 q
  · omega
