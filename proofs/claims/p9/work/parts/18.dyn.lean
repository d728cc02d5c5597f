/-! cells with unknown numbers: new rows, rows of laws -/
def NLt (a b : Nat) : Prop := a < b
def NLe (a b : Nat) : Prop := a ≤ b
def NNe (a b : Nat) : Prop := a ≠ b
theorem Fx_of {k : Nat} (h : NLe 135 k) : Fx k := fun j hj e => by
  have h1 : j < 135 := List.mem_range.mp (List.mem_filter.mp hj).1
  have h2 : 135 ≤ k := h
  omega
theorem NLt.ne {a b : Nat} (h : NLt a b) : NNe a b := Nat.ne_of_lt h
theorem NLt.ne' {a b : Nat} (h : NLt a b) : NNe b a := Nat.ne_of_gt h
theorem NNe.symm {a b : Nat} (h : NNe a b) : NNe b a := fun e => h e.symm
theorem NLt.le {a b c : Nat} (h : NLt a b) (k : NLe b c) : NLt a c := Nat.lt_of_lt_of_le h k
theorem NLe.trans {a b c : Nat} (h : NLe a b) (k : NLe b c) : NLe a c := Nat.le_trans h k
theorem NLe.step {a b : Nat} (h : NLe a b) : NLe a (b + 1) := Nat.le_succ_of_le h
theorem NLe.refl (a : Nat) : NLe a a := Nat.le_refl a
theorem NLt.step {a b : Nat} (h : NLt a b) : NLt a (b + 1) := Nat.lt_succ_of_lt h
theorem NLt.self (a : Nat) : NLt a (a + 1) := Nat.lt_succ_self a
/-- a row of ints that may be a law -/
def LawAt (f : Nat → Option va_E) (r : Nat) : Prop := ∃ (n : Int) (F : Int → Int), f r = some (.inl (0, n.toNat, .inl (zA F))) ∧ 0 ≤ n ∧ n ≤ 1000 ∧ Rg F n (-2147483648) 2147483647
def LawsIn (f : Nat → Option va_E) (lf : Nat → Option Nat) : Prop := ∀ i : Nat, i < 6 → ∃ r, lf i = some r ∧ Fx r ∧ LawAt f r
theorem hc_fix {f : Nat → Option va_E} {L : List (Nat × va_E)} {r : Nat} (hr : Fx r) (hL : (L.all fun q => jFixed.contains q.1) = true) : hc f L r = f r := by
  refine hc_in (fun q hq e => ?_)
  have h1 := List.all_eq_true.mp hL q hq
  exact hr q.1 (by simpa using h1) e.symm
theorem LawsIn_fix {f : Nat → Option va_E} {lf : Nat → Option Nat} {L : List (Nat × va_E)} (h : LawsIn f lf) (hL : (L.all fun q => jFixed.contains q.1) = true) : LawsIn (hc f L) lf := fun i hi => by
  obtain ⟨r, h1, h2, n, F, h3, h4⟩ := h i hi
  exact ⟨r, h1, h2, n, F, by rw [hc_fix h2 hL]; exact h3, h4⟩
section YD
variable {l : Launch} {G : jG} {M : jM} {R : Room} {E : State → Array Value → Prop} {Q : List Frame → Array Value → State → State → Prop} {h : jH} {nh : Nat} {fh : Nat → Option va_E} {L : List (Nat × va_E)} {ck sk pc : Nat} {ls : List (Option Value)} {st : List Value}
theorem Y_newi {nh2 ck2 sk2 : Nat} {z : Int} (hdg : decode M.2.1 pc = .ok (.newarray .int, 2)) (harr : Cond.arrayClass .int ∈ jtb) (h0 : 0 ≤ z) (hb : z ≤ 100000000) (hc' : ck + 1 ≤ R.cells) (hs : sk + z.toNat ≤ R.slots) (h1 : nh + 1 = nh2) (h2 : ck + 1 = ck2) (h3 : sk + z.toNat = sk2) (kk : J l G M R E Q (nh2, hc fh ((nh, .inl (0, z.toNat, .inl (zA (fun _ => 0)))) :: L)) ck2 sk2 (pc + 2) ls (.ref nh :: st)) : J l G M R E Q (nh, hc fh L) ck sk pc ls (.int (zI z) :: st) :=
  Z_newi (N := z.toNat) hdg harr (by omega) h0 (by omega) (by omega) hc' hs h1 h2 h3 kk
theorem Y_aald {k n : Nat} {f : Nat → Option Nat} {i : Int} {r : Nat} (N : Int) (hdg : decode M.2.1 pc = .ok (.aaload, 1)) (hf : fh k = some (.inl (5, n, .inr (.inr (.inr (.inr f)))))) (hN : (n : Int) = N) (hb : N ≤ 2147483647) (h0 : 0 ≤ i) (h1 : i < N) (hv : f i.toNat = some r) (kk : J l G M R E Q (nh, fh) ck sk (pc + 1) ls (.ref r :: st)) : J l G M R E Q (nh, fh) ck sk pc ls (.int (zI i) :: .ref k :: st) :=
  Z_aald hdg hf rfl rfl (by omega) h0 (by omega) hv kk
end YD
