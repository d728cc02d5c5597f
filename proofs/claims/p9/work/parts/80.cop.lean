/-! rows for the class: rows copied, laws' rows, images -/
def cpyf (F H : Int → Int) (n : Int) : Int → Int := fun j => if 0 ≤ j ∧ j < n then F j else H j
theorem cpy_z {F H : Int → Int} {n : Int} : va_cpy (zA F) (zA H) 0 0 n.toNat = zA (cpyf F H n) := by
  funext k
  unfold va_cpy zA cpyf
  by_cases r : (k : Int) < n
  · rw [if_pos (by omega), if_pos (by omega)]
    congr 3
    omega
  · rw [if_neg (by omega), if_neg (by omega)]
theorem cpy_Rg {F H : Int → Int} {n m lo hi : Int} (h : Rg F m lo hi) (hn : m ≤ n) : Rg (cpyf F H n) m lo hi := fun j a b => by
  unfold cpyf
  rw [if_pos (by omega)]
  exact h j a b
theorem cpy_at {F H : Int → Int} {n j : Int} (h0 : 0 ≤ j) (h1 : j < n) : cpyf F H n j = F j := by
  unfold cpyf
  rw [if_pos ⟨h0, h1⟩]
section YC
variable {l : Launch} {G : jG} {M : jM} {R : Room} {E : State → Array Value → Prop} {Q : List Frame → Array Value → State → State → Prop} {nh : Nat} {fh : Nat → Option va_E} {L : List (Nat × va_E)} {ck sk pc : Nat} {ls : List (Option Value)} {st : List Value}
theorem Y_copy {idx k0 k1 n0 n1 : Nat} {F H : Int → Int} {n : Int} (N0 N1 : Int) (hdg : decode M.2.1 pc = .ok (.invokestatic idx, 3)) (hlink : Cond.methodLink M.1 idx arraycopyName ∈ jtb) (hnat : Cond.native arraycopyName ∈ jtb) (hstat : Cond.static arraycopyName ∈ jtb) (hini : Cond.initialized "java/lang/System" ∈ jtb) (hf0 : hc fh L k0 = some (.inl (0, n0, .inl (zA F)))) (hf1 : hc fh L k1 = some (.inl (0, n1, .inl (zA H)))) (hN0 : (n0 : Int) = N0) (hN1 : (n1 : Int) = N1) (h0 : 0 ≤ n) (hb : n ≤ 2147483647) (h4 : n ≤ N0) (h5 : n ≤ N1) (hfr : 1 ≤ R.frames) (hlo : (st.map fun v => v.category).sum + (nativeFrameWords "java/lang/System" "arraycopy" 5 + 11) ≤ R.locals)
    (kk : J l G M R E Q (nh, hc fh ((k1, .inl (0, n1, .inl (zA (cpyf F H n)))) :: L)) ck sk (pc + 3) ls st) : J l G M R E Q (nh, hc fh L) ck sk pc ls (.int (zI n) :: .int (zI 0) :: .ref k1 :: .int (zI 0) :: .ref k0 :: st) := by
  have hz : zr n := by omega
  refine K_copy (sp' := 0) (dp' := 0) (n' := n.toNat) hdg hlink hnat hstat hini hf0 hf1 (by decide) (by decide) (fun q => ?_) (by decide) (by decide) (zI_clamp hz) (by omega) (by omega) hfr hlo (by rw [cpy_z]; exact kk)
  have := zI_in (n := n.toNat + 1) hz h0 (by omega)
  exact this (Or.inl q)
theorem Y_aastA {k n r n0 : Nat} {f : Nat → Option Nat} {g : Nat → Int32} {i : Int} (N : Int) (hdg : decode M.2.1 pc = .ok (.aastore, 1)) (hf : hc fh L k = some (.inl (5, n, .inr (.inr (.inr (.inr f)))))) (hN : (n : Int) = N) (hb : N ≤ 2147483647) (h0 : 0 ≤ i) (h1 : i < N) (hr : hc fh L r = some (.inl (0, n0, .inl g))) (kk : J l G M R E Q (nh, hc fh ((k, .inl (5, n, .inr (.inr (.inr (.inr (va_up f i.toNat (some r))))))) :: L)) ck sk (pc + 1) ls st) : J l G M R E Q (nh, hc fh L) ck sk pc ls (.ref r :: .int (zI i) :: .ref k :: st) := by
  have hz : zr i := by omega
  exact K_aastA hdg hf hr (zI_in hz h0 (by omega)) (zI_clamp hz) kk
end YC
/-- the two images -/
def im17 : Nat → Option Nat := va_up (va_up (fun _ => none) 0 (some 18)) 1 (some 34)
theorem im17_0 {x : Int} (h : x = 0) : im17 x.toNat = some 18 := by subst h; rfl
theorem im17_1 {x : Int} (h : x = 1) : im17 x.toNat = some 34 := by subst h; rfl
/-- the rows of laws of one as those of the other, as far as n -/
def LwC (f g : Nat → Option Nat) (n : Int) : Prop := ∀ i : Nat, (i : Int) < n → f i = g i
theorem LwC_0 {f g : Nat → Option Nat} : LwC f g 0 := fun i h => by omega
theorem LwC.step {f g : Nat → Option Nat} {n : Int} {r : Nat} (q : LwC f g n) (h0 : 0 ≤ n) (e : g n.toNat = some r) : LwC (va_up f n.toNat (some r)) g (n + 1) := fun i h => by
  unfold va_up
  by_cases c : i = n.toNat
  · rw [if_pos c, c, e]
  · rw [if_neg c]
    exact q i (by omega)
theorem LwC.laws {f g : Nat → Option Nat} {n : Int} {fh : Nat → Option va_E} (q : LwC f g n) (h : 6 ≤ n) (w : LawsIn fh g) : LawsIn fh f := fun i hi => by
  obtain ⟨r, h1, h2⟩ := w i hi
  exact ⟨r, by rw [q i (by omega)]; exact h1, h2⟩
def Cp5 (f g : Int → Int) : Prop := ∀ j, 0 ≤ j → j < 5 → f j = g j
def GrS (n n2 S : Int) : Prop := n2 = n ∨ (2 * n ≤ n2 ∧ n2 ≤ S)
theorem cpy_Rg2 {F H : Int → Int} {n m lo hi : Int} (h : Rg F m lo hi) (h2 : Rg H m lo hi) : Rg (cpyf F H n) m lo hi := fun j a b => by
  unfold cpyf
  by_cases r : 0 ≤ j ∧ j < n
  · rw [if_pos r]; exact h j a b
  · rw [if_neg r]; exact h2 j a b
theorem fill_out {F : Int → Int} {j : Int} (h : 5 ≤ j) : fillf F 0 5 0 j = F j := by
  unfold fillf
  rw [if_neg (by omega)]
theorem NOld.le {a b n m : Nat} (h : NOld a b n) (k : NLe m n) : NOld a b m := by
  rcases h with w | w
  · exact Or.inl w
  · exact Or.inr (Nat.le_trans k w)
