/-! THE LOGIC J: arrays of references, new int[n][k], System.arraycopy, Math.min -/
theorem vr_outer (c : ClassId) (N h0 : Nat) : ∀ i : Nat, Jvm.Free.Multi.outerC c N h0 i = arrV c N (fun j => va_rf (if j < i then some (h0 + 1 + j) else none))
  | 0 => by
    show ({ cls := c, slots := Array.replicate N .null, vm := .none } : Cell) = _
    rw [arrV_new]
    refine congrArg (arrV c N) (funext fun j => ?_)
    simp [va_rf]
  | i + 1 => by
    show (Jvm.Free.Multi.outerC c N h0 i).setSlot i (.ref (h0 + 1 + i)) = _
    rw [vr_outer c N h0 i, arrV_store]
    refine congrArg (arrV c N) (funext fun j => ?_)
    by_cases e : j = i
    · subst e
      simp [updV, va_rf]
    · by_cases h : j < i
      · simp [updV, e, h, Nat.lt_succ_of_lt h]
      · simp [updV, e, h, show ¬ j < i + 1 by omega]
theorem j_self (vm : Vm) (c : ClassId) : vm.assignable c c = true := by
  have e : vm.assignableAux (255 + 1) c c = true := by
    rw [Vm.assignableAux]
    simp only [BEq.rfl, Bool.true_or]
  exact e
section JO
variable {l : Launch} {G : jG} {M : jM} {R : Room} {E : State → Array Value → Prop} {Q : List Frame → Array Value → State → State → Prop} {h : jH} {nh : Nat} {fh : Nat → Option va_E} {ck sk pc : Nat} {ls : List (Option Value)} {st : List Value}
theorem j_aput {h : jH} {H H1 : Heap} {k t n j r : Nat} {f : Nat → Option Nat} (hP : HP G h H) (hf : h.2 k = some (.inl (t, n, .inr (.inr (.inr (.inr f)))))) (e1 : H1[G.2.2.1 + k]? = some ((arrV (G.2.1 t) n (fun j => va_rf ((f j).map (fun k => G.2.2.1 + k)))).setSlot j (.ref (G.2.2.1 + r)))) (z : H1.size = H.size) (oq : ∀ q : Nat, q ≠ G.2.2.1 + k → H1[q]? = H[q]?) : HP G (h.1, hu h.2 k (.inl (t, n, .inr (.inr (.inr (.inr (va_up f j (some r)))))))) H1 := by
  refine hP.put ?_ z oq
  show H1[_]? = some (arrV (G.2.1 t) n (fun i => va_rf ((va_up f j (some r) i).map (fun k => G.2.2.1 + k))))
  rw [e1, arrV_store]
  congr 2
  funext q
  by_cases hq : q = j
  · subst hq
    simp [updV, va_up, va_rf]
  · simp [updV, va_up, hq]
/-- an object into an array of its class -/
theorem J_aastO {k t n r ci : Nat} {f : Nat → Option Nat} {i : Int32} {fs : List Value} {C : String} {T : u_T} {N : Nat} (hdg : decode M.2.1 pc = .ok (.aastore, 1)) (hf : fh k = some (.inl (t, n, .inr (.inr (.inr (.inr f)))))) (ht : jT[t]? = some (.object C)) (hr : fh r = some (.inr (ci, fs))) (hc : vwCl[ci]? = some (C, T, N)) (hin : vp_in i n) (kk : J l G M R E Q (nh, hu fh k (.inl (t, n, .inr (.inr (.inr (.inr (va_up f i.toNatClampNeg (some r)))))))) ck sk (pc + 1) ls st) : J l G M R E Q (nh, fh) ck sk pc ls (.ref r :: .int i :: .ref k :: st) := by
  intro p e s m args below meth c H locs la X hE hP hS hL
  have hK := X.2.2.2.2.2.2.1
  have hlt : i.toNatClampNeg < n := Nat.not_le.mp fun q => hin (Or.inr q)
  have h0 : ¬ i < 0 := fun q => hin (Or.inl q)
  obtain ⟨r', hr', cellV, g1, g2, g3, -⟩ := hP.2 r _ hr
  have hcls := (hK.1 ci _ hc).2
  obtain ⟨kA, comp, k1, k2, k3, -⟩ := (hK.2 t _ (jTys_at ht)).2
  have hcomp : comp = G.1.1 ci := Option.some.inj (k3.symm.trans hcls.1)
  subst hcomp
  obtain ⟨kC, hkC, -⟩ := hcls.2
  have hcell : H[G.2.2.1 + k]? = some (arrV (G.2.1 t) n (fun j => va_rf ((f j).map (fun k => G.2.2.1 + k)))) := hP.2 k _ hf
  refine W.aast X.1 X.2.1 hcell (fun q h => by cases h) (fun h => by cases h) k1 k2 rfl hkC ⟨h0, by rw [arrV_size]; exact hlt⟩ g1 (fun q h => by rw [g3] at h; cases h) (by rw [g2]; exact hkC) (by rw [g2]; exact j_self _ _) rfl rfl hdg fun H1 e1 z oq => ?_
  exact kk p e s m args below meth c H1 _ la X hE (j_aput hP hf e1 z oq) (hS.put z oq (Nat.le_add_right _ _)) hL
/-- an int[] into an int[][] -/
theorem J_aastA {k n r n0 : Nat} {f : Nat → Option Nat} {g : Nat → Int32} {i : Int32} (hdg : decode M.2.1 pc = .ok (.aastore, 1)) (hf : fh k = some (.inl (5, n, .inr (.inr (.inr (.inr f)))))) (hr : fh r = some (.inl (0, n0, .inl g))) (hin : vp_in i n) (kk : J l G M R E Q (nh, hu fh k (.inl (5, n, .inr (.inr (.inr (.inr (va_up f i.toNatClampNeg (some r)))))))) ck sk (pc + 1) ls st) : J l G M R E Q (nh, fh) ck sk pc ls (.ref r :: .int i :: .ref k :: st) := by
  intro p e s m args below meth c H locs la X hE hP hS hL
  have hK := X.2.2.2.2.2.2.1
  have hlt : i.toNatClampNeg < n := Nat.not_le.mp fun q => hin (Or.inr q)
  have h0 : ¬ i < 0 := fun q => hin (Or.inl q)
  obtain ⟨comp, c5, k5, o1, -, o3, o4, o5⟩ := j_over (args := #[]) X.2.2.2.2.2.2.2.2.2.2.2.2.1
  have q5 : s.vm.findClass ("[" ++ (FieldType.array .int).toString) = some (G.2.1 5) := (hK.2 5 _ (jTys_at (G := G) (t := 5) rfl)).2
  have q0 : s.vm.findClass ("[" ++ FieldType.int.toString) = some (G.2.1 0) := (hK.2 0 _ (jTys_at (G := G) (t := 0) rfl)).2
  have e5 : c5 = G.2.1 5 := Option.some.inj (o5.symm.trans q5)
  have e0 : comp = G.2.1 0 := Option.some.inj (o1.symm.trans q0)
  subst e5
  subst e0
  have hcell : H[G.2.2.1 + k]? = some (arrV (G.2.1 5) n (fun j => va_rf ((f j).map (fun k => G.2.2.1 + k)))) := hP.2 k _ hf
  have hcr : H[G.2.2.1 + r]? = some (arrV (G.2.1 0) n0 (fun j => .int (g j))) := hP.2 r _ hr
  obtain ⟨-, kI, hkI, cm, hkk⟩ := (hK.2 0 _ (jTys_at (G := G) (t := 0) rfl)).1 n0 (fun j => .int (g j))
  refine W.aast X.1 X.2.1 hcell (fun q h => by cases h) (fun h => by cases h) o3 o4 rfl hkI ⟨h0, by rw [arrV_size]; exact hlt⟩ hcr (fun q h => by cases h) hkI (j_self _ _) rfl rfl hdg fun H1 e1 z oq => ?_
  exact kk p e s m args below meth c H1 _ la X hE (j_aput hP hf e1 z oq) (hS.put z oq (Nat.le_add_right _ _)) hL
theorem J_anew {idx t N : Nat} {n : Int32} (hdg : decode M.2.1 pc = .ok (.anewarray idx, 3)) (hcl : Cond.classLink M.1 idx "BeanStreet$State" ∈ jtb) (ht : jT[t]? = some (.object "BeanStreet$State")) (hn : ¬ n < 0) (hN : n.toNatClampNeg = N) (hbytes : N * 4 ≤ 536870912) (hc : ck + 1 ≤ R.cells) (hs : sk + N ≤ R.slots) (kk : J l G M R E Q (nh + 1, hu fh nh (.inl (t, N, .inr (.inr (.inr (.inr (fun _ => none))))))) (ck + 1) (sk + N) (pc + 3) ls (.ref nh :: st)) : J l G M R E Q (nh, fh) ck sk pc ls (.int n :: st) := by
  intro p e s m args below meth c H locs la X hE hP hS hL
  subst hN
  have hts := X.2.2.2.2.2.1
  have hK := X.2.2.2.2.2.2.1
  refine W.anew X.1 X.2.1 X.2.2.2.2.1 (hts _ hcl) (va_AO.use X.2.2.2.2.2.2.2.2.2.2.2.1) rfl hdg rfl hn hbytes hc hs fun cA kA comp f1 f2 f3 f4 => ?_
  obtain ⟨kA', comp', -, -, -, k4⟩ := (hK.2 t _ (jTys_at ht)).2
  have eA : cA = G.2.1 t := Option.some.inj (f1.symm.trans k4)
  subst eA
  have hz : H.size = G.2.2.1 + nh := hP.1
  generalize hH1 : H.push ({ cls := G.2.1 t, slots := Array.replicate n.toNatClampNeg .null, vm := .none } : Cell) = H1
  have z1 : H1.size = G.2.2.1 + nh + 1 := by rw [← hH1, Array.size_push, hz]
  have e1 : H1[G.2.2.1 + nh]? = some (arrV (G.2.1 t) n.toNatClampNeg (fun _ => .null)) := by rw [← hH1, ← hz, Array.getElem?_push_size, ← arrV_new]
  have o1 : ∀ q : Nat, q < G.2.2.1 + nh → H1[q]? = H[q]? := fun q hq => by rw [← hH1, Array.getElem?_push, if_neg (by omega)]
  have hk := kk p e s m args below meth c H1 locs la X hE (hP.push (e := .inl (t, n.toNatClampNeg, .inr (.inr (.inr (.inr (fun _ => none)))))) e1 z1 o1) ⟨Nat.le_trans hS.1 (by rw [hz, z1]; omega), fun q h1 h2 => by
    rw [o1 q (by rw [← hz]; exact Nat.lt_of_lt_of_le h1 hS.1)]
    exact hS.2.1 q h1 h2, hS.2.2⟩ hL
  rw [hz]
  exact hk
/-- int[] to int[] -/
theorem J_copy {idx k0 k1 n0 n1 sp' dp' n' : Nat} {f g : Nat → Int32} {sp dp n : Int32} (hdg : decode M.2.1 pc = .ok (.invokestatic idx, 3)) (hlink : Cond.methodLink M.1 idx arraycopyName ∈ jtb) (hnat : Cond.native arraycopyName ∈ jtb) (hstat : Cond.static arraycopyName ∈ jtb) (hini : Cond.initialized "java/lang/System" ∈ jtb) (hf0 : fh k0 = some (.inl (0, n0, .inl f))) (hf1 : fh k1 = some (.inl (0, n1, .inl g))) (h1 : ¬ sp < 0) (h2 : ¬ dp < 0) (h3 : ¬ n < 0) (e1 : sp.toNatClampNeg = sp') (e2 : dp.toNatClampNeg = dp') (e3 : n.toNatClampNeg = n') (h4 : sp' + n' ≤ n0) (h5 : dp' + n' ≤ n1) (hfr : 1 ≤ R.frames) (hlo : (st.map fun v => v.category).sum + (nativeFrameWords "java/lang/System" "arraycopy" 5 + 11) ≤ R.locals)
    (kk : J l G M R E Q (nh, hu fh k1 (.inl (0, n1, .inl (va_cpy f g sp' dp' n')))) ck sk (pc + 3) ls st) : J l G M R E Q (nh, fh) ck sk pc ls (.int n :: .int dp :: .ref k1 :: .int sp :: .ref k0 :: st) := by
  intro p e s m args below meth c H locs la X hE hP hS hL T hT XS
  subst e1 e2 e3
  have hts := X.2.2.2.2.2.1
  have hK := X.2.2.2.2.2.2.1
  have nn : ∀ z : Int32, ¬ z < 0 → z.toInt = (z.toNatClampNeg : Int) := by
    intro z hz
    have hz0 : (0 : Int) ≤ z.toInt := by
      have := Int32.not_lt.mp hz
      simpa using Int32.le_iff_toInt_le.mp this
    show z.toInt = ((z.toInt.toNat : Nat) : Int)
    omega
  have hc0 : H[G.2.2.1 + k0]? = some (vp_cell (G.2.1 0) (n0, .inl f)) := hP.2 k0 _ hf0
  have hc1 : H[G.2.2.1 + k1]? = some (vp_cell (G.2.1 0) (n1, .inl g)) := hP.2 k1 _ hf1
  obtain ⟨-, q0, hk0, cm0, hkk0⟩ := (hK.2 0 _ (jTys_at (G := G) (t := 0) rfl)).1 n0 (fun j => .int (f j))
  obtain ⟨-, q1, hk1, cm1, hkk1⟩ := (hK.2 0 _ (jTys_at (G := G) (t := 0) rfl)).1 n1 (fun j => .int (g j))
  obtain ⟨vm', X', step⟩ := XS.arraycopy X.1 X.2.2.2.2.1 (hts _ hlink) (hts _ hnat) (hts _ hstat) (hts _ hini) (src := G.2.2.1 + k0) (dst := G.2.2.1 + k1) (cs := vp_cell (G.2.1 0) (n0, .inl f)) (cd := vp_cell (G.2.1 0) (n1, .inl g)) (srcPos := sp) (destPos := dp) (n := n) (by rw [hT]; exact hc0) (by rw [hT]; exact hc1)
    (fun _ h => by cases h) (fun _ h => by cases h) (fun h => by cases h) (fun h => by cases h) hk0 hk1 hkk0 hkk1 (by simp [refKind]) h1 h2 h3
    (by rw [nn sp h1, nn n h3]; show ¬ _ > ((arrV _ n0 (fun j => .int (f j))).slots.size : Int); rw [arrV_size]; omega)
    (by rw [nn dp h2, nn n h3]; show ¬ _ > ((arrV _ n1 (fun j => .int (g j))).slots.size : Int); rw [arrV_size]; omega)
    (fun vm₁ _ i hi => by
      have e : (vp_cell (G.2.1 0) (n0, .inl f)).slots.getD (sp.toNatClampNeg + i) .null = .int (f (sp.toNatClampNeg + i)) := by
        show (arrV _ n0 (fun j => .int (f j))).slots.getD _ _ = _
        rw [Array.getD_eq_getD_getElem?, arrV_read _ _ (by omega)]
        rfl
      refine ⟨?_, ?_⟩
      · rw [e]
        rfl
      · rw [e]
        exact trivial)
    (g := F0 m pc la ((.int n :: .int dp :: .ref k1 :: .int sp :: .ref k0 :: st).map (pv G))) rfl (by rw [X.2.2.2.1]; exact hL.1) (rest := st.map (pv G)) rfl (by rw [X.2.1]; exact hdg) hfr (by rw [j_cats]; show 2 * 0 + _ + _ ≤ _; omega)
  have e1 : copied (vp_cell (G.2.1 0) (n0, .inl f)) (vp_cell (G.2.1 0) (n1, .inl g)) sp dp n = vp_cell (G.2.1 0) (n1, .inl (va_cpy f g sp.toNatClampNeg dp.toNatClampNeg n.toNatClampNeg)) := va_copied (fun z => .int z) _ _ f g h4
  rw [e1] at X' step
  have hl : G.2.2.1 + k1 < H.size := (Array.getElem?_eq_some_iff.mp hc1).1
  have hheap : ((T.setVm vm').setCell (G.2.2.1 + k1) (vp_cell (G.2.1 0) (n1, .inl (va_cpy f g sp.toNatClampNeg dp.toNatClampNeg n.toNatClampNeg)))).heap = H.setIfInBounds (G.2.2.1 + k1) (vp_cell (G.2.1 0) (n1, .inl (va_cpy f g sp.toNatClampNeg dp.toNatClampNeg n.toNatClampNeg))) := by rw [← hT]; rfl
  have oq : ∀ q : Nat, q ≠ G.2.2.1 + k1 → (H.setIfInBounds (G.2.2.1 + k1) (vp_cell (G.2.1 0) (n1, .inl (va_cpy f g sp.toNatClampNeg dp.toNatClampNeg n.toNatClampNeg))))[q]? = H[q]? := fun q hq => by simp [Array.getElem?_setIfInBounds, Ne.symm hq]
  obtain ⟨t, a1, b1⟩ := kk p e s m args below meth c _ _ la X hE (hP.put (e := .inl (0, n1, .inl (va_cpy f g sp.toNatClampNeg dp.toNatClampNeg n.toNatClampNeg))) (show (H.setIfInBounds (G.2.2.1 + k1) _)[G.2.2.1 + k1]? = some _ by simp [Array.getElem?_setIfInBounds, hl]) (by simp) oq) ⟨by simp; exact hS.1, fun q g1 g2 => by
      rw [oq q (fun e => g2 (by rw [e]; exact Nat.le_add_right _ _))]
      exact hS.2.1 q g1 g2, fun q hq => by
      rcases List.mem_append.mp hq with h | h
      · exact hS.2.2 q h
      · obtain ⟨z, -, hz⟩ := List.mem_map.mp h
        rw [← hz]
        exact Nat.le_add_right _ _⟩ hL _ hheap X'
  exact ⟨t, step t a1, b1⟩
theorem J_mmin {idx : Nat} {x y z : Int32} (hdg : decode M.2.1 pc = .ok (.invokestatic idx, 3)) (hlink : Cond.methodLink M.1 idx Lib.Math.min.name ∈ jtb) (hstat : Cond.static Lib.Math.min.name ∈ jtb) (hini : Cond.initialized "java/lang/Math" ∈ jtb) (hcode : Cond.code Lib.Math.min.name Lib.Math.min.code 2 (some .int) ∈ jtb) (hfr : 1 ≤ R.frames) (hlo : (st.map fun v => v.category).sum + 13 ≤ R.locals) (hc : ck ≤ R.cells) (hs : sk ≤ R.slots) (hz : (if y < x then y else x) = z) (kk : J l G M R E Q (nh, fh) ck sk (pc + 3) ls (.int z :: st)) : J l G M R E Q (nh, fh) ck sk pc ls (.int y :: .int x :: st) := by
  intro p e s m args below meth c H locs la X hE hP hS hL
  subst hz
  have hts := X.2.2.2.2.2.1
  exact va_mmin X.1 X.2.1 (by rw [X.2.2.2.1]; exact hL.1.symm) X.2.2.2.2.1 (hts _ hlink) (hts _ hstat) (hts _ hini) (hts _ hcode) hfr (by rw [j_cats]; exact hlo) hc hs hdg (kk p e s m args below meth c H locs la X hE hP hS hL)
/-- new int[N][0] behind h -/
def j_grid (h : jH) (N K : Nat) : Nat → (Nat → Option va_E)
  | 0 => hu h.2 h.1 (.inl (5, N, .inr (.inr (.inr (.inr (fun i => if i < N then some (h.1 + 1 + i) else none))))))
  | i + 1 => hu (j_grid h N K i) (h.1 + 1 + i) (.inl (0, K, .inl (fun _ => 0)))
theorem j_grid_of {h : jH} {N K : Nat} : ∀ (i k : Nat) (e : va_E), j_grid h N K i k = some e → (k = h.1 ∧ e = .inl (5, N, .inr (.inr (.inr (.inr (fun i => if i < N then some (h.1 + 1 + i) else none)))))) ∨ (∃ j, j < i ∧ k = h.1 + 1 + j ∧ e = .inl (0, K, .inl (fun _ => 0))) ∨ (k ≠ h.1 ∧ h.2 k = some e)
  | 0, k, e, hk => by
    unfold j_grid at hk
    by_cases q : k = h.1
    · subst q
      rw [hu_same] at hk
      cases hk
      exact Or.inl ⟨rfl, rfl⟩
    · rw [hu_ne q] at hk
      exact Or.inr (Or.inr ⟨q, hk⟩)
  | i + 1, k, e, hk => by
    unfold j_grid at hk
    by_cases q : k = h.1 + 1 + i
    · subst q
      rw [hu_same] at hk
      cases hk
      exact Or.inr (Or.inl ⟨i, by omega, rfl, rfl⟩)
    · rw [hu_ne q] at hk
      rcases j_grid_of i k e hk with a | ⟨j, a, b, c⟩ | a
      · exact Or.inl a
      · exact Or.inr (Or.inl ⟨j, by omega, b, c⟩)
      · exact Or.inr (Or.inr a)
theorem J_mna {idx N K : Nat} {n k : Int32} (hdg : decode M.2.1 pc = .ok (.multianewarray idx 2, 4)) (hcl : Cond.classLink M.1 idx ("[" ++ (FieldType.array .int).toString) ∈ jtb) (harr : Cond.arrayClass .int ∈ jtb) (hn : ¬ n < 0) (hk : ¬ k < 0) (hN : n.toNatClampNeg = N) (hM : k.toNatClampNeg = K) (hb1 : N * 4 ≤ 536870912) (hb2 : K * 4 ≤ 536870912) (hc : ck + (1 + N) ≤ R.cells) (hs : sk + (N + N * K) ≤ R.slots)
    (kk : J l G M R E Q (nh + 1 + N, j_grid (nh, fh) N K N) (ck + 1 + N) (sk + N + N * K) (pc + 4) ls (.ref nh :: st)) : J l G M R E Q (nh, fh) ck sk pc ls (.int k :: .int n :: st) := by
  intro p e s m args below meth c H locs la X hE hP hS hL T hT XS
  subst hN
  subst hM
  have hts := X.2.2.2.2.2.1
  have hK := X.2.2.2.2.2.2.1
  obtain ⟨vm₁, cA, comp, -, fA, fC, hO, -, X', step⟩ := XS.multianewarray2F X.1 X.2.2.2.2.1 (hts _ hcl) X.2.2.2.2.2.2.2.2.2.2.2.2.1 (hts _ harr) (g := F0 m pc la ((.int k :: .int n :: st).map (pv G))) rfl (by rw [X.2.1]; exact hdg) rfl hn hk hb1 hb2 (by omega) rfl rfl hc hs
  have q5 : s.vm.findClass ("[" ++ (FieldType.array .int).toString) = some (G.2.1 5) := (hK.2 5 _ (jTys_at (G := G) (t := 5) rfl)).2
  have q0 : s.vm.findClass ("[" ++ FieldType.int.toString) = some (G.2.1 0) := (hK.2 0 _ (jTys_at (G := G) (t := 0) rfl)).2
  have e5 : cA = G.2.1 5 := Option.some.inj (fA.symm.trans q5)
  have e0 : comp = G.2.1 0 := Option.some.inj (fC.symm.trans q0)
  subst e5
  subst e0
  have hz : H.size = G.2.2.1 + nh := hP.1
  have hTh : (T.setVm vm₁).heap = H := hT
  have hTz : T.heap.size = G.2.2.1 + nh := by rw [hT]; exact hz
  generalize hF : Jvm.Free.Multi.fill (T.setVm vm₁) (G.2.1 5) (G.2.1 0) n.toNatClampNeg k.toNatClampNeg (defaultValue .int) n.toNatClampNeg = F at X' step
  obtain ⟨f1, f2, -, -⟩ := Jvm.Free.Multi.fill_facts (T.setVm vm₁) (G.2.1 5) (G.2.1 0) n.toNatClampNeg k.toNatClampNeg (defaultValue .int) n.toNatClampNeg
  rw [hF, hTh, hz] at f1 f2
  have hold : ∀ x : Nat, x < H.size → F.heap[x]? = H[x]? := fun x hx => by
    have := Jvm.Free.Multi.fill_old (T.setVm vm₁) (G.2.1 5) (G.2.1 0) n.toNatClampNeg k.toNatClampNeg (defaultValue .int) (a := x) (by rw [hTh]; exact hx) n.toNatClampNeg
    rw [hF, hTh] at this
    exact this
  have hrow : ∀ j : Nat, j < n.toNatClampNeg → F.heap[H.size + 1 + j]? = some (arrV (G.2.1 0) k.toNatClampNeg (fun _ => .int 0)) := fun j hj => by
    have := Jvm.Free.Multi.fill_inner (T.setVm vm₁) (G.2.1 5) (G.2.1 0) n.toNatClampNeg k.toNatClampNeg (defaultValue .int) n.toNatClampNeg j hj
    rw [hF, hTh] at this
    rw [this, ← arrV_new]
    rfl
  rw [vr_outer] at f2
  have hP1 : HP G (nh + 1 + n.toNatClampNeg, j_grid (nh, fh) n.toNatClampNeg k.toNatClampNeg n.toNatClampNeg) F.heap := by
    refine ⟨by rw [f1]; show _ = G.2.2.1 + (nh + 1 + n.toNatClampNeg); omega, fun q e' hq => ?_⟩
    rcases j_grid_of _ _ _ hq with ⟨a1, a2⟩ | ⟨j, a1, a2, a3⟩ | ⟨a1, a2⟩
    · rw [a1, a2]
      show F.heap[G.2.2.1 + nh]? = some (arrV (G.2.1 5) n.toNatClampNeg (fun j => va_rf ((if j < n.toNatClampNeg then some (nh + 1 + j) else none).map (fun k => G.2.2.1 + k))))
      rw [f2]
      congr 2
      funext j
      by_cases hj : j < n.toNatClampNeg
      · rw [if_pos hj, if_pos hj]
        show va_rf (some _) = va_rf (some _)
        refine congrArg (fun z => va_rf (some z)) ?_
        show G.2.2.1 + nh + 1 + j = G.2.2.1 + (nh + 1 + j)
        omega
      · rw [if_neg hj, if_neg hj]
        rfl
    · rw [a2, a3]
      show F.heap[G.2.2.1 + (nh + 1 + j)]? = some (arrV (G.2.1 0) k.toNatClampNeg (fun _ => .int 0))
      rw [show G.2.2.1 + (nh + 1 + j) = H.size + 1 + j by rw [hz]; omega]
      exact hrow j a1
    · have h1 := hP.2 q e' a2
      exact h1.kept (hold _ h1.lt)
  obtain ⟨t, a1, b1⟩ := kk p e s m args below meth c F.heap locs la X hE hP1 ⟨by rw [f1]; have := hS.1; omega, fun x h1 h2 => (hold x (Nat.lt_of_lt_of_le h1 hS.1)).trans (hS.2.1 x h1 h2), hS.2.2⟩ hL F rfl X'
  refine ⟨t, step t ?_, b1⟩
  rw [hTz]
  exact a1
end JO
