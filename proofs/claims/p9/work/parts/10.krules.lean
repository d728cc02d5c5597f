/-! Writers over chains: the picture stays a chain 'hc fh L' with L a written list -/
def mk {α : Type} : List Bool → List α → List α
  | true :: m, a :: l => a :: mk m l
  | false :: m, _ :: l => mk m l
  | _, _ => []
/-- what is left out was seen before -/
def mkOk : List Nat → List Bool → List Nat → Bool
  | _, [], [] => true
  | seen, true :: m, k :: ks => mkOk (k :: seen) m ks
  | seen, false :: m, k :: ks => seen.any (fun j => Nat.beq j k) && mkOk seen m ks
  | _, _, _ => false
theorem mk_hc {f : Nat → Option va_E} : ∀ (L : List (Nat × va_E)) (m : List Bool) (seen : List Nat) (k : Nat), mkOk seen m (L.map (fun p => p.1)) = true → k ∉ seen → hc f (mk m L) k = hc f L k
  | [], m, seen, k, h, hk => by
    cases m with
    | nil => rfl
    | cons b m => cases b <;> simp [mkOk] at h
  | p :: L, m, seen, k, h, hk => by
    cases m with
    | nil => simp [mkOk] at h
    | cons b m =>
      cases b with
      | true =>
        have h : mkOk (p.1 :: seen) m (L.map (fun p => p.1)) = true := h
        show hu (hc f (mk m L)) p.1 p.2 k = hu (hc f L) p.1 p.2 k
        by_cases e : k = p.1
        · rw [e, hu_same, hu_same]
        · rw [hu_ne e, hu_ne e]
          exact mk_hc L m (p.1 :: seen) k h (fun q => by rcases List.mem_cons.mp q with q | q; exact e q; exact hk q)
      | false =>
        have h : (seen.any (fun j => Nat.beq j p.1) && mkOk seen m (L.map (fun p => p.1))) = true := h
        rw [Bool.and_eq_true] at h
        obtain ⟨j, hj, he⟩ := List.any_eq_true.mp h.1
        have he : j = p.1 := Nat.eq_of_beq_eq_true he
        show hc f (mk m L) k = hu (hc f L) p.1 p.2 k
        rw [hu_ne (fun q => hk (by rw [q, ← he]; exact hj))]
        exact mk_hc L m seen k h.2 hk
theorem hc_app (f : Nat → Option va_E) (L2 L1 : List (Nat × va_E)) : hc (hc f L1) L2 = hc f (L2 ++ L1) := by
  unfold hc
  rw [List.foldr_append]
section KR
variable {l : Launch} {G : jG} {M : jM} {R : Room} {E : State → Array Value → Prop} {Q : List Frame → Array Value → State → State → Prop} {nh : Nat} {fh : Nat → Option va_E} {L : List (Nat × va_E)} {ck sk pc : Nat} {ls : List (Option Value)} {st : List Value}
theorem J_hc0 (k : J l G M R E Q (nh, hc fh []) ck sk pc ls st) : J l G M R E Q (nh, fh) ck sk pc ls st := k
theorem J_mask {L2 : List (Nat × va_E)} {ks : List Nat} (m : List Bool) (hks : L.map (fun p => p.1) = ks) (hok : mkOk [] m ks = true) (h2 : mk m L = L2) (k : J l G M R E Q (nh, hc fh L2) ck sk pc ls st) : J l G M R E Q (nh, hc fh L) ck sk pc ls st := by
  have e : hc fh L = hc fh L2 := by
    rw [← h2]
    funext j
    exact (mk_hc L m [] j (by rw [hks]; exact hok) List.not_mem_nil).symm
  rw [e]
  exact k
theorem J_app {L2 L3 : List (Nat × va_E)} (h : L2 ++ L = L3) (k : J l G M R E Q (nh, hc fh L3) ck sk pc ls st) : J l G M R E Q (nh, hc (hc fh L) L2) ck sk pc ls st := by
  rw [hc_app, h]
  exact k
theorem J_li {L2 : List (Nat × va_E)} (h : L = L2) (k : J l G M R E Q (nh, hc fh L2) ck sk pc ls st) : J l G M R E Q (nh, hc fh L) ck sk pc ls st := h ▸ k
theorem K_put {idx ci j k : Nat} {fs fs2 : List Value} {v : Value} {ty : FieldType} (hdg : decode M.2.1 pc = .ok (.putfield idx, 3)) (F : jFW M.1 idx ci j ty false) (hf : hc fh L k = some (.inr (ci, fs))) (hl : j < fs.length) (hv : ∀ G : jG, narrow ty (pv G v) = pv G v ∧ fits ty (pv G v) = true) (hfs : fs.set j v = fs2) (kk : J l G M R E Q (nh, hc fh ((k, .inr (ci, fs2)) :: L)) ck sk (pc + 3) ls st) : J l G M R E Q (nh, hc fh L) ck sk pc ls (v :: .ref k :: st) := J_put hdg F hf hl hv hfs kk
theorem K_putF {idx ci j k : Nat} {fs fs2 : List Value} {v : Value} {ty : FieldType} (hdg : decode M.2.1 pc = .ok (.putfield idx, 3)) (hini : M.2.2.2.2 = true) (F : jFW M.1 idx ci j ty true) (hf : hc fh L k = some (.inr (ci, fs))) (hl : j < fs.length) (hv : ∀ G : jG, narrow ty (pv G v) = pv G v ∧ fits ty (pv G v) = true) (hfs : fs.set j v = fs2) (kk : J l G M R E Q (nh, hc fh ((k, .inr (ci, fs2)) :: L)) ck sk (pc + 3) ls st) : J l G M R E Q (nh, hc fh L) ck sk pc ls (v :: .ref k :: st) := J_putF hdg hini F hf hl hv hfs kk
theorem K_iast {k t n i2 : Nat} {f : Nat → Int32} {i x : Int32} (hdg : decode M.2.1 pc = .ok (.iastore, 1)) (hf : hc fh L k = some (.inl (t, n, .inl f))) (ht : jT[t]? = some .int) (hin : vp_in i n) (hi2 : i.toNatClampNeg = i2) (kk : J l G M R E Q (nh, hc fh ((k, .inl (t, n, .inl (upd f i2 x))) :: L)) ck sk (pc + 1) ls st) : J l G M R E Q (nh, hc fh L) ck sk pc ls (.int x :: .int i :: .ref k :: st) := J_iast hdg hf ht hin hi2 kk
theorem K_bast {k t n i2 : Nat} {f : Nat → Int32} {i x y : Int32} (hdg : decode M.2.1 pc = .ok (.bastore, 1)) (hf : hc fh L k = some (.inl (t, n, .inl f))) (ht : jT[t]? = some .byte) (hin : vp_in i n) (hi2 : i.toNatClampNeg = i2) (hy : vp_nar .byte x = y) (kk : J l G M R E Q (nh, hc fh ((k, .inl (t, n, .inl (upd f i2 y))) :: L)) ck sk (pc + 1) ls st) : J l G M R E Q (nh, hc fh L) ck sk pc ls (.int x :: .int i :: .ref k :: st) := J_bast hdg hf ht hin hi2 hy kk
theorem K_zast {k t n i2 : Nat} {f : Nat → Int32} {i x y : Int32} (hdg : decode M.2.1 pc = .ok (.bastore, 1)) (hf : hc fh L k = some (.inl (t, n, .inl f))) (ht : jT[t]? = some .boolean) (hin : vp_in i n) (hi2 : i.toNatClampNeg = i2) (hy : vp_nar .boolean x = y) (kk : J l G M R E Q (nh, hc fh ((k, .inl (t, n, .inl (upd f i2 y))) :: L)) ck sk (pc + 1) ls st) : J l G M R E Q (nh, hc fh L) ck sk pc ls (.int x :: .int i :: .ref k :: st) := J_zast hdg hf ht hin hi2 hy kk
theorem K_last {k t n i2 : Nat} {f : Nat → Int64} {i : Int32} {x : Int64} (hdg : decode M.2.1 pc = .ok (.lastore, 1)) (hf : hc fh L k = some (.inl (t, n, .inr (.inl f)))) (ht : jT[t]? = some .long) (hin : vp_in i n) (hi2 : i.toNatClampNeg = i2) (kk : J l G M R E Q (nh, hc fh ((k, .inl (t, n, .inr (.inl (vp_updL f i2 x)))) :: L)) ck sk (pc + 1) ls st) : J l G M R E Q (nh, hc fh L) ck sk pc ls (.long x :: .int i :: .ref k :: st) := J_last hdg hf ht hin hi2 kk
theorem K_newa {atype : ArrayType} {t N nh2 ck2 sk2 : Nat} {n : Int32} {ty : FieldType} {a0 : vp_A} (hdg : decode M.2.1 pc = .ok (.newarray atype, 2)) (hty : newarray.typeOf atype = ty) (harr : Cond.arrayClass ty ∈ jtb) (ht : jT[t]? = some ty) (hra : ∀ (U : State) (cA : ClassId), va_RA U cA ty → U.vm.findClass ("[" ++ ty.toString) = some cA) (hpe : ∀ G : jG, pe G (.inl (t, a0)) = .inl (G.2.1 t, a0)) (ha : ∀ cA : ClassId, vp_cell cA a0 = arrV cA N (fun _ => defaultValue ty)) (hn : ¬ n < 0) (hN : n.toNatClampNeg = N) (hbytes : N * componentBytes ty ≤ 536870912) (hc' : ck + 1 ≤ R.cells) (hs : sk + N ≤ R.slots) (h1 : nh + 1 = nh2) (h2 : ck + 1 = ck2) (h3 : sk + N = sk2)
    (kk : J l G M R E Q (nh2, hc fh ((nh, .inl (t, a0)) :: L)) ck2 sk2 (pc + 2) ls (.ref nh :: st)) : J l G M R E Q (nh, hc fh L) ck sk pc ls (.int n :: st) := by
  subst h1 h2 h3
  exact J_newa hdg hty harr ht hra hpe ha hn hN hbytes hc' hs kk
theorem K_new {idx ci N nh2 ck2 sk2 : Nat} {fs : List Value} (hdg : decode M.2.1 pc = .ok (.new idx, 3)) (F : jNW M.1 idx ci N fs) (hfs : ∀ G : jG, fs.map (pv G) = fs) (hc' : ck + 1 ≤ R.cells) (hs : sk + N ≤ R.slots) (h1 : nh + 1 = nh2) (h2 : ck + 1 = ck2) (h3 : sk + N = sk2) (kk : J l G M R E Q (nh2, hc fh ((nh, .inr (ci, fs)) :: L)) ck2 sk2 (pc + 3) ls (.ref nh :: st)) : J l G M R E Q (nh, hc fh L) ck sk pc ls st := by
  subst h1 h2 h3
  exact J_new hdg F hfs hc' hs kk
theorem K_anew {idx t N nh2 ck2 sk2 : Nat} {n : Int32} (hdg : decode M.2.1 pc = .ok (.anewarray idx, 3)) (hcl : Cond.classLink M.1 idx "BeanStreet$State" ∈ jtb) (ht : jT[t]? = some (.object "BeanStreet$State")) (hn : ¬ n < 0) (hN : n.toNatClampNeg = N) (hbytes : N * 4 ≤ 536870912) (hc' : ck + 1 ≤ R.cells) (hs : sk + N ≤ R.slots) (h1 : nh + 1 = nh2) (h2 : ck + 1 = ck2) (h3 : sk + N = sk2) (kk : J l G M R E Q (nh2, hc fh ((nh, .inl (t, N, .inr (.inr (.inr (.inr (fun _ => none)))))) :: L)) ck2 sk2 (pc + 3) ls (.ref nh :: st)) : J l G M R E Q (nh, hc fh L) ck sk pc ls (.int n :: st) := by
  subst h1 h2 h3
  exact J_anew hdg hcl ht hn hN hbytes hc' hs kk
theorem K_aastO {k t n r ci i2 : Nat} {f : Nat → Option Nat} {i : Int32} {fs : List Value} {C : String} {T : u_T} {N : Nat} (hdg : decode M.2.1 pc = .ok (.aastore, 1)) (hf : hc fh L k = some (.inl (t, n, .inr (.inr (.inr (.inr f)))))) (ht : jT[t]? = some (.object C)) (hr : hc fh L r = some (.inr (ci, fs))) (hc' : vwCl[ci]? = some (C, T, N)) (hin : vp_in i n) (hi2 : i.toNatClampNeg = i2) (kk : J l G M R E Q (nh, hc fh ((k, .inl (t, n, .inr (.inr (.inr (.inr (va_up f i2 (some r))))))) :: L)) ck sk (pc + 1) ls st) : J l G M R E Q (nh, hc fh L) ck sk pc ls (.ref r :: .int i :: .ref k :: st) := by
  subst hi2
  exact J_aastO hdg hf ht hr hc' hin kk
theorem K_aastA {k n r n0 i2 : Nat} {f : Nat → Option Nat} {g : Nat → Int32} {i : Int32} (hdg : decode M.2.1 pc = .ok (.aastore, 1)) (hf : hc fh L k = some (.inl (5, n, .inr (.inr (.inr (.inr f)))))) (hr : hc fh L r = some (.inl (0, n0, .inl g))) (hin : vp_in i n) (hi2 : i.toNatClampNeg = i2) (kk : J l G M R E Q (nh, hc fh ((k, .inl (5, n, .inr (.inr (.inr (.inr (va_up f i2 (some r))))))) :: L)) ck sk (pc + 1) ls st) : J l G M R E Q (nh, hc fh L) ck sk pc ls (.ref r :: .int i :: .ref k :: st) := by
  subst hi2
  exact J_aastA hdg hf hr hin kk
theorem K_copy {idx k0 k1 n0 n1 sp' dp' n' : Nat} {f g : Nat → Int32} {sp dp n : Int32} (hdg : decode M.2.1 pc = .ok (.invokestatic idx, 3)) (hlink : Cond.methodLink M.1 idx arraycopyName ∈ jtb) (hnat : Cond.native arraycopyName ∈ jtb) (hstat : Cond.static arraycopyName ∈ jtb) (hini : Cond.initialized "java/lang/System" ∈ jtb) (hf0 : hc fh L k0 = some (.inl (0, n0, .inl f))) (hf1 : hc fh L k1 = some (.inl (0, n1, .inl g))) (h1 : ¬ sp < 0) (h2 : ¬ dp < 0) (h3 : ¬ n < 0) (e1 : sp.toNatClampNeg = sp') (e2 : dp.toNatClampNeg = dp') (e3 : n.toNatClampNeg = n') (h4 : sp' + n' ≤ n0) (h5 : dp' + n' ≤ n1) (hfr : 1 ≤ R.frames) (hlo : (st.map fun v => v.category).sum + (nativeFrameWords "java/lang/System" "arraycopy" 5 + 11) ≤ R.locals)
    (kk : J l G M R E Q (nh, hc fh ((k1, .inl (0, n1, .inl (va_cpy f g sp' dp' n'))) :: L)) ck sk (pc + 3) ls st) : J l G M R E Q (nh, hc fh L) ck sk pc ls (.int n :: .int dp :: .ref k1 :: .int sp :: .ref k0 :: st) := J_copy hdg hlink hnat hstat hini hf0 hf1 h1 h2 h3 e1 e2 e3 h4 h5 hfr hlo kk
theorem K_mna {idx N K nh2 ck2 sk2 : Nat} {n k : Int32} {L2 : List (Nat × va_E)} (hdg : decode M.2.1 pc = .ok (.multianewarray idx 2, 4)) (hcl : Cond.classLink M.1 idx ("[" ++ (FieldType.array .int).toString) ∈ jtb) (harr : Cond.arrayClass .int ∈ jtb) (hn : ¬ n < 0) (hk : ¬ k < 0) (hN : n.toNatClampNeg = N) (hM : k.toNatClampNeg = K) (hb1 : N * 4 ≤ 536870912) (hb2 : K * 4 ≤ 536870912) (hc' : ck + (1 + N) ≤ R.cells) (hs : sk + (N + N * K) ≤ R.slots) (h1 : nh + 1 + N = nh2) (h2 : ck + 1 + N = ck2) (h3 : sk + N + N * K = sk2) (hL2 : j_grid (nh, hc fh L) N K N = hc fh L2)
    (kk : J l G M R E Q (nh2, hc fh L2) ck2 sk2 (pc + 4) ls (.ref nh :: st)) : J l G M R E Q (nh, hc fh L) ck sk pc ls (.int k :: .int n :: st) := by
  subst h1 h2 h3
  refine J_mna hdg hcl harr hn hk hN hM hb1 hb2 hc' hs ?_
  rw [hL2]
  exact kk
end KR
theorem jb0 : ∀ G : jG, narrow .boolean (pv G (.int 0)) = pv G (.int 0) ∧ fits .boolean (pv G (.int 0)) = true := fun G => by
  show narrow .boolean (.int 0) = .int 0 ∧ fits .boolean (.int 0) = true
  decide +kernel
theorem jb1 : ∀ G : jG, narrow .boolean (pv G (.int 1)) = pv G (.int 1) ∧ fits .boolean (pv G (.int 1)) = true := fun G => by
  show narrow .boolean (.int 1) = .int 1 ∧ fits .boolean (.int 1) = true
  decide +kernel
section KW
variable {l : Launch} {G : jG} {M : jM} {R : Room} {E : State → Array Value → Prop} {Q : List Frame → Array Value → State → State → Prop} {h : jH} {ck sk pc : Nat} {ls : List (Option Value)} {st : List Value}
theorem J_ldcw {index : Nat} {v : Int32} (hdg : decode M.2.1 pc = .ok (.ldc_w index, 3)) (hc : Jvm.Cond.constant M.1 index v ∈ jtb) (k : J l G M R E Q h ck sk (pc + 3) ls (.int v :: st)) : J l G M R E Q h ck sk pc ls st := by
  intro p e s m args below meth c H locs la X hE hP hS hL
  exact lv_ldcw X.1 X.2.1 X.2.2.2.2.1 (X.2.2.2.2.2.1 _ hc) hdg (k p e s m args below meth c H locs la X hE hP hS hL)
end KW
