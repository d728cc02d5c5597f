/-! THE LOGIC J, the heap: fields, arrays, new cells -/
theorem HP.one {G : jG} {h : jH} {H : Heap} {k : Nat} {e : va_E} (hP : HP G h H) (hk : h.2 k = some e) : va_P G.1 vwCl [(G.2.2.1 + k, pe G e)] H := by
  intro i q hq
  cases i with
  | zero => cases hq; exact hP.2 k e hk
  | succ i => simp at hq
theorem HP.put {G : jG} {h : jH} {H H1 : Heap} {k : Nat} {e : va_E} (hP : HP G h H) (he : va_at G.1 vwCl (G.2.2.1 + k, pe G e) H1) (z : H1.size = H.size) (oq : ∀ q : Nat, q ≠ G.2.2.1 + k → H1[q]? = H[q]?) : HP G (h.1, hu h.2 k e) H1 := by
  refine ⟨z.trans hP.1, fun j e' hj => ?_⟩
  by_cases hjk : j = k
  · subst hjk
    have hj : hu h.2 j e j = some e' := hj
    rw [hu_same] at hj
    cases hj
    exact he
  · have hj : hu h.2 k e j = some e' := hj
    rw [hu_ne hjk] at hj
    exact (hP.2 j e' hj).kept (oq _ (by show G.2.2.1 + j ≠ G.2.2.1 + k; omega))
theorem HP.push {G : jG} {h : jH} {H H1 : Heap} {e : va_E} (hP : HP G h H) (he : va_at G.1 vwCl (G.2.2.1 + h.1, pe G e) H1) (z : H1.size = G.2.2.1 + h.1 + 1) (oq : ∀ q : Nat, q < G.2.2.1 + h.1 → H1[q]? = H[q]?) : HP G (h.1 + 1, hu h.2 h.1 e) H1 := by
  refine ⟨by rw [z]; omega, fun j e' hj => ?_⟩
  by_cases hjk : j = h.1
  · subst hjk
    have hj : hu h.2 h.1 e h.1 = some e' := hj
    rw [hu_same] at hj
    cases hj
    exact he
  · have hj : hu h.2 h.1 e j = some e' := hj
    rw [hu_ne hjk] at hj
    have h1 := hP.2 j e' hj
    have h2 : G.2.2.1 + j < H.size := h1.lt
    exact h1.kept (oq _ (by rw [← hP.1]; exact h2))
theorem jTys_at {G : jG} {t : Nat} {ty : FieldType} (h : jT[t]? = some ty) : (jTys G)[t]? = some (G.2.1 t, ty) := by
  have hl : t < jT.length := (List.getElem?_eq_some_iff.mp h).1
  unfold jTys
  rw [List.getElem?_map, List.getElem?_range hl]
  simp [List.getD_eq_getElem?_getD, h]
/-- a field link, by class number and place -/
def jFL (own : String) (idx ci j : Nat) : Prop := ∃ (C : String) (T : u_T) (N : Nat), vwCl[ci]? = some (C, T, N) ∧ (∀ w ∈ u_ws C T N, w ∈ jtb) ∧ j < N ∧ (Cond.fieldLink own idx (T j).1 (T j).2.1 (T j).2.2.1 ∈ jtb ∨ ∃ host, Cond.fieldLinkNest own idx (T j).1 (T j).2.1 (T j).2.2.1 host ∈ jNest)
/-- of a field that is written: its type, whether it is final -/
def jFW (own : String) (idx ci j : Nat) (ty : FieldType) (fin : Bool) : Prop := ∃ (C : String) (T : u_T) (N : Nat) (ty0 : Nat → FieldType), vwCl[ci]? = some (C, T, N) ∧ (∀ w ∈ u_ws C T N, w ∈ jtb) ∧ (∀ k, k < N → parseFieldDescriptor (T k).2.2.1 = some (ty0 k)) ∧ (∀ a, a < N → ∀ b, b < N → a ≠ b → (T a).2.1 ≠ (T b).2.1) ∧ j < N ∧ ty0 j = ty ∧ (T j).2.2.2 = fin ∧ (fin = true → (T j).1 = own ∧ Cond.fieldLink own idx (T j).1 (T j).2.1 (T j).2.2.1 ∈ jtb) ∧ (Cond.fieldLink own idx (T j).1 (T j).2.1 (T j).2.2.1 ∈ jtb ∨ ∃ host, Cond.fieldLinkNest own idx (T j).1 (T j).2.1 (T j).2.2.1 host ∈ jNest)
/-- a class that is made -/
def jNW (own : String) (idx ci : Nat) (N : Nat) (fs : List Value) : Prop := ∃ (C : String) (T : u_T) (ty0 : Nat → FieldType), vwCl[ci]? = some (C, T, N) ∧ (∀ w ∈ u_ws C T N, w ∈ jtb) ∧ (∀ k, k < N → parseFieldDescriptor (T k).2.2.1 = some (ty0 k)) ∧ Cond.classLink own idx C ∈ jtb ∧ Cond.instantiable C N ∈ jtb ∧ Cond.initialized C ∈ jtb ∧ (∀ j, j < N → defaultValue (ty0 j) = vp_V fs j)
section JH
variable {l : Launch} {G : jG} {M : jM} {R : Room} {E : State → Array Value → Prop} {Q : List Frame → Array Value → State → State → Prop} {nh : Nat} {fh : Nat → Option va_E} {ck sk pc : Nat} {ls : List (Option Value)} {st : List Value}
theorem J_get {idx ci j k : Nat} {fs : List Value} {v : Value} (hdg : decode M.2.1 pc = .ok (.getfield idx, 3)) (F : jFL M.1 idx ci j) (hf : fh k = some (.inr (ci, fs))) (hv : fs[j]? = some v) (kk : J l G M R E Q (nh, fh) ck sk (pc + 3) ls (v :: st)) : J l G M R E Q (nh, fh) ck sk pc ls (.ref k :: st) := by
  intro p e s m args below meth c H locs la X hE hP hS hL
  obtain ⟨C, T, N, hc, hin, hj, hl⟩ := F
  have hv' : (fs.map (pv G))[j]? = some (pv G v) := by rw [List.getElem?_map, hv]; rfl
  have hts := X.2.2.2.2.2.1
  rcases hl with hl | ⟨host, hl⟩
  · exact va_get (Ts := jtb) X.1 X.2.1 hts hin X.2.2.2.2.1 X.2.2.2.2.2.2.1 (hP.one hf) 0 rfl hc j hj (hts _ hl) (fun _ h9 => h9) hv' hdg (kk p e s m args below meth c H locs la X hE hP hS hL)
  · exact va_getN (Ts := jtb) X.1 X.2.1 hts hin X.2.2.2.2.1 X.2.2.2.2.2.2.1 (hP.one hf) 0 rfl hc j hj (va_Nw.use rfl (X.2.2.2.2.2.2.2.2.2.2.1 _ hl)) (fun _ h9 => h9) hv' hdg (kk p e s m args below meth c H locs la X hE hP hS hL)
theorem J_put {idx ci j k : Nat} {fs fs2 : List Value} {v : Value} {ty : FieldType} (hdg : decode M.2.1 pc = .ok (.putfield idx, 3)) (F : jFW M.1 idx ci j ty false) (hf : fh k = some (.inr (ci, fs))) (hl : j < fs.length) (hv : ∀ G : jG, narrow ty (pv G v) = pv G v ∧ fits ty (pv G v) = true) (hfs : fs.set j v = fs2) (kk : J l G M R E Q (nh, hu fh k (.inr (ci, fs2))) ck sk (pc + 3) ls st) : J l G M R E Q (nh, fh) ck sk pc ls (v :: .ref k :: st) := by
  intro p e s m args below meth c H locs la X hE hP hS hL
  subst hfs
  obtain ⟨C, T, N, ty0, hc, hin, hty, hnm, hj, htj, hfin, -, hlk⟩ := F
  have hts := X.2.2.2.2.2.1
  have hK := X.2.2.2.2.2.2.1
  have hap := va_apart (own := M.1) hts hin ty0 hty hnm hK hc
  obtain ⟨r, h1, cell, q1, q2, q3, q4⟩ := hP.2 k _ hf
  have hr : r = (C, T, N) := Option.some.inj (h1.symm.trans hc)
  subst hr
  obtain ⟨hSl, hfc, kC, hkC, hkind⟩ := hK.1 ci _ hc
  obtain ⟨cf, kf, fi, f, hi, hsl⟩ := hSl j hj
  have hlay := hts _ (hin _ (u_in_lay hj))
  unfold u_lay at hlay
  rw [if_neg (by rw [hfin]; decide)] at hlay
  have hst := (u_facts hfc hkC (u_lays hts hin hj) hi).1
  have hd : parseFieldDescriptor (T j).2.2.1 = some ty := by rw [hty j hj, htj]
  have h6 := u_store hfc hkC hkind hlay hi hd (hv G).1 (hv G).2
  have hlen : j < (fs.map (pv G)).length := by rw [List.length_map]; exact hl
  have fin : ∀ (H' : Heap), H'[G.2.2.1 + k]? = some (cell.setSlot f.slot (pv G v)) → H'.size = H.size → (∀ q, q ≠ G.2.2.1 + k → H'[q]? = H[q]?) → W p l e R s m args below meth c H' (locs ++ [⟨G.2.2.1 + k, f.slot⟩]) ck sk (Q below args s) (F0 m (pc + 3) la (st.map (pv G))) := by
    intro H' e1 e2 e3
    rw [hsl] at e1
    refine kk p e s m args below meth c H' _ la X hE (hP.put ?_ e2 e3) (hS.put e2 e3 (Nat.le_add_right _ _)) hL
    refine ⟨_, hc, ?_⟩
    show t_OB (G.2.2.1 + k) (G.1.1 ci) N (G.1.2 ci) H' (vp_V ((fs.set j v).map (pv G)))
    rw [List.map_set]
    exact t_OB.to (V := updV (vp_V (fs.map (pv G))) j (pv G v)) ⟨_, e1, q2, q3, t_set q4 hap hj (pv G v)⟩ (fun i _ => vp_updV_set hlen (pv G v) i)
  rcases hlk with hlk | ⟨host, hlk⟩
  · exact W.putK X.1 X.2.1 (f := f) ⟨X.2.2.2.2.1, hts _ hlk, ⟨_, _, _, hi⟩, hst⟩ (by rw [q2]; exact h6) q1 q3 (by rw [hsl]; exact k2_hasslot (q4 j hj)) rfl rfl hdg fin
  · exact va_WputK X.1 X.2.1 (f := f) X.2.2.2.2.1 (va_Nw.use rfl (X.2.2.2.2.2.2.2.2.2.2.1 _ hlk)) hi hst (by rw [q2]; exact h6) q1 q3 (by rw [hsl]; exact k2_hasslot (q4 j hj)) rfl rfl hdg fin
theorem J_putF {idx ci j k : Nat} {fs fs2 : List Value} {v : Value} {ty : FieldType} (hdg : decode M.2.1 pc = .ok (.putfield idx, 3)) (hini : M.2.2.2.2 = true) (F : jFW M.1 idx ci j ty true) (hf : fh k = some (.inr (ci, fs))) (hl : j < fs.length) (hv : ∀ G : jG, narrow ty (pv G v) = pv G v ∧ fits ty (pv G v) = true) (hfs : fs.set j v = fs2) (kk : J l G M R E Q (nh, hu fh k (.inr (ci, fs2))) ck sk (pc + 3) ls st) : J l G M R E Q (nh, fh) ck sk pc ls (v :: .ref k :: st) := by
  intro p e s m args below meth c H locs la X hE hP hS hL
  subst hfs
  obtain ⟨C, T, N, ty0, hc, hin, hty, hnm, hj, htj, hfin, hdec, -⟩ := F
  obtain ⟨hdecl, hlk⟩ := hdec rfl
  have hts := X.2.2.2.2.2.1
  have hK := X.2.2.2.2.2.2.1
  have hown := X.2.2.2.2.1
  have hap := va_apart (own := M.1) hts hin ty0 hty hnm hK hc
  obtain ⟨r, h1, cell, q1, q2, q3, q4⟩ := hP.2 k _ hf
  have hr : r = (C, T, N) := Option.some.inj (h1.symm.trans hc)
  subst hr
  obtain ⟨hSl, hfc, kC, hkC, hkind⟩ := hK.1 ci _ hc
  obtain ⟨cf, kf, fi, f, hi, hsl⟩ := hSl j hj
  have hlay := hts _ (hin _ (u_in_lay hj))
  unfold u_lay at hlay
  rw [if_pos hfin] at hlay
  have hst := (u_facts hfc hkC (u_lays hts hin hj) hi).1
  have hcf : m.cls = cf := by
    obtain ⟨_, _, c', _, _, _, -, -, hf', -, -, -, hown2, -⟩ := Cond.laysFinal_spec hlay
    have e1 : c' = cf := by have := hi.symm.trans hf'; simp at this; exact this.1.symm
    rw [hdecl] at hown2
    rw [← e1]; exact Option.some.inj (hown.symm.trans hown2)
  have hd : parseFieldDescriptor (T j).2.2.1 = some ty := by rw [hty j hj, htj]
  have h6 := u_fits hfc hkC hkind (Or.inr hlay) hi hd (hv G).1 (hv G).2
  have hlen : j < (fs.map (pv G)).length := by rw [List.length_map]; exact hl
  refine W.putFinK X.1 X.2.1 hown (hts _ hlk) hi hst hcf (X.2.2.2.2.2.2.2.2.1 hini) (by rw [q2]; exact h6) q1 q3 (by rw [hsl]; exact k2_hasslot (q4 j hj)) rfl rfl hdg fun H' e1 e2 e3 => ?_
  rw [hsl] at e1 ⊢
  refine kk p e s m args below meth c H' _ la X hE (hP.put ?_ e2 e3) (hS.put e2 e3 (Nat.le_add_right _ _)) hL
  refine ⟨_, hc, ?_⟩
  show t_OB (G.2.2.1 + k) (G.1.1 ci) N (G.1.2 ci) H' (vp_V ((fs.set j v).map (pv G)))
  rw [List.map_set]
  exact t_OB.to (V := updV (vp_V (fs.map (pv G))) j (pv G v)) ⟨_, e1, q2, q3, t_set q4 hap hj (pv G v)⟩ (fun i _ => vp_updV_set hlen (pv G v) i)
theorem J_iald {k t n i2 : Nat} {f : Nat → Int32} {i v : Int32} (hdg : decode M.2.1 pc = .ok (.iaload, 1)) (hf : fh k = some (.inl (t, n, .inl f))) (ht : jT[t]? = some .int) (hin : vp_in i n) (hi2 : i.toNatClampNeg = i2) (hv : f i2 = v) (kk : J l G M R E Q (nh, fh) ck sk (pc + 1) ls (.int v :: st)) : J l G M R E Q (nh, fh) ck sk pc ls (.int i :: .ref k :: st) := by
  intro p e s m args below meth c H locs la X hE hP hS hL
  subst hi2
  subst hv
  exact va_iald X.1 X.2.1 X.2.2.2.2.2.2.1 (hP.one hf) 0 t rfl (jTys_at ht) hin hdg (kk p e s m args below meth c H locs la X hE hP hS hL)
theorem J_bald {k t n i2 : Nat} {f : Nat → Int32} {i v : Int32} (hdg : decode M.2.1 pc = .ok (.baload, 1)) (hf : fh k = some (.inl (t, n, .inl f))) (ht : jT[t]? = some .byte) (hin : vp_in i n) (hi2 : i.toNatClampNeg = i2) (hv : f i2 = v) (kk : J l G M R E Q (nh, fh) ck sk (pc + 1) ls (.int v :: st)) : J l G M R E Q (nh, fh) ck sk pc ls (.int i :: .ref k :: st) := by
  intro p e s m args below meth c H locs la X hE hP hS hL
  subst hi2
  subst hv
  exact va_bald X.1 X.2.1 X.2.2.2.2.2.2.1 (hP.one hf) 0 t rfl (jTys_at ht) hin hdg (kk p e s m args below meth c H locs la X hE hP hS hL)
theorem J_zald {k t n i2 : Nat} {f : Nat → Int32} {i v : Int32} (hdg : decode M.2.1 pc = .ok (.baload, 1)) (hf : fh k = some (.inl (t, n, .inl f))) (ht : jT[t]? = some .boolean) (hin : vp_in i n) (hi2 : i.toNatClampNeg = i2) (hv : f i2 = v) (kk : J l G M R E Q (nh, fh) ck sk (pc + 1) ls (.int v :: st)) : J l G M R E Q (nh, fh) ck sk pc ls (.int i :: .ref k :: st) := by
  intro p e s m args below meth c H locs la X hE hP hS hL
  subst hi2
  subst hv
  exact va_zald X.1 X.2.1 X.2.2.2.2.2.2.1 (hP.one hf) 0 t rfl (jTys_at ht) hin hdg (kk p e s m args below meth c H locs la X hE hP hS hL)
theorem J_lald {k t n i2 : Nat} {f : Nat → Int64} {i : Int32} {v : Int64} (hdg : decode M.2.1 pc = .ok (.laload, 1)) (hf : fh k = some (.inl (t, n, .inr (.inl f)))) (ht : jT[t]? = some .long) (hin : vp_in i n) (hi2 : i.toNatClampNeg = i2) (hv : f i2 = v) (kk : J l G M R E Q (nh, fh) ck sk (pc + 1) ls (.long v :: st)) : J l G M R E Q (nh, fh) ck sk pc ls (.int i :: .ref k :: st) := by
  intro p e s m args below meth c H locs la X hE hP hS hL
  subst hi2
  subst hv
  exact va_lald X.1 X.2.1 X.2.2.2.2.2.2.1 (hP.one hf) 0 t rfl (jTys_at ht) hin hdg (kk p e s m args below meth c H locs la X hE hP hS hL)
theorem J_alen {k t : Nat} {x : vp_A} {ty : FieldType} {v : Int32} (hdg : decode M.2.1 pc = .ok (.arraylength, 1)) (hf : fh k = some (.inl (t, x))) (ht : jT[t]? = some ty) (hv : Int32.ofNat x.1 = v) (kk : J l G M R E Q (nh, fh) ck sk (pc + 1) ls (.int v :: st)) : J l G M R E Q (nh, fh) ck sk pc ls (.ref k :: st) := by
  intro p e s m args below meth c H locs la X hE hP hS hL
  have hk := kk p e s m args below meth c H locs la X hE hP hS hL
  obtain ⟨n, f | f | f | f | f⟩ := x
  · exact va_alen X.1 X.2.1 X.2.2.2.2.2.2.1 (hP.one hf) 0 t rfl (jTys_at ht) hv hdg hk
  · exact va_alen X.1 X.2.1 X.2.2.2.2.2.2.1 (hP.one hf) 0 t rfl (jTys_at ht) hv hdg hk
  · exact va_alen X.1 X.2.1 X.2.2.2.2.2.2.1 (hP.one hf) 0 t rfl (jTys_at ht) hv hdg hk
  · exact va_alen X.1 X.2.1 X.2.2.2.2.2.2.1 (hP.one hf) 0 t rfl (jTys_at ht) hv hdg hk
  · exact va_alen X.1 X.2.1 X.2.2.2.2.2.2.1 (hP.one hf) 0 t rfl (jTys_at ht) hv hdg hk
theorem J_aald {k t n i2 : Nat} {f : Nat → Option Nat} {i : Int32} {r : Nat} {ty : FieldType} (hdg : decode M.2.1 pc = .ok (.aaload, 1)) (hf : fh k = some (.inl (t, n, .inr (.inr (.inr (.inr f)))))) (ht : jT[t]? = some ty) (hr : ty.isReference = true) (hin : vp_in i n) (hi2 : i.toNatClampNeg = i2) (hv : f i2 = some r) (kk : J l G M R E Q (nh, fh) ck sk (pc + 1) ls (.ref r :: st)) : J l G M R E Q (nh, fh) ck sk pc ls (.int i :: .ref k :: st) := by
  intro p e s m args below meth c H locs la X hE hP hS hL
  subst hi2
  have hlt : i.toNatClampNeg < n := Nat.not_le.mp fun q => hin (Or.inr q)
  have hk := kk p e s m args below meth c H locs la X hE hP hS hL
  have hcell : H[G.2.2.1 + k]? = some (arrV (G.2.1 t) n (fun j => va_rf ((f j).map (fun k => G.2.2.1 + k)))) := hP.2 k _ hf
  exact W.aald (v := .ref (G.2.2.1 + r)) (ty := ty) X.1 X.2.1 hcell ((X.2.2.2.2.2.2.1.2 t _ (jTys_at ht)).1 n _) hr (fun q => by cases q) (by rw [arrV_size]; exact hin) (by rw [arrV_read _ _ hlt, hv]; rfl) rfl rfl hdg hk
theorem J_iast {k t n i2 : Nat} {f : Nat → Int32} {i x : Int32} (hdg : decode M.2.1 pc = .ok (.iastore, 1)) (hf : fh k = some (.inl (t, n, .inl f))) (ht : jT[t]? = some .int) (hin : vp_in i n) (hi2 : i.toNatClampNeg = i2) (kk : J l G M R E Q (nh, hu fh k (.inl (t, n, .inl (upd f i2 x)))) ck sk (pc + 1) ls st) : J l G M R E Q (nh, fh) ck sk pc ls (.int x :: .int i :: .ref k :: st) := by
  intro p e s m args below meth c H locs la X hE hP hS hL
  subst hi2
  have hcell : H[G.2.2.1 + k]? = some (arrV (G.2.1 t) n (fun j => .int (f j))) := hP.2 k _ hf
  refine W.iast X.1 X.2.1 hcell ((X.2.2.2.2.2.2.1.2 t _ (jTys_at ht)).1 n _) (fun q => by cases q) (by rw [arrV_size]; exact hin) rfl rfl hdg fun H1 e1 z oq => ?_
  refine kk p e s m args below meth c H1 _ la X hE (hP.put ?_ z oq) (hS.put z oq (Nat.le_add_right _ _)) hL
  show H1[_]? = some (arrV (G.2.1 t) n (fun j => .int (upd f i.toNatClampNeg x j)))
  rw [e1, arrV_store]
  congr 2
  funext q
  by_cases hq : q = i.toNatClampNeg
  · subst hq
    simp [updV, upd]
  · simp [updV, upd, hq]
theorem J_bast {k t n i2 : Nat} {f : Nat → Int32} {i x y : Int32} (hdg : decode M.2.1 pc = .ok (.bastore, 1)) (hf : fh k = some (.inl (t, n, .inl f))) (ht : jT[t]? = some .byte) (hin : vp_in i n) (hi2 : i.toNatClampNeg = i2) (hy : vp_nar .byte x = y) (kk : J l G M R E Q (nh, hu fh k (.inl (t, n, .inl (upd f i2 y)))) ck sk (pc + 1) ls st) : J l G M R E Q (nh, fh) ck sk pc ls (.int x :: .int i :: .ref k :: st) := by
  intro p e s m args below meth c H locs la X hE hP hS hL
  subst hi2
  subst hy
  have hcell : H[G.2.2.1 + k]? = some (arrV (G.2.1 t) n (fun j => .int (f j))) := hP.2 k _ hf
  refine W.bast X.1 X.2.1 hcell ((X.2.2.2.2.2.2.1.2 t _ (jTys_at ht)).1 n _) (fun q => by cases q) (by rw [arrV_size]; exact hin) rfl rfl hdg fun H1 e1 z oq => ?_
  refine kk p e s m args below meth c H1 _ la X hE (hP.put ?_ z oq) (hS.put z oq (Nat.le_add_right _ _)) hL
  show H1[_]? = some (arrV (G.2.1 t) n (fun j => .int (upd f i.toNatClampNeg (vp_nar .byte x) j)))
  rw [e1, arrV_store]
  congr 2
  funext q
  by_cases hq : q = i.toNatClampNeg
  · subst hq
    simp [updV, upd, vp_nar]
    try rfl
  · simp [updV, upd, hq]
theorem J_zast {k t n i2 : Nat} {f : Nat → Int32} {i x y : Int32} (hdg : decode M.2.1 pc = .ok (.bastore, 1)) (hf : fh k = some (.inl (t, n, .inl f))) (ht : jT[t]? = some .boolean) (hin : vp_in i n) (hi2 : i.toNatClampNeg = i2) (hy : vp_nar .boolean x = y) (kk : J l G M R E Q (nh, hu fh k (.inl (t, n, .inl (upd f i2 y)))) ck sk (pc + 1) ls st) : J l G M R E Q (nh, fh) ck sk pc ls (.int x :: .int i :: .ref k :: st) := by
  intro p e s m args below meth c H locs la X hE hP hS hL
  subst hi2
  subst hy
  have hcell : H[G.2.2.1 + k]? = some (arrV (G.2.1 t) n (fun j => .int (f j))) := hP.2 k _ hf
  refine W.zast X.1 X.2.1 hcell ((X.2.2.2.2.2.2.1.2 t _ (jTys_at ht)).1 n _) (fun q => by cases q) (by rw [arrV_size]; exact hin) rfl rfl hdg fun H1 e1 z oq => ?_
  refine kk p e s m args below meth c H1 _ la X hE (hP.put ?_ z oq) (hS.put z oq (Nat.le_add_right _ _)) hL
  show H1[_]? = some (arrV (G.2.1 t) n (fun j => .int (upd f i.toNatClampNeg (vp_nar .boolean x) j)))
  rw [e1, arrV_store]
  congr 2
  funext q
  by_cases hq : q = i.toNatClampNeg
  · subst hq
    simp [updV, upd, vp_nar]
    try rfl
  · simp [updV, upd, hq]
theorem J_last {k t n i2 : Nat} {f : Nat → Int64} {i : Int32} {x : Int64} (hdg : decode M.2.1 pc = .ok (.lastore, 1)) (hf : fh k = some (.inl (t, n, .inr (.inl f)))) (ht : jT[t]? = some .long) (hin : vp_in i n) (hi2 : i.toNatClampNeg = i2) (kk : J l G M R E Q (nh, hu fh k (.inl (t, n, .inr (.inl (vp_updL f i2 x))))) ck sk (pc + 1) ls st) : J l G M R E Q (nh, fh) ck sk pc ls (.long x :: .int i :: .ref k :: st) := by
  intro p e s m args below meth c H locs la X hE hP hS hL
  subst hi2
  have hcell : H[G.2.2.1 + k]? = some (arrV (G.2.1 t) n (fun j => .long (f j))) := hP.2 k _ hf
  refine W.last X.1 X.2.1 hcell ((X.2.2.2.2.2.2.1.2 t _ (jTys_at ht)).1 n _) (fun q => by cases q) (by rw [arrV_size]; exact hin) rfl rfl hdg fun H1 e1 z oq => ?_
  refine kk p e s m args below meth c H1 _ la X hE (hP.put ?_ z oq) (hS.put z oq (Nat.le_add_right _ _)) hL
  show H1[_]? = some (arrV (G.2.1 t) n (fun j => .long (vp_updL f i.toNatClampNeg x j)))
  rw [e1, arrV_store]
  congr 2
  funext q
  by_cases hq : q = i.toNatClampNeg
  · subst hq
    simp [updV, vp_updL]
  · simp [updV, vp_updL, hq]
theorem J_newa {atype : ArrayType} {t N : Nat} {n : Int32} {ty : FieldType} {a0 : vp_A} (hdg : decode M.2.1 pc = .ok (.newarray atype, 2)) (hty : newarray.typeOf atype = ty) (harr : Cond.arrayClass ty ∈ jtb) (ht : jT[t]? = some ty) (hra : ∀ (U : State) (cA : ClassId), va_RA U cA ty → U.vm.findClass ("[" ++ ty.toString) = some cA) (hpe : ∀ G : jG, pe G (.inl (t, a0)) = .inl (G.2.1 t, a0)) (ha : ∀ cA : ClassId, vp_cell cA a0 = arrV cA N (fun _ => defaultValue ty)) (hn : ¬ n < 0) (hN : n.toNatClampNeg = N) (hbytes : N * componentBytes ty ≤ 536870912) (hc : ck + 1 ≤ R.cells) (hs : sk + N ≤ R.slots)
    (kk : J l G M R E Q (nh + 1, hu fh nh (.inl (t, a0))) (ck + 1) (sk + N) (pc + 2) ls (.ref nh :: st)) : J l G M R E Q (nh, fh) ck sk pc ls (.int n :: st) := by
  intro p e s m args below meth c H locs la X hE hP hS hL
  subst hty
  refine va_newaK X.1 X.2.1 (X.2.2.2.2.2.1 _ harr) rfl hdg rfl hn hN hbytes hc hs hP.1 fun H1 cA e1 z1 o1 hAr hNm => ?_
  have hcA : cA = G.2.1 t := Option.some.inj (hNm.symm.trans (hra _ _ (X.2.2.2.2.2.2.1.2 t _ (jTys_at ht)).2))
  subst hcA
  refine kk p e s m args below meth c H1 locs la X hE (hP.push ?_ z1 o1) ⟨Nat.le_trans hS.1 (by rw [hP.1, z1]; omega), fun q h1 h2 => ?_, hS.2.2⟩ hL
  · show va_at _ _ (_, pe G (.inl (t, a0))) H1
    rw [hpe]
    show H1[_]? = some (vp_cell _ _)
    rw [ha]
    exact e1
  · rw [o1 q (by rw [← hP.1]; exact Nat.lt_of_lt_of_le h1 hS.1)]
    exact hS.2.1 q h1 h2
theorem J_new {idx ci N : Nat} {fs : List Value} (hdg : decode M.2.1 pc = .ok (.new idx, 3)) (F : jNW M.1 idx ci N fs) (hfs : ∀ G : jG, fs.map (pv G) = fs) (hc : ck + 1 ≤ R.cells) (hs : sk + N ≤ R.slots) (kk : J l G M R E Q (nh + 1, hu fh nh (.inr (ci, fs))) (ck + 1) (sk + N) (pc + 3) ls (.ref nh :: st)) : J l G M R E Q (nh, fh) ck sk pc ls st := by
  intro p e s m args below meth c H locs la X hE hP hS hL
  obtain ⟨C, T, ty0, hcl, hin, hty, hlink, hinst, hini, hdef⟩ := F
  have hts := X.2.2.2.2.2.1
  have hKn := X.2.2.2.2.2.2.1.1 ci _ hcl
  refine W.newcK X.1 X.2.1 X.2.2.2.2.1 (hts _ hlink) (hts _ hinst) (hts _ hini) rfl hdg hc hs hKn.2.1 hP.1 fun H1 kC hkC e1 z1 o1 => ?_
  refine kk p e s m args below meth c H1 locs la X hE (hP.push ?_ z1 o1) ⟨Nat.le_trans hS.1 (by rw [hP.1, z1]; omega), fun q h1 h2 => ?_, hS.2.2⟩ hL
  · refine ⟨_, hcl, ?_⟩
    show t_OB (G.2.2.1 + nh) (G.1.1 ci) N (G.1.2 ci) H1 (vp_V (fs.map (pv G)))
    rw [hfs]
    exact (u_born ty0 hts hin hKn hkC e1 hty).to hdef
  · rw [o1 q (by rw [← hP.1]; exact Nat.lt_of_lt_of_le h1 hS.1)]
    exact hS.2.1 q h1 h2
end JH
