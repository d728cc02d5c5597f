/-! the steps as the class keeps them: es x is the list of house x -/
theorem seg_in {B : Int → Int} : ∀ (n : Nat) (a j : Int), a ≤ j → j < a + n → B j ∈ seg B a n
  | 0, a, j, h0, h1 => by omega
  | n + 1, a, j, h0, h1 => by
    show B j ∈ B a :: seg B (a + 1) n
    by_cases e : j = a
    · rw [e]; exact List.mem_cons_self
    · exact List.mem_cons_of_mem _ (seg_in n (a + 1) j (by omega) (by omega))
/-- a colour that stands somewhere has beans -/
theorem it_has {f : Int → Int} (h : okF f) {k : Nat} (hk : k < Hn f) {j : Int} (j0 : 0 ≤ j) (j1 : j < bsum f) : 0 < f (itB f k j) := by
  obtain ⟨_, hc, ho⟩ := it_inv h k hk
  have o := ho j j0 j1
  have m : itB f k j ∈ seg (itB f k) 0 (bsum f).toNat := seg_in _ 0 j j0 (by omega)
  have c := congrFun hc (itB f k j)
  rw [cnt_colAt h _ o] at c
  have p : 0 < cntL (seg (itB f k) 0 (bsum f).toNat) (itB f k j) := List.count_pos_iff.mpr m
  omega
section Vws
variable {R f ff wa wb df sf dg sg tf : Int → Int} {m x y row p l r s1 s2 z t fo dy wc many d k w i : Int} {gw : jLG} {es : Int → jES}
theorem it_okB (hf : okF f) (hm : m = Hi f) (x1 : x < m) : okB (bsum f) (itB f x.toNat) := (it_inv hf x.toNat (by unfold Hi at hm; have := Hn_pos (f := f); omega)).2.2
theorem swh_of (hR : RowsTo R f m) (hf : okF f) (hm : m = Hi f) (x0 : 0 ≤ x) (x1 : x < m) (er : R x = row) (hp : p = bsum f) (h7 : p ≤ 7) (l0 : 0 ≤ l) (lr : l < r) (rp : r < p) (e1 : s1 = 3 * p - 3 * l - 3) (e2 : s2 = 3 * p - 3 * r - 3) (ez : exV row s1 s2 = z) (y0 : -1 ≤ y) (y1 : y < m) (q : FnR R m z y) : OrR f (swp (itB f x.toNat) l r) y := by
  have hB := it_okB hf hm x1
  subst hp
  exact OrR.find hR hf hm (swp_okB hB l0 (by omega) (by omega) rp) (by rw [← ez, ← er, hR x x0 x1]; exact (exV_of hB h7 l0 (by omega) (by omega) rp (by omega) e1 e2).symm) y0 y1 q
theorem tuh_of (hR : RowsTo R f m) (hf : okF f) (hm : m = Hi f) (x0 : 0 ≤ x) (x1 : x < m) (er : R x = row) (hp : p = bsum f) (t : TuR row p z) (y0 : -1 ≤ y) (y1 : y < m) (q : FnR R m z y) : OrR f (tnB (itB f x.toNat) p) y := by
  have hB := it_okB hf hm x1
  subst hp
  exact OrR.find hR hf hm (tnB_okB hB) (t _ hB (by rw [← er, hR x x0 x1])) y0 y1 q
/-- it is turned to itself -/
theorem tus_of (hR : RowsTo R f m) (hf : okF f) (hm : m = Hi f) (x0 : 0 ≤ x) (x1 : x < m) (er : R x = row) (hp : p = bsum f) (t : TuR row p z) (e : z = row) : OrR f (tnB (itB f x.toNat) p) x := tuh_of hR hf hm x0 x1 er hp t (by omega) x1 (FnR_hit (Rows_mono hR hf hm) x0 x1 er e.symm)
theorem tne_of (x0 : 0 ≤ x) (er : R x = row) (q : FnR R m z y) (ne : ¬ z = row) : ¬ y = x := fun e => ne (by rw [← q.1 (by omega), e]; exact er)
/-- t is what the law says of house B's places l and r; 0 where the colours are alike -/
def VdT (gw : jLG) (fo : Int) (B : Int → Int) (p dy l r t : Int) : Prop := (B l = B r ∧ t = 0) ∨ (¬ B l = B r ∧ ∀ R, LwF gw fo R → t = vQ R B p dy l r)
theorem VdT.a {B : Int → Int} {a b : Int} (ea : a = B l) (eb : b = B r) (e : a = b) : VdT gw fo B p dy l r 0 := Or.inl ⟨by rw [← ea, ← eb]; exact e, rfl⟩
theorem VdT.b {B : Int → Int} {a b c n vf : Int → Int} {a1 b1 c1 v : Int} (T : VtOq gw fo ff p dy vf) (hf : okF ff) (hm : m = Hi ff) (x1 : x < m) (hp : p = bsum ff) (l0 : 0 ≤ l) (lr : l < r) (rp : r < p) (ea : a1 = itB ff x.toNat l) (eb : b1 = itB ff x.toNat r) (ec : c1 = itB ff x.toNat 0) (ne : ¬ a1 = b1) (ei : i = 125 * (prs p l + (r - l - 1)) + 25 * a1 + 5 * b1 + c1) (ev : vf i = v) : VdT gw fo (itB ff x.toNat) p dy l r v := Or.inr ⟨by rw [← ea, ← eb]; exact ne, vQ_at T (by rw [hp]; exact it_okB hf hm x1) (fun j j0 j1 => it_has hf (by unfold Hi at hm; have := Hn_pos (f := ff); omega) j0 (by omega)) l0 lr rp ea.symm eb.symm ec.symm ne ei ev⟩
theorem VdT.no {B : Int → Int} (h : VdT gw fo B p dy l r t) (z : t ≤ 0) : B l = B r ∨ ∀ R, LwF gw fo R → vQ R B p dy l r ≤ 0 := by
  rcases h with h | h
  · exact Or.inl h.1
  · exact Or.inr (fun R q => by rw [← h.2 R q]; exact z)
theorem VdT.yes {B : Int → Int} (h : VdT gw fo B p dy l r t) (z : 0 < t) : ¬ B l = B r ∧ ∀ R, LwF gw fo R → t = vQ R B p dy l r := by
  rcases h with h | h
  · omega
  · exact h
/-- what is known of the steps is told by es -/
def StX (es : Int → jES) (df sf : Int → Int) (many : Int) : Prop := ∀ x, 0 ≤ x → x < many → ¬ df x = -1 → EnC (es x) (df x) (rwX sf x)
/-- es is what the city's law, walls and TERMS tell -/
def FsE (es : Int → jES) (gw : jLG) (fo : Int) (ff wa wb : Int → Int) (wc p : Int) (tf : Int → Int) (m : Int) : Prop := ∀ x, 0 ≤ x → x < m → ∃ R, LwF gw fo R ∧ es x = sxL ff (WlP wa wb wc) (vQ R (itB ff x.toNat) p (tf 1)) (itB ff x.toNat) x p (tf 0)
theorem FsE.enc (h : FsE es gw fo ff wa wb wc p tf m) (x0 : 0 ≤ x) (x1 : x < m) (e : StE gw fo ff wa wb wc p (tf 1) (tf 0) x df sf) : EnC (es x) (df x) (rwX sf x) := by
  obtain ⟨R, h1, h2⟩ := h x x0 x1
  rw [h2]
  exact e R h1
theorem StX.fresh (h : Rg df many (-1) (-1)) : StX es df sf many := fun x x0 x1 n => by
  have u := h x x0 x1
  omega
theorem StX.done (h : StX es df sf many) (hk : StOK df sf many) (k : KeptO df sf dg sg many x) (e : EnC (es x) (dg x) (rwX sg x)) : StX es dg sg many := fun y y0 y1 yd => by
  by_cases q : y = x
  · rw [q]; exact e
  · have u := k y y0 y1 q
    rw [u.1] at yd ⊢
    have b := (hk y y0 y1).2.1
    exact (h y y0 y1 yd).cg (fun j j0 j1 => u.2 j j0 (by omega))
theorem StX.deg (h : StX es df sf many) (x0 : 0 ≤ x) (x1 : x < many) (e : df x = d) (n : ¬ d = -1) : d = (es x).length := by
  subst e
  exact (h x x0 x1 n).1
theorem StX.to (h : StX es df sf many) (x0 : 0 ≤ x) (x1 : x < many) (i0 : 0 ≤ i) (i1 : i < df x) (e : zand (sf (22 * x + i)) 2047 = w) : ∃ t, (es x)[i.toNat]? = some (w, t) := ⟨_, (h x x0 x1 (by omega)).at i0 i1 e rfl⟩
theorem StX.tk (h : StX es df sf many) (x0 : 0 ≤ x) (x1 : x < many) (i0 : 0 ≤ i) (i1 : i < df x) (e : zshr (sf (22 * x + i)) 11 = w) : ∃ t, (es x)[i.toNat]? = some (t, w) := ⟨_, (h x x0 x1 (by omega)).at i0 i1 rfl e⟩
theorem StP_s (e : df = up sf x 0) : StP gw fo ff wa wb wc p dy x 0 1 df dg := StP_0 (by rw [e, up_same])
theorem StP.cgl {l2 r2 : Int} (h : StP gw fo ff wa wb wc p dy x l r df sf) (e1 : l2 = l) (e2 : r2 = r) : StP gw fo ff wa wb wc p dy x l2 r2 df sf := by rw [e1, e2]; exact h
end Vws
