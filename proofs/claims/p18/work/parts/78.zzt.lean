def gwU (gw : jLG) (a : Int) (n : Int) (F : Int → Int) : jLG := fun i => if i = a.toNat then (n, F) else gw i
theorem lwT_of {T : Int → Int} {n : Int} {R : VS} (h : LwD (CTk T n) (VT T n) (EnT T n) R) : R = lwT T n := LwD.one h (Classical.epsilon_spec (p := fun R => LwD (CTk T n) (VT T n) (EnT T n) R) ⟨R, h⟩)
theorem lwT_ex {T : Int → Int} {n : Int} (n0 : 0 ≤ n) (h : lwO T n) : LwD (CTk T n) (VT T n) (EnT T n) (lwT T n) := by
  obtain ⟨t, h⟩ := h
  exact Classical.epsilon_spec (p := fun R => LwD (CTk T n) (VT T n) (EnT T n) R) (LwR.ex (fun t => VT_0 n0 t) h)
/-- the class's codes tell the laws' values -/
def LvC (gw : jLG) (lc : Int) (lv : jLV) : Prop := ∀ t : Nat, (t : Int) < lc → PrG (gw t).2 (gw t).1 (lv t)
/-- the reference's tokens tell them -/
def LvM (K : Int → Int) (lv : jLV) : Prop := ∀ t : Nat, (t : Int) < K 62 → LwDa (Cd K (400 * t + K (64 + t))) (Vd K) (fun u => u = 400 * t + K (64 + t)) (400 * t) (lv t)
/-- an image's, once it is kept -/
def LvI (k : Int) (K : Int → Int) (lv : jLV) : Prop := ¬ k = 0 → LvM K lv
section Lvs
variable {gw gw2 : jLG} {lc lc2 n k k2 : Int} {lv lv2 : jLV} {F S T K K2 : Int → Int} {R : VS}
theorem LvC.to (h : LvC gw lc lv) (e : lv2 = lv) : LvC gw lc lv2 := e ▸ h
theorem bkV_n {kb E : Int → Int} {d r x : Int} {lv0 lv1 : jLV} (ec : EC kb d E) (e : r = bkr x (kb 0) (kb 1)) (hr : r < 0) : iF (bkr x (E 0) (E 1) = 0) (iF (x = 0) lv0 lv1) lv = lv := iF_neg (by have := EC.bk ec e; omega)
theorem bkV_0 {kb E : Int → Int} {d x : Int} {lv0 lv1 : jLV} (ec : EC kb d E) (e : 0 = bkr x (kb 0) (kb 1)) (ex : x = 0) : iF (bkr x (E 0) (E 1) = 0) (iF (x = 0) lv0 lv1) lv = lv0 := (iF_pos (EC.bk ec e).symm).trans (iF_pos ex)
theorem bkV_1 {kb E : Int → Int} {d x : Int} {lv0 lv1 : jLV} (ec : EC kb d E) (e : 0 = bkr x (kb 0) (kb 1)) (ex : ¬ x = 0) : iF (bkr x (E 0) (E 1) = 0) (iF (x = 0) lv0 lv1) lv = lv1 := (iF_pos (EC.bk ec e).symm).trans (iF_neg ex)
theorem LvC.lw {m : Int} (h : LvC gw lc lv) (l0 : 0 ≤ lc) (e6 : lc = S 62) (k : lc < 6) (o : lwO T m) (p : PrG F n (lwT T m)) (g : ∀ t : Nat, (t : Int) < lc → gw2 t = gw t) (g1 : gw2 lc.toNat = (n, F)) : LvC gw2 (lc + 1) (lwV T m S lv) := fun t ht => by
  unfold lwV
  rw [iF_neg (by omega), iF_pos o]
  show PrG (gw2 t).2 (gw2 t).1 (if (t : Int) = S 62 then lwT T m else lv t)
  by_cases q : (t : Int) = S 62
  · rw [if_pos q, show t = lc.toNat by omega, g1]
    exact p
  · rw [if_neg q, g t (by omega)]
    exact h t (by omega)
theorem lwV_5 (e6 : lc = S 62) (k : 6 ≤ lc) : lwV T n S lv = lv := iF_pos (by omega)
theorem lwV_6 (e6 : lc = S 62) (k : lc < 6) (o : ¬ lwO T n) : lwV T n S lv = lv := (iF_neg (by omega)).trans (iF_neg o)
theorem Vd_same (h : ∀ j, 2470 ≤ j → j < 4870 → K2 j = K j) : Vd K2 = Vd K := by
  funext x
  unfold Vd
  by_cases r : 0 ≤ x ∧ x < 2400
  · rw [if_pos r, if_pos r, h _ (by omega) (by omega)]
  · rw [if_neg r, if_neg r]
theorem LvM.cg (h : LvM K lv) (kl : KLaw K) (b : K 62 ≤ 6) (e : ∀ j, 62 ≤ j → ¬ j = 63 → j < 4870 → K2 j = K j) : LvM K2 lv := fun t ht => by
  rw [e 62 (by decide) (by decide) (by decide)] at ht
  have q := h t ht
  have sz := kl t (by omega) ht
  rw [e (64 + t) (by omega) (by omega) (by omega), Vd_same (fun j a c => e j (by omega) (by omega) c), Cd_same (fun x a c => e _ (by omega) (by omega) (by omega))]
  exact q
theorem LvM.to (h : LvM K lv) (e : lv2 = lv) : LvM K lv2 := e ▸ h
theorem LvI.to (h : LvI k K lv) (ek : k2 = k) (e : lv2 = lv) (eK : ∀ j, 0 ≤ j → j < 4870 → K2 j = K j) (kk : ¬ k = 0 → KLaw K ∧ K 62 ≤ 6) : LvI k2 K2 lv2 := fun w => by
  have w2 : ¬ k = 0 := fun q => w (ek.trans q)
  rw [e]
  exact (h w2).cg (kk w2).1 (kk w2).2 (fun j a _ b => eK j (by omega) b)
theorem LvI.yes (h : LvM K lv) (e : lv2 = lv) (eK : ∀ j, 0 ≤ j → j < 4870 → K2 j = K j) (kl : KLaw K) (b : K 62 ≤ 6) : LvI k2 K2 lv2 := fun _ => by
  rw [e]
  exact h.cg kl b (fun j a _ c => eK j (by omega) c)
theorem KOK.kl (h : KOK K) : KLaw K ∧ K 62 ≤ 6 := ⟨h.2.2.2.2.2.2.2.2.2, h.2.2.2.2.2.2.1.2⟩
theorem ImI.k0 {im hi : Int → Int} (m : ImI im hi) (w : ¬ hi 0 = 0) : KLaw im ∧ im 62 ≤ 6 := by
  have u := KOK.kl (m 0 (by decide) (by decide) w)
  have e : (fun j => im (4870 * 0 + j)) = im := by
    funext j
    rw [show (4870 * 0 + j : Int) = j by omega]
  rw [e] at u
  exact u
theorem ImI.k1 {im hi : Int → Int} (m : ImI im hi) (w : ¬ hi 1 = 0) : KLaw (sh4 im) ∧ sh4 im 62 ≤ 6 := by
  have u := KOK.kl (m 1 (by decide) (by decide) w)
  have e : (fun j => im (4870 * 1 + j)) = sh4 im := by
    funext j
    show im (4870 * 1 + j) = im (4870 + j)
    rw [show (4870 * 1 + j : Int) = 4870 + j by omega]
  rw [e] at u
  exact u
/-- the law in force -/
noncomputable def lwR (S : Int → Int) (lv : jLV) : VS := iF (S 63 < 0) (fun _ s => s) (lv (S 63).toNat)
theorem LvC.f {fo : Int} (h : LvC gw lc lv) (e : fo = S 63) (f1 : fo < lc) : LwF gw fo (lwR S lv) := by
  unfold lwR
  by_cases q : S 63 < 0
  · rw [iF_pos q]
    exact Or.inl ⟨by omega, rfl⟩
  · rw [iF_neg q]
    refine Or.inr ⟨by omega, ?_⟩
    have u := h (S 63).toNat (by omega)
    rw [show fo.toNat = (S 63).toNat by omega]
    exact u
theorem LvM.f (h : LvM K lv) (e : K 63 = S 63) (f0 : -1 ≤ K 63) (f1 : K 63 < K 62) : LwM K (lwR S lv) := by
  unfold lwR
  by_cases q : S 63 < 0
  · rw [iF_pos q]
    exact Or.inl ⟨by omega, rfl⟩
  · rw [iF_neg q]
    refine Or.inr ⟨by omega, ?_⟩
    have u := h (S 63).toNat (by omega)
    rw [show ((S 63).toNat : Int) = K 63 by omega] at u
    exact u
end Lvs
section Lws3
variable {K K2 T S : Int → Int} {n : Int} {lv : jLV}
theorem LvM.lw (h : LvM K lv) (kl : KLaw K) (n0 : 0 ≤ n) (q : LwK K K2 T n) (e6 : K 62 = S 62) (b0 : 0 ≤ K 62) (b : K 62 < 6) (o : lwO T n) : LvM K2 (lwV T n S lv) := fun t ht => by
  rw [q.2.1] at ht
  unfold lwV
  rw [iF_neg (by omega), iF_pos o]
  show LwDa (Cd K2 (400 * t + K2 (64 + t))) (Vd K2) (fun u => u = 400 * t + K2 (64 + t)) (400 * t) (if (t : Int) = S 62 then lwT T n else lv t)
  by_cases c : (t : Int) = S 62
  · rw [if_pos c, show (t : Int) = K 62 by omega]
    exact q.1 _ (lwT_ex n0 o)
  · rw [if_neg c]
    have u := q.2.2 t (by omega) (by omega)
    have sz := kl t (by omega) (by omega)
    rw [u.1]
    refine LwDa.cg (C := Cd K (400 * t + K (64 + t))) (V := Vd K) (by omega) (Cd_same (fun x a c => u.2.1 _ (by omega) (by omega))) (fun j j0 c1 _ => ?_) (h t (by omega))
    have r : j < 400 * t + K (64 + t) := Cd_lt c1 (by decide)
    unfold Vd
    rw [if_pos ⟨by omega, by omega⟩, if_pos ⟨by omega, by omega⟩]
    exact u.2.2 _ (by omega) (by omega)
theorem LvI.im0 {im im2 hi hi2 : Int → Int} {x : Int} {lv0 : jLV} (h : LvM K lv) (h0 : LvI (hi 0) im lv0) (ko : KOK K) (m : ImI im hi) (e : ImE im2 im K x) (kb : KbE hi2 hi x) : LvI (hi2 0) im2 (iF (x = 0) lv lv0) := by
  by_cases q : x = 0
  · exact LvI.yes h (iF_pos q) (fun j a b => (e.1 j a b).trans (if_pos q)) ko.kl.1 ko.kl.2
  · exact LvI.to h0 (KbE.n0 kb q) (iF_neg q) (fun j a b => (e.1 j a b).trans (if_neg q)) m.k0
theorem LvI.im1 {im im2 hi hi2 : Int → Int} {x : Int} {lv1 : jLV} (h : LvM K lv) (h1 : LvI (hi 1) (sh4 im) lv1) (ko : KOK K) (m : ImI im hi) (e : ImE im2 im K x) (kb : KbE hi2 hi x) : LvI (hi2 1) (sh4 im2) (iF (x = 1) lv lv1) := by
  by_cases q : x = 1
  · exact LvI.yes h (iF_pos q) (fun j a b => (e.2 j a b).trans (if_pos q)) ko.kl.1 ko.kl.2
  · exact LvI.to h1 (KbE.n1 kb q) (iF_neg q) (fun j a b => (e.2 j a b).trans (if_neg q)) m.k1
theorem LvM.bk {im hi E : Int → Int} {x d : Int} {lv0 lv1 : jLV} (h : LvM K lv) (h0 : LvI (hi 0) im lv0) (h1 : LvI (hi 1) (sh4 im) lv1) (ec : EC hi d E) (m : ImI im hi) (b : BkE K2 K im hi x) : LvM K2 (iF (bkr x (E 0) (E 1) = 0) (iF (x = 0) lv0 lv1) lv) := by
  have u : bkr x (hi 0) (hi 1) = bkr x (E 0) (E 1) := EC.bk ec rfl
  by_cases z : bkr x (hi 0) (hi 1) = 0
  · rw [iF_pos (u.symm.trans z)]
    have e := b.1 z
    rcases bkr_in z with q | q
    · rw [iF_pos q]
      have w := bkr_k0 z.symm q
      refine (h0 w).cg (m.k0 w).1 (m.k0 w).2 (fun j a _ c => ?_)
      rw [e j (by omega) c, show 4870 * x + j = j by omega]
    · rw [iF_neg (by omega)]
      have w := bkr_k1 z.symm (by omega)
      refine (h1 w).cg (m.k1 w).1 (m.k1 w).2 (fun j a _ c => ?_)
      rw [e j (by omega) c]
      show im (4870 * x + j) = im (4870 + j)
      rw [show 4870 * x + j = 4870 + j by omega]
  · rw [iF_neg (fun q => z (u.trans q)), b.2 z]
    exact h
end Lws3
theorem LwCd.p {U T F : Int → Int} {d n z : Int} (e : EqN U T d) (ed : d = n) (n0 : 0 ≤ d) (h : LwCd U d F z) : PrG F z (lwT T n) := by
  subst ed
  obtain ⟨R, h1, h2⟩ := h
  rw [CTk_cg e n0, VT_cg e n0, EnT_cg e n0] at h1
  rw [← lwT_of h1]
  exact h2
theorem gwU_lo {gw : jLG} {a n : Int} {F : Int → Int} (a0 : 0 ≤ a) : ∀ t : Nat, (t : Int) < a → gwU gw a n F t = gw t := fun t h => if_neg (by omega)
theorem gwU_at {gw : jLG} {a n : Int} {F : Int → Int} : gwU gw a n F a.toNat = (n, F) := if_pos rfl
/-! what the TERMS may be; the law in force; the lists of steps -/
def TrX (S : Int → Int) : Prop := (0 ≤ S 5 ∧ S 5 ≤ 1) ∧ 0 ≤ S 6 ∧ S 6 ≤ 99
def AX (aa : jAA) : Prop := TrX aa.1 ∧ TrX aa.2.1 ∧ TrX aa.2.2.1
noncomputable def esA (aa : jAA) (x : Int) : jES := lsK aa.1 (lwR aa.1 aa.2.2.2.2.2.1) x
section Axs
variable {x y n k v : Int} {S S2 T E S0 S1 K : Int → Int} {aa : jAA} {Rv : VS} {lv : jLV}
theorem TrX.cg (h : TrX S) (e5 : S2 5 = S 5) (e6 : S2 6 = S 6) : TrX S2 := by
  unfold TrX
  rw [e5, e6]
  exact h
theorem TrX.iF {p : Prop} {A B : Int → Int} (h : TrX B) (a : p → TrX A) : TrX (iF p A B) := by
  by_cases g : p
  · rw [iF_pos g]; exact a g
  · rw [iF_neg g]; exact h
theorem nbS_5 : nbS S 5 = S 5 ∧ nbS S 6 = S 6 := ⟨nbS_out (by decide) (by decide) (by decide) (by decide), nbS_out (by decide) (by decide) (by decide) (by decide)⟩
theorem TrX.nb (h : TrX S) : TrX (nbS S) := h.cg nbS_5.1 nbS_5.2
theorem TrX.pu {o c a b : Int} (h : TrX S) (h0 : 0 ≤ S c) (ho : 7 ≤ o) (hc : 7 ≤ c) : TrX (pu3 S o c a b) := h.cg (by unfold pu3; rw [up_ne (by omega), up_ne (by omega), up_ne (by omega)]) (by unfold pu3; rw [up_ne (by omega), up_ne (by omega), up_ne (by omega)])
theorem TrX.bn (h : TrX S) : TrX (bnS x y S) := TrX.iF h (fun g => TrX.nb (h.cg (up_ne (by have := g.2.1; omega)) (up_ne (by have := g.2.1; omega))))
theorem TrX.tm (h : TrX S) : TrX (tmS x y S) := TrX.iF h (fun g => by
  obtain ⟨a, b, c, d⟩ := g
  by_cases z : x = 0
  · subst z
    refine ⟨?_, ?_⟩
    · show 0 ≤ up S (0 + 5) y 5 ∧ up S (0 + 5) y 5 ≤ 1
      rw [show (0 : Int) + 5 = 5 from rfl, up_same]; omega
    · rw [up_ne (by decide)]; exact h.2
  · have z1 : x = 1 := by omega
    subst z1
    refine ⟨?_, ?_⟩
    · rw [up_ne (by decide)]; exact h.1
    · show 0 ≤ up S (1 + 5) y 6 ∧ up S (1 + 5) y 6 ≤ 99
      rw [show (1 : Int) + 5 = 6 from rfl, up_same]; omega)
theorem TrX.ro (h : TrX S) : TrX (rwS T n S) := TrX.iF h (fun _ => TrX.nb (h.cg (if_neg (by decide)) (if_neg (by decide))))
theorem TrX.lw (h : TrX S) : TrX (lwS T n S) := h.cg (lwS_lo (by decide)) (lwS_lo (by decide))
theorem TrX.fo (h : TrX S) : TrX (foS x S) := h.cg (foS_lo (by decide)) (foS_lo (by decide))
theorem TrX.wa (h : TrX S) (h0 : 0 ≤ S 59) : TrX (waS x y S) := TrX.iF h (fun _ => h.pu h0 (by decide) (by decide))
theorem TrX.sw (h : TrX S) (h0 : 0 ≤ S 60) : TrX (swS x y S) := TrX.iF h (fun _ => h.pu h0 (by decide) (by decide))
theorem TrX.cl (h : TrX S) (h0 : 0 ≤ S 61) : TrX (clS x y S) := TrX.iF h (fun _ => h.pu h0 (by decide) (by decide))
theorem TrX.kp (h : TrX S) : TrX (kpS x S) := TrX.iF h (fun _ => h.cg (up_ne (by decide)) (up_ne (by decide)))
theorem TrX.fg (h : TrX S) : TrX (fgS S) := h.cg (up_ne (by decide)) (up_ne (by decide))
theorem TrX.br (h : TrX S) : TrX (brS x y S) := TrX.iF h (fun _ => h.cg (brT_out (by omega) (by decide)) (brT_out (by omega) (by decide)))
theorem TrX.bk (h : TrX S) (a : TrX S0) (b : TrX S1) : TrX (bkS x E S S0 S1) := TrX.iF h (fun _ => TrX.iF b (fun _ => a))
theorem AX.nn {f : (Int → Int) → Int → Int} (h : AX aa) (e : TrX (f aa.1)) : AX (eN f aa) := ⟨e, h.2⟩
theorem AX.st (h : AX aa) : AX (eSt k aa) := h
theorem AX.ro (h : AX aa) : AX (eRw aa) := ⟨h.1.ro, h.2⟩
theorem AX.lw (h : AX aa) : AX (eLx aa) := ⟨h.1.lw, h.2⟩
theorem AX.fd {a b c d e : Int} (h : AX aa) : AX (eFd a b c d e aa) := h
theorem AX.en (h : AX aa) : AX (eEn x aa) := h
theorem AX.im (h : AX aa) : AX (eIm x aa) := ⟨h.1, TrX.iF h.2.1 (fun _ => h.1), TrX.iF h.2.2 (fun _ => h.1)⟩
theorem AX.bk (h : AX aa) : AX (eBk x aa) := ⟨h.1.bk h.2.1 h.2.2, h.2⟩
/-- the lists hang on what is kept of BEANS, TERMS, WALLS alone, and on the law in force -/
theorem sxL_cg {f g : Int → Int} {W W2 : Int → Int → Prop} {p q d d2 t t2 : Int} (l : ∀ j, 0 ≤ j → j < 5 → f j = g j) (w : ∀ a b, W a b ↔ W2 a b) (ep : p = q) (e6 : d = d2) (e5 : t = t2) : sxL f W (vQ Rv (itB f x.toNat) p d) (itB f x.toNat) x p t = sxL g W2 (vQ Rv (itB g x.toNat) q d2) (itB g x.toNat) x q t2 := by
  have hW : W = W2 := by
    funext a b
    exact propext (w a b)
  have hI : itB f x.toNat = itB g x.toNat := itB_same l x.toNat
  have hO : ∀ C, OrR f C = OrR g C := fun C => by
    funext r
    exact propext ⟨OrR.cg l EqOn.refl, OrR.cg (fun j a b => (l j a b).symm) EqOn.refl⟩
  subst hW ep e6 e5
  rw [hI]
  have sI : ∀ (V : Int → Int → Int) (B : Int → Int) (a : Int) (n : Nat), sxI f W V B x a n = sxI g W V B x a n := fun V B a n => by
    induction n with
    | zero => rfl
    | succ n ih =>
      show sxI f W V B x a n ++ iF (B a = B (a + 1 + n)) [] (sxS W x (the (OrR f (swp B a (a + 1 + n)))) (V a (a + 1 + n))) = sxI g W V B x a n ++ iF (B a = B (a + 1 + n)) [] (sxS W x (the (OrR g (swp B a (a + 1 + n)))) (V a (a + 1 + n)))
      rw [ih, hO]
  have sO : ∀ (V : Int → Int → Int) (B : Int → Int) (p : Int) (n : Nat), sxO f W V B x p n = sxO g W V B x p n := fun V B p n => by
    induction n with
    | zero => rfl
    | succ n ih =>
      show sxO f W V B x p n ++ sxI f W V B x n (p - n - 1).toNat = sxO g W V B x p n ++ sxI g W V B x n (p - n - 1).toNat
      rw [ih, sI]
  unfold sxL sxT
  rw [sO, hO]
theorem WlK_cg (e : ∀ j, 7 ≤ j → j < 23 → K j = S j) (e9 : K 59 = S 59) (b : S 59 ≤ 8) (a c : Int) : WlK K a c ↔ WlK S a c := by
  have q : ∀ k, 0 ≤ k → k < S 59 → (WM (od K 7) (od K 8) k a c ↔ WM (od S 7) (od S 8) k a c) := fun k k0 k1 => by
    unfold WM od
    rw [e (2 * k + 7) (by omega) (by omega), e (2 * k + 8) (by omega) (by omega)]
  unfold WlK WlP WNo
  rw [e9]
  exact ⟨fun h g => h (fun k k0 k1 w => g k k0 k1 ((q k k0 k1).mp w)), fun h g => h (fun k k0 k1 w => g k k0 k1 ((q k k0 k1).mpr w))⟩
theorem lsK_cg (l : ∀ j, 0 ≤ j → j < 23 → K j = S j) (e9 : K 59 = S 59) (b : S 59 ≤ 8) : lsK K Rv = lsK S Rv := by
  funext x
  exact sxL_cg (fun j j0 j1 => l j j0 (by omega)) (WlK_cg (fun j a c => l j (by omega) c) e9 b) (bsum_eq (fun j j0 j1 => l j j0 (by omega))) (l 6 (by decide) (by decide)) (l 5 (by decide) (by decide))
/-- the reference's list -/
theorem LsE.of {m : Int} (h : EqN K aa.1 64) (b : K 59 ≤ 8) : LsE (esA aa) K (lwR aa.1 aa.2.2.2.2.2.1) m := fun x _ _ => by
  unfold esA
  rw [lsK_cg (K := K) (S := aa.1) (fun j j0 j1 => h j j0 (by omega)) (h 59 (by decide) (by decide)) (by rw [← h 59 (by decide) (by decide)]; exact b)]
/-- the class's -/
theorem FsE.of {gw : jLG} {ff tf wa wb ca cb sa sb : Int → Int} {wc cc sc lc fo p m : Int} (h : SC ff tf wa wb ca cb sa sb wc cc sc aa.1) (c : LC lc fo aa.1) (g : LvC gw lc aa.2.2.2.2.2.1) (f1 : fo < lc) (ep : p = bsum ff) : FsE (esA aa) gw fo ff wa wb wc p tf m := fun x _ _ => by
  refine ⟨_, g.f c.2 f1, ?_⟩
  unfold esA lsK
  have t0 := h.2.1 0 (by decide) (by decide)
  have t1 := h.2.1 1 (by decide) (by decide)
  exact sxL_cg (fun j j0 j1 => (h.1 j j0 j1).symm) (fun a c => not_congr (SC.wno h).symm) (by rw [ep]; exact (bsum_eq h.1).symm) t1.symm t0.symm
/-- calls that leave BEANS, TERMS, WALLS and the law in force alone -/
theorem esA_cg {bb : jAA} (l : ∀ j, 0 ≤ j → j < 23 → bb.1 j = aa.1 j) (e9 : bb.1 59 = aa.1 59) (b : aa.1 59 ≤ 8) (e3 : bb.1 63 = aa.1 63) (v : 0 ≤ aa.1 63 → bb.2.2.2.2.2.1 (aa.1 63).toNat = aa.2.2.2.2.2.1 (aa.1 63).toNat) : esA bb = esA aa := by
  funext x
  unfold esA
  have r : lwR bb.1 bb.2.2.2.2.2.1 = lwR aa.1 aa.2.2.2.2.2.1 := by
    unfold lwR
    rw [e3]
    by_cases q : aa.1 63 < 0
    · rw [iF_pos q, iF_pos q]
    · rw [iF_neg q, iF_neg q, v (by omega)]
  rw [r, lsK_cg l e9 b]
theorem StX.cg {es es2 : Int → jES} {df sf : Int → Int} {m : Int} (h : StX es df sf m) (e : es2 = es) : StX es2 df sf m := e ▸ h
theorem RnY.cg {es es2 : Int → jES} {sm st tk : Int → Int} {m : Int} (h : RnY es sm st tk m) (e : es2 = es) : RnY es2 sm st tk m := e ▸ h
theorem pu3_lo {o c a b j : Int} (h0 : 0 ≤ S c) (ho : 23 ≤ o) (hc : 59 < c) (hj : j < 23 ∨ j = 59 ∨ j = 63) (hu : 2 * S c + o + 1 < 59) (h63 : ¬ c = 63) : pu3 S o c a b j = S j := by
  unfold pu3
  rw [up_ne (by omega), up_ne (by omega), up_ne (by omega)]
theorem esA_sw (h0 : 0 ≤ aa.1 60) (b : aa.1 59 ≤ 8) : esA (eSt k (eN (swS x y) aa)) = esA aa := by
  have e : ∀ j, (j < 23 ∨ j = 59 ∨ j = 63) → swS x y aa.1 j = aa.1 j := fun j hj => by
    unfold swS
    by_cases g : swk x y (bsum aa.1) ∧ aa.1 60 < 12
    · rw [iF_pos g]
      exact pu3_lo h0 (by decide) (by decide) hj (by have := g.2; omega) (by decide)
    · rw [iF_neg g]
  exact esA_cg (fun j _ j1 => e j (Or.inl j1)) (e 59 (by decide)) b (e 63 (by decide)) (fun _ => rfl)
theorem esA_cl (h0 : 0 ≤ aa.1 61) (b : aa.1 59 ≤ 8) : esA (eSt k (eN (clS x y) aa)) = esA aa := by
  have e : ∀ j, (j < 23 ∨ j = 59 ∨ j = 63) → clS x y aa.1 j = aa.1 j := fun j hj => by
    unfold clS
    by_cases g : -1 ≤ y ∧ isA x (Hi aa.1) ∧ aa.1 61 < 6
    · rw [iF_pos g]
      exact pu3_lo h0 (by decide) (by decide) hj (by have := g.2.2; omega) (by decide)
    · rw [iF_neg g]
  exact esA_cg (fun j _ j1 => e j (Or.inl j1)) (e 59 (by decide)) b (e 63 (by decide)) (fun _ => rfl)
theorem esA_kp (b : aa.1 59 ≤ 8) : esA (eSt k (eN (kpS x) aa)) = esA aa := by
  have e : ∀ j, ¬ j = 60 → kpS x aa.1 j = aa.1 j := fun j hj => by
    unfold kpS
    by_cases g : kpk x (aa.1 60)
    · rw [iF_pos g, up_ne hj]
    · rw [iF_neg g]
  exact esA_cg (fun j _ j1 => e j (by omega)) (e 59 (by decide)) b (e 63 (by decide)) (fun _ => rfl)
theorem esA_fg (b : aa.1 59 ≤ 8) : esA (eN fgS aa) = esA aa := by
  have n : ∀ j, ¬ j = 61 → (eN fgS aa).1 j = aa.1 j := fun j h => up_ne h
  exact esA_cg (fun j _ j1 => n j (by omega)) (n 59 (by decide)) b (n 63 (by decide)) (fun _ => rfl)
theorem esA_lw (b : aa.1 59 ≤ 8) (f : aa.1 63 < aa.1 62) : esA (eSt k (eLx aa)) = esA aa := by
  refine esA_cg (bb := eSt k (eLx aa)) (fun j _ j1 => lwS_lo (by omega)) (lwS_lo (by decide)) b (lwS_lo (by decide)) (fun f0 => ?_)
  show lwV aa.2.2.2.1 (aa.2.2.2.2.1 2) aa.1 aa.2.2.2.2.2.1 (aa.1 63).toNat = _
  unfold lwV
  by_cases g : 6 ≤ aa.1 62
  · rw [iF_pos g]
  · rw [iF_neg g]
    by_cases o : lwO aa.2.2.2.1 (aa.2.2.2.2.1 2)
    · rw [iF_pos o, if_neg (by omega)]
    · rw [iF_neg o]
theorem esA_eq {bb : jAA} (e : bb.1 = aa.1) (v : bb.2.2.2.2.2.1 = aa.2.2.2.2.2.1) : esA bb = esA aa := by
  funext x
  unfold esA
  rw [e, v]
theorem esA_st : esA (eSt k aa) = esA aa := rfl
theorem esA_fd {a b c d e : Int} : esA (eFd a b c d e aa) = esA aa := rfl
theorem esA_en : esA (eEn x aa) = esA aa := rfl
theorem esA_im : esA (eSt k (eIm x aa)) = esA aa := rfl
end Axs
theorem LvM.lwx {K K2 U T S : Int → Int} {d n : Int} {lv : jLV} (h : LvM K lv) (kl : KLaw K) (e : EqN U T d) (ed : d = n) (n0 : 0 ≤ d) (q : LwK K K2 U d) (e6 : K 62 = S 62) (b0 : 0 ≤ K 62) (b : K 62 < 6) (o : lwO T n) : LvM K2 (lwV T n S lv) := by
  subst ed
  refine LvM.lw h kl n0 ⟨fun R g => q.1 R ?_, q.2⟩ e6 b0 b o
  rw [CTk_cg e n0, VT_cg e n0, EnT_cg e n0]
  exact g
