/-! walls -/
theorem WNo.push {a b : Int → Int} {n x y u v : Int} (n0 : 0 ≤ n) : WNo (up a n x) (up b n y) (n + 1) u v ↔ (WNo a b n u v ∧ ¬ WP x y u v) := by
  refine ⟨fun q => ⟨fun i i0 i1 w => q i i0 (by omega) (WM.eq w (up_ne (by omega)) (up_ne (by omega))), fun w => q n n0 (by omega) ?_⟩, fun q i i0 i1 w => ?_⟩
  · unfold WM
    rw [up_same, up_same]; exact w
  · by_cases e : i = n
    · unfold WM at w
      rw [e, up_same, up_same] at w
      exact q.2 w
    · exact q.1 i i0 (by omega) (WM.eq w (up_ne e).symm (up_ne e).symm)
theorem WDi.push {a b : Int → Int} {n x y : Int} (d : WDi a b n) (w : WNo a b n x y) : WDi (up a n x) (up b n y) (n + 1) := fun i j i0 ij j1 g => by
  rw [up_ne (show ¬ i = n by omega), up_ne (show ¬ i = n by omega)] at g
  by_cases e : j = n
  · unfold WM at g
    rw [e, up_same, up_same] at g
    refine w i i0 (by omega) ?_
    rcases g with g | g
    · exact Or.inl ⟨g.1.symm, g.2.symm⟩
    · exact Or.inr ⟨g.2.symm, g.1.symm⟩
  · exact d i j i0 ij (by omega) (WM.eq g (up_ne e).symm (up_ne e).symm)
section SWs
variable {ff tf wa wb ca cb sa sb ff2 tf2 wa2 wb2 ca2 cb2 sa2 sb2 S S1 S2 S0 K K1 K2 T t t2 E kb kb2 im im2 hi hi2 : Int → Int} {wc cc sc sc2 x y v w p n r m d d2 : Int}
theorem MK.wno (h : EqN K S 62) (n8 : K 59 ≤ 8) : WNo (od K 7) (od K 8) (K 59) x y ↔ WNo (od S 7) (od S 8) (S 59) x y := by
  rw [← h 59 (by decide) (by decide)]
  exact WNo.cg (EqN.od h (by decide) (by omega)) (EqN.od h (by decide) (by omega))
noncomputable def waS (x y : Int) (S : Int → Int) : Int → Int := iF (isB x y (Hi S) ∧ ¬ x = y ∧ WNo (od S 7) (od S 8) (S 59) x y ∧ S 59 < 8) (pu3 S 7 59 x y) S
noncomputable def waR (x y : Int) (S : Int → Int) : Int := iF (isB x y (Hi S)) (iF (x = y ∨ ¬ WNo (od S 7) (od S 8) (S 59) x y) (-3) (iF (8 ≤ S 59) (-5) (S 59 + 1))) (-2)
theorem waS_2 (e : m = Hi S) (k : ¬ isB x y m) : waS x y S = S := iF_neg (fun q => k (e ▸ q.1))
theorem waS_3 (k : x = y ∨ ¬ WNo (od S 7) (od S 8) (S 59) x y) : waS x y S = S := iF_neg (fun q => k.elim q.2.1 (fun g => g q.2.2.1))
theorem waS_5 (e : n = S 59) (k : 8 ≤ n) : waS x y S = S := iF_neg (fun q => by have u := q.2.2.2; omega)
theorem waS_y (e : m = Hi S) (k : isB x y m) (nx : ¬ x = y) (wn : WNo (od S 7) (od S 8) (S 59) x y) (en : n = S 59) (kn : n < 8) : waS x y S = pu3 S 7 59 x y := iF_pos ⟨e ▸ k, nx, wn, by omega⟩
theorem waR_2 (e : m = Hi S) (k : ¬ isB x y m) : -2 = waR x y S := (iF_neg (e ▸ k)).symm
theorem waR_3 (e : m = Hi S) (kk : isB x y m) (k : x = y ∨ ¬ WNo (od S 7) (od S 8) (S 59) x y) : -3 = waR x y S := ((iF_pos (e ▸ kk)).trans (iF_pos k)).symm
theorem waR_5 (e : m = Hi S) (k : isB x y m) (nx : ¬ x = y) (wn : WNo (od S 7) (od S 8) (S 59) x y) (en : n = S 59) (kn : 8 ≤ n) : -5 = waR x y S := ((iF_pos (e ▸ k)).trans ((iF_neg (fun q => q.elim nx (fun g => g wn))).trans (iF_pos (by omega)))).symm
theorem waR_y (e : m = Hi S) (k : isB x y m) (nx : ¬ x = y) (wn : WNo (od S 7) (od S 8) (S 59) x y) (en : n = S 59) (kn : n < 8) (er : r = n + 1) : r = waR x y S := by
  rw [er, en]; exact ((iF_pos (e ▸ k)).trans ((iF_neg (fun q => q.elim nx (fun g => g wn))).trans (iF_neg (by omega)))).symm
theorem SC.wbad (h : SC ff tf wa wb ca cb sa sb wc cc sc S) (k : x = y ∨ ¬ WNo wa wb wc x y) : x = y ∨ ¬ WNo (od S 7) (od S 8) (S 59) x y := k.imp id (fun g q => g ((SC.wno h).mpr q))
theorem MK.wbad (h : EqN K S 62) (n8 : K 59 ≤ 8) (k : x = y ∨ ¬ WNo (od K 7) (od K 8) (K 59) x y) : x = y ∨ ¬ WNo (od S 7) (od S 8) (S 59) x y := k.imp id (fun g q => g ((MK.wno h n8).mpr q))
theorem SC.wa1 (h : SC ff tf wa wb ca cb sa sb wc cc sc S) (k : isB x y m) (e : m = Hi S) (nx : ¬ x = y) (wn : WNo wa wb wc x y) (n0 : 0 ≤ wc) (kn : wc < 8) (e1 : wa2 = up wa wc x) (e2 : wb2 = up wb wc y) : SC ff tf wa2 wb2 ca cb sa sb (wc + 1) cc sc (waS x y S) := by
  have e5 := h.c59
  have ws := h.2.2.2.2
  have o : ∀ j, j < 7 ∨ 23 ≤ j → ¬ j = 59 → pu3 S 7 59 x y j = S j := fun j g g2 => pu3_out (by omega) g2 (by omega)
  refine SC.to (waS_y e k nx ((SC.wno h).mp wn) e5 kn) ⟨SC.pf h (fun j _ _ => o j (by omega) (by omega)), SC.pt h (fun j _ _ => o j (by omega) (by omega)), SC.ps h (fun j _ _ => o j (by omega) (by omega)) (o 60 (by omega) (by omega)), SC.pc h (fun j _ _ => o j (by omega) (by omega)) (o 61 (by omega) (by omega)), ?_⟩
  have ea : EqN (up (od S 7) wc x) (od (pu3 S 7 59 x y) 7) (wc + 1) := EqN.le (pu3_a (k := 0) (N := 8) EqN.rf e5 (by omega) rfl) (by omega)
  have eb : EqN (up (od S 8) wc y) (od (pu3 S 7 59 x y) 8) (wc + 1) := EqN.le (pu3_b (o := 7) (k := 0) (N := 8) EqN.rf e5 (by omega) rfl) (by omega)
  have wS : WNo (od S 7) (od S 8) wc x y := (ws.2.1 x y).mp wn
  refine ⟨by rw [pu3_c]; omega, fun u v => ?_, by rw [e1, e2]; exact WDi.push ws.2.2.1 wn, WDi.cg ea eb (WDi.push ws.2.2.2.1 wS), fun i i0 i1 => ?_⟩
  · rw [← WNo.cg ea eb, WNo.push n0, e1, e2, WNo.push n0, ws.2.1 u v]
  · rw [e1, e2]
    by_cases g : i = wc
    · rw [g, up_same, up_same]; exact nx
    · rw [up_ne g, up_ne g]; exact ws.2.2.2.2 i i0 (by omega)
theorem MK.wa1 (h : EqN K S 62) (k : isB x y (Hi K)) (nx : ¬ x = y) (wn : WNo (od K 7) (od K 8) (K 59) x y) (kn : K 59 < 8) (e : K2 = pu3 K 7 59 x y) : EqN K2 (waS x y S) 62 := by
  refine EqN.to (waS_y (Hi_same (h.le (by decide))) k nx ((MK.wno h (by omega)).mp wn) (h 59 (by decide) (by decide)) kn) ?_
  rw [e]; exact pu3_eqN h (by decide) (by decide)
/-! a wall goes -/
noncomputable def brQ (x y : Int) (S : Int → Int) : (Int → Int) × (Int → Int) × Int := flL (od S 7) (od S 8) x y (S 59).toNat
noncomputable def brT (x y : Int) (S : Int → Int) : Int → Int := fun j => if j = 59 then (brQ x y S).2.2 else if 7 ≤ j ∧ j < 23 then (if j % 2 = 1 then (brQ x y S).1 ((j - 7) / 2) else (brQ x y S).2.1 ((j - 8) / 2)) else S j
noncomputable def brS (x y : Int) (S : Int → Int) : Int → Int := iF (isB x y (Hi S) ∧ ¬ x = y ∧ ¬ WNo (od S 7) (od S 8) (S 59) x y) (brT x y S) S
noncomputable def brR (x y : Int) (S : Int → Int) : Int := iF (isB x y (Hi S)) (iF (x = y ∨ WNo (od S 7) (od S 8) (S 59) x y) (-3) ((brQ x y S).2.2)) (-2)
theorem brT_out {j : Int} (h : j < 7 ∨ 23 ≤ j) (g : ¬ j = 59) : brT x y S j = S j := by
  unfold brT
  rw [if_neg g, if_neg (by omega)]
theorem brT_59 : brT x y S 59 = (brQ x y S).2.2 := by
  unfold brT
  rw [if_pos rfl]
theorem brT_a {j : Int} (h0 : 0 ≤ j) (h1 : j < 8) : brT x y S (2 * j + 7) = (brQ x y S).1 j := by
  unfold brT
  rw [if_neg (by omega), if_pos (by omega), if_pos (by omega), show (2 * j + 7 - 7) / 2 = j by omega]
theorem brT_b {j : Int} (h0 : 0 ≤ j) (h1 : j < 8) : brT x y S (2 * j + 8) = (brQ x y S).2.1 j := by
  unfold brT
  rw [if_neg (by omega), if_pos (by omega), if_neg (by omega), show (2 * j + 8 - 8) / 2 = j by omega]
theorem brS_2 (e : m = Hi S) (k : ¬ isB x y m) : brS x y S = S := iF_neg (fun q => k (e ▸ q.1))
theorem brS_3 (k : x = y ∨ WNo (od S 7) (od S 8) (S 59) x y) : brS x y S = S := iF_neg (fun q => k.elim q.2.1 q.2.2)
theorem brS_y (e : m = Hi S) (k : isB x y m) (nx : ¬ x = y) (wn : ¬ WNo (od S 7) (od S 8) (S 59) x y) : brS x y S = brT x y S := iF_pos ⟨e ▸ k, nx, wn⟩
theorem brR_2 (e : m = Hi S) (k : ¬ isB x y m) : -2 = brR x y S := (iF_neg (e ▸ k)).symm
theorem brR_3 (e : m = Hi S) (kk : isB x y m) (k : x = y ∨ WNo (od S 7) (od S 8) (S 59) x y) : -3 = brR x y S := ((iF_pos (e ▸ kk)).trans (iF_pos k)).symm
theorem brR_y (e : m = Hi S) (k : isB x y m) (nx : ¬ x = y) (wn : ¬ WNo (od S 7) (od S 8) (S 59) x y) (er : r = (brQ x y S).2.2) : r = brR x y S := er.trans ((iF_pos (e ▸ k)).trans (iF_neg (fun q => q.elim nx wn))).symm
theorem MK.brq (h : EqN K S 62) (bx : BrX K K2 x y) (n0 : 0 ≤ K 59) (n8 : K 59 ≤ 8) : EqN (od K2 7) (brQ x y S).1 8 ∧ EqN (od K2 8) (brQ x y S).2.1 8 ∧ K2 59 = (brQ x y S).2.2 := by
  have c := flL_cong (x := x) (y := y) (EqN.od h (o := 7) (n := 8) (by decide) (by decide)) (EqN.od h (o := 8) (n := 8) (by decide) (by decide)) (K 59).toNat (by omega)
  have q : brQ x y S = flL (od S 7) (od S 8) x y (K 59).toNat := by
    unfold brQ
    rw [h 59 (by decide) (by decide)]
  rw [q]
  exact ⟨bx.1.tr c.1, bx.2.1.tr c.2.1, bx.2.2.1.trans c.2.2.1⟩
theorem MK.br1 (h : EqN K S 62) (k : isB x y (Hi K)) (nx : ¬ x = y) (wn : ¬ WNo (od K 7) (od K 8) (K 59) x y) (bx : BrX K K2 x y) (n0 : 0 ≤ K 59) (n8 : K 59 ≤ 8) : EqN K2 (brS x y S) 62 := by
  refine EqN.to (brS_y (Hi_same (h.le (by decide))) k nx (fun q => wn ((MK.wno h n8).mpr q))) (fun j a b => ?_)
  have c := MK.brq h bx n0 n8
  by_cases h9 : j = 59
  · rw [h9, brT_59]; exact c.2.2
  by_cases hr : j < 7 ∨ 23 ≤ j
  · rw [brT_out hr h9, bx.2.2.2 j hr h9]; exact h j a b
  by_cases hm : j % 2 = 1
  · obtain ⟨i, i0, i1, rfl⟩ : ∃ i : Int, 0 ≤ i ∧ i < 8 ∧ j = 2 * i + 7 := ⟨(j - 7) / 2, by omega, by omega, by omega⟩
    rw [brT_a i0 i1]; exact c.1 i i0 i1
  · obtain ⟨i, i0, i1, rfl⟩ : ∃ i : Int, 0 ≤ i ∧ i < 8 ∧ j = 2 * i + 8 := ⟨(j - 8) / 2, by omega, by omega, by omega⟩
    rw [brT_b i0 i1]; exact c.2.1 i i0 i1
theorem SC.brx (h : SC ff tf wa wb ca cb sa sb wc cc sc S) (w0 : 0 ≤ w) (w1 : w < wc) (wm : WM wa wb w x y) : ¬ x = y ∧ ¬ WNo (od S 7) (od S 8) (S 59) x y := by
  refine ⟨fun e => h.2.2.2.2.2.2.2.2 w w0 w1 ?_, fun q => (SC.wno h).mpr q w w0 w1 wm⟩
  rcases wm with g | g
  · rw [g.1, g.2]; exact e
  · rw [g.1, g.2]; exact e.symm
theorem SC.brq (h : SC ff tf wa wb ca cb sa sb wc cc sc S) (w0 : 0 ≤ w) (w1 : w < wc) (wm : WM wa wb w x y) : wc - 1 = (brQ x y S).2.2 := by
  have ws := h.2.2.2.2
  have e5 := h.c59
  have i := flL_inv (x := x) (y := y) ws.2.2.2.1 wc.toNat (by omega)
  have ec : ((wc.toNat : Nat) : Int) = wc := by omega
  rw [ec] at i
  unfold brQ
  rw [← e5, i.2.2.2.2.1 (by have u := (SC.brx h w0 w1 wm).2; rw [← e5] at u; exact u)]
theorem SC.br1 (h : SC ff tf wa wb ca cb sa sb wc cc sc S) (k : isB x y m) (e : m = Hi S) (w0 : 0 ≤ w) (w1 : w < wc) (wm : WM wa wb w x y) (n8 : wc ≤ 8) (e1 : wa2 = up wa w (wa (wc - 1))) (e2 : wb2 = up wb w (wb (wc - 1))) : SC ff tf wa2 wb2 ca cb sa sb (wc - 1) cc sc (brS x y S) := by
  have ws := h.2.2.2.2
  have e5 := h.c59
  have nx := SC.brx h w0 w1 wm
  have o : ∀ j, j < 7 ∨ 23 ≤ j → ¬ j = 59 → brT x y S j = S j := fun j g g2 => brT_out g g2
  refine SC.to (brS_y e k nx.1 nx.2) ⟨SC.pf h (fun j _ _ => o j (by omega) (by omega)), SC.pt h (fun j _ _ => o j (by omega) (by omega)), SC.ps h (fun j _ _ => o j (by omega) (by omega)) (o 60 (by omega) (by omega)), SC.pc h (fun j _ _ => o j (by omega) (by omega)) (o 61 (by omega) (by omega)), ?_⟩
  have i := flL_inv (x := x) (y := y) ws.2.2.2.1 wc.toNat (by omega)
  have ec : ((wc.toNat : Nat) : Int) = wc := by omega
  rw [ec] at i
  have q : brQ x y S = flL (od S 7) (od S 8) x y wc.toNat := by
    unfold brQ
    rw [← e5]
  have en : wc - 1 = (brQ x y S).2.2 := SC.brq h w0 w1 wm
  rw [← q, ← en] at i
  have ea : EqN (brQ x y S).1 (od (brT x y S) 7) (wc - 1) := fun j a b => (brT_a a (by omega)).symm
  have eb : EqN (brQ x y S).2.1 (od (brT x y S) 8) (wc - 1) := fun j a b => (brT_b a (by omega)).symm
  have v1 : ∀ j, ¬ j = w → wa2 j = wa j ∧ wb2 j = wb j := fun j g => ⟨by rw [e1, up_ne g], by rw [e2, up_ne g]⟩
  have v2 : wa2 w = wa (wc - 1) ∧ wb2 w = wb (wc - 1) := ⟨by rw [e1, up_same], by rw [e2, up_same]⟩
  refine ⟨by rw [brT_59]; exact en, fun u v => ?_, fun a b a0 ab b1 g => ?_, WDi.cg ea eb i.2.2.1, fun a a0 a1 => ?_⟩
  · rw [← WNo.cg ea eb, i.2.1 u v]
    have lhs : WNo wa2 wb2 (wc - 1) u v ↔ ∀ j, 0 ≤ j → j < wc → ¬ j = w → ¬ WM wa wb j u v := by
      refine ⟨fun q j j0 j1 jw g => ?_, fun q j j0 j1 g => ?_⟩
      · by_cases z : j = wc - 1
        · exact q w w0 (by omega) (WM.eq g (by rw [z]; exact v2.1) (by rw [z]; exact v2.2))
        · exact q j j0 (by omega) (WM.eq g (v1 j jw).1 (v1 j jw).2)
      · by_cases z : j = w
        · rw [z] at g
          exact q (wc - 1) (by omega) (by omega) (by omega) (WM.eq g v2.1.symm v2.2.symm)
        · exact q j j0 (by omega) z (WM.eq g (v1 j z).1.symm (v1 j z).2.symm)
    rw [lhs]
    by_cases pr : WP u v x y
    · refine ⟨fun _ j j0 j1 g z => g (WM.to z pr), fun _ j j0 j1 jw z => ?_⟩
      have z2 : WM wa wb j x y := WM.to z pr
      by_cases lt : j < w
      · exact ws.2.2.1 j w j0 lt w1 (WM.two wm z2)
      · exact ws.2.2.1 w j w0 (by omega) j1 (WM.two z2 wm)
    · have l2 : (∀ j, 0 ≤ j → j < wc → ¬ j = w → ¬ WM wa wb j u v) ↔ WNo wa wb wc u v := by
        refine ⟨fun q j j0 j1 g => ?_, fun q j j0 j1 _ => q j j0 j1⟩
        by_cases z : j = w
        · rw [z] at g
          exact pr (WM.pair wm g)
        · exact q j j0 j1 z g
      rw [l2, ws.2.1 u v]
      exact ⟨fun q j j0 j1 _ => q j j0 j1, fun q j j0 j1 g => q j j0 j1 (fun z => pr (WM.pair z g)) g⟩
  · by_cases z : a = w
    · rw [z, v2.1, v2.2] at g
      have g2 : WM wa wb b (wa (wc - 1)) (wb (wc - 1)) := WM.eq g (v1 b (by omega)).1.symm (v1 b (by omega)).2.symm
      exact ws.2.2.1 b (wc - 1) (by omega) (by omega) (by omega) (WM.sym g2)
    · rw [(v1 a z).1, (v1 a z).2] at g
      by_cases zb : b = w
      · rw [zb] at g
        exact ws.2.2.1 a (wc - 1) a0 (by omega) (by omega) (WM.eq g v2.1.symm v2.2.symm)
      · exact ws.2.2.1 a b a0 ab (by omega) (WM.eq g (v1 b zb).1.symm (v1 b zb).2.symm)
  · by_cases z : a = w
    · rw [z, v2.1, v2.2]; exact ws.2.2.2.2 (wc - 1) (by omega) (by omega)
    · rw [(v1 a z).1, (v1 a z).2]; exact ws.2.2.2.2 a a0 (by omega)
/-! flags and the tape's length -/
def EC (kb : Int → Int) (d : Int) (E : Int → Int) : Prop := kb 0 = E 0 ∧ kb 1 = E 1 ∧ d = E 2
def imE (x : Int) (E : Int → Int) : Int → Int := fun i => if i = 0 then ikp 0 x (E 0) else if i = 1 then ikp 1 x (E 1) else E i
noncomputable def fdE (E : Int → Int) : Int → Int := iF (E 2 ≤ 380) (up E 2 (E 2 + 20)) E
noncomputable def enE (x : Int) (E : Int → Int) : Int → Int := iF (0 ≤ x ∧ x ≤ E 2) (up E 2 x) E
noncomputable def fdR (E : Int → Int) : Int := iF (E 2 ≤ 380) (E 2 + 20) (-1)
noncomputable def enR (x : Int) (E : Int → Int) : Int := iF (0 ≤ x ∧ x ≤ E 2) x (-1)
theorem EC.to {E2 : Int → Int} (e : E2 = E) (h : EC kb d E) : EC kb d E2 := e ▸ h
theorem EC.img (h : EC kb d E) (e : KbE kb2 kb x) : EC kb2 d (imE x E) := by
  refine ⟨?_, ?_, ?_⟩
  · rw [e.1, h.1]; rfl
  · rw [e.2, h.2.1]; rfl
  · exact h.2.2
theorem EC.ln (h : EC kb d E) : EC kb d2 (up E 2 d2) := ⟨h.1.trans (up_ne (by decide)).symm, h.2.1.trans (up_ne (by decide)).symm, (up_same _ _ _).symm⟩
theorem EC.fd0 (h : EC kb d E) (k : 380 < d) : EC kb d (fdE E) := EC.to (iF_neg (by have := h.2.2; omega)) h
theorem EC.fd1 (h : EC kb d E) (k : d ≤ 380) (e : d2 = d + 20) : EC kb d2 (fdE E) := by
  refine EC.to (iF_pos (by have := h.2.2; omega)) ?_
  rw [← h.2.2, ← e]; exact EC.ln h
theorem EC.enl (h : EC kb d E) (k : x < 0) : EC kb d (enE x E) := EC.to (iF_neg (by omega)) h
theorem EC.enh (h : EC kb d E) (k : d < x) : EC kb d (enE x E) := EC.to (iF_neg (by have := h.2.2; omega)) h
theorem EC.en1 (h : EC kb d E) (k0 : 0 ≤ x) (k : x ≤ d) : EC kb x (enE x E) := EC.to (iF_pos ⟨k0, by have := h.2.2; omega⟩) (EC.ln h)
theorem EC.rf0 (h : EC kb d E) (k : 380 < d) : -1 = fdR E := (iF_neg (by have := h.2.2; omega)).symm
theorem EC.rf1 (h : EC kb d E) (k : d ≤ 380) (e : r = d + 20) : r = fdR E := by
  unfold fdR
  rw [iF_pos (by have := h.2.2; omega), e, h.2.2]
theorem EC.rel (k : x < 0) : -1 = enR x E := (iF_neg (by omega)).symm
theorem EC.reh (h : EC kb d E) (k : d < x) : -1 = enR x E := (iF_neg (by have := h.2.2; omega)).symm
theorem EC.re1 (h : EC kb d E) (k0 : 0 ≤ x) (k : x ≤ d) : x = enR x E := (iF_pos ⟨k0, by have := h.2.2; omega⟩).symm
theorem EC.bk (h : EC kb d E) (e : r = bkr x (kb 0) (kb 1)) : r = bkr x (E 0) (E 1) := by rw [← h.1, ← h.2.1]; exact e
/-! the tape -/
def TqC (t T : Int → Int) : Prop := EqN t T 400
def TqM (t T : Int → Int) : Prop := ∀ j, 0 ≤ j → j < 400 → t j = sgb (T j) ∧ 0 ≤ T j ∧ T j ≤ 255
noncomputable def fdU (a b c d e n : Int) (T : Int → Int) : Int → Int := iF (n ≤ 380) (fun j => if n ≤ j ∧ j < n + 20 then fdT a b c d e (j - n) else T j) T
theorem fdU_n {a b c e : Int} (en : p = n) (k : 380 < p) : fdU a b c d e n T = T := iF_neg (by omega)
theorem fdU_y {a b c e : Int} (en : p = n) (k : p ≤ 380) : fdU a b c d e n T = fun j => if n ≤ j ∧ j < n + 20 then fdT a b c d e (j - n) else T j := iF_pos (by omega)
theorem TqC.fd1 {a b c e : Int} (h : TqC t T) (en : p = n) (k : p ≤ 380) (q : FdE t2 t p a b c d e) : TqC t2 (fdU a b c d e n T) := fun j x y => by
  rw [fdU_y en k, q j, en]
  dsimp only
  by_cases g : n ≤ j ∧ j < n + 20
  · rw [if_pos g, if_pos g]
  · rw [if_neg g, if_neg g]; exact h j x y
theorem TqM.fd1 {a b c e : Int} (h : TqM t T) (en : p = n) (k : p ≤ 380) (q : FdS t2 t p a b c d e 20) : TqM t2 (fdU a b c d e n T) := fun j x y => by
  rw [fdU_y en k, q j, en]
  dsimp only
  by_cases g : n ≤ j ∧ j < n + 20
  · rw [if_pos g, if_pos g]; exact ⟨rfl, fdT_rng⟩
  · rw [if_neg g, if_neg g]; exact h j x y
theorem TqC.to {T2 : Int → Int} (e : T2 = T) (h : TqC t T) : TqC t T2 := e ▸ h
theorem TqM.to {T2 : Int → Int} (e : T2 = T) (h : TqM t T) : TqM t T2 := e ▸ h
theorem TqC.k (h : TqC t T) (e : d = n) : rwk t d = rwk T n := by
  rw [e]
  exact rwk_same (fun j a b => by rw [h j a (by omega)])
theorem TqM.k (h : TqM t T) (e : d = n) : rwk t d = rwk T n := by
  rw [e]
  refine rwk_same (fun j a b => ?_)
  have u := h j a (by omega)
  rw [u.1, sb_col u.2.1 u.2.2]
  exact ⟨fun q => ⟨u.2.1, q⟩, fun q => q.2⟩
theorem TqC.c (h : TqC t T) (e : d = n) (g : rwk t d = true) (j : Int) : cnt t j d.toNat = cnt T j n.toNat := by
  have u := (rwk_in g).1
  rw [← e]
  exact cnt_same (fun i a b => h i a (by omega))
theorem TqM.c (h : TqM t T) (e : d = n) (g : rwk t d = true) (j : Int) : cnt t j d.toNat = cnt T j n.toNat := by
  have u := rwk_in g
  rw [← e]
  refine cnt_same (fun i a b => ?_)
  have v := h i a (by omega)
  have q := okT_in u.2 i a b
  rw [v.1] at q
  have z := (sb_col v.2.1 v.2.2).mp q
  rw [v.1, sb_eq z]
/-! a row -/
def RwK (K K1 t : Int → Int) (n : Int) : Prop := (∀ j, 5 ≤ j → K1 j = K j) ∧ Ct5 K1 t n
def rwB (T : Int → Int) (n : Int) (S : Int → Int) : Int → Int := fun j => if 0 ≤ j ∧ j < 5 then cnt T j n.toNat else S j
noncomputable def rwS (T : Int → Int) (n : Int) (S : Int → Int) : Int → Int := iF (rwk T n = true) (nbS (rwB T n S)) S
theorem rwS_n (e : rwk t d = rwk T n) (k : rwk t d = false) : rwS T n S = S := iF_neg (fun q => by rw [← e, k] at q; exact absurd q (by decide))
theorem SC.rw1 (h : SC ff tf wa wb ca cb sa sb wc cc sc S) (tp : TqC t T) (en : d = n) (k : rwk t d = true) (c : Ct5 ff2 t d) (n0 : 0 ≤ sc) (n12 : sc ≤ 12) (dd : dwL sa sb p sc.toNat = (sa2, sb2, sc2)) (hp : p = bsum ff2) : SC ff2 tf wa wb ca cb sa2 sb2 0 0 sc2 (rwS T n S) := by
  refine SC.to (iF_pos ((TqC.k tp en).symm.trans k)) (SC.nb h (fun j a b => ?_) (fun j a b => ?_) n0 n12 dd hp)
  · unfold rwB
    rw [if_pos ⟨a, b⟩, c j a (by omega)]; exact TqC.c tp en k j
  · unfold rwB
    rw [if_neg (by omega)]
theorem MK.rw1 (h : EqN K S 62) (tp : TqM t T) (en : d = n) (k : rwk t d = true) (q : RwK K K1 t d) (nb : NBS K1 K2) (nx : NBX K1 K2) (s0 : 0 ≤ K 60) (s12 : K 60 ≤ 12) : EqN K2 (rwS T n S) 62 := by
  have e6 : K1 60 = K 60 := q.1 60 (by decide)
  refine EqN.to (iF_pos ((TqM.k tp en).symm.trans k)) (MK.nb (fun j a b => ?_) nb nx (by rw [e6]; exact s0) (by rw [e6]; exact s12))
  unfold rwB
  by_cases g : j < 5
  · rw [if_pos ⟨a, g⟩, q.2 j a (by omega)]; exact TqM.c tp en k j
  · rw [if_neg (by omega), q.1 j (by omega)]; exact h j a b
/-! images -/
def sh4 (im : Int → Int) : Int → Int := fun j => im (4870 + j)
theorem WS.cp (h : WS wa wb wc S) (a : EqN wa2 wa 8) (b : EqN wb2 wb 8) (n8 : wc ≤ 8) : WS wa2 wb2 wc S := by
  have a2 : EqN wa2 wa wc := a.le n8
  have b2 : EqN wb2 wb wc := b.le n8
  exact ⟨h.1, fun x y => (WNo.cg a2 b2).trans (h.2.1 x y), WDi.cg a2.sy b2.sy h.2.2.1, h.2.2.2.1, fun k h0 h1 => by rw [a2 k h0 h1, b2 k h0 h1]; exact h.2.2.2.2 k h0 h1⟩
theorem SC.cp (h : SC ff tf wa wb ca cb sa sb wc cc sc S) (n8 : wc ≤ 8) (cf : EqN ff2 ff 5) (ct : EqN tf2 tf 2) (cwa : EqN wa2 wa 8) (cwb : EqN wb2 wb 8) (cca : EqN ca2 ca 6) (ccb : EqN cb2 cb 6) (csa : EqN sa2 sa 12) (csb : EqN sb2 sb 12) : SC ff2 tf2 wa2 wb2 ca2 cb2 sa2 sb2 wc cc sc S :=
  ⟨cf.tr h.1, ct.tr h.2.1, ⟨csa.tr h.2.2.1.1, csb.tr h.2.2.1.2.1, h.2.2.1.2.2⟩, ⟨cca.tr h.2.2.2.1.1, ccb.tr h.2.2.2.1.2.1, h.2.2.2.1.2.2⟩, WS.cp h.2.2.2.2 cwa cwb n8⟩
noncomputable def bkS (x : Int) (E S S0 S1 : Int → Int) : Int → Int := iF (bkr x (E 0) (E 1) = 0) (iF (x = 0) S0 S1) S
theorem bkS_n (ec : EC kb d E) (e : r = bkr x (kb 0) (kb 1)) (hr : r < 0) : bkS x E S S0 S1 = S := iF_neg (by have := EC.bk ec e; omega)
theorem bkS_0 (ec : EC kb d E) (e : 0 = bkr x (kb 0) (kb 1)) (ex : x = 0) : bkS x E S S0 S1 = S0 := (iF_pos (EC.bk ec e).symm).trans (iF_pos ex)
theorem bkS_1 (ec : EC kb d E) (e : 0 = bkr x (kb 0) (kb 1)) (ex : ¬ x = 0) : bkS x E S S0 S1 = S1 := (iF_pos (EC.bk ec e).symm).trans (iF_neg ex)
/-- the reference's kept ahead of back(x) and behind it -/
def BkE (K2 K im hi : Int → Int) (x : Int) : Prop := (bkr x (hi 0) (hi 1) = 0 → ∀ j, 0 ≤ j → j < 4870 → K2 j = im (4870 * x + j)) ∧ (¬ bkr x (hi 0) (hi 1) = 0 → K2 = K)
theorem BkE.out (e : r = bkr x (hi 0) (hi 1)) (hr : ¬ r = 0) : BkE K K im hi x := ⟨fun q => absurd (e.trans q) hr, fun _ => rfl⟩
theorem BkE.yes (e : 0 = bkr x (hi 0) (hi 1)) (c : Cbk K2 im x n) (hn : 4870 ≤ n) : BkE K2 K im hi x := ⟨fun _ j a b => c j a (by omega), fun q => absurd e.symm q⟩
theorem bkr_in {a b : Int} (e : bkr x a b = 0) : x = 0 ∨ x = 1 := by
  unfold bkr at e
  by_cases h : 0 ≤ x ∧ x ≤ 1
  · omega
  · rw [if_neg h] at e; omega
theorem MK.ba (ec : EC hi d E) (h : EqN K S 62) (h0 : EqN im S0 62) (h1 : EqN (sh4 im) S1 62) (e : BkE K2 K im hi x) : EqN K2 (bkS x E S S0 S1) 62 := by
  have u : bkr x (hi 0) (hi 1) = bkr x (E 0) (E 1) := EC.bk ec rfl
  by_cases z : bkr x (hi 0) (hi 1) = 0
  · have w := e.1 z
    rcases bkr_in z with i | i
    · refine EqN.to ((iF_pos (u.symm.trans z)).trans (iF_pos i)) (fun j a b => ?_)
      rw [w j a (by omega), i, show (4870 * 0 + j : Int) = j by omega]; exact h0 j a b
    · refine EqN.to ((iF_pos (u.symm.trans z)).trans (iF_neg (by omega))) (fun j a b => ?_)
      rw [w j a (by omega), i, show (4870 * 1 + j : Int) = 4870 + j by omega]; exact h1 j a b
  · refine EqN.to (iF_neg (fun q => z (u.trans q))) ?_
    rw [e.2 z]; exact h
/-- the reference's images ahead of image(x) and behind it -/
def ImE (m2 m K : Int → Int) (x : Int) : Prop := (∀ j, 0 ≤ j → j < 4870 → m2 j = if x = 0 then K j else m j) ∧ ∀ j, 0 ≤ j → j < 4870 → m2 (4870 + j) = if x = 1 then K j else m (4870 + j)
theorem ImE.out (a : ¬ x = 0) (b : ¬ x = 1) : ImE im im K x := by
  refine ⟨fun j _ _ => ?_, fun j _ _ => ?_⟩
  · rw [if_neg a]
  · rw [if_neg b]
theorem ImE.put (c : Cpy im im2 K x n) (hn : 4870 ≤ n) (h0 : 0 ≤ x) (h1 : x ≤ 1) : ImE im2 im K x := by
  refine ⟨fun j a b => ?_, fun j a b => ?_⟩
  · by_cases e : x = 0
    · rw [if_pos e]; have u := c.1 j a (by omega); rw [e, show (4870 * 0 + j : Int) = j by omega] at u; exact u
    · rw [if_neg e]; exact c.2 j (Or.inl (by omega))
  · by_cases e : x = 1
    · rw [if_pos e]; have u := c.1 j a (by omega); rw [e, show (4870 * 1 + j : Int) = 4870 + j by omega] at u; exact u
    · rw [if_neg e]; exact c.2 _ (Or.inr (by omega))
theorem MK.im0 (h : EqN K S 62) (h0 : EqN im S0 62) (e : ImE im2 im K x) : EqN im2 (iF (x = 0) S S0) 62 := by
  by_cases z : x = 0
  · refine EqN.to (iF_pos z) (fun j a b => ?_)
    rw [e.1 j a (by omega), if_pos z]; exact h j a b
  · refine EqN.to (iF_neg z) (fun j a b => ?_)
    rw [e.1 j a (by omega), if_neg z]; exact h0 j a b
theorem MK.im1 (h : EqN K S 62) (h0 : EqN (sh4 im) S1 62) (e : ImE im2 im K x) : EqN (sh4 im2) (iF (x = 1) S S1) 62 := by
  by_cases z : x = 1
  · refine EqN.to (iF_pos z) (fun j a b => ?_)
    show im2 (4870 + j) = _
    rw [e.2 j a (by omega), if_pos z]; exact h j a b
  · refine EqN.to (iF_neg z) (fun j a b => ?_)
    show im2 (4870 + j) = _
    rw [e.2 j a (by omega), if_neg z]; exact h0 j a b
end SWs
/-! what each call does -/
def eN (f : (Int → Int) → Int → Int) (aa : jAA) : jAA := (f aa.1, aa.2)
noncomputable def eRw (aa : jAA) : jAA := (rwS aa.2.2.2.1 (aa.2.2.2.2 2) aa.1, aa.2.1, aa.2.2.1, aa.2.2.2.1, up aa.2.2.2.2 2 0)
def eLw (aa : jAA) : jAA := (aa.1, aa.2.1, aa.2.2.1, aa.2.2.2.1, up aa.2.2.2.2 2 0)
noncomputable def eFd (a b c d e : Int) (aa : jAA) : jAA := (aa.1, aa.2.1, aa.2.2.1, fdU a b c d e (aa.2.2.2.2 2) aa.2.2.2.1, fdE aa.2.2.2.2)
noncomputable def eEn (x : Int) (aa : jAA) : jAA := (aa.1, aa.2.1, aa.2.2.1, aa.2.2.2.1, enE x aa.2.2.2.2)
noncomputable def eIm (x : Int) (aa : jAA) : jAA := (aa.1, iF (x = 0) aa.1 aa.2.1, iF (x = 1) aa.1 aa.2.2.1, aa.2.2.2.1, imE x aa.2.2.2.2)
noncomputable def eBk (x : Int) (aa : jAA) : jAA := (bkS x aa.2.2.2.2 aa.1 aa.2.1 aa.2.2.1, aa.2)
