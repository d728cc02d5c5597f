/-! the reference's steps: es x is the list of house x -/
def EnR (Wl : Int → Int → Prop) (h t v : Int) (sm st tk sm2 st2 tk2 : Int → Int) : Prop := ∀ es, RnC es (sm h) (rwX st h) (rwX tk h) → RnC (iF (t = h) es (es ++ sxS Wl h t v)) (sm2 h) (rwX st2 h) (rwX tk2 h)
/-- the walls that are kept -/
abbrev WlK (K : Int → Int) : Int → Int → Prop := WlP (od K 7) (od K 8) (K 59)
def RnP (Rv : VS) (K : Int → Int) (h l r : Int) (sm st tk : Int → Int) : Prop := RnC (sxO K (WlK K) (vQ Rv (itB K h.toNat) (bsum K) (K 6)) (itB K h.toNat) h (bsum K) l.toNat ++ sxI K (WlK K) (vQ Rv (itB K h.toNat) (bsum K) (K 6)) (itB K h.toNat) h l (r - l - 1).toNat) (sm h) (rwX st h) (rwX tk h)
/-- the list of a house's steps, by what is kept and by the law -/
noncomputable def lsK (K : Int → Int) (Rv : VS) (x : Int) : jES := sxL K (WlK K) (vQ Rv (itB K x.toNat) (bsum K) (K 6)) (itB K x.toNat) x (bsum K) (K 5)
theorem swq_EqOn {p a b : Int} {B C : Int → Int} (q : EqOn p B C) (a0 : 0 ≤ a) (a1 : a < p) (b0 : 0 ≤ b) (b1 : b < p) : EqOn p (swp B a b) (swp C a b) := fun j h0 h1 => by
  unfold swp
  split
  · exact q a a0 a1
  · split
    · exact q b b0 b1
    · exact q j h0 h1
section Rns
variable {es : jES} {ES : Int → jES} {g t g2 t2 sm st tk sm2 st2 tk2 K B C co cd cf cm : Int → Int} {Wl : Int → Int → Prop} {Rv : VS} {d y v h x z hm pm a b r l i e : Int}
theorem RnC_0 (e : d = 0) : RnC [] d g t := ⟨e, fun i y t h => by cases h⟩
theorem RnC.cg (q : RnC es d g t) (a : ∀ j, 0 ≤ j → j < d → g2 j = g j) (b : ∀ j, 0 ≤ j → j < d → t2 j = t j) : RnC es d g2 t2 := ⟨q.1, fun i y v k => by
  have l : i < es.length := (List.getElem?_eq_some_iff.mp k).1
  have e0 := q.1
  rw [a i (by omega) (by omega), b i (by omega) (by omega)]
  exact q.2 i y v k⟩
theorem RnC.add (q : RnC es d g t) (a : ∀ j, 0 ≤ j → j < d → g2 j = g j) (b : ∀ j, 0 ≤ j → j < d → t2 j = t j) (e1 : g2 d = y) (e2 : t2 d = v) : RnC (es ++ [(y, v)]) (d + 1) g2 t2 := by
  have e0 := q.1
  refine ⟨by rw [List.length_append, e0]; rfl, fun i y2 v2 k => ?_⟩
  by_cases l : i < es.length
  · rw [List.getElem?_append_left l] at k
    exact (q.cg a b).2 i y2 v2 k
  · rw [List.getElem?_append_right (by omega)] at k
    by_cases z : i = es.length
    · rw [z, Nat.sub_self] at k
      cases k
      rw [z, ← e0]
      exact ⟨e1, e2⟩
    · have l2 : i - es.length < [(y, v)].length := (List.getElem?_eq_some_iff.mp k).1
      have l3 : [(y, v)].length = 1 := rfl
      omega
theorem EnR.s1 {t v : Int} (e : t = h) : EnR Wl h t v sm st tk sm st tk := fun es q => by rw [iF_pos e]; exact q
theorem EnR.wl {t v : Int} (n : ¬ t = h) (c : Wl h t) : EnR Wl h t v sm st tk sm st tk := fun es q => by rw [iF_neg n, sxS_w c, List.append_nil]; exact q
theorem EnR.ad {t v : Int} (n : ¬ t = h) (v0 : 1 ≤ v) (t0 : 0 ≤ t) (nw : ¬ Wl h t) (ed : sm h = d) (d0 : 0 ≤ d) (ex : x = 22 * h + d) (ez : z = 22 * h + d) (e1 : st2 = up st x t) (e2 : tk2 = up tk z v) (e3 : sm2 = up sm h e) (ee : e = d + 1) : EnR Wl h t v sm st tk sm2 st2 tk2 := fun es q => by
  rw [iF_neg n, sxS_y v0 t0 nw, e3, up_same, ee]
  rw [ed] at q
  refine q.add (fun j a b => ?_) (fun j a b => ?_) ?_ ?_
  · show st2 (22 * h + j) = st (22 * h + j)
    rw [e1, up_ne (by omega)]
  · show tk2 (22 * h + j) = tk (22 * h + j)
    rw [e2, up_ne (by omega)]
  · show st2 (22 * h + d) = t
    rw [e1, ← ex, up_same]
  · show tk2 (22 * h + d) = v
    rw [e2, ← ez, up_same]
/-- the houses below are as they were -/
theorem RnY.upd (q : RnY ES sm st tk h) (k : LkI K st tk sm cf cm b hm) (hb : h ≤ b) (h0 : 0 ≤ h) {t v : Int} (d0 : 0 ≤ d) (ex : x = 22 * h + d) (ez : z = 22 * h + d) (e1 : st2 = up st x t) (e2 : tk2 = up tk z v) (e3 : sm2 = up sm h e) : RnY ES sm2 st2 tk2 h := fun y y0 y1 => by
  have u := k.deg y0 (show y < b by omega) rfl
  have p := q y y0 y1
  rw [e3, up_ne (by omega)]
  refine p.cg (fun j a b => ?_) (fun j a b => ?_)
  · show st2 (22 * y + j) = st (22 * y + j)
    rw [e1, up_ne (by omega)]
  · show tk2 (22 * y + j) = tk (22 * y + j)
    rw [e2, up_ne (by omega)]
theorem RnY.reset (q : RnY ES sm st tk h) (e3 : sm2 = up sm h v) : RnY ES sm2 st tk h := fun y y0 y1 => by
  rw [e3, up_ne (by omega)]
  exact q y y0 y1
theorem RnY_0 : RnY ES sm st tk 0 := fun y y0 y1 => by omega
theorem RnY.more (q : RnY ES sm st tk h) (p : RnC (ES h) (sm h) (rwX st h) (rwX tk h)) : RnY ES sm st tk (h + 1) := fun y y0 y1 => by
  by_cases k : y = h
  · rw [k]; exact p
  · exact q y y0 (by omega)
theorem RnY.le (q : RnY ES sm st tk h) (k : y = h) : RnY ES sm st tk y := by rw [k]; exact q
/-! a house's list as it grows -/
theorem RnP_0 (e : sm = up g h 0) : RnP Rv K h 0 1 sm st tk := by
  show RnC ([] ++ []) (sm h) (rwX st h) (rwX tk h)
  exact RnC_0 (by rw [e, up_same])
theorem RnP.next (l0 : 0 ≤ l) (q : RnP Rv K h l r sm st tk) (ep : pm = bsum K) (e : r = pm) (e2 : z = l + 1 + 1) : RnP Rv K h (l + 1) z sm st tk := by
  unfold RnP
  rw [sxO_step l0, e2, show (l + 1 + 1 - (l + 1) - 1).toNat = 0 by omega]
  have u := q
  unfold RnP at u
  rw [e, ep] at u
  show RnC ((_ ++ _) ++ []) _ _ _
  rw [List.append_nil]
  exact u
theorem RnP.skip (q : RnP Rv K h l r sm st tk) (lr : l < r) (c : itB K h.toNat l = itB K h.toNat r ∨ vQ Rv (itB K h.toNat) (bsum K) (K 6) l r ≤ 0) (e2 : z = r + 1) : RnP Rv K h l z sm st tk := by
  unfold RnP
  rw [e2, sxI_step lr]
  by_cases k : itB K h.toNat l = itB K h.toNat r
  · rw [iF_pos k, List.append_nil]; exact q
  · rw [iF_neg k, sxS_t (c.resolve_left k), List.append_nil]; exact q
theorem RnP.add {t : Int} (q : RnP Rv K h l r sm st tk) (lr : l < r) (ne : ¬ itB K h.toNat l = itB K h.toNat r) (v : vQ Rv (itB K h.toNat) (bsum K) (K 6) l r = t) (o : OrR K (swp (itB K h.toNat) l r) y) (n : ¬ y = h) (a : EnR (WlK K) h y t sm st tk sm2 st2 tk2) (e2 : z = r + 1) : RnP Rv K h l z sm2 st2 tk2 := by
  have u := a _ q
  rw [iF_neg n] at u
  unfold RnP
  rw [e2, sxI_step lr, iF_neg ne, v, ← the_of o OrR.one, ← List.append_assoc]
  exact u
theorem RnP.all (q : RnP Rv K h l r sm st tk) (e : l = bsum K) (er : r = l + 1) : RnC (sxO K (WlK K) (vQ Rv (itB K h.toNat) (bsum K) (K 6)) (itB K h.toNat) h (bsum K) (bsum K).toNat) (sm h) (rwX st h) (rwX tk h) := by
  unfold RnP at q
  rw [er, e, show (bsum K + 1 - bsum K - 1).toNat = 0 by omega] at q
  have u : RnC (sxO K (WlK K) (vQ Rv (itB K h.toNat) (bsum K) (K 6)) (itB K h.toNat) h (bsum K) (bsum K).toNat ++ []) (sm h) (rwX st h) (rwX tk h) := q
  rw [List.append_nil] at u
  exact u
theorem RnP.turn (q : RnP Rv K h l r sm st tk) (e : l = bsum K) (er : r = l + 1) (c : K 5 = 1) (o : OrR K (tnB (itB K h.toNat) (bsum K)) y) (a : EnR (WlK K) h y 1 sm st tk sm2 st2 tk2) : RnC (lsK K Rv h) (sm2 h) (rwX st2 h) (rwX tk2 h) := by
  have u := a _ (q.all e er)
  unfold lsK sxL sxT
  rw [← the_of o OrR.one]
  by_cases k : y = h
  · rw [iF_pos k] at u
    rw [iF_neg (fun w => w.2 k), List.append_nil]
    exact u
  · rw [iF_neg k] at u
    rw [iF_pos ⟨c, k⟩]
    exact u
theorem RnP.stay (q : RnP Rv K h l r sm st tk) (e : l = bsum K) (er : r = l + 1) (c : ¬ K 5 = 1 ∨ OrR K (tnB (itB K h.toNat) (bsum K)) h) : RnC (lsK K Rv h) (sm h) (rwX st h) (rwX tk h) := by
  unfold lsK sxL sxT
  rw [iF_neg (fun k => c.elim (fun z => z k.1) (fun z => k.2 (the_of z OrR.one).symm)), List.append_nil]
  exact q.all e er
theorem OrR.p0 (hf : okF K) (p : bsum K = 0) (x0 : 0 ≤ x) (x1 : x < Hi K) : OrR K C x := ⟨by omega, x1, fun _ j a b => by omega, fun t t0 t1 _ => by
  unfold Hi at x1 t1
  have u := it_one hf (k := x.toNat) (m := t.toNat) (by omega) (by omega) (fun j a b => by omega)
  omega⟩
/-- the house of an exchange; it is another one -/
theorem rsw_of (hT : HouT co cd K hm) (hf : okF K) (hme : hm = Hi K) (h0 : 0 ≤ h) (h1 : h < hm) (q : EqOn (bsum K) B (itB K h.toNat)) (a0 : 0 ≤ a) (ab : a < b) (b1 : b < pm) (ep : pm = bsum K) (eC : C = swp B a b) (ex : cod5 C pm.toNat = x) (r0 : -1 ≤ r) (r1 : r < hm) (hr : HoR cd hm x r) : OrR K (swp (itB K h.toNat) a b) r := by
  have hB := it_okB hf hme h1
  exact OrR.ref hT hf hme ep (by rw [eC, ep]; exact swq_EqOn q a0 (by omega) (by omega) (by omega)) (swp_okB hB a0 (by omega) (by omega) (by omega)) ex r0 r1 hr
theorem rns_of (hf : okF K) (h0 : 0 ≤ h) (o : OrR K (swp (itB K h.toNat) a b) r) (a0 : 0 ≤ a) (ab : a < b) (b1 : b < bsum K) (ne : ¬ itB K h.toNat a = itB K h.toNat b) : ¬ r = h := fun e => by
  subst e
  have u := o.2.2.1 h0 a a0 (by omega)
  rw [swp_a (by omega)] at u
  exact ne u.symm
theorem rtn_of (hT : HouT co cd K hm) (hf : okF K) (hme : hm = Hi K) (h0 : 0 ≤ h) (h1 : h < hm) (ep : pm = bsum K) (eC : ∀ j, 0 ≤ j → j < pm → C j = itB K h.toNat ((j + 1) % pm)) (ex : cod5 C pm.toNat = x) (r0 : -1 ≤ r) (r1 : r < hm) (hr : HoR cd hm x r) : OrR K (tnB (itB K h.toNat) (bsum K)) r := by
  have hB := it_okB hf hme h1
  refine OrR.ref hT hf hme ep (fun j j0 j1 => ?_) (tnB_okB hB) ex r0 r1 hr
  rw [eC j j0 j1]
  unfold tnB
  by_cases k : j = bsum K - 1
  · rw [if_pos k, show j + 1 = pm by omega, Int.emod_self]
  · rw [if_neg k, Int.emod_eq_of_lt (by omega) (by omega)]
/-- asking says that it is not let, or what it takes -/
theorem VdX.no {p tl tt : Int} (q : VdX Rv B p (K 6) l r tl tt) (ep : p = bsum K) (eB : B = itB K h.toNat) (n : ¬ tl = 1) : itB K h.toNat l = itB K h.toNat r ∨ vQ Rv (itB K h.toNat) (bsum K) (K 6) l r ≤ 0 := Or.inr (by
  have u := q.2 n
  rw [ep, eB] at u
  omega)
theorem VdX.yes {p tl tt : Int} (q : VdX Rv B p (K 6) l r tl tt) (ep : p = bsum K) (eB : B = itB K h.toNat) (n : tl = 1) : vQ Rv (itB K h.toNat) (bsum K) (K 6) l r = tt := by
  have u := q.1 n
  rw [ep, eB] at u
  exact u
end Rns
/-- es is what the law in force, what is kept tell -/
def LsE (es : Int → jES) (K : Int → Int) (Rv : VS) (m : Int) : Prop := ∀ x, 0 ≤ x → x < m → es x = lsK K Rv x
/-! what step() answers -/
def spF (es : Int → jES) (m x i v : Int) : Int := if 0 ≤ x ∧ x < m then (if i = -1 then ((es x).length : Int) else if 0 ≤ i ∧ i < (es x).length ∧ 0 ≤ v ∧ v ≤ 1 then (if v = 0 then ((es x).getD i.toNat (0, 0)).1 else ((es x).getD i.toNat (0, 0)).2) else -1) else -1
section Sps
variable {es : Int → jES} {m x i v d y t r : Int}
theorem spF_n (h : ¬ (0 ≤ x ∧ x < m)) : -1 = spF es m x i v := (if_neg h).symm
theorem spF_l (x0 : 0 ≤ x) (x1 : x < m) (e : i = -1) (d : r = (es x).length) : r = spF es m x i v := by
  unfold spF
  rw [if_pos ⟨x0, x1⟩, if_pos e]; exact d
theorem spF_o (x0 : 0 ≤ x) (x1 : x < m) (e : ¬ i = -1) (d : r = (es x).length) (o : i < 0 ∨ r ≤ i ∨ v < 0 ∨ 1 < v) : -1 = spF es m x i v := by
  unfold spF
  rw [if_pos ⟨x0, x1⟩, if_neg e, if_neg (by omega)]
theorem spF_t (x0 : 0 ≤ x) (x1 : x < m) (i0 : 0 ≤ i) (g : (es x)[i.toNat]? = some (y, t)) (v0 : v = 0) : y = spF es m x i v := by
  have l : i.toNat < (es x).length := (List.getElem?_eq_some_iff.mp g).1
  unfold spF
  rw [if_pos ⟨x0, x1⟩, if_neg (by omega), if_pos ⟨i0, by omega, by omega, by omega⟩, if_pos v0, List.getD_eq_getElem?_getD, g]
  rfl
theorem spF_k (x0 : 0 ≤ x) (x1 : x < m) (i0 : 0 ≤ i) (g : (es x)[i.toNat]? = some (y, t)) (v1 : v = 1) : t = spF es m x i v := by
  have l : i.toNat < (es x).length := (List.getElem?_eq_some_iff.mp g).1
  unfold spF
  rw [if_pos ⟨x0, x1⟩, if_neg (by omega), if_pos ⟨i0, by omega, by omega, by omega⟩, if_neg (by omega), List.getD_eq_getElem?_getD, g]
  rfl
end Sps
