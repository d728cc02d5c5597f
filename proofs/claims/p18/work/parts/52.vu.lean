/-! the steps from a house, in their order -/
abbrev jES : Type := List (Int × Int)
/-- is there a wall -/
def WlP (wa wb : Int → Int) (wc x y : Int) : Prop := ¬ WNo wa wb wc x y
/-- a step to y that takes t: if there is one -/
noncomputable def sxS (Wl : Int → Int → Prop) (x y t : Int) : jES := iF (1 ≤ t ∧ 0 ≤ y ∧ ¬ Wl x y) [(y, t)] []
/-- by exchanges of place l with the n places behind it -/
noncomputable def sxI (S : Int → Int) (Wl : Int → Int → Prop) (V : Int → Int → Int) (B : Int → Int) (x l : Int) : Nat → jES
  | 0 => []
  | n + 1 => sxI S Wl V B x l n ++ iF (B l = B (l + 1 + n)) [] (sxS Wl x (the (OrR S (swp B l (l + 1 + n)))) (V l (l + 1 + n)))
/-- of the first n places -/
noncomputable def sxO (S : Int → Int) (Wl : Int → Int → Prop) (V : Int → Int → Int) (B : Int → Int) (x p : Int) : Nat → jES
  | 0 => []
  | n + 1 => sxO S Wl V B x p n ++ sxI S Wl V B x n (p - n - 1).toNat
noncomputable def sxT (S : Int → Int) (Wl : Int → Int → Prop) (B : Int → Int) (x p tn : Int) : jES := iF (tn = 1 ∧ ¬ the (OrR S (tnB B p)) = x) (sxS Wl x (the (OrR S (tnB B p))) 1) []
noncomputable def sxL (S : Int → Int) (Wl : Int → Int → Prop) (V : Int → Int → Int) (B : Int → Int) (x p tn : Int) : jES := sxO S Wl V B x p p.toNat ++ sxT S Wl B x p tn
/-- d entries are told by es -/
def EnC (es : jES) (d : Int) (g : Int → Int) : Prop := d = es.length ∧ ∀ (i : Nat) (y t : Int), es[i]? = some (y, t) → zand (g i) 2047 = y ∧ zshr (g i) 11 = t
section Ens
variable {S B g g2 : Int → Int} {Wl : Int → Int → Prop} {V V2 : Int → Int → Int} {x y t d l p tn i : Int} {es : jES}
theorem EnC_0 (e : d = 0) : EnC [] d g := ⟨e, fun i y t h => by cases h⟩
theorem EnC.cg (h : EnC es d g) (e : ∀ j, 0 ≤ j → j < d → g2 j = g j) : EnC es d g2 := ⟨h.1, fun i y t q => by
  have l : i < es.length := (List.getElem?_eq_some_iff.mp q).1
  have e0 := h.1
  rw [e i (by omega) (by omega)]
  exact h.2 i y t q⟩
theorem EnC.add (h : EnC es d g) (e : ∀ j, 0 ≤ j → j < d → g2 j = g j) (e1 : zand (g2 d) 2047 = y) (e2 : zshr (g2 d) 11 = t) : EnC (es ++ [(y, t)]) (d + 1) g2 := by
  have e0 := h.1
  refine ⟨by rw [List.length_append, e0]; rfl, fun i a b q => ?_⟩
  by_cases l : i < es.length
  · rw [List.getElem?_append_left l] at q
    exact (h.cg e).2 i a b q
  · rw [List.getElem?_append_right (by omega)] at q
    by_cases z : i = es.length
    · rw [z, Nat.sub_self] at q
      cases q
      rw [z, ← e0]
      exact ⟨e1, e2⟩
    · have l2 : i - es.length < [(y, t)].length := (List.getElem?_eq_some_iff.mp q).1
      have l3 : [(y, t)].length = 1 := rfl
      omega
theorem EnC.at (h : EnC es d g) (i0 : 0 ≤ i) (i1 : i < d) (e1 : zand (g i) 2047 = y) (e2 : zshr (g i) 11 = t) : es[i.toNat]? = some (y, t) := by
  have e0 := h.1
  have l : i.toNat < es.length := by omega
  have q : es[i.toNat]? = some es[i.toNat] := List.getElem?_eq_getElem l
  have u := h.2 i.toNat es[i.toNat].1 es[i.toNat].2 q
  rw [show ((i.toNat : Nat) : Int) = i by omega, e1, e2] at u
  rw [q, u.1, u.2]
theorem EnC.one {es2 : jES} {d2 : Int} (h : EnC es d g) (e : es = es2) (k : EnC es2 d2 g2) : d = d2 := by
  rw [h.1, k.1, e]
theorem sxS_y (a : 1 ≤ t) (b : 0 ≤ y) (c : ¬ Wl x y) : sxS Wl x y t = [(y, t)] := iF_pos ⟨a, b, c⟩
theorem sxS_t (a : t ≤ 0) : sxS Wl x y t = [] := iF_neg (fun q => by have := q.1; omega)
theorem sxS_n (b : y < 0) : sxS Wl x y t = [] := iF_neg (fun q => by have := q.2.1; omega)
theorem sxS_w (c : Wl x y) : sxS Wl x y t = [] := iF_neg (fun q => q.2.2 c)
theorem sxS_len : (sxS Wl x y t).length ≤ 1 := by
  by_cases h : 1 ≤ t ∧ 0 ≤ y ∧ ¬ Wl x y
  · rw [sxS_y h.1 h.2.1 h.2.2]; exact Nat.le_refl _
  · unfold sxS
    rw [iF_neg h]; exact Nat.zero_le _
theorem sxI_len : ∀ n : Nat, (sxI S Wl V B x l n).length ≤ n
  | 0 => Nat.le_refl _
  | n + 1 => by
    have u : (sxI S Wl V B x l n).length ≤ n := sxI_len n
    show (sxI S Wl V B x l n ++ iF (B l = B (l + 1 + n)) [] (sxS Wl x (the (OrR S (swp B l (l + 1 + n)))) (V l (l + 1 + n)))).length ≤ n + 1
    rw [List.length_append]
    by_cases q : B l = B (l + 1 + n)
    · rw [iF_pos q]
      have z : ([] : jES).length = 0 := rfl
      omega
    · rw [iF_neg q]
      have z := sxS_len (Wl := Wl) (x := x) (y := the (OrR S (swp B l (l + 1 + n)))) (t := V l (l + 1 + n))
      omega
theorem sxO_len (h7 : p ≤ 7) : ∀ n : Nat, (n : Int) ≤ p → ((sxO S Wl V B x p n).length : Int) ≤ prs p n
  | 0, _ => by
    show ((0 : Nat) : Int) ≤ prs p ((0 : Nat) : Int)
    rw [show ((0 : Nat) : Int) = 0 from rfl, prs_0]
    exact Int.le_refl _
  | n + 1, h => by
    have u := sxO_len h7 n (by omega)
    have v := sxI_len (S := S) (Wl := Wl) (V := V) (B := B) (x := x) (l := n) (p - n - 1).toNat
    have s := prs_step (p := p) (l := n) (by omega) (by omega) h7
    show ((sxO S Wl V B x p n ++ sxI S Wl V B x n (p - n - 1).toNat).length : Int) ≤ prs p ((n + 1 : Nat) : Int)
    rw [List.length_append, show ((n + 1 : Nat) : Int) = (n : Int) + 1 by omega, s]
    omega
/-- one exchange more: n of place l with place r -/
theorem sxI_step {r : Int} (h : l < r) : sxI S Wl V B x l (r + 1 - l - 1).toNat = sxI S Wl V B x l (r - l - 1).toNat ++ iF (B l = B r) [] (sxS Wl x (the (OrR S (swp B l r))) (V l r)) := by
  rw [show (r + 1 - l - 1).toNat = (r - l - 1).toNat + 1 by omega]
  have e : l + 1 + ((r - l - 1).toNat : Int) = r := by omega
  show sxI S Wl V B x l (r - l - 1).toNat ++ iF (B l = B (l + 1 + ((r - l - 1).toNat : Int))) [] (sxS Wl x (the (OrR S (swp B l (l + 1 + ((r - l - 1).toNat : Int))))) (V l (l + 1 + ((r - l - 1).toNat : Int)))) = _
  rw [e]
theorem sxO_step (l0 : 0 ≤ l) : sxO S Wl V B x p (l + 1).toNat = sxO S Wl V B x p l.toNat ++ sxI S Wl V B x l (p - l - 1).toNat := by
  rw [show (l + 1).toNat = l.toNat + 1 by omega]
  show sxO S Wl V B x p l.toNat ++ sxI S Wl V B x ((l.toNat : Nat) : Int) (p - ((l.toNat : Nat) : Int) - 1).toNat = _
  rw [show ((l.toNat : Nat) : Int) = l by omega]
/-- verdicts that are alike where they are asked give the same steps -/
theorem sxI_cg (h : ∀ r, l < r → r < p → ¬ B l = B r → V l r = V2 l r) : ∀ n : Nat, l + n < p → sxI S Wl V B x l n = sxI S Wl V2 B x l n
  | 0, _ => rfl
  | n + 1, q => by
    show sxI S Wl V B x l n ++ iF (B l = B (l + 1 + n)) [] (sxS Wl x (the (OrR S (swp B l (l + 1 + n)))) (V l (l + 1 + n))) = sxI S Wl V2 B x l n ++ iF (B l = B (l + 1 + n)) [] (sxS Wl x (the (OrR S (swp B l (l + 1 + n)))) (V2 l (l + 1 + n)))
    rw [sxI_cg h n (by omega)]
    by_cases e : B l = B (l + 1 + n)
    · rw [iF_pos e, iF_pos e]
    · rw [iF_neg e, iF_neg e, h (l + 1 + n) (by omega) (by omega) e]
end Ens
/-! an entry as it is kept -/
theorem ent_nat {a b : Nat} (ha : a < 2048) (hb : b < 100) : zor (a : Int) (zshl (b : Int) 11) = ((b * 2048 + a : Nat) : Int) := by
  have h1 : zshl (b : Int) 11 = ((b * 2 ^ 11 : Nat) : Int) := zshl_nat (k := 11) (by decide) (by omega)
  rw [h1, zor_nat (by omega) (by omega), Nat.or_comm, Nat.mul_comm, ← Nat.two_pow_add_eq_or_of_lt (by omega)]
theorem ent_of {y t s w : Int} (y0 : 0 ≤ y) (y1 : y < 2048) (t0 : 1 ≤ t) (t1 : t ≤ 99) (e1 : zshl t 11 = s) (e2 : zor y s = w) : zand w 2047 = y ∧ zshr w 11 = t := by
  obtain ⟨a, rfl⟩ := Int.eq_ofNat_of_zero_le y0
  obtain ⟨b, rfl⟩ := Int.eq_ofNat_of_zero_le (show 0 ≤ t by omega)
  rw [← e1, ent_nat (by omega) (by omega)] at e2
  rw [← e2]
  refine ⟨?_, ?_⟩
  · have u : zand ((b * 2048 + a : Nat) : Int) 2047 = (((b * 2048 + a) % 2 ^ 11 : Nat) : Int) := zand_low (n := b * 2048 + a) (k := 11) (by decide)
    rw [u]
    omega
  · have h : zshr (((b * 2048 + a : Nat) : Nat) : Int) ((11 : Nat) : Int) = (((b * 2048 + a) / 2 ^ 11 : Nat) : Int) := zshr_nat (by decide) (by omega)
    refine h.trans ?_
    omega
/-- a house's row of entries -/
def rwX (sf : Int → Int) (x : Int) : Int → Int := fun i => sf (22 * x + i)
/-- what add() does -/
def EnA (wa wb : Int → Int) (wc x y t : Int) (df sf dg sg : Int → Int) : Prop := ∀ es : jES, df x < 22 → EnC es (df x) (rwX sf x) → EnC (es ++ sxS (WlP wa wb wc) x y t) (dg x) (rwX sg x)
section Eas
variable {wa wb df sf dg sg : Int → Int} {wc x y t d w i s k : Int}
theorem EnA.n (b : y < 0) : EnA wa wb wc x y t df sf df sf := fun es _ h => by rw [sxS_n b, List.append_nil]; exact h
theorem EnA.wl (k0 : 0 ≤ k) (k1 : k < wc) (c : WM wa wb k x y) : EnA wa wb wc x y t df sf df sf := fun es _ h => by
  rw [sxS_w (show WlP wa wb wc x y from fun q => q k k0 k1 c), List.append_nil]; exact h
theorem EnA.f (ed : df x = d) (h : 22 ≤ d) : EnA wa wb wc x y t df sf df sf := fun es q _ => by omega
theorem EnA.ad (t0 : 1 ≤ t) (t1 : t ≤ 99) (y0 : 0 ≤ y) (y1 : y < 2048) (nw : WNo wa wb wc x y) (ed : df x = d) (d0 : 0 ≤ d) (e1 : zshl t 11 = s) (e2 : zor y s = w) (es : sg = up sf i w) (ei : i = 22 * x + d) (eg : dg = up df x (d + 1)) : EnA wa wb wc x y t df sf dg sg := fun l q h => by
  have u := ent_of y0 y1 t0 t1 e1 e2
  rw [sxS_y t0 y0 (fun q => q nw), eg, up_same]
  rw [ed] at h
  refine h.add (fun j a b => ?_) ?_ ?_
  · show sg (22 * x + j) = sf (22 * x + j)
    rw [es, up_ne (by omega)]
  · show zand (sg (22 * x + d)) 2047 = y
    rw [es, ← ei, up_same]; exact u.1
  · show zshr (sg (22 * x + d)) 11 = t
    rw [es, ← ei, up_same]; exact u.2
end Eas
/-- what a law says of house x's exchange of places l and r -/
def vQ (R : VS) (B : Int → Int) (p dy l r : Int) : Int := vD R l r (B l) (B r) (B 0) p dy
/-- the steps told so far: of the places below l, and of place l with those up to r -/
def StP (gw : jLG) (fo : Int) (ff wa wb : Int → Int) (wc p dy x l r : Int) (df sf : Int → Int) : Prop := ∀ R, LwF gw fo R → EnC (sxO ff (WlP wa wb wc) (vQ R (itB ff x.toNat) p dy) (itB ff x.toNat) x p l.toNat ++ sxI ff (WlP wa wb wc) (vQ R (itB ff x.toNat) p dy) (itB ff x.toNat) x l (r - l - 1).toNat) (df x) (rwX sf x)
/-- all of them -/
def StE (gw : jLG) (fo : Int) (ff wa wb : Int → Int) (wc p dy tn x : Int) (df sf : Int → Int) : Prop := ∀ R, LwF gw fo R → EnC (sxL ff (WlP wa wb wc) (vQ R (itB ff x.toNat) p dy) (itB ff x.toNat) x p tn) (df x) (rwX sf x)
section Sms
variable {gw : jLG} {fo wc p dy tn x y l r r2 t k : Int} {ff wa wb df sf dg sg vf : Int → Int}
theorem StP_0 (e : df x = 0) : StP gw fo ff wa wb wc p dy x 0 1 df sf := fun R _ => by
  show EnC ([] ++ []) (df x) (rwX sf x)
  exact EnC_0 e
theorem StP.lt (h7 : p ≤ 7) (l0 : 0 ≤ l) (lr : l < r) (rp : r ≤ p) (lp : l < p) (h : StP gw fo ff wa wb wc p dy x l r df sf) {R : VS} (hR : LwF gw fo R) : df x ≤ prs p l + (r - l - 1) := by
  have e := (h R hR).1
  rw [List.length_append] at e
  have u := sxO_len (S := ff) (Wl := WlP wa wb wc) (V := vQ R (itB ff x.toNat) p dy) (B := itB ff x.toNat) (x := x) h7 l.toNat (by omega)
  have v := sxI_len (S := ff) (Wl := WlP wa wb wc) (V := vQ R (itB ff x.toNat) p dy) (B := itB ff x.toNat) (x := x) (l := l) (r - l - 1).toNat
  rw [show ((l.toNat : Nat) : Int) = l by omega] at u
  omega
theorem StP.next (l0 : 0 ≤ l) (h : StP gw fo ff wa wb wc p dy x l r df sf) (e : r = p) (e2 : r2 = l + 1 + 1) : StP gw fo ff wa wb wc p dy x (l + 1) r2 df sf := fun R hR => by
  have u := h R hR
  rw [sxO_step l0, e2, show (l + 1 + 1 - (l + 1) - 1).toNat = 0 by omega]
  rw [e] at u
  show EnC ((_ ++ _) ++ []) _ _
  rw [List.append_nil]
  exact u
theorem StP.skip (h : StP gw fo ff wa wb wc p dy x l r df sf) (lr : l < r) (c : itB ff x.toNat l = itB ff x.toNat r ∨ ∀ R, LwF gw fo R → vQ R (itB ff x.toNat) p dy l r ≤ 0) (e2 : r2 = r + 1) : StP gw fo ff wa wb wc p dy x l r2 df sf := fun R hR => by
  have u := h R hR
  rw [e2, sxI_step lr]
  by_cases q : itB ff x.toNat l = itB ff x.toNat r
  · rw [iF_pos q, List.append_nil]; exact u
  · rw [iF_neg q, sxS_t ((c.resolve_left q) R hR), List.append_nil]; exact u
theorem StP.add (h : StP gw fo ff wa wb wc p dy x l r df sf) (h7 : p ≤ 7) (l0 : 0 ≤ l) (lr : l < r) (rp : r < p) (ne : ¬ itB ff x.toNat l = itB ff x.toNat r) (v : ∀ R, LwF gw fo R → t = vQ R (itB ff x.toNat) p dy l r) (o : OrR ff (swp (itB ff x.toNat) l r) y) (a : EnA wa wb wc x y t df sf dg sg) (e2 : r2 = r + 1) : StP gw fo ff wa wb wc p dy x l r2 dg sg := fun R hR => by
  have u := h R hR
  have b := StP.lt h7 l0 lr (by omega) (by omega) h hR
  have b2 := prs_le (p := p) (l := l) l0 (by omega) h7
  rw [e2, sxI_step lr, iF_neg ne, ← v R hR, ← the_of o OrR.one, ← List.append_assoc]
  exact a _ (by omega) u
theorem StP.turn (h : StP gw fo ff wa wb wc p dy x l r df sf) (h7 : p ≤ 7) (e : l = p) (er : r = l + 1) (p0 : 0 ≤ p) (c : tn = 1) (o : OrR ff (tnB (itB ff x.toNat) p) y) (ne : ¬ y = x) (a : EnA wa wb wc x y 1 df sf dg sg) : StE gw fo ff wa wb wc p dy tn x dg sg := fun R hR => by
  have u := h R hR
  rw [e, er, e, show (p + 1 - p - 1).toNat = 0 by omega] at u
  have u2 : EnC (sxO ff (WlP wa wb wc) (vQ R (itB ff x.toNat) p dy) (itB ff x.toNat) x p p.toNat ++ []) (df x) (rwX sf x) := u
  rw [List.append_nil] at u2
  have b := sxO_len (S := ff) (Wl := WlP wa wb wc) (V := vQ R (itB ff x.toNat) p dy) (B := itB ff x.toNat) (x := x) h7 p.toNat (by omega)
  have b2 : prs p p ≤ 21 := by
    by_cases z : p = 0
    · subst z
      decide
    · have s := prs_step (p := p) (l := p - 1) (by omega) (by omega) h7
      have s2 := prs_le (p := p) (l := p - 1) (by omega) (by omega) h7
      rw [show p - 1 + 1 = p by omega] at s
      omega
  rw [show ((p.toNat : Nat) : Int) = p by omega] at b
  have e0 := u2.1
  unfold sxL sxT
  rw [← the_of o OrR.one, iF_pos ⟨c, ne⟩]
  exact a _ (by omega) u2
theorem StP.stay (h : StP gw fo ff wa wb wc p dy x l r df sf) (e : l = p) (er : r = l + 1) (c : ¬ tn = 1 ∨ OrR ff (tnB (itB ff x.toNat) p) x) : StE gw fo ff wa wb wc p dy tn x df sf := fun R hR => by
  have u := h R hR
  rw [e, er, e, show (p + 1 - p - 1).toNat = 0 by omega] at u
  have u2 : EnC (sxO ff (WlP wa wb wc) (vQ R (itB ff x.toNat) p dy) (itB ff x.toNat) x p p.toNat ++ []) (df x) (rwX sf x) := u
  rw [List.append_nil] at u2
  unfold sxL sxT
  rw [iF_neg (fun q => c.elim (fun z => z q.1) (fun z => q.2 (the_of z OrR.one).symm)), List.append_nil]
  exact u2
/-- a verdict as the table has it -/
theorem vQ_at {v i : Int} (T : VtOq gw fo ff p dy vf) (B0 : okB p (itB ff x.toNat)) (c : ∀ j, 0 ≤ j → j < p → 0 < ff (itB ff x.toNat j)) (l0 : 0 ≤ l) (lr : l < r) (rp : r < p) (ea : itB ff x.toNat l = y) (eb : itB ff x.toNat r = t) (ec : itB ff x.toNat 0 = k) (ne : ¬ y = t) (ei : i = 125 * (prs p l + (r - l - 1)) + 25 * y + 5 * t + k) (ev : vf i = v) : ∀ R, LwF gw fo R → v = vQ R (itB ff x.toNat) p dy l r := fun R hR => by
  have a := B0 l l0 (by omega)
  have b := B0 r (by omega) rp
  have d := B0 0 (Int.le_refl _) (by omega)
  have u := (T R hR).at (k := prs p l + (r - l - 1)) l0 lr rp a.1 (by omega) b.1 (by omega) d.1 (by omega) (c l l0 (by omega)) (c r (by omega) rp) (c 0 (Int.le_refl _) (by omega)) (by rw [ea, eb]; exact ne) rfl (i := i) (by rw [ea, eb, ec]; exact ei) ev
  exact u
end Sms
