/-! the status, the refusals, the fault: what both sides bear of them -/
abbrev RfK (k : Int) : Prop := k = -1 ∨ k = -2 ∨ k = -3 ∨ k = -5 ∨ k = -6
def stS (k : Int) (E : Int → Int) : Int → Int := fun j => if j = 4 then k else if k < 0 ∧ j = 5 + plk k then E j + 1 else E j
def rfp (j : Int) : Int := if j < 3 then j + 1 else j + 2
def SA (cfa cst : Int) (rfs E : Int → Int) : Prop := cfa = E 3 ∧ cst = E 4 ∧ ∀ j, 0 ≤ j → j < 5 → rfs j = E (5 + j)
def SBr (mfa ms : Int) (rf7 E : Int → Int) : Prop := mfa = E 3 ∧ ms = E 4 ∧ ∀ j, 0 ≤ j → j < 5 → rf7 (rfp j) = E (5 + j)
def LC (lc fo : Int) (S : Int → Int) : Prop := lc = S 62 ∧ fo = S 63
theorem plk_rg {k : Int} (h : RfK k) : 0 ≤ plk k ∧ plk k < 5 ∧ rfp (plk k) = -k := by
  rcases h with h | h | h | h | h <;> subst h <;> exact ⟨by decide, by decide, by decide⟩
theorem stS_4 {k : Int} {E : Int → Int} : stS k E 4 = k := if_pos rfl
theorem stS_lo {k j : Int} {E : Int → Int} (h : j < 4) (hk : RfK k ∨ k = 0) : stS k E j = E j := by
  unfold stS
  rw [if_neg (by omega)]
  rcases hk with hk | hk
  · have u := plk_rg hk
    rw [if_neg (by omega)]
  · rw [if_neg (by omega)]
section SAs
variable {cfa cst mfa ms r k n lc fo lc2 fo2 d : Int} {rfs rf7 E E2 G kb S S2 K : Int → Int}
theorem SA.to (e : k = r) (h : SA cfa cst rfs (stS k E)) : SA cfa cst rfs (stS r E) := e ▸ h
theorem SBr.to (e : k = r) (h : SBr mfa ms rf7 (stS k E)) : SBr mfa ms rf7 (stS r E) := e ▸ h
theorem SA.cg (h : SA cfa cst rfs E) (e : ∀ j, 3 ≤ j → E2 j = E j) : SA cfa cst rfs E2 := ⟨h.1.trans (e 3 (by decide)).symm, h.2.1.trans (e 4 (by decide)).symm, fun j a b => (h.2.2 j a b).trans (e (5 + j) (by omega)).symm⟩
theorem SBr.cg (h : SBr mfa ms rf7 E) (e : ∀ j, 3 ≤ j → E2 j = E j) : SBr mfa ms rf7 E2 := ⟨h.1.trans (e 3 (by decide)).symm, h.2.1.trans (e 4 (by decide)).symm, fun j a b => (h.2.2 j a b).trans (e (5 + j) (by omega)).symm⟩
theorem SA.no (h : SA cfa cst rfs E) (hk : RfK k) (e : RfU G rfs k) : SA cfa k G (stS k E) := by
  have u := plk_rg hk
  refine ⟨h.1.trans (stS_lo (by decide) (Or.inl hk)).symm, stS_4.symm, fun j a b => ?_⟩
  have n0 : k < 0 := by rcases hk with w | w | w | w | w <;> omega
  unfold stS
  rw [if_neg (by omega), e]
  by_cases g : j = plk k
  · rw [if_pos ⟨n0, by omega⟩, g, up_same, h.2.2 (plk k) u.1 u.2.1]
  · rw [if_neg (by omega), up_ne g]
    exact h.2.2 j a b
theorem SA.ok (h : SA cfa cst rfs E) : SA cfa 0 rfs (stS 0 E) := by
  refine ⟨h.1.trans (stS_lo (by decide) (Or.inr rfl)).symm, stS_4.symm, fun j a b => ?_⟩
  unfold stS
  rw [if_neg (by omega), if_neg (by omega)]
  exact h.2.2 j a b
theorem rfp_inj {i j : Int} (e : rfp i = rfp j) : i = j := by
  unfold rfp at e
  split at e <;> split at e <;> omega
theorem SBr.no (h : SBr mfa ms rf7 E) (hk : RfK k) (e : RgU G rf7 k) : SBr mfa k G (stS k E) := by
  have u := plk_rg hk
  refine ⟨h.1.trans (stS_lo (by decide) (Or.inl hk)).symm, stS_4.symm, fun j a b => ?_⟩
  have n0 : k < 0 := by rcases hk with w | w | w | w | w <;> omega
  unfold stS
  rw [if_neg (by omega), e]
  by_cases g : j = plk k
  · rw [if_pos ⟨n0, by omega⟩, g, u.2.2, up_same, ← u.2.2, h.2.2 (plk k) u.1 u.2.1]
  · rw [if_neg (by omega), up_ne (fun w => g (rfp_inj (w.trans u.2.2.symm)))]
    exact h.2.2 j a b
theorem SBr.ok (h : SBr mfa ms rf7 E) : SBr mfa 0 rf7 (stS 0 E) := by
  refine ⟨h.1.trans (stS_lo (by decide) (Or.inr rfl)).symm, stS_4.symm, fun j a b => ?_⟩
  unfold stS
  rw [if_neg (by omega), if_neg (by omega)]
  exact h.2.2 j a b
theorem EC.st (h : EC kb d E) (hk : RfK k ∨ k = 0) : EC kb d (stS k E) := ⟨h.1.trans (stS_lo (by decide) hk).symm, h.2.1.trans (stS_lo (by decide) hk).symm, h.2.2.trans (stS_lo (by decide) hk).symm⟩
theorem LC.to (h : LC lc fo S) (e : S2 62 = S 62 ∧ S2 63 = S 63) : LC lc fo S2 := ⟨h.1.trans e.1.symm, h.2.trans e.2.symm⟩
end SAs
/-! what stays of the laws' count and the force -/
section His
variable {x y n : Int} {S T E S0 S1 : Int → Int}
theorem nbS_hi : nbS S 62 = S 62 ∧ nbS S 63 = S 63 := ⟨nbS_out (by decide) (by decide) (by decide) (by decide), nbS_out (by decide) (by decide) (by decide) (by decide)⟩
theorem iF_hi {p : Prop} {A : Int → Int} (h : p → A 62 = S 62 ∧ A 63 = S 63) : iF p A S 62 = S 62 ∧ iF p A S 63 = S 63 := by
  by_cases g : p
  · rw [iF_pos g]; exact h g
  · rw [iF_neg g]; exact ⟨rfl, rfl⟩
theorem bnS_hi : bnS x y S 62 = S 62 ∧ bnS x y S 63 = S 63 := iF_hi (fun k => by
  have u := k.1
  have v := k.2.1
  rw [nbS_hi.1, nbS_hi.2, up_ne (by omega), up_ne (by omega)]
  exact ⟨rfl, rfl⟩)
theorem rwS_hi : rwS T n S 62 = S 62 ∧ rwS T n S 63 = S 63 := iF_hi (fun _ => by
  rw [nbS_hi.1, nbS_hi.2]
  exact ⟨if_neg (by decide), if_neg (by decide)⟩)
theorem tmS_hi : tmS x y S 62 = S 62 ∧ tmS x y S 63 = S 63 := iF_hi (fun k => ⟨up_ne (by have u := k.1; have v := k.2.1; omega), up_ne (by have u := k.1; have v := k.2.1; omega)⟩)
theorem kpS_hi : kpS x S 62 = S 62 ∧ kpS x S 63 = S 63 := iF_hi (fun _ => ⟨up_ne (by decide), up_ne (by decide)⟩)
theorem fgS_hi : fgS S 62 = S 62 ∧ fgS S 63 = S 63 := ⟨up_ne (by decide), up_ne (by decide)⟩
theorem brS_hi : brS x y S 62 = S 62 ∧ brS x y S 63 = S 63 := iF_hi (fun _ => ⟨brT_out (by omega) (by decide), brT_out (by omega) (by decide)⟩)
/-- a pair comes behind: what lies beyond is as it was (the count is within) -/
theorem pu3_hi {o c N : Int} (h0 : 0 ≤ S c) (h1 : 2 * S c + o + 1 < 62) (hc : c < 62) : pu3 S o c x y 62 = S 62 ∧ pu3 S o c x y 63 = S 63 := ⟨pu3_out h0 (by omega) (by omega), pu3_out h0 (by omega) (by omega)⟩
theorem swS_hi (h0 : 0 ≤ S 60) : swS x y S 62 = S 62 ∧ swS x y S 63 = S 63 := iF_hi (fun k => pu3_hi (N := 0) h0 (by have := k.2; omega) (by decide))
theorem clS_hi (h0 : 0 ≤ S 61) : clS x y S 62 = S 62 ∧ clS x y S 63 = S 63 := iF_hi (fun k => pu3_hi (N := 0) h0 (by have := k.2.2; omega) (by decide))
theorem waS_hi (h0 : 0 ≤ S 59) : waS x y S 62 = S 62 ∧ waS x y S 63 = S 63 := iF_hi (fun k => pu3_hi (N := 0) h0 (by have := k.2.2.2; omega) (by decide))
end His
/-! which refusal -/
section Ks
variable {x y v p n m d r lc fo : Int} {F S T t K E : Int → Int}
noncomputable def bnK (x y : Int) (S : Int → Int) : Int := iF (bnk x y S) 0 (-1)
theorem bnK_n (e : EqN F S 5) (k : ¬ bnk x y F) : -1 = bnK x y S := (iF_neg (fun q => k ((bnk_iff e).mpr q))).symm
theorem bnK_y (e : EqN F S 5) (k : bnk x y F) : 0 = bnK x y S := (iF_pos ((bnk_iff e).mp k)).symm
noncomputable def tmK (x y : Int) : Int := iF (tmk x y) 0 (-1)
theorem tmK_n (k : ¬ tmk x y) : -1 = tmK x y := (iF_neg k).symm
theorem tmK_y (k : tmk x y) : 0 = tmK x y := (iF_pos k).symm
noncomputable def swK (x y : Int) (S : Int → Int) : Int := iF (swk x y (bsum S)) (iF (12 ≤ S 60) (-5) 0) (-1)
theorem swK_1 (e : p = bsum S) (k : ¬ swk x y p) : -1 = swK x y S := (iF_neg (fun q => k (e ▸ q))).symm
theorem swK_5 (e : p = bsum S) (k : swk x y p) (en : n = S 60) (kn : 12 ≤ n) : -5 = swK x y S := ((iF_pos (e ▸ k)).trans (iF_pos (by omega))).symm
theorem swK_y (e : p = bsum S) (k : swk x y p) (en : n = S 60) (kn : n < 12) : 0 = swK x y S := ((iF_pos (e ▸ k)).trans (iF_neg (by omega))).symm
noncomputable def kpK (x : Int) (S : Int → Int) : Int := iF (kpk x (S 60)) 0 (-1)
theorem kpK_n (e : n = S 60) (k : ¬ kpk x n) : -1 = kpK x S := (iF_neg (e ▸ k)).symm
theorem kpK_y (e : n = S 60) (k : kpk x n) : 0 = kpK x S := (iF_pos (e ▸ k)).symm
noncomputable def clK (x y : Int) (S : Int → Int) : Int := iF (-1 ≤ y) (iF (isA x (Hi S)) (iF (6 ≤ S 61) (-5) 0) (-2)) (-1)
theorem clK_1 (k : y < -1) : -1 = clK x y S := (iF_neg (by omega)).symm
theorem clK_2 (ky : -1 ≤ y) (e : m = Hi S) (k : ¬ isA x m) : -2 = clK x y S := ((iF_pos ky).trans (iF_neg (e ▸ k))).symm
theorem clK_5 (ky : -1 ≤ y) (e : m = Hi S) (k : isA x m) (en : n = S 61) (kn : 6 ≤ n) : -5 = clK x y S := ((iF_pos ky).trans ((iF_pos (e ▸ k)).trans (iF_pos (by omega)))).symm
theorem clK_y (ky : -1 ≤ y) (e : m = Hi S) (k : isA x m) (en : n = S 61) (kn : n < 6) : 0 = clK x y S := ((iF_pos ky).trans ((iF_pos (e ▸ k)).trans (iF_neg (by omega)))).symm
noncomputable def waK (x y : Int) (S : Int → Int) : Int := iF (isB x y (Hi S)) (iF (x = y ∨ ¬ WNo (od S 7) (od S 8) (S 59) x y) (-3) (iF (8 ≤ S 59) (-5) 0)) (-2)
theorem waK_2 (e : m = Hi S) (k : ¬ isB x y m) : -2 = waK x y S := (iF_neg (e ▸ k)).symm
theorem waK_3 (e : m = Hi S) (kk : isB x y m) (k : x = y ∨ ¬ WNo (od S 7) (od S 8) (S 59) x y) : -3 = waK x y S := ((iF_pos (e ▸ kk)).trans (iF_pos k)).symm
theorem waK_5 (e : m = Hi S) (k : isB x y m) (nx : ¬ x = y) (wn : WNo (od S 7) (od S 8) (S 59) x y) (en : n = S 59) (kn : 8 ≤ n) : -5 = waK x y S := ((iF_pos (e ▸ k)).trans ((iF_neg (fun q => q.elim nx (fun g => g wn))).trans (iF_pos (by omega)))).symm
theorem waK_y (e : m = Hi S) (k : isB x y m) (nx : ¬ x = y) (wn : WNo (od S 7) (od S 8) (S 59) x y) (en : n = S 59) (kn : n < 8) : 0 = waK x y S := ((iF_pos (e ▸ k)).trans ((iF_neg (fun q => q.elim nx (fun g => g wn))).trans (iF_neg (by omega)))).symm
noncomputable def brK (x y : Int) (S : Int → Int) : Int := iF (isB x y (Hi S)) (iF (x = y ∨ WNo (od S 7) (od S 8) (S 59) x y) (-3) 0) (-2)
theorem brK_2 (e : m = Hi S) (k : ¬ isB x y m) : -2 = brK x y S := (iF_neg (e ▸ k)).symm
theorem brK_3 (e : m = Hi S) (kk : isB x y m) (k : x = y ∨ WNo (od S 7) (od S 8) (S 59) x y) : -3 = brK x y S := ((iF_pos (e ▸ kk)).trans (iF_pos k)).symm
theorem brK_y (e : m = Hi S) (k : isB x y m) (nx : ¬ x = y) (wn : ¬ WNo (od S 7) (od S 8) (S 59) x y) : 0 = brK x y S := ((iF_pos (e ▸ k)).trans (iF_neg (fun q => q.elim nx wn))).symm
noncomputable def rwKs (T : Int → Int) (n : Int) : Int := iF (rwk T n = true) 0 (-6)
theorem rwKs_n (e : rwk t d = rwk T n) (k : rwk t d = false) : -6 = rwKs T n := (iF_neg (fun q => by rw [← e, k] at q; exact absurd q (by decide))).symm
theorem rwKs_y (e : rwk t d = rwk T n) (k : rwk t d = true) : 0 = rwKs T n := (iF_pos (e.symm.trans k)).symm
/-! force -/
noncomputable def foS (x : Int) (S : Int → Int) : Int → Int := iF (-1 ≤ x ∧ x < S 62) (up S 63 x) S
noncomputable def foR (x : Int) (S : Int → Int) : Int := iF (-1 ≤ x ∧ x < S 62) (S 63) (-2)
noncomputable def foK (x : Int) (S : Int → Int) : Int := iF (-1 ≤ x ∧ x < S 62) 0 (-2)
theorem foS_n (e : lc = S 62) (k : x < -1 ∨ lc ≤ x) : foS x S = S := iF_neg (by omega)
theorem foS_y (e : lc = S 62) (k0 : -1 ≤ x) (k1 : x < lc) : foS x S = up S 63 x := iF_pos ⟨k0, by omega⟩
theorem foR_n (e : lc = S 62) (k : x < -1 ∨ lc ≤ x) : -2 = foR x S := (iF_neg (by omega)).symm
theorem foR_y (e : lc = S 62) (k0 : -1 ≤ x) (k1 : x < lc) (er : r = S 63) : r = foR x S := er.trans (iF_pos ⟨k0, by omega⟩).symm
theorem foK_n (e : lc = S 62) (k : x < -1 ∨ lc ≤ x) : -2 = foK x S := (iF_neg (by omega)).symm
theorem foK_y (e : lc = S 62) (k0 : -1 ≤ x) (k1 : x < lc) : 0 = foK x S := (iF_pos ⟨k0, by omega⟩).symm
/-! a drunk -/
noncomputable def dkK (x y v : Int) (S : Int → Int) : Int := iF (dkk x v) (iF (isA y (Hi S)) 0 (-2)) (-1)
theorem dkK_1 (k : ¬ dkk x v) : -1 = dkK x y v S := (iF_neg k).symm
theorem dkK_2 (k : dkk x v) (e : m = Hi S) (g : ¬ isA y m) : -2 = dkK x y v S := ((iF_pos k).trans (iF_neg (e ▸ g))).symm
theorem dkK_y (k : dkk x v) (e : m = Hi S) (g : isA y m) : 0 = dkK x y v S := ((iF_pos k).trans (iF_pos (e ▸ g))).symm
/-! a law is read -/
def lwO (T : Int → Int) (n : Int) : Prop := ∃ t, LwR (CTk T n) (LF T n) (EnT T n) 1 t
noncomputable def lwF (T : Int → Int) (n : Int) : Int := the (fun f => ∃ t, LwR (CTk T n) (LF T n) (EnT T n) 0 t ∧ f = ST T n t)
noncomputable def lwQ (T : Int → Int) (n : Int) (S : Int → Int) : Int := iF (6 ≤ S 62) (-5) (iF (lwO T n) 0 (-6))
noncomputable def lwS (T : Int → Int) (n : Int) (S : Int → Int) : Int → Int := iF (6 ≤ S 62) S (iF (lwO T n) (up S 62 (S 62 + 1)) S)
noncomputable def lwA (T : Int → Int) (n : Int) (S : Int → Int) : Int := iF (6 ≤ S 62) (-5) (iF (lwO T n) (S 62) (-6))
noncomputable def lwE (T : Int → Int) (n : Int) (S E : Int → Int) : Int → Int := up (up E 2 0) 3 (iF (6 ≤ S 62) (E 3) (iF (lwO T n) (-1) (lwF T n)))
theorem LwR.cg {U : Int → Int} {ok t0 : Int} (e : EqN T U n) (n0 : 0 ≤ n) (h : LwR (CTk T n) (LF T n) (EnT T n) ok t0) : LwR (CTk U n) (LF U n) (EnT U n) ok t0 := by
  rw [CTk_cg e n0, LF_cg e n0, EnT_cg e n0] at h; exact h
theorem TqC.li {t T : Int → Int} (h : TqC t T) (n4 : n ≤ 400) : EqN t T n := EqN.le h n4
theorem TqM.li {t T : Int → Int} (h : TqM t T) (n4 : n ≤ 400) : EqN (ub t) T n := fun j a b => by
  have u := h j a (by omega)
  have v : ub t j = if t j < 0 then t j + 256 else t j := rfl
  rw [v, u.1]
  unfold sgb
  repeat' split
  all_goals omega
/-- what reading the text comes to (t, d: as one side has the tape) -/
theorem lwO_y {U : Int → Int} {z : Int} (e : EqN U T d) (ed : d = n) (n0 : 0 ≤ d) (h : LwR (CTk U d) (LF U d) (EnT U d) 1 z) : lwO T n := by
  subst ed
  exact ⟨z, h.cg e n0⟩
theorem lwO_n {U : Int → Int} {z : Int} (e : EqN U T d) (ed : d = n) (n0 : 0 ≤ d) (h : LwR (CTk U d) (LF U d) (EnT U d) 0 z) : ¬ lwO T n := by
  subst ed
  rintro ⟨w, g⟩
  exact absurd (LwR.one (h.cg e n0) g).1 (by decide)
theorem lwF_of {U : Int → Int} {z f : Int} (e : EqN U T d) (ed : d = n) (n0 : 0 ≤ d) (h : LwR (CTk U d) (LF U d) (EnT U d) 0 z) (ef : f = ST U d z) : f = lwF T n := by
  subst ed
  rw [ST_cg e n0] at ef
  refine the_of ⟨z, h.cg e n0, ef⟩ ?_
  rintro a b ⟨t1, h1, e1⟩ ⟨t2, h2, e2⟩
  rw [e1, e2, (LwR.one h1 h2).2]
section Lws
variable {U : Int → Int} {z f : Int}
theorem lwQ_5 (e6 : lc = S 62) (k : 6 ≤ lc) : -5 = lwQ T n S := (iF_pos (by omega)).symm
theorem lwQ_6 (e6 : lc = S 62) (k : lc < 6) (o : ¬ lwO T n) : -6 = lwQ T n S := ((iF_neg (by omega)).trans (iF_neg o)).symm
theorem lwQ_y (e6 : lc = S 62) (k : lc < 6) (o : lwO T n) : 0 = lwQ T n S := ((iF_neg (by omega)).trans (iF_pos o)).symm
theorem lwA_5 (e6 : lc = S 62) (k : 6 ≤ lc) : -5 = lwA T n S := (iF_pos (by omega)).symm
theorem lwA_6 (e6 : lc = S 62) (k : lc < 6) (o : ¬ lwO T n) : -6 = lwA T n S := ((iF_neg (by omega)).trans (iF_neg o)).symm
theorem lwA_y (e6 : lc = S 62) (k : lc < 6) (o : lwO T n) : lc = lwA T n S := e6.trans ((iF_neg (by omega)).trans (iF_pos o)).symm
theorem lwS_5 (e6 : lc = S 62) (k : 6 ≤ lc) : lwS T n S = S := iF_pos (by omega)
theorem lwS_6 (e6 : lc = S 62) (k : lc < 6) (o : ¬ lwO T n) : lwS T n S = S := (iF_neg (by omega)).trans (iF_neg o)
theorem lwS_y (e6 : lc = S 62) (k : lc < 6) (o : lwO T n) : lwS T n S = up S 62 (S 62 + 1) := (iF_neg (by omega)).trans (iF_pos o)
theorem lwE_5 (e6 : lc = S 62) (k : 6 ≤ lc) : lwE T n S E 3 = E 3 := (up_same _ _ _).trans (iF_pos (by omega))
theorem lwE_6 (e6 : lc = S 62) (k : lc < 6) (o : ¬ lwO T n) : lwE T n S E 3 = lwF T n := (up_same _ _ _).trans ((iF_neg (by omega)).trans (iF_neg o))
theorem lwE_y (e6 : lc = S 62) (k : lc < 6) (o : lwO T n) : lwE T n S E 3 = -1 := (up_same _ _ _).trans ((iF_neg (by omega)).trans (iF_pos o))
theorem lwE_o {j : Int} (h2 : ¬ j = 2) (h3 : ¬ j = 3) : lwE T n S E j = E j := (up_ne h3).trans (up_ne h2)
theorem lwE_2 : lwE T n S E 2 = 0 := (up_ne (by decide)).trans (up_same _ _ _)
end Lws
end Ks
section Lwx
variable {cfa cst mfa ms k d n f : Int} {rfs rf7 E S T kb : Int → Int}
theorem EC.lw (h : EC kb d E) : EC kb 0 (lwE T n S E) := ⟨h.1.trans (lwE_o (by decide) (by decide)).symm, h.2.1.trans (lwE_o (by decide) (by decide)).symm, lwE_2.symm⟩
theorem SA.lw (h : SA cfa cst rfs E) (e : f = lwE T n S E 3) : SA f cst rfs (lwE T n S E) := ⟨e, h.2.1.trans (lwE_o (by decide) (by decide)).symm, fun j a b => (h.2.2 j a b).trans (lwE_o (by omega) (by omega)).symm⟩
theorem SBr.lw (h : SBr mfa ms rf7 E) (e : f = lwE T n S E 3) : SBr f ms rf7 (lwE T n S E) := ⟨e, h.2.1.trans (lwE_o (by decide) (by decide)).symm, fun j a b => (h.2.2 j a b).trans (lwE_o (by omega) (by omega)).symm⟩
theorem lwS_lo {j : Int} (h : ¬ j = 62) : lwS T n S j = S j := by
  unfold lwS
  by_cases a : 6 ≤ S 62
  · rw [iF_pos a]
  · rw [iF_neg a]
    by_cases b : lwO T n
    · rw [iF_pos b, up_ne h]
    · rw [iF_neg b]
theorem foS_lo {x j : Int} (h : ¬ j = 63) : foS x S j = S j := by
  unfold foS
  by_cases a : -1 ≤ x ∧ x < S 62
  · rw [iF_pos a, up_ne h]
  · rw [iF_neg a]
end Lwx
/-! the class's facts where what is kept beyond the laws' count alone changes -/
theorem SC.cg {ff tf wa wb ca cb sa sb S S2 : Int → Int} {wc cc sc : Int} (h : SC ff tf wa wb ca cb sa sb wc cc sc S) (e : ∀ j, j < 62 → S2 j = S j) (n8 : wc ≤ 8) : SC ff tf wa wb ca cb sa sb wc cc sc S2 := ⟨SC.pf h (fun j _ _ => e j (by omega)), SC.pt h (fun j _ _ => e j (by omega)), SC.ps h (fun j _ _ => e j (by omega)) (e 60 (by decide)), SC.pc h (fun j _ _ => e j (by omega)) (e 61 (by decide)), SC.pw h (fun j _ _ => e j (by omega)) (e 59 (by decide)) n8⟩
/-! effects -/
/-- what the tape's law tells; the laws' values behind law() -/
noncomputable def lwT (T : Int → Int) (n : Int) : VS := Classical.epsilon (fun R => LwD (CTk T n) (VT T n) (EnT T n) R)
noncomputable def lwV (T : Int → Int) (n : Int) (S : Int → Int) (lv : jLV) : jLV := iF (6 ≤ S 62) lv (iF (lwO T n) (fun t => if (t : Int) = S 62 then lwT T n else lv t) lv)
def eSt (k : Int) (aa : jAA) : jAA := (aa.1, aa.2.1, aa.2.2.1, aa.2.2.2.1, stS k aa.2.2.2.2.1, aa.2.2.2.2.2)
noncomputable def eLx (aa : jAA) : jAA := (lwS aa.2.2.2.1 (aa.2.2.2.2.1 2) aa.1, aa.2.1, aa.2.2.1, aa.2.2.2.1, lwE aa.2.2.2.1 (aa.2.2.2.2.1 2) aa.1 aa.2.2.2.2.1, lwV aa.2.2.2.1 (aa.2.2.2.2.1 2) aa.1 aa.2.2.2.2.2.1, aa.2.2.2.2.2.2)
/-- the laws' count and the force of an image, once it is kept -/
def LK (k lc fo : Int) (S : Int → Int) : Prop := ¬ k = 0 → LC lc fo S
theorem KbE.n0 {G F : Int → Int} {x : Int} (e : KbE G F x) (h : ¬ x = 0) : G 0 = F 0 := by
  rw [e.1]
  exact if_neg h
theorem KbE.n1 {G F : Int → Int} {x : Int} (e : KbE G F x) (h : ¬ x = 1) : G 1 = F 1 := by
  rw [e.2]
  exact if_neg h
theorem LK.to {k k2 lc fo : Int} {S S2 : Int → Int} (h : LK k lc fo S) (ek : k2 = k) (e : S2 = S) : LK k2 lc fo S2 := fun w => e ▸ h (fun g => w (ek.trans g))
theorem LK.yes {k lc fo : Int} {S S2 : Int → Int} (h : LC lc fo S) (e : S2 = S) : LK k lc fo S2 := fun _ => e ▸ h
theorem bkr_k0 {x a b : Int} (e : 0 = bkr x a b) (h : x = 0) : ¬ a = 0 := fun w => by
  unfold bkr at e
  rw [if_pos (by omega), if_pos h, if_pos w] at e
  exact absurd e (by decide)
theorem bkr_k1 {x a b : Int} (e : 0 = bkr x a b) (h : ¬ x = 0) : ¬ b = 0 := fun w => by
  unfold bkr at e
  by_cases g : 0 ≤ x ∧ x ≤ 1
  · rw [if_pos g, if_neg h, if_pos w] at e
    exact absurd e (by decide)
  · rw [if_neg g] at e
    exact absurd e (by decide)
theorem LC.eq {lc fo : Int} {S S2 : Int → Int} (h : LC lc fo S) (e : S2 = S) : LC lc fo S2 := e ▸ h
theorem LC.fo {lc fo x : Int} {S : Int → Int} (h : LC lc fo S) (k0 : -1 ≤ x) (k1 : x < lc) : LC lc x (foS x S) := by
  rw [foS_y h.1 k0 k1]
  exact ⟨h.1.trans (up_ne (by decide)).symm, (up_same _ _ _).symm⟩
theorem LC.lw {lc fo n : Int} {S T : Int → Int} (h : LC lc fo S) (e : lwS T n S = up S 62 (S 62 + 1)) : LC (lc + 1) fo (lwS T n S) := by
  rw [e]
  exact ⟨by rw [up_same, h.1], h.2.trans (up_ne (by decide)).symm⟩
theorem fdE_o {E : Int → Int} {j : Int} (h : 3 ≤ j) : fdE E j = E j := by
  unfold fdE
  by_cases g : E 2 ≤ 380
  · rw [iF_pos g, up_ne (by omega)]
  · rw [iF_neg g]
theorem enE_o {E : Int → Int} {x j : Int} (h : 3 ≤ j) : enE x E j = E j := by
  unfold enE
  by_cases g : 0 ≤ x ∧ x ≤ E 2
  · rw [iF_pos g, up_ne (by omega)]
  · rw [iF_neg g]
theorem imE_o {E : Int → Int} {x j : Int} (h : 3 ≤ j) : imE x E j = E j := by
  unfold imE
  rw [if_neg (by omega), if_neg (by omega)]
/-! what is counted -/
def ctR (x : Int) (S E : Int → Int) : Int := if x = 0 then bsum S else if 1 ≤ x ∧ x ≤ 5 then S (x - 1) else if x = 6 then S 62 else if x = 7 then S 59 else if x = 8 then S 61 else if x = 9 then S 60 else if x = 10 then E 2 else if 11 ≤ x ∧ x ≤ 15 then E (5 + (x - 11)) else if x = 16 then S 63 else if x = 17 then S (5 + 0) else if x = 18 then S (5 + 1) else -1
section Cts
variable {x r : Int} {F S E : Int → Int}
theorem ctR_p (h : x = 0) (e : r = bsum S) : r = ctR x S E := by
  unfold ctR
  rw [if_pos h]; exact e
theorem ctR_b (l : EqN F S 5) (a : 1 ≤ x) (b : x ≤ 5) (e : F (x - 1) = r) : r = ctR x S E := by
  unfold ctR
  rw [if_neg (by omega), if_pos ⟨a, b⟩, ← e]
  exact l _ (by omega) (by omega)
theorem ctR_6 (h : x = 6) (e : r = S 62) : r = ctR x S E := by
  subst h; exact e
theorem ctR_7 (h : x = 7) (e : r = S 59) : r = ctR x S E := by
  subst h; exact e
theorem ctR_8 (h : x = 8) (e : r = S 61) : r = ctR x S E := by
  subst h; exact e
theorem ctR_9 (h : x = 9) (e : r = S 60) : r = ctR x S E := by
  subst h; exact e
theorem ctR_10 (h : x = 10) (e : r = E 2) : r = ctR x S E := by
  subst h; exact e
theorem ctR_r (a : 11 ≤ x) (b : x ≤ 15) (e : r = E (5 + (x - 11))) : r = ctR x S E := by
  unfold ctR
  rw [if_neg (by omega), if_neg (by omega), if_neg (by omega), if_neg (by omega), if_neg (by omega), if_neg (by omega), if_neg (by omega), if_pos ⟨a, b⟩]; exact e
theorem ctR_16 (h : x = 16) (e : r = S 63) : r = ctR x S E := by
  subst h; exact e
theorem ctR_17 (h : x = 17) (e : r = S (5 + 0)) : r = ctR x S E := by
  subst h; exact e
theorem ctR_18 (h : x = 18) (e : r = S (5 + 1)) : r = ctR x S E := by
  subst h; exact e
theorem ctR_t (l : EqN F S 64) (a : 17 ≤ x) (b : x ≤ 18) (e : F (x - 12) = r) : r = ctR x S E := by
  have u := l (x - 12) (by omega) (by omega)
  rw [e] at u
  by_cases g : x = 17
  · exact ctR_17 g (by rw [u, g]; rfl)
  · exact ctR_18 (by omega) (by rw [u, show x = 18 by omega]; rfl)
theorem ctR_o (h : x < 0 ∨ 18 < x) : -1 = ctR x S E := by
  unfold ctR
  repeat' (rw [if_neg (by omega)])
end Cts
/-! the range of what is answered -/
def RgY (aa : jAA) : Prop := zr (aa.2.2.2.2.1 3) ∧ zr (aa.2.2.2.2.1 4) ∧ (∀ j, 0 ≤ j → j < 5 → 0 ≤ aa.2.2.2.2.1 (5 + j) ∧ aa.2.2.2.2.1 (5 + j) ≤ 600) ∧ (0 ≤ aa.1 62 ∧ aa.1 62 ≤ 6) ∧ -1 ≤ aa.1 63 ∧ aa.1 63 ≤ 6
theorem RgY_of {cfa cst lc fo c : Int} {rfs : Int → Int} {aa : jAA} (h : SA cfa cst rfs aa.2.2.2.2.1) (l : LC lc fo aa.1) (a1 : zr cfa) (a2 : zr cst) (a3 : Rg rfs 5 0 c) (c6 : c ≤ 600) (b0 : 0 ≤ lc) (b1 : lc ≤ 6) (d0 : -1 ≤ fo) (d1 : fo < lc) : RgY aa := by
  have e1 := l.1
  have e2 := l.2
  refine ⟨h.1 ▸ a1, h.2.1 ▸ a2, fun j a b => ?_, by omega, by omega, by omega⟩
  have u := a3 j a b
  rw [h.2.2 j a b] at u
  exact ⟨u.1, by omega⟩
theorem RfU.rg {G F : Int → Int} {k c : Int} (h : RfU G F k) (r : Rg F 5 0 c) (hk : RfK k) : Rg G 5 0 (c + 1) := fun j a b => by
  have u := plk_rg hk
  have v := r j a b
  have z := r (plk k) u.1 u.2.1
  rw [h]
  by_cases g : j = plk k
  · rw [g, up_same]; omega
  · rw [up_ne g]; omega
theorem foR_zr {x : Int} {aa : jAA} (h : RgY aa) : zr (foR x aa.1) := iF_in (fun _ => by have := h.2.2.2.2; omega) (fun _ => by decide)
theorem lwA_zr {T : Int → Int} {n : Int} {aa : jAA} (h : RgY aa) : zr (lwA T n aa.1) := iF_in (fun _ => by decide) (fun _ => iF_in (fun _ => by have := h.2.2.2.1; omega) (fun _ => by decide))
theorem ctR_zr {x : Int} {aa : jAA} (h : RgX aa) (g : RgY aa) : zr (ctR x aa.1 aa.2.2.2.2.1) := by
  have o := h.1
  have b := bsum_rng o
  have h9 := h.2.1
  have h6 := h.2.2.1
  have h1 := h.2.2.2.1
  have h5 := h.2.2.2.2.1.1
  have h7 := h.2.2.2.2.1.2
  have h2 := h.2.2.2.2.2
  have g3 := g.2.2.2
  unfold ctR
  split
  · omega
  split
  · have u := okF_at o (c := x - 1) (by omega) (by omega) rfl
    omega
  split
  · omega
  split
  · omega
  split
  · omega
  split
  · omega
  split
  · omega
  split
  · have u := g.2.2.1 (x - 11) (by omega) (by omega)
    omega
  split
  · omega
  split
  · exact h5
  split
  · exact h7
  · decide
