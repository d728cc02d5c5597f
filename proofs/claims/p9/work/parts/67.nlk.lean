/-! rows for the reference: steps that are laid, whence they come -/
theorem pigeon : ∀ (n : Nat) (f : Nat → Int) (S : List Int), (∀ k, k < n → f k ∈ S) → (∀ i j, i < j → j < n → f i ≠ f j) → n ≤ S.length
  | 0, _, _, _, _ => Nat.zero_le _
  | n + 1, f, S, h, d => by
    have m := h n (Nat.lt_succ_self n)
    have ih := pigeon n f (S.erase (f n)) (fun k hk => (List.mem_erase_of_ne (d k n hk (Nat.lt_succ_self n))).mpr (h k (Nat.lt_succ_of_lt hk))) (fun i j a b => d i j a (Nat.lt_succ_of_lt b))
    have e := List.length_erase_of_mem m
    have p := List.length_pos_of_mem m
    omega
def prs7 : List (Int × Int) := [(0, 1), (0, 2), (0, 3), (0, 4), (0, 5), (0, 6), (1, 2), (1, 3), (1, 4), (1, 5), (1, 6), (2, 3), (2, 4), (2, 5), (2, 6), (3, 4), (3, 5), (3, 6), (4, 5), (4, 6), (5, 6)]
theorem prs7_mem {a b : Int} (h0 : 0 ≤ a) (h1 : a < b) (h2 : b < 7) : (a, b) ∈ prs7 := by
  have w : ∀ x : Fin 7, ∀ y : Fin 7, x < y → ((x.val : Int), (y.val : Int)) ∈ prs7 := by decide +kernel
  have u := w ⟨a.toNat, by omega⟩ ⟨b.toNat, by omega⟩ (Fin.lt_def.mpr (by show a.toNat < b.toNat; omega))
  have e1 : ((a.toNat : Nat) : Int) = a := Int.toNat_of_nonneg h0
  have e2 : ((b.toNat : Nat) : Int) = b := Int.toNat_of_nonneg (by omega)
  simp only [e1, e2] at u
  exact u
def unr (B : Int → Int) (p : Int) : Int → Int := fun j => if j = 0 then B (p - 1) else B (j - 1)
def srcs (K : Int → Int) (t : Int) : List Int := (cod5 (unr (itB K t.toNat) (bsum K)) (bsum K).toNat) :: prs7.map (fun q => cod5 (swp (itB K t.toNat) q.1 q.2) (bsum K).toNat)
theorem srcs_len {K : Int → Int} {t : Int} : (srcs K t).length = 22 := rfl
def SrcC (K : Int → Int) (t h : Int) : Prop := cod5 (itB K h.toNat) (bsum K).toNat ∈ srcs K t
theorem src_swap {co cd K B C : Int → Int} {m h a b x r pm : Int} (hT : HouT co cd K m) (hf : okF K) (hm : m = Hi K) (h0 : 0 ≤ h) (h1 : h < m) (e : EqOn (bsum K) B (itB K h.toNat)) (a0 : 0 ≤ a) (ab : a < b) (b1 : b < pm) (ep : pm = bsum K) (eC : C = swp B a b) (ex : cod5 C pm.toNat = x) (hr : HoR cd m x r) : 0 ≤ r ∧ SrcC K r h := by
  subst ep
  have p7 := (bsum_rng hf).2
  have P := Perm5.swap hf (Perm_it hf h0 (by omega) e) a0 (by omega) (by omega) b1 eC
  obtain ⟨t, t0, t1, t2, t3⟩ := perm_house hT hf hm P ex
  have rt : r = t := hr.2 t t0 t1 t2
  subst rt
  refine ⟨t0, ?_⟩
  unfold SrcC srcs
  refine List.mem_cons_of_mem _ (List.mem_map.mpr ⟨(a, b), prs7_mem a0 ab (by omega), ?_⟩)
  refine cod5_congr _ (fun j ja jb => ?_)
  have jb' : j < bsum K := by omega
  show (if j = b then itB K r.toNat a else if j = a then itB K r.toNat b else itB K r.toNat j) = itB K h.toNat j
  subst eC
  have ea := t3 a a0 (by omega)
  have eb := t3 b (by omega) b1
  have ej := t3 j ja jb'
  have hj := e j ja jb'
  have ha := e a a0 (by omega)
  have hb := e b (by omega) b1
  unfold swp at ea eb ej
  by_cases r1 : j = b
  · rw [if_pos r1, ← ea, if_neg (by omega), if_pos rfl, r1, hb]
  · rw [if_neg r1]
    by_cases r2 : j = a
    · rw [if_pos r2, ← eb, if_pos rfl, r2, ha]
    · rw [if_neg r2, ← ej, if_neg r1, if_neg r2, hj]
theorem src_turn {co cd K C : Int → Int} {m h x r pm : Int} (hT : HouT co cd K m) (hf : okF K) (hm : m = Hi K) (h0 : 0 ≤ h) (h1 : h < m) (p1 : 1 ≤ pm) (ep : pm = bsum K) (eC : ∀ j, 0 ≤ j → j < pm → C j = itB K h.toNat ((j + 1) % pm)) (ex : cod5 C pm.toNat = x) (hr : HoR cd m x r) : 0 ≤ r ∧ SrcC K r h := by
  subst ep
  have p7 := (bsum_rng hf).2
  have q : EqOn (bsum K) (itB K h.toNat) (itB K h.toNat) := fun _ _ _ => rfl
  have P := Perm5.rot (C := C) hf (Perm_it hf h0 (by omega) q) p1 (fun j a b => by rw [eC j a (by omega), Int.emod_eq_of_lt (by omega) (by omega)]) (by rw [eC _ (by omega) (by omega), show bsum K - 1 + 1 = bsum K by omega, Int.emod_self])
  obtain ⟨t, t0, t1, t2, t3⟩ := perm_house hT hf hm P ex
  have rt : r = t := hr.2 t t0 t1 t2
  subst rt
  refine ⟨t0, ?_⟩
  unfold SrcC srcs
  have : cod5 (itB K h.toNat) (bsum K).toNat = cod5 (unr (itB K r.toNat) (bsum K)) (bsum K).toNat := by
    refine cod5_congr _ (fun j ja jb => ?_)
    have jb' : j < bsum K := by omega
    unfold unr
    by_cases r1 : j = 0
    · rw [if_pos r1, ← t3 _ (by omega) (by omega), eC _ (by omega) (by omega), show bsum K - 1 + 1 = bsum K by omega, Int.emod_self, r1]
    · rw [if_neg r1, ← t3 _ (by omega) (by omega), eC _ (by omega) (by omega), show j - 1 + 1 = j by omega, Int.emod_eq_of_lt (by omega) jb']
  rw [this]
  exact List.mem_cons_self
/-- how many pairs stand before those of a left place -/
def prp (x : Int) : Int := if x ≤ 0 then 0 else if x = 1 then 6 else if x = 2 then 11 else if x = 3 then 15 else if x = 4 then 18 else if x = 5 then 20 else 21
theorem prp_0 : prp 0 = 0 := rfl
theorem prp_next {x p z : Int} (h0 : 0 ≤ x) (h : x < p) (hp : p ≤ 7) (hz : z ≤ prp x + (p - x - 1)) : z ≤ prp (x + 1) := by
  unfold prp at hz ⊢
  repeat' split at hz
  all_goals (repeat' split) <;> omega
theorem prp_lim {x r : Int} (h0 : 0 ≤ x) (h : x < r) (hr : r < 7) : prp x + (r - x - 1) ≤ 20 := by
  unfold prp
  repeat' split
  all_goals omega
theorem prp_all {x : Int} : prp x ≤ 21 := by
  unfold prp
  repeat' split
  all_goals omega
/-- the steps of the houses below d, the houses being hm -/
def StR (st tk sm : Int → Int) (d hm : Int) : Prop := ∀ h, 0 ≤ h → h < d → 0 ≤ sm h ∧ sm h ≤ 22 ∧ ∀ k, 0 ≤ k → k < sm h → (0 ≤ st (22 * h + k) ∧ st (22 * h + k) < hm) ∧ 1 ≤ tk (22 * h + k) ∧ tk (22 * h + k) ≤ 99
def CoR (K cf cm st sm : Int → Int) (g hm : Int) : Prop := ∀ h, 0 ≤ h → h < hm → 0 ≤ cm h ∧ cm h ≤ 22 ∧ ∀ k, 0 ≤ k → k < cm h → (0 ≤ cf (22 * h + k) ∧ cf (22 * h + k) < g) ∧ (∃ i, 0 ≤ i ∧ i < sm (cf (22 * h + k)) ∧ st (22 * cf (22 * h + k) + i) = h) ∧ SrcC K h (cf (22 * h + k)) ∧ ∀ j, 0 ≤ j → j < k → cf (22 * h + j) < cf (22 * h + k)
def LkI (K st tk sm cf cm : Int → Int) (g hm : Int) : Prop := StR st tk sm g hm ∧ CoR K cf cm st sm g hm
theorem LkI_0 {K st tk sm cf cm : Int → Int} {hm : Int} (h : Rg cm hm 0 0) : LkI K st tk sm cf cm 0 hm :=
  ⟨fun h a b => by omega, fun j a b => by
    have := h j a b
    exact ⟨this.1, by omega, fun k c d => by omega⟩⟩
theorem LkI.done {K st tk sm cf cm : Int → Int} {hm g : Int} (q : LkI K st tk sm cf cm g hm) (e : g = hm) : StM st tk sm hm ∧ CoM cf cm st sm hm := by
  subst e
  exact ⟨q.1, fun h a b => ⟨(q.2 h a b).1, (q.2 h a b).2.1, fun k c d => ⟨((q.2 h a b).2.2 k c d).1, ((q.2 h a b).2.2 k c d).2.1⟩⟩⟩
/-- a house's turn begins: it has no step yet -/
theorem LkI.begin {K st tk sm sm2 cf cm : Int → Int} {g hm v g1 : Int} (q : LkI K st tk sm cf cm g hm) (e : sm2 = up sm g v) (hv : v = 0) (eg : g1 = g + 1) : LkI K st tk sm2 cf cm g1 hm := by
  subst e hv eg
  refine ⟨fun h a b => ?_, fun h a b => ⟨(q.2 h a b).1, (q.2 h a b).2.1, fun k c d => ?_⟩⟩
  · by_cases r : h = g
    · rw [r, up_same]; exact ⟨by decide, by decide, fun k c d => by omega⟩
    · rw [up_ne r]; exact q.1 h a (by omega)
  · obtain ⟨w1, w2, w3⟩ := (q.2 h a b).2.2 k c d
    refine ⟨⟨w1.1, by omega⟩, ?_, w3⟩
    rw [up_ne (by omega)]
    exact w2
theorem LkI.deg {K st tk sm cf cm : Int → Int} {g hm h z : Int} (q : LkI K st tk sm cf cm g hm) (h0 : 0 ≤ h) (h1 : h < g) (e : sm h = z) : 0 ≤ z ∧ z ≤ 22 := e ▸ ⟨(q.1 h h0 h1).1, (q.1 h h0 h1).2.1⟩
theorem LkI.come {K st tk sm cf cm : Int → Int} {g hm h z : Int} (q : LkI K st tk sm cf cm g hm) (h0 : 0 ≤ h) (h1 : h < hm) (e : cm h = z) : 0 ≤ z ∧ z ≤ 22 := e ▸ ⟨(q.2 h h0 h1).1, (q.2 h h0 h1).2.1⟩
theorem LkI.src {K st tk sm cf cm : Int → Int} {g hm h z n x k : Int} (q : LkI K st tk sm cf cm g hm) (h0 : 0 ≤ h) (h1 : h < hm) (en : cm h = n) (k0 : 0 ≤ k) (k1 : k < n) (ex : x = 22 * h + k) (e : cf x = z) : 0 ≤ z ∧ z < g := by
  subst en ex e
  exact ((q.2 h h0 h1).2.2 k k0 k1).1
/-- a step is laid -/
theorem LkI.step {K st st2 tk tk2 sm sm2 cf cm : Int → Int} {g hm h z t v x y w : Int} (q : LkI K st tk sm cf cm g hm) (h0 : 0 ≤ h) (h1 : h + 1 = g) (e : sm h = z) (hz : z ≤ 21) (ex : x = 22 * h + z) (ey : y = 22 * h + z) (e1 : st2 = up st x t) (e2 : tk2 = up tk y v) (e3 : sm2 = up sm h w) (ew : w = z + 1) (t0 : 0 ≤ t) (t1 : t < hm) (v0 : 1 ≤ v) (v1 : v ≤ 99) : LkI K st2 tk2 sm2 cf cm g hm ∧ ∃ i, 0 ≤ i ∧ i < sm2 h ∧ st2 (22 * h + i) = t := by
  have z0 := (q.deg h0 (by omega) e).1
  subst e1 e2 e3 ex ey ew
  refine ⟨⟨fun j a b => ?_, fun j a b => ⟨(q.2 j a b).1, (q.2 j a b).2.1, fun k c d => ?_⟩⟩, z, z0, by rw [up_same]; omega, up_same _ _ _⟩
  · by_cases r : j = h
    · subst r
      rw [up_same]
      refine ⟨by omega, by omega, fun k c d => ?_⟩
      by_cases s : k = z
      · subst s; rw [up_same, up_same]; exact ⟨⟨t0, t1⟩, v0, v1⟩
      · rw [up_ne (by omega), up_ne (by omega)]
        exact (q.1 j a b).2.2 k c (by omega)
    · rw [up_ne r]
      have w := q.1 j a b
      refine ⟨w.1, w.2.1, fun k c d => ?_⟩
      rw [up_ne (by omega), up_ne (by omega)]
      exact w.2.2 k c d
  · obtain ⟨w1, ⟨i, i0, i1, i2⟩, w3⟩ := (q.2 j a b).2.2 k c d
    refine ⟨w1, ⟨i, i0, ?_, ?_⟩, w3⟩
    · by_cases r : cf (22 * j + k) = h
      · rw [r, up_same]; rw [r, e] at i1; omega
      · rw [up_ne r]; exact i1
    · by_cases r : cf (22 * j + k) = h
      · rw [r] at i1 i2 ⊢; rw [up_ne (by omega)]; exact i2
      · have := q.1 _ w1.1 w1.2
        rw [up_ne (by omega)]; exact i2
/-- there is room for one more that comes hither -/
theorem LkI.room {co cd K st tk sm cf cm : Int → Int} {g hm h t n : Int} (q : LkI K st tk sm cf cm g hm) (hT : HouT co cd K hm) (hf : okF K) (hm' : hm = Hi K) (h0 : 0 ≤ h) (h1 : h + 1 = g) (hg : g ≤ hm) (t0 : 0 ≤ t) (t1 : t < hm) (en : cm t = n) (hs : SrcC K t h) (last : n > 0 → cf (22 * t + (n - 1)) ≠ h) : n ≤ 21 ∧ ∀ k, 0 ≤ k → k < n → cf (22 * t + k) < h := by
  obtain ⟨n0, n1, w⟩ := q.2 t t0 t1
  rw [en] at n0 n1 w
  have lt : ∀ k, 0 ≤ k → k < n → cf (22 * t + k) < h := fun k c d => by
    have l1 := (w (n - 1) (by omega) (by omega)).1
    have l2 := last (by omega)
    by_cases r : k = n - 1
    · subst r; omega
    · have := (w (n - 1) (by omega) (by omega)).2.2.2 k c (by omega)
      omega
  refine ⟨?_, lt⟩
  have p := pigeon (n.toNat + 1) (fun k => if k < n.toNat then cod5 (itB K (cf (22 * t + (k : Int))).toNat) (bsum K).toNat else cod5 (itB K h.toNat) (bsum K).toNat) (srcs K t)
    (fun k hk => by
      by_cases r : k < n.toNat
      · simp only [r, if_true]
        exact (w k (by omega) (by omega)).2.2.1
      · simp only [r, if_false]
        exact hs)
    (fun i j a b => by
      have ri : i < n.toNat := by omega
      simp only [ri, if_true]
      have wi := (w i (by omega) (by omega)).1
      by_cases r : j < n.toNat
      · simp only [r, if_true]
        have u := (w j (by omega) (by omega)).2.2.2 i (by omega) (by omega)
        have wj := (w j (by omega) (by omega)).1
        exact Int.ne_of_lt (it_code hf (by omega) (by unfold Hi at hm'; omega))
      · simp only [r, if_false]
        have u := lt i (by omega) (by omega)
        exact Int.ne_of_lt (it_code hf (by omega) (by unfold Hi at hm'; omega)))
  rw [srcs_len] at p
  omega
theorem LkI.add {K st tk sm cf cf2 cm cm2 : Int → Int} {g hm h t n x w : Int} (q : LkI K st tk sm cf cm g hm) (h0 : 0 ≤ h) (h1 : h + 1 = g) (t0 : 0 ≤ t) (t1 : t < hm) (en : cm t = n) (hs : SrcC K t h) (rm : n ≤ 21 ∧ ∀ k, 0 ≤ k → k < n → cf (22 * t + k) < h) (hi : ∃ i, 0 ≤ i ∧ i < sm h ∧ st (22 * h + i) = t) (ex : x = 22 * t + n) (e1 : cf2 = up cf x h) (e2 : cm2 = up cm t w) (ew : w = n + 1) : LkI K st tk sm cf2 cm2 g hm := by
  have n0 := (q.come t0 t1 en).1
  subst e1 e2 ex ew
  refine ⟨q.1, fun j a b => ?_⟩
  by_cases r : j = t
  · subst r
    rw [up_same]
    refine ⟨by omega, by omega, fun k c d => ?_⟩
    by_cases s : k = n
    · subst s
      rw [up_same]
      refine ⟨⟨h0, by omega⟩, hi, hs, fun i ia ib => ?_⟩
      rw [up_ne (by omega)]
      exact rm.2 i ia ib
    · rw [up_ne (by omega)]
      obtain ⟨w1, w2, w3, w4⟩ := (q.2 j a b).2.2 k c (by omega)
      refine ⟨w1, w2, w3, fun i ia ib => ?_⟩
      rw [up_ne (by omega)]
      exact w4 i ia ib
  · rw [up_ne r]
    have u := q.2 j a b
    refine ⟨u.1, u.2.1, fun k c d => ?_⟩
    rw [up_ne (by omega)]
    obtain ⟨w1, w2, w3, w4⟩ := u.2.2 k c d
    refine ⟨w1, w2, w3, fun i ia ib => ?_⟩
    rw [up_ne (by omega)]
    exact w4 i ia ib
def RotT (o B : Int → Int) (p k : Int) : Prop := ∀ j, 0 ≤ j → j < k → o j = B ((j + 1) % p)
theorem RotT_0 {o B : Int → Int} {p : Int} : RotT o B p 0 := fun j a b => by omega
theorem RotT.push {o o2 B : Int → Int} {p k v : Int} (q : RotT o B p k) (e : o2 = up o k v) (hv : v = B ((k + 1) % p)) : RotT o2 B p (k + 1) := fun j a b => by
  subst e
  by_cases r : j = k
  · rw [r, up_same]; exact hv
  · rw [up_ne r]; exact q j a (by omega)
theorem swp_Rg {a b : Int} {B C : Int → Int} (q : Rg B 7 0 4) (a0 : 0 ≤ a) (a1 : a < 7) (b0 : 0 ≤ b) (b1 : b < 7) (e : C = swp B a b) : Rg C 7 0 4 := fun j h0 h1 => by
  subst e
  unfold swp
  split
  · exact q a a0 a1
  · split
    · exact q b b0 b1
    · exact q j h0 h1
