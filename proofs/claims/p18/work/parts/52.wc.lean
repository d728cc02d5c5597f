/-! rows of steps: how many lead where -/
/-- the steps of one list add v each -/
def rwA (v : Int) : jES → (Int → Int) → (Int → Int)
  | [], g => g
  | e :: q, g => rwA v q (up g e.1 (g e.1 + v))
/-- of the first n houses -/
def rwH (es : Int → jES) (R : Int → Int) : Nat → (Int → Int)
  | 0 => fun _ => 0
  | n + 1 => rwA (R n) (es n) (rwH es R n)
def rwK (es : Int → jES) (m x : Int) : Nat → (Int → Int)
  | 0 => fun y => if y = x then 1 else 0
  | k + 1 => rwH es (rwK es m x k) m.toNat
def rwU (R : Int → Int) : Nat → Int
  | 0 => 0
  | n + 1 => rwU R n + R n
/-- at most 22 steps from each house -/
def EsL (es : Int → jES) (m : Int) : Prop := ∀ x, 0 ≤ x → x < m → (es x).length ≤ 22
def rwF (es : Int → jES) (m x y n : Int) : Int := if 0 ≤ x ∧ x < m ∧ -1 ≤ y ∧ y < m ∧ 0 ≤ n ∧ n ≤ 12 then (if y = -1 then rwU (rwK es m x n.toNat) m.toNat else rwK es m x n.toNat y) else -1
section Rws
variable {es : Int → jES} {m x y v t k h i z w r n : Int} {g R F G F2 G2 : Int → Int} {q q2 : jES}
theorem rwA_app : ∀ (q : jES) (g : Int → Int), rwA v (q ++ q2) g = rwA v q2 (rwA v q g)
  | [], _ => rfl
  | e :: q, g => rwA_app q _
theorem rwA_more {a : Nat} (e : q[a]? = some (y, t)) : rwA v (q.take (a + 1)) g = up (rwA v (q.take a) g) y (rwA v (q.take a) g y + v) := by
  rw [List.take_add_one, e, rwA_app]
  rfl
theorem up_zero : up g y (g y + 0) = g := by
  funext z
  by_cases e : z = y
  · rw [e, up_same, Int.add_zero]
  · rw [up_ne e]
theorem rwA_0 : ∀ (q : jES) (g : Int → Int), rwA 0 q g = g
  | [], _ => rfl
  | e :: q, g => by
    show rwA 0 q (up g e.1 (g e.1 + 0)) = g
    rw [up_zero]
    exact rwA_0 q g
/-! how large they are -/
theorem rwA_nn (v0 : 0 ≤ v) : ∀ (q : jES) (g : Int → Int), (∀ y, 0 ≤ g y) → ∀ y, 0 ≤ rwA v q g y
  | [], _, h => h
  | e :: q, g, h => rwA_nn v0 q _ (fun y => by
    by_cases k : y = e.1
    · rw [k, up_same]
      have := h e.1
      omega
    · rw [up_ne k]
      exact h y)
theorem rwU_up {a v : Int} (a0 : 0 ≤ a) : ∀ n : Nat, rwU (up g a (g a + v)) n = rwU g n + (if a < n then v else 0)
  | 0 => by
    rw [if_neg (by omega)]
    rfl
  | n + 1 => by
    show rwU (up g a (g a + v)) n + up g a (g a + v) n = rwU g n + g n + _
    rw [rwU_up a0 n]
    by_cases e : (n : Int) = a
    · rw [e, up_same, if_neg (by omega), if_pos (by omega)]
      omega
    · rw [up_ne e]
      by_cases l : a < n
      · rw [if_pos l, if_pos (by omega)]
        omega
      · rw [if_neg l, if_neg (by omega)]
        omega
theorem rwA_S {n : Nat} : ∀ (q : jES) (g : Int → Int), (∀ e ∈ q, 0 ≤ e.1 ∧ e.1 < n) → rwU (rwA v q g) n = rwU g n + q.length * v
  | [], g, _ => by
    show rwU g n = rwU g n + ((0 : Nat) : Int) * v
    rw [show ((0 : Nat) : Int) = 0 from rfl, Int.zero_mul, Int.add_zero]
  | e :: q, g, h => by
    have u := h e (List.mem_cons_self ..)
    show rwU (rwA v q (up g e.1 (g e.1 + v))) n = rwU g n + ((q.length + 1 : Nat) : Int) * v
    rw [rwA_S q _ (fun p hp => h p (List.mem_cons_of_mem _ hp)), rwU_up u.1, if_pos u.2, show ((q.length + 1 : Nat) : Int) = (q.length : Int) + 1 by omega, Int.add_mul]
    omega
theorem rwU_nn (h : ∀ y, 0 ≤ g y) : ∀ n : Nat, 0 ≤ rwU g n
  | 0 => Int.le_refl 0
  | n + 1 => by
    have a := rwU_nn h n
    have b := h n
    show 0 ≤ rwU g n + g n
    omega
theorem rwU_at (h : ∀ y, 0 ≤ g y) (y0 : 0 ≤ y) : ∀ n : Nat, y < n → g y ≤ rwU g n
  | 0, l => by omega
  | n + 1, l => by
    show g y ≤ rwU g n + g n
    by_cases e : y = n
    · rw [e]
      have := rwU_nn h n
      omega
    · have a := rwU_at h y0 n (by omega)
      have b := h n
      omega
theorem rwU_le (h : ∀ y, 0 ≤ g y) {a : Nat} : ∀ n : Nat, a ≤ n → rwU g a ≤ rwU g n
  | 0, l => by
    rw [show a = 0 by omega]
    exact Int.le_refl _
  | n + 1, l => by
    by_cases e : a = n + 1
    · rw [e]
      exact Int.le_refl _
    · have u := rwU_le h (a := a) n (by omega)
      have b := h n
      show rwU g a ≤ rwU g n + g n
      omega
theorem rwH_nn (h : ∀ y, 0 ≤ R y) : ∀ (n : Nat) (y : Int), 0 ≤ rwH es R n y
  | 0, _ => Int.le_refl 0
  | n + 1, y => rwA_nn (h n) _ _ (rwH_nn h n) y
theorem mul_le22 {a : Nat} {v : Int} (l : a ≤ 22) (v0 : 0 ≤ v) : (a : Int) * v ≤ 22 * v := Int.mul_le_mul_of_nonneg_right (by omega) v0
theorem rwU_0 : ∀ n : Nat, rwU (fun _ => 0) n = 0
  | 0 => rfl
  | n + 1 => by
    show rwU (fun _ => 0) n + 0 = 0
    rw [rwU_0 n]
    rfl
theorem rwH_S (er : EsR es m) (el : EsL es m) (h : ∀ y, 0 ≤ R y) (m0 : 0 ≤ m) : ∀ n : Nat, (n : Int) ≤ m → rwU (rwH es R n) m.toNat ≤ 22 * rwU R n
  | 0, _ => by
    show rwU (fun _ => 0) m.toNat ≤ 22 * 0
    rw [rwU_0]
    omega
  | n + 1, l => by
    show rwU (rwA (R n) (es n) (rwH es R n)) m.toNat ≤ 22 * (rwU R n + R n)
    rw [rwA_S (es n) _ (fun e he => by have u := er n (by omega) (by omega) e he; omega)]
    have a := rwH_S er el h m0 n (by omega)
    have b := mul_le22 (el n (by omega) (by omega)) (h n)
    omega
theorem rwK_nn (x0 : 0 ≤ x) : ∀ (k : Nat) (y : Int), 0 ≤ rwK es m x k y
  | 0, y => by
    show 0 ≤ if y = x then (1 : Int) else 0
    split <;> omega
  | k + 1, y => rwH_nn (rwK_nn x0 k) _ y
theorem rwU_one (x0 : 0 ≤ x) : ∀ n : Nat, rwU (fun y => if y = x then (1 : Int) else 0) n = if x < n then 1 else 0
  | 0 => by
    rw [if_neg (by omega)]
    rfl
  | n + 1 => by
    show rwU (fun y => if y = x then (1 : Int) else 0) n + (if (n : Int) = x then (1 : Int) else 0) = _
    rw [rwU_one x0 n]
    by_cases e : (n : Int) = x
    · rw [if_neg (by omega), if_pos e, if_pos (by omega)]
      rfl
    · rw [if_neg e]
      by_cases l : x < n
      · rw [if_pos l, if_pos (by omega)]
        rfl
      · rw [if_neg l, if_neg (by omega)]
        rfl
theorem rwK_S (er : EsR es m) (el : EsL es m) (x0 : 0 ≤ x) (x1 : x < m) : ∀ k : Nat, rwU (rwK es m x k) m.toNat ≤ 22 ^ k
  | 0 => by
    show rwU (fun y => if y = x then (1 : Int) else 0) m.toNat ≤ 1
    rw [rwU_one x0]
    split <;> omega
  | k + 1 => by
    have a := rwK_S er el x0 x1 k
    have b := rwH_S (R := rwK es m x k) er el (rwK_nn x0 k) (by omega) m.toNat (by omega)
    show rwU (rwH es (rwK es m x k) m.toNat) m.toNat ≤ 22 ^ (k + 1)
    rw [Int.pow_succ]
    omega
theorem pow22 : ∀ k : Nat, k ≤ 12 → (22 : Int) ^ k ≤ 12855002631049216 := by decide
theorem rwK_bd (er : EsR es m) (el : EsL es m) (x0 : 0 ≤ x) (x1 : x < m) {k : Nat} (k1 : k ≤ 12) : rwU (rwK es m x k) m.toNat ≤ 12855002631049216 := Int.le_trans (rwK_S er el x0 x1 k) (pow22 k k1)
/-- rows that hold them -/
def RwN (es : Int → jES) (m x k : Int) (F : Int → Int) : Prop := ∀ y, 0 ≤ y → y < m → F y = rwK es m x k.toNat y
def RwL (es : Int → jES) (m x k h i : Int) (G : Int → Int) : Prop := ∀ y, 0 ≤ y → y < m → G y = rwA (rwK es m x k.toNat h) ((es h).take i.toNat) (rwH es (rwK es m x k.toNat) h.toNat) y
theorem RwN.rg (w : RwN es m x k F) (er : EsR es m) (el : EsL es m) (x0 : 0 ≤ x) (x1 : x < m) (k1 : k ≤ 12) : Rg F m 0 12855002631049216 := fun y y0 y1 => by
  have a := rwK_nn (es := es) (m := m) x0 k.toNat
  have b := rwU_at a y0 m.toNat (by omega)
  have c := rwK_bd er el x0 x1 (k := k.toNat) (by omega)
  have d := a y
  rw [w y y0 y1]
  omega
theorem RwL.rg (w : RwL es m x k h i G) (er : EsR es m) (el : EsL es m) (x0 : 0 ≤ x) (x1 : x < m) (k0 : 0 ≤ k) (k1 : k < 12) (h0 : 0 ≤ h) (h1 : h < m) : Rg G m 0 12855002631049216 := fun y y0 y1 => by
  have nn := rwK_nn (es := es) (m := m) x0 k.toNat
  have a := rwA_nn (nn h) ((es h).take i.toNat) (rwH es (rwK es m x k.toNat) h.toNat) (rwH_nn nn h.toNat)
  have b := rwU_at a y0 m.toNat (by omega)
  have s := rwA_S (v := rwK es m x k.toNat h) (n := m.toNat) ((es h).take i.toNat) (rwH es (rwK es m x k.toNat) h.toNat) (fun e he => by have u := er h h0 h1 e (List.mem_of_mem_take he); omega)
  have t := rwH_S (R := rwK es m x k.toNat) er el nn (by omega) h.toNat (by omega)
  have l : ((es h).take i.toNat).length ≤ 22 := by
    rw [List.length_take]
    have := el h h0 h1
    omega
  have u := mul_le22 l (nn h)
  have p := rwU_le nn (a := h.toNat + 1) m.toNat (by omega)
  have p2 : rwU (rwK es m x k.toNat) (h.toNat + 1) = rwU (rwK es m x k.toNat) h.toNat + rwK es m x k.toNat h := by
    show rwU (rwK es m x k.toNat) h.toNat + rwK es m x k.toNat ((h.toNat : Nat) : Int) = _
    rw [show ((h.toNat : Nat) : Int) = h by omega]
  have c := rwK_S er el x0 x1 k.toNat
  have c2 := pow22 (k.toNat + 1) (by omega)
  rw [Int.pow_succ] at c2
  have d := a y
  rw [w y y0 y1]
  omega
theorem RwN.start (e1 : F = fillf G 0 m 0) (e2 : F2 = up F x 1) : RwN es m x 0 F2 := fun y y0 y1 => by
  show F2 y = if y = x then 1 else 0
  rw [e2]
  by_cases e : y = x
  · rw [e, up_same, if_pos rfl]
  · rw [up_ne e, if_neg e]
    exact fill_at e1 y0 y1
theorem RwL.start (e : G = fillf F 0 m 0) : RwL es m x k 0 0 G := fun y y0 y1 => fill_at e y0 y1
theorem RwL.go (w : RwL es m x k h i G) (f : RwN es m x k F) (h0 : 0 ≤ h) (h1 : h < m) (i0 : 0 ≤ i) (e : (es h)[i.toNat]? = some (y, t)) (y0 : 0 ≤ y) (y1 : y < m) (e1 : G y = z) (e2 : F h = v) (e3 : G2 = up G y r) (er : r = z + v) (ei : n = i + 1) : RwL es m x k h n G2 := fun u u0 u1 => by
  rw [ei, show (i + 1).toNat = i.toNat + 1 by omega, rwA_more e, e3, er]
  by_cases g : u = y
  · rw [g, up_same, up_same, ← w y y0 y1, ← f h h0 h1, e1, e2]
  · rw [up_ne g, up_ne g]
    exact w u u0 u1
theorem RwL.shut (w : RwL es m x k h i G) (h0 : 0 ≤ h) (l : ((es h).length : Int) ≤ i) (e : n = h + 1) : RwL es m x k n 0 G := fun u u0 u1 => by
  rw [w u u0 u1, List.take_of_length_le (by omega), e, show (h + 1).toNat = h.toNat + 1 by omega]
  show _ = rwA (rwK es m x k.toNat ((h.toNat : Nat) : Int)) (es ((h.toNat : Nat) : Int)) (rwH es (rwK es m x k.toNat) h.toNat) u
  rw [show ((h.toNat : Nat) : Int) = h by omega]
theorem RwL.skip (w : RwL es m x k h i G) (f : RwN es m x k F) (h0 : 0 ≤ h) (h1 : h < m) (e : F h = v) (v0 : v = 0) (en : n = h + 1) : RwL es m x k n 0 G := fun u u0 u1 => by
  have z : rwK es m x k.toNat h = 0 := by rw [← f h h0 h1, e, v0]
  rw [w u u0 u1, z, rwA_0, en, show (h + 1).toNat = h.toNat + 1 by omega]
  show _ = rwA (rwK es m x k.toNat ((h.toNat : Nat) : Int)) (es ((h.toNat : Nat) : Int)) (rwH es (rwK es m x k.toNat) h.toNat) u
  rw [show ((h.toNat : Nat) : Int) = h by omega, z, rwA_0]
theorem RwL.end (w : RwL es m x k h 0 G) (k0 : 0 ≤ k) (e : h = m) (en : n = k + 1) : RwN es m x n G := fun u u0 u1 => by
  rw [w u u0 u1, en, show (k + 1).toNat = k.toNat + 1 by omega, e]
  rfl
theorem rwF_n (h : ¬ (0 ≤ x ∧ x < m ∧ -1 ≤ y ∧ y < m ∧ 0 ≤ n ∧ n ≤ 12)) : -1 = rwF es m x y n := (if_neg h).symm
theorem rwF_y (w : RwN es m x n F) (x0 : 0 ≤ x) (x1 : x < m) (y0 : 0 ≤ y) (y1 : y < m) (n0 : 0 ≤ n) (n1 : n ≤ 12) (e : F y = r) : r = rwF es m x y n := by
  unfold rwF
  rw [if_pos ⟨x0, x1, by omega, y1, n0, n1⟩, if_neg (by omega), ← w y y0 y1]
  exact e.symm
/-- the sum of the first h -/
def RwT (es : Int → jES) (m x k h s : Int) : Prop := s = rwU (rwK es m x k.toNat) h.toNat
theorem RwT_0 : RwT es m x k 0 0 := rfl
theorem RwT.go (q : RwT es m x k h z) (w : RwN es m x k F) (h0 : 0 ≤ h) (h1 : h < m) (e : F h = v) (er : r = z + v) (en : n = h + 1) : RwT es m x k n r := by
  unfold RwT at q ⊢
  rw [en, show (h + 1).toNat = h.toNat + 1 by omega]
  show r = rwU (rwK es m x k.toNat) h.toNat + rwK es m x k.toNat ((h.toNat : Nat) : Int)
  rw [show ((h.toNat : Nat) : Int) = h by omega, ← w h h0 h1, e, ← q]
  exact er
theorem RwT.bd (q : RwT es m x k h z) (er : EsR es m) (el : EsL es m) (x0 : 0 ≤ x) (x1 : x < m) (k1 : k ≤ 12) (h1 : h ≤ m) : 0 ≤ z ∧ z ≤ 12855002631049216 := by
  have nn := rwK_nn (es := es) (m := m) x0 k.toNat
  have a := rwU_nn nn h.toNat
  have b := rwU_le nn (a := h.toNat) m.toNat (by omega)
  have c := rwK_bd er el x0 x1 (k := k.toNat) (by omega)
  unfold RwT at q
  omega
theorem rwF_s (q : RwT es m x n h r) (x0 : 0 ≤ x) (x1 : x < m) (e : y = -1) (eh : h = m) (n0 : 0 ≤ n) (n1 : n ≤ 12) : r = rwF es m x y n := by
  unfold rwF
  rw [if_pos ⟨x0, x1, by omega, by omega, n0, n1⟩, if_pos e]
  unfold RwT at q
  rw [eh] at q
  exact q
/-- set one by one -/
def RwZ (x h : Int) (F : Int → Int) : Prop := ∀ y, 0 ≤ y → y < h → F y = if y = x then 1 else 0
theorem RwZ_0 : RwZ x 0 F := fun y a b => by omega
theorem RwZ.yes (w : RwZ x h F) (e : F2 = up F h v) (c : h = x) (ev : v = 1) (en : n = h + 1) : RwZ x n F2 := fun y a b => by
  rw [e]
  by_cases g : y = h
  · rw [g, up_same, if_pos c, ev]
  · rw [up_ne g]
    exact w y a (by omega)
theorem RwZ.no (w : RwZ x h F) (e : F2 = up F h v) (c : ¬ h = x) (ev : v = 0) (en : n = h + 1) : RwZ x n F2 := fun y a b => by
  rw [e]
  by_cases g : y = h
  · rw [g, up_same, if_neg c, ev]
  · rw [up_ne g]
    exact w y a (by omega)
theorem RwZ.end (w : RwZ x h F) (e : h = m) : RwN es m x 0 F := fun y a b => w y a (by omega)
/-- copied one by one -/
def RwY (F G : Int → Int) (h : Int) : Prop := ∀ y, 0 ≤ y → y < h → F y = G y
theorem RwY_0 : RwY F G 0 := fun y a b => by omega
theorem RwY.go (w : RwY F G h) (e : F2 = up F h v) (ev : G h = v) (en : n = h + 1) : RwY F2 G n := fun y a b => by
  rw [e]
  by_cases g : y = h
  · rw [g, up_same, ev]
  · rw [up_ne g]
    exact w y a (by omega)
theorem RwY.end (w : RwY F G h) (e : h = m) (q : RwN es m x k G) : RwN es m x k F := fun y a b => (w y a (by omega)).trans (q y a b)
/-- which of both rows holds the counts now -/
def nwC (k : Nat) (F G : Int → Int) : Int → Int := bif Nat.beq k 73 then F else G
end Rws
theorem sxL_len {S B : Int → Int} {Wl : Int → Int → Prop} {V : Int → Int → Int} {x p tn : Int} (p0 : 0 ≤ p) (h7 : p ≤ 7) : (sxL S Wl V B x p tn).length ≤ 22 := by
  have b := sxO_len (S := S) (Wl := Wl) (V := V) (B := B) (x := x) h7 p.toNat (by omega)
  have b2 : prs p p ≤ 21 := by
    by_cases z : p = 0
    · subst z
      decide
    · have s := prs_step (p := p) (l := p - 1) (by omega) (by omega) h7
      have s2 := prs_le (p := p) (l := p - 1) (by omega) (by omega) h7
      rw [show p - 1 + 1 = p by omega] at s
      omega
  rw [show ((p.toNat : Nat) : Int) = p by omega] at b
  have c : (sxT S Wl B x p tn).length ≤ 1 := by
    unfold sxT
    by_cases q : tn = 1 ∧ ¬ the (OrR S (tnB B p)) = x
    · rw [iF_pos q]
      exact sxS_len
    · rw [iF_neg q]
      exact Nat.zero_le _
  unfold sxL
  rw [List.length_append]
  omega
theorem FsE.el {es : Int → jES} {gw : jLG} {fo wc p m : Int} {ff wa wb tf : Int → Int} (h : FsE es gw fo ff wa wb wc p tf m) (p0 : 0 ≤ p) (h7 : p ≤ 7) : EsL es m := fun x x0 x1 => by
  obtain ⟨R, _, h2⟩ := h x x0 x1
  rw [h2]
  exact sxL_len p0 h7
