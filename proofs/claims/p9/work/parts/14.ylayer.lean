/-! THE Y-LAYER: arrays by functions of integers; longs by integers -/
def zA (F : Int → Int) : Nat → Int32 := fun j => zI (F (j : Int))
def up (F : Int → Int) (i v : Int) : Int → Int := fun j => if j = i then v else F j
theorem up_same (F : Int → Int) (i v : Int) : up F i v i = v := by simp [up]
theorem up_ne {F : Int → Int} {i v j : Int} (h : ¬ j = i) : up F i v j = F j := by simp [up, h]
theorem zA_at {F : Int → Int} {i : Int} (h : 0 ≤ i) : zA F i.toNat = zI (F i) := by
  unfold zA
  rw [Int.toNat_of_nonneg h]
theorem zA_upd {F : Int → Int} {i v : Int} (h : 0 ≤ i) : upd (zA F) i.toNat (zI v) = zA (up F i v) := by
  funext j
  unfold upd zA up
  by_cases e : j = i.toNat
  · rw [if_pos e, if_pos (by omega)]
  · rw [if_neg e, if_neg (by omega)]
theorem zA_of (f : Nat → Int32) : ∃ F : Int → Int, f = zA F ∧ ∀ j, zr (F j) := by
  refine ⟨fun j => (f j.toNat).toInt, ?_, fun j => ?_⟩
  · funext j
    show f j = zI (f ((j : Int).toNat)).toInt
    rw [Int.toNat_natCast]
    exact (Int32.ofInt_toInt _).symm
  · have h1 := Int32.le_toInt (f j.toNat)
    have h2 := Int32.toInt_lt (f j.toNat)
    show zr (f j.toNat).toInt
    omega
theorem zA_0 : (fun _ => 0 : Nat → Int32) = zA (fun _ => 0) := rfl
def Rg (F : Int → Int) (n lo hi : Int) : Prop := ∀ j, 0 ≤ j → j < n → lo ≤ F j ∧ F j ≤ hi
theorem Rg.at {F : Int → Int} {n lo hi i z : Int} (h : Rg F n lo hi) (h0 : 0 ≤ i) (h1 : i < n) (e : F i = z) : lo ≤ z ∧ z ≤ hi := e ▸ h i h0 h1
theorem Rg.mono {F : Int → Int} {n lo hi n2 lo2 hi2 : Int} (h : Rg F n lo hi) (h0 : n2 ≤ n) (h1 : lo2 ≤ lo) (h2 : hi ≤ hi2) : Rg F n2 lo2 hi2 := fun j a b => by
  have := h j a (by omega)
  omega
theorem Rg.ups {F F2 : Int → Int} {n lo hi i v : Int} (h : Rg F n lo hi) (e : F2 = up F i v) (h1 : lo ≤ v) (h2 : v ≤ hi) : Rg F2 n lo hi := by
  subst e
  intro j a b
  unfold up
  by_cases q : j = i
  · rw [if_pos q]; exact ⟨h1, h2⟩
  · rw [if_neg q]; exact h j a b
theorem Rg.out {F F2 : Int → Int} {n lo hi i v : Int} (h : Rg F n lo hi) (e : F2 = up F i v) (h1 : n ≤ i) : Rg F2 n lo hi := by
  subst e
  intro j a b
  unfold up
  rw [if_neg (by omega)]
  exact h j a b
theorem Rg.push {F F2 : Int → Int} {n lo hi i v n2 : Int} (h : Rg F n lo hi) (e : F2 = up F i v) (hi' : i = n) (hn : n2 = n + 1) (h1 : lo ≤ v) (h2 : v ≤ hi) : Rg F2 n2 lo hi := by
  subst e
  intro j a b
  unfold up
  by_cases q : j = i
  · rw [if_pos q]; exact ⟨h1, h2⟩
  · rw [if_neg q]; exact h j a (by omega)
theorem Rg.nil {F : Int → Int} {n lo hi : Int} (h : n ≤ 0) : Rg F n lo hi := fun j a b => by omega
theorem Rg.const {n lo hi v : Int} (h1 : lo ≤ v) (h2 : v ≤ hi) : Rg (fun _ => v) n lo hi := fun _ _ _ => ⟨h1, h2⟩
theorem Rg.zr {F : Int → Int} {n : Int} (h : ∀ j, zr (F j)) : Rg F n (-2147483648) 2147483647 := fun j _ _ => h j
theorem meas_lt {a b : Int} {N : Nat} (h : b < a) (h0 : 0 < a) (hm : a.toNat < N + 1) : b.toNat < N := by omega
/-- Int-level bit operations -/
def zand (x y : Int) : Int := (zI x &&& zI y).toInt
def zor (x y : Int) : Int := (zI x ||| zI y).toInt
def zxor (x y : Int) : Int := (zI x ^^^ zI y).toInt
def zshl (x y : Int) : Int := (zI x <<< (zI y &&& 31)).toInt
def zshr (x y : Int) : Int := (zI x >>> (zI y &&& 31)).toInt
def zi2b (x : Int) : Int := ((zI x).toInt8.toInt32).toInt
def zi2c (x : Int) : Int := (((zI x).toUInt32 % 65536).toInt32).toInt
theorem zback (x : Int32) : x = zI x.toInt := (Int32.ofInt_toInt x).symm
theorem zr_toInt (x : Int32) : zr x.toInt := by
  have h1 := Int32.le_toInt x
  have h2 := Int32.toInt_lt x
  omega
theorem zand_mask {x m z : Int} (k : Nat) (hk : k ≤ 30) (hm : (zI m).toBitVec.toNat = 2 ^ k - 1) (hz : m = ((2 ^ k - 1 : Nat) : Int)) (e : zand x m = z) : 0 ≤ z ∧ z ≤ m := by
  obtain ⟨w, h1, h2, h3⟩ := zI_mask (x := zI x) k hk hm
  have hp : (2 ^ k : Nat) ≤ 2 ^ 30 := Nat.pow_le_pow_right (by decide) hk
  have hp2 : (2 : Nat) ^ 30 = 1073741824 := by decide
  have hc : ((2 ^ k : Nat) : Int) = (2 : Int) ^ k := by exact_mod_cast rfl
  have hk1 : 1 ≤ (2 ^ k : Nat) := Nat.one_le_two_pow
  unfold zand at e
  rw [h3, zI_toInt (by omega)] at e
  omega
theorem zshr_pos {x z : Int} (k : Nat) (y : Int) (hx : zr x) (h0 : 0 ≤ x) (hs : ((zI y &&& 31).toBitVec.smod 32).toNat = k) {p : Int} (hp : ((2 ^ k : Nat) : Int) = p) (hp1 : 1 ≤ p) (e : zshr x y = z) : z = x / p := by
  unfold zshr at e
  rw [zI_shr hx h0 k hs hp] at e
  rw [zI_toInt] at e
  · exact e.symm
  · have h1 : 0 ≤ x / p := Int.ediv_nonneg h0 (by omega)
    have h2 : x / p ≤ x := Int.ediv_le_self p h0
    omega
/-- longs -/
def zL (z : Int) : Int64 := Int64.ofInt z
abbrev zr64 (z : Int) : Prop := -9223372036854775808 ≤ z ∧ z ≤ 9223372036854775807
theorem zL_toInt {z : Int} (h : zr64 z) : (zL z).toInt = z := by
  unfold zL
  rw [Int64.toInt_ofInt, show Int64.size = 18446744073709551616 from rfl]
  rw [Int.bmod_eq_of_le] <;> omega
theorem zL_of (x : Int64) : ∃ z, zr64 z ∧ x = zL z := by
  refine ⟨x.toInt, ?_, ?_⟩
  · have h1 := Int64.le_toInt x
    have h2 := Int64.toInt_lt x
    omega
  · unfold zL
    exact (Int64.ofInt_toInt x).symm
theorem zL_add (a b : Int) : zL a + zL b = zL (a + b) := (Int64.ofInt_add a b).symm
theorem zL_sub (a b : Int) : zL a - zL b = zL (a - b) := (Int64.ofInt_sub a b).symm
theorem zL_mul (a b : Int) : zL a * zL b = zL (a * b) := (Int64.ofInt_mul a b).symm
theorem zL_cmp {a b : Int} (ha : zr64 a) (hb : zr64 b) : ∃ z : Int, -1 ≤ z ∧ z ≤ 1 ∧ lg_cmp (zL a) (zL b) = zI z ∧ (z = 0 ↔ a = b) ∧ (z < 0 ↔ a < b) := by
  have := zcmp (zL a) (zL b)
  rwa [zL_toInt ha, zL_toInt hb] at this
theorem zI_i2l {a : Int} (ha : zr a) : (zI a).toInt64 = zL a := by
  apply Int64.toInt_inj.mp
  rw [zL_toInt (by omega)]
  show (zI a).toInt64.toInt = a
  rw [Int32.toInt_toInt64, zI_toInt ha]
theorem zL_l2i {a : Int} (ha : zr a) : (zL a).toInt32 = zI a := by
  unfold zL zI
  exact Int64.toInt32_ofInt
def zAL (F : Int → Int) : Nat → Int64 := fun j => zL (F (j : Int))
theorem zAL_of (f : Nat → Int64) : ∃ F : Int → Int, f = zAL F := by
  refine ⟨fun j => (f j.toNat).toInt, ?_⟩
  funext j
  show f j = zL (f ((j : Int).toNat)).toInt
  rw [Int.toNat_natCast]
  exact (Int64.ofInt_toInt _).symm
section YR
variable {l : Launch} {G : jG} {M : jM} {R : Room} {E : State → Array Value → Prop} {Q : List Frame → Array Value → State → State → Prop} {h : jH} {nh : Nat} {fh : Nat → Option va_E} {L : List (Nat × va_E)} {ck sk pc : Nat} {ls : List (Option Value)} {st : List Value}
theorem Y_iald {k n : Nat} {F : Int → Int} {i z : Int} (N : Int) (hdg : decode M.2.1 pc = .ok (.iaload, 1)) (hf : fh k = some (.inl (0, n, .inl (zA F)))) (hN : (n : Int) = N) (hb : N ≤ 2147483647) (h0 : 0 ≤ i) (h1 : i < N) (hz : F i = z) (kk : J l G M R E Q (nh, fh) ck sk (pc + 1) ls (.int (zI z) :: st)) : J l G M R E Q (nh, fh) ck sk pc ls (.int (zI i) :: .ref k :: st) :=
  J_iald (i2 := i.toNat) (v := zI z) hdg hf rfl (zI_in (by omega) h0 (by omega)) (zI_clamp (by omega)) (by rw [zA_at h0, hz]) kk
theorem Y_zald {k n : Nat} {F : Int → Int} {i z : Int} (N : Int) (hdg : decode M.2.1 pc = .ok (.baload, 1)) (hf : fh k = some (.inl (2, n, .inl (zA F)))) (hN : (n : Int) = N) (hb : N ≤ 2147483647) (h0 : 0 ≤ i) (h1 : i < N) (hz : F i = z) (kk : J l G M R E Q (nh, fh) ck sk (pc + 1) ls (.int (zI z) :: st)) : J l G M R E Q (nh, fh) ck sk pc ls (.int (zI i) :: .ref k :: st) :=
  J_zald (i2 := i.toNat) (v := zI z) hdg hf rfl (zI_in (by omega) h0 (by omega)) (zI_clamp (by omega)) (by rw [zA_at h0, hz]) kk
theorem Y_bald {k n : Nat} {F : Int → Int} {i z : Int} (N : Int) (hdg : decode M.2.1 pc = .ok (.baload, 1)) (hf : fh k = some (.inl (3, n, .inl (zA F)))) (hN : (n : Int) = N) (hb : N ≤ 2147483647) (h0 : 0 ≤ i) (h1 : i < N) (hz : F i = z) (kk : J l G M R E Q (nh, fh) ck sk (pc + 1) ls (.int (zI z) :: st)) : J l G M R E Q (nh, fh) ck sk pc ls (.int (zI i) :: .ref k :: st) :=
  J_bald (i2 := i.toNat) (v := zI z) hdg hf rfl (zI_in (by omega) h0 (by omega)) (zI_clamp (by omega)) (by rw [zA_at h0, hz]) kk
theorem Y_lald {k n : Nat} {F : Int → Int} {i z : Int} (N : Int) (hdg : decode M.2.1 pc = .ok (.laload, 1)) (hf : fh k = some (.inl (1, n, .inr (.inl (zAL F))))) (hN : (n : Int) = N) (hb : N ≤ 2147483647) (h0 : 0 ≤ i) (h1 : i < N) (hz : zL (F i) = zL z) (kk : J l G M R E Q (nh, fh) ck sk (pc + 1) ls (.long (zL z) :: st)) : J l G M R E Q (nh, fh) ck sk pc ls (.int (zI i) :: .ref k :: st) :=
  J_lald (i2 := i.toNat) (v := zL z) hdg hf rfl (zI_in (by omega) h0 (by omega)) (zI_clamp (by omega)) (by show zL (F ((i.toNat : Nat) : Int)) = zL z; rw [Int.toNat_of_nonneg h0, hz]) kk
theorem Y_iast {k n : Nat} {F : Int → Int} {i v : Int} (N : Int) (hdg : decode M.2.1 pc = .ok (.iastore, 1)) (hf : hc fh L k = some (.inl (0, n, .inl (zA F)))) (hN : (n : Int) = N) (hb : N ≤ 2147483647) (h0 : 0 ≤ i) (h1 : i < N) (kk : ∀ F2, F2 = up F i v → J l G M R E Q (nh, hc fh ((k, .inl (0, n, .inl (zA F2))) :: L)) ck sk (pc + 1) ls st) : J l G M R E Q (nh, hc fh L) ck sk pc ls (.int (zI v) :: .int (zI i) :: .ref k :: st) := by
  refine K_iast (i2 := i.toNat) hdg hf rfl (zI_in (by omega) h0 (by omega)) (zI_clamp (by omega)) ?_
  rw [zA_upd h0]
  exact kk _ rfl
theorem Y_zast {k n : Nat} {F : Int → Int} {i v : Int} (N : Int) (hdg : decode M.2.1 pc = .ok (.bastore, 1)) (hf : hc fh L k = some (.inl (2, n, .inl (zA F)))) (hN : (n : Int) = N) (hb : N ≤ 2147483647) (h0 : 0 ≤ i) (h1 : i < N) (hv0 : 0 ≤ v) (hv1 : v ≤ 1) (kk : ∀ F2, F2 = up F i v → J l G M R E Q (nh, hc fh ((k, .inl (2, n, .inl (zA F2))) :: L)) ck sk (pc + 1) ls st) : J l G M R E Q (nh, hc fh L) ck sk pc ls (.int (zI v) :: .int (zI i) :: .ref k :: st) := by
  refine K_zast (i2 := i.toNat) hdg hf rfl (zI_in (by omega) h0 (by omega)) (zI_clamp (by omega)) (vnz hv0 hv1) ?_
  rw [zA_upd h0]
  exact kk _ rfl
theorem Y_bast {k n : Nat} {F : Int → Int} {i v : Int} (N : Int) (hdg : decode M.2.1 pc = .ok (.bastore, 1)) (hf : hc fh L k = some (.inl (3, n, .inl (zA F)))) (hN : (n : Int) = N) (hb : N ≤ 2147483647) (h0 : 0 ≤ i) (h1 : i < N) (kk : ∀ F2, F2 = up F i (zi2b v) → J l G M R E Q (nh, hc fh ((k, .inl (3, n, .inl (zA F2))) :: L)) ck sk (pc + 1) ls st) : J l G M R E Q (nh, hc fh L) ck sk pc ls (.int (zI v) :: .int (zI i) :: .ref k :: st) := by
  refine K_bast (i2 := i.toNat) (y := zI (zi2b v)) hdg hf rfl (zI_in (by omega) h0 (by omega)) (zI_clamp (by omega)) (zback _) ?_
  rw [zA_upd h0]
  exact kk _ rfl
theorem Y_last {k n : Nat} {F : Int → Int} {i v : Int} (N : Int) (hdg : decode M.2.1 pc = .ok (.lastore, 1)) (hf : hc fh L k = some (.inl (1, n, .inr (.inl (zAL F))))) (hN : (n : Int) = N) (hb : N ≤ 2147483647) (h0 : 0 ≤ i) (h1 : i < N) (kk : ∀ F2, F2 = up F i v → J l G M R E Q (nh, hc fh ((k, .inl (1, n, .inr (.inl (zAL F2)))) :: L)) ck sk (pc + 1) ls st) : J l G M R E Q (nh, hc fh L) ck sk pc ls (.long (zL v) :: .int (zI i) :: .ref k :: st) := by
  refine K_last (i2 := i.toNat) hdg hf rfl (zI_in (by omega) h0 (by omega)) (zI_clamp (by omega)) ?_
  have e : vp_updL (zAL F) i.toNat (zL v) = zAL (up F i v) := by
    funext j
    unfold vp_updL zAL up
    by_cases e : j = i.toNat
    · rw [if_pos e, if_pos (by omega)]
    · rw [if_neg e, if_neg (by omega)]
  rw [e]
  exact kk _ rfl
theorem Y_alen {k t : Nat} {n : Nat} {x : (Nat → Int32) ⊕ (Nat → Int64) ⊕ (Nat → UInt32) ⊕ (Nat → UInt64) ⊕ (Nat → Option Nat)} {ty : FieldType} (N : Int) (hdg : decode M.2.1 pc = .ok (.arraylength, 1)) (hf : fh k = some (.inl (t, n, x))) (ht : jT[t]? = some ty) (hN : (n : Int) = N) (kk : J l G M R E Q (nh, fh) ck sk (pc + 1) ls (.int (zI N) :: st)) : J l G M R E Q (nh, fh) ck sk pc ls (.ref k :: st) :=
  J_alen (v := zI N) hdg hf ht (by rw [← hN]; exact zI_nI n) kk
theorem Y_bit {x y : Int32} {z : Int} (e : x = y) (hz : y.toInt = z) : x = zI z := by rw [e, ← hz]; exact zback y
theorem Y_iand {a b z : Int} (hdg : decode M.2.1 pc = .ok (.iand, 1)) (hz : zand a b = z) (k : J l G M R E Q h ck sk (pc + 1) ls (.int (zI z) :: st)) : J l G M R E Q h ck sk pc ls (.int (zI b) :: .int (zI a) :: st) := J_iand hdg (Y_bit rfl hz) k
theorem Y_ior {a b z : Int} (hdg : decode M.2.1 pc = .ok (.ior, 1)) (hz : zor a b = z) (k : J l G M R E Q h ck sk (pc + 1) ls (.int (zI z) :: st)) : J l G M R E Q h ck sk pc ls (.int (zI b) :: .int (zI a) :: st) := J_ior hdg (Y_bit rfl hz) k
theorem Y_ixor {a b z : Int} (hdg : decode M.2.1 pc = .ok (.ixor, 1)) (hz : zxor a b = z) (k : J l G M R E Q h ck sk (pc + 1) ls (.int (zI z) :: st)) : J l G M R E Q h ck sk pc ls (.int (zI b) :: .int (zI a) :: st) := J_ixor hdg (Y_bit rfl hz) k
theorem Y_ishl {a b z : Int} (hdg : decode M.2.1 pc = .ok (.ishl, 1)) (hz : zshl a b = z) (k : J l G M R E Q h ck sk (pc + 1) ls (.int (zI z) :: st)) : J l G M R E Q h ck sk pc ls (.int (zI b) :: .int (zI a) :: st) := J_ishl hdg (Y_bit rfl hz) k
theorem Y_ishr {a b z : Int} (hdg : decode M.2.1 pc = .ok (.ishr, 1)) (hz : zshr a b = z) (k : J l G M R E Q h ck sk (pc + 1) ls (.int (zI z) :: st)) : J l G M R E Q h ck sk pc ls (.int (zI b) :: .int (zI a) :: st) := J_ishr hdg (Y_bit rfl hz) k
theorem Y_i2b {a z : Int} (hdg : decode M.2.1 pc = .ok (.i2b, 1)) (hz : zi2b a = z) (k : J l G M R E Q h ck sk (pc + 1) ls (.int (zI z) :: st)) : J l G M R E Q h ck sk pc ls (.int (zI a) :: st) := J_i2b hdg (Y_bit rfl hz) k
theorem Y_i2c {a z : Int} (hdg : decode M.2.1 pc = .ok (.i2c, 1)) (hz : zi2c a = z) (k : J l G M R E Q h ck sk (pc + 1) ls (.int (zI z) :: st)) : J l G M R E Q h ck sk pc ls (.int (zI a) :: st) := J_i2c hdg (Y_bit rfl hz) k
theorem Y_ladd {a b c : Int} (hdg : decode M.2.1 pc = .ok (.ladd, 1)) (hc : a + b = c) (k : J l G M R E Q h ck sk (pc + 1) ls (.long (zL c) :: st)) : J l G M R E Q h ck sk pc ls (.long (zL b) :: .long (zL a) :: st) := J_ladd hdg (by rw [zL_add, hc]) k
theorem Y_lsub {a b c : Int} (hdg : decode M.2.1 pc = .ok (.lsub, 1)) (hc : a - b = c) (k : J l G M R E Q h ck sk (pc + 1) ls (.long (zL c) :: st)) : J l G M R E Q h ck sk pc ls (.long (zL b) :: .long (zL a) :: st) := J_lsub hdg (by rw [zL_sub, hc]) k
theorem Y_lmul {a b c : Int} (hdg : decode M.2.1 pc = .ok (.lmul, 1)) (hc : a * b = c) (k : J l G M R E Q h ck sk (pc + 1) ls (.long (zL c) :: st)) : J l G M R E Q h ck sk pc ls (.long (zL b) :: .long (zL a) :: st) := J_lmul hdg (by rw [zL_mul, hc]) k
/-- a long of which only the range is kept -/
theorem Y_lany {a : Int} (k : ∀ z, zr64 z → J l G M R E Q h ck sk pc ls (.long (zL z) :: st)) : J l G M R E Q h ck sk pc ls (.long (zL a) :: st) := by
  obtain ⟨z, h1, h2⟩ := zL_of (zL a)
  rw [h2]
  exact k z h1
theorem Y_lcmp {a b : Int} (hdg : decode M.2.1 pc = .ok (.lcmp, 1)) (ha : zr64 a) (hb : zr64 b) (k : ∀ z, -1 ≤ z → z ≤ 1 → (z = 0 ↔ a = b) → (z < 0 ↔ a < b) → J l G M R E Q h ck sk (pc + 1) ls (.int (zI z) :: st)) : J l G M R E Q h ck sk pc ls (.long (zL b) :: .long (zL a) :: st) := by
  obtain ⟨z, h1, h2, h3, h4, h5⟩ := zL_cmp ha hb
  exact J_lcmp hdg h3 (k z h1 h2 h4 h5)
theorem Y_i2l {a : Int} (hdg : decode M.2.1 pc = .ok (.i2l, 1)) (ha : zr a) (k : J l G M R E Q h ck sk (pc + 1) ls (.long (zL a) :: st)) : J l G M R E Q h ck sk pc ls (.int (zI a) :: st) := J_i2l hdg (zI_i2l ha) k
theorem Y_l2i {a : Int} (hdg : decode M.2.1 pc = .ok (.l2i, 1)) (ha : zr a) (k : J l G M R E Q h ck sk (pc + 1) ls (.int (zI a) :: st)) : J l G M R E Q h ck sk pc ls (.long (zL a) :: st) := J_l2i hdg (zL_l2i ha) k
theorem Y_l2iany {a : Int} (hdg : decode M.2.1 pc = .ok (.l2i, 1)) (k : ∀ z, zr z → J l G M R E Q h ck sk (pc + 1) ls (.int (zI z) :: st)) : J l G M R E Q h ck sk pc ls (.long (zL a) :: st) := by
  obtain ⟨z, h1, h2⟩ := zI_of ((zL a).toInt32)
  exact J_l2i hdg h2 (k z h1)
theorem Y_ldivany {a b : Int} (hdg : decode M.2.1 pc = .ok (.ldiv, 1)) (hb : zr64 b) (hne : ¬ b = 0) (k : ∀ z, zr64 z → J l G M R E Q h ck sk (pc + 1) ls (.long (zL z) :: st)) : J l G M R E Q h ck sk pc ls (.long (zL b) :: .long (zL a) :: st) := by
  obtain ⟨z, h1, h2⟩ := zL_of (zL a / zL b)
  refine J_ldiv hdg (fun q => hne ?_) h2 (k z h1)
  have := congrArg Int64.toInt q
  rw [zL_toInt hb] at this
  exact this
end YR
