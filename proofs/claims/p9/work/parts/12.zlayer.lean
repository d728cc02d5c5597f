/-! THE Z-LAYER: ints of the machine by integers; side conditions are linear -/
def zI (z : Int) : Int32 := Int32.ofInt z
/-- within the machine's ints -/
abbrev zr (z : Int) : Prop := -2147483648 ≤ z ∧ z ≤ 2147483647
theorem zI_toInt {z : Int} (h : zr z) : (zI z).toInt = z := by
  unfold zI
  rw [Int32.toInt_ofInt, show Int32.size = 4294967296 from rfl]
  rw [Int.bmod_eq_of_le] <;> omega
theorem zI_of (x : Int32) : ∃ z, zr z ∧ x = zI z := by
  refine ⟨x.toInt, ?_, ?_⟩
  · have h1 := Int32.le_toInt x
    have h2 := Int32.toInt_lt x
    omega
  · unfold zI
    exact (Int32.ofInt_toInt x).symm
theorem zI_add (a b : Int) : zI a + zI b = zI (a + b) := (Int32.ofInt_add a b).symm
theorem zI_sub (a b : Int) : zI a - zI b = zI (a - b) := (Int32.ofInt_sub a b).symm
theorem zI_mul (a b : Int) : zI a * zI b = zI (a * b) := (Int32.ofInt_mul a b).symm
theorem zI_neg (a : Int) : -zI a = zI (-a) := (Int32.ofInt_neg a).symm
theorem zI_inj {a b : Int} (ha : zr a) (hb : zr b) : zI a = zI b ↔ a = b := by
  constructor
  · intro h
    have := congrArg Int32.toInt h
    rwa [zI_toInt ha, zI_toInt hb] at this
  · intro h
    rw [h]
theorem zI_lt {a b : Int} (ha : zr a) (hb : zr b) : zI a < zI b ↔ a < b := by
  rw [Int32.lt_iff_toInt_lt, zI_toInt ha, zI_toInt hb]
theorem zI_le {a b : Int} (ha : zr a) (hb : zr b) : zI a ≤ zI b ↔ a ≤ b := by
  rw [Int32.le_iff_toInt_le, zI_toInt ha, zI_toInt hb]
theorem zI_clamp {a : Int} (ha : zr a) : (zI a).toNatClampNeg = a.toNat := by
  show (zI a).toInt.toNat = a.toNat
  rw [zI_toInt ha]
theorem zI_in {a : Int} {n : Nat} (ha : zr a) (h0 : 0 ≤ a) (h : a < n) : vp_in (zI a) n := by
  rw [vp_in_iff, zI_toInt ha]
  exact ⟨h0, h⟩
theorem zI_nI (n : Nat) : nI n = zI n := by
  unfold nI zI
  exact (Int32.ofInt_eq_ofNat).symm
theorem zI_div {a b : Int} (ha : zr a) (hb : zr b) (h0 : 0 ≤ a) (h1 : 0 < b) : zI a / zI b = zI (a / b) := by
  obtain ⟨n, rfl⟩ := Int.eq_ofNat_of_zero_le h0
  obtain ⟨d, rfl⟩ := Int.eq_ofNat_of_zero_le (Int.le_of_lt h1)
  rw [← zI_nI, ← zI_nI, pk_div (by omega) (by omega) (by omega), zI_nI]
  congr 1
theorem zI_rem {a b : Int} (ha : zr a) (hb : zr b) (h0 : 0 ≤ a) (h1 : 0 < b) : zI a - zI a / zI b * zI b = zI (a % b) := by
  rw [zI_div ha hb h0 h1, zI_mul, zI_sub]
  congr 1
  have := Int.mul_ediv_add_emod a b
  rw [Int.mul_comm] at this
  omega
theorem zI_mask {x : Int32} (k : Nat) (hk : k ≤ 30) {m : Int32} (hm : m.toBitVec.toNat = 2 ^ k - 1) : ∃ z, 0 ≤ z ∧ z < 2 ^ k ∧ x &&& m = zI z := by
  obtain ⟨j, hj, e⟩ := pk_andE x k hm
  refine ⟨j, by omega, by exact_mod_cast hj, ?_⟩
  rw [e, zI_nI]
/-- an array whose first n places lie within lo .. hi -/
def Rng (f : Nat → Int32) (n : Nat) (lo hi : Int) : Prop := ∀ j, j < n → lo ≤ (f j).toInt ∧ (f j).toInt ≤ hi
theorem Rng.at {f : Nat → Int32} {n : Nat} {lo hi : Int} (h : Rng f n lo hi) {j : Nat} (hj : j < n) : ∃ z, lo ≤ z ∧ z ≤ hi ∧ zr z ∧ f j = zI z := by
  obtain ⟨z, h1, h2⟩ := zI_of (f j)
  have h3 := h j hj
  rw [h2, zI_toInt h1] at h3
  exact ⟨z, h3.1, h3.2, h1, h2⟩
theorem Rng.upd {f : Nat → Int32} {n : Nat} {lo hi : Int} (h : Rng f n lo hi) (k : Nat) {z : Int} (hz : zr z) (h1 : lo ≤ z) (h2 : z ≤ hi) : Rng (upd f k (zI z)) n lo hi := by
  intro j hj
  by_cases e : j = k
  · subst e
    rw [pk_us, zI_toInt hz]
    exact ⟨h1, h2⟩
  · rw [pk_un e]
    exact h j hj
theorem Rng.mono {f : Nat → Int32} {n m : Nat} {lo hi lo2 hi2 : Int} (h : Rng f n lo hi) (hm : m ≤ n) (h1 : lo2 ≤ lo) (h2 : hi ≤ hi2) : Rng f m lo2 hi2 := fun j hj => by
  have := h j (by omega)
  omega
theorem Rng.all (f : Nat → Int32) (n : Nat) : Rng f n (-2147483648) 2147483647 := fun j _ => by
  have h1 := Int32.le_toInt (f j)
  have h2 := Int32.toInt_lt (f j)
  omega
section ZR
variable {l : Launch} {G : jG} {M : jM} {R : Room} {E : State → Array Value → Prop} {Q : List Frame → Array Value → State → State → Prop} {h : jH} {nh : Nat} {fh : Nat → Option va_E} {L : List (Nat × va_E)} {ck sk pc : Nat} {ls : List (Option Value)} {st : List Value}
theorem Z_iconst {n : Int} (hdg : decode M.2.1 pc = .ok (.iconst n, 1)) (k : J l G M R E Q h ck sk (pc + 1) ls (.int (zI n) :: st)) : J l G M R E Q h ck sk pc ls st := J_iconst hdg rfl k
theorem Z_bipush {n : Int} (hdg : decode M.2.1 pc = .ok (.bipush n, 2)) (hv : (Int8.ofInt n).toInt32 = zI n) (k : J l G M R E Q h ck sk (pc + 2) ls (.int (zI n) :: st)) : J l G M R E Q h ck sk pc ls st := J_bipush hdg hv k
theorem Z_sipush {n : Int} (hdg : decode M.2.1 pc = .ok (.sipush n, 3)) (hv : (Int16.ofInt n).toInt32 = zI n) (k : J l G M R E Q h ck sk (pc + 3) ls (.int (zI n) :: st)) : J l G M R E Q h ck sk pc ls st := J_sipush hdg hv k
theorem Z_iadd {a b c : Int} (hdg : decode M.2.1 pc = .ok (.iadd, 1)) (hc : a + b = c) (k : J l G M R E Q h ck sk (pc + 1) ls (.int (zI c) :: st)) : J l G M R E Q h ck sk pc ls (.int (zI b) :: .int (zI a) :: st) := J_iadd hdg (by rw [zI_add, hc]) k
theorem Z_isub {a b c : Int} (hdg : decode M.2.1 pc = .ok (.isub, 1)) (hc : a - b = c) (k : J l G M R E Q h ck sk (pc + 1) ls (.int (zI c) :: st)) : J l G M R E Q h ck sk pc ls (.int (zI b) :: .int (zI a) :: st) := J_isub hdg (by rw [zI_sub, hc]) k
theorem Z_imul {a b c : Int} (hdg : decode M.2.1 pc = .ok (.imul, 1)) (hc : a * b = c) (k : J l G M R E Q h ck sk (pc + 1) ls (.int (zI c) :: st)) : J l G M R E Q h ck sk pc ls (.int (zI b) :: .int (zI a) :: st) := J_imul hdg (by rw [zI_mul, hc]) k
theorem Z_ineg {a c : Int} (hdg : decode M.2.1 pc = .ok (.ineg, 1)) (hc : -a = c) (k : J l G M R E Q h ck sk (pc + 1) ls (.int (zI c) :: st)) : J l G M R E Q h ck sk pc ls (.int (zI a) :: st) := J_ineg hdg (by rw [zI_neg, hc]) k
theorem Z_idiv {a b : Int} (hdg : decode M.2.1 pc = .ok (.idiv, 1)) (ha : zr a) (hb : zr b) (h0 : 0 ≤ a) (h1 : 0 < b) (k : J l G M R E Q h ck sk (pc + 1) ls (.int (zI (a / b)) :: st)) : J l G M R E Q h ck sk pc ls (.int (zI b) :: .int (zI a) :: st) := J_idiv hdg (fun e => by
    have e : zI b = zI 0 := e
    rw [zI_inj hb (by decide)] at e
    omega) (zI_div ha hb h0 h1) k
theorem Z_irem {a b : Int} (hdg : decode M.2.1 pc = .ok (.irem, 1)) (ha : zr a) (hb : zr b) (h0 : 0 ≤ a) (h1 : 0 < b) (k : J l G M R E Q h ck sk (pc + 1) ls (.int (zI (a % b)) :: st)) : J l G M R E Q h ck sk pc ls (.int (zI b) :: .int (zI a) :: st) := J_irem hdg (fun e => by
    have e : zI b = zI 0 := e
    rw [zI_inj hb (by decide)] at e
    omega) (zI_rem ha hb h0 h1) k
theorem Z_iinc {i : Nat} {n a c : Int} {ls2 : List (Option Value)} (hdg : decode M.2.1 pc = .ok (.iinc i n, 3)) (hl : ls[i]? = some (some (.int (zI a)))) (hn : i < M.2.2.1) (hok : jok ls i = true) (hc : a + n = c) (hls : ls.set i (some (.int (zI c))) = ls2) (k : J l G M R E Q h ck sk (pc + 3) ls2 st) : J l G M R E Q h ck sk pc ls st := by
  subst hls
  exact J_iinc hdg hl (by rw [← hc]; exact zI_add a n) hn hok k
theorem Z_if_eq {a : Int} {off : Int} {tgt : Nat} (hdg : decode M.2.1 pc = .ok (.ifCond .eq off, 3)) (ht : (pc : Int) + off = (tgt : Int)) (ha : zr a) (kt : a = 0 → J l G M R E Q h ck sk tgt ls st) (kf : ¬ a = 0 → J l G M R E Q h ck sk (pc + 3) ls st) : J l G M R E Q h ck sk pc ls (.int (zI a) :: st) :=
  J_if_eq hdg ht (fun q => kt ((zI_inj ha (by decide)).mp (show zI a = zI 0 from q))) (fun q => kf (fun e => q (by rw [e]; rfl)))
theorem Z_if_ne {a : Int} {off : Int} {tgt : Nat} (hdg : decode M.2.1 pc = .ok (.ifCond .ne off, 3)) (ht : (pc : Int) + off = (tgt : Int)) (ha : zr a) (kt : ¬ a = 0 → J l G M R E Q h ck sk tgt ls st) (kf : a = 0 → J l G M R E Q h ck sk (pc + 3) ls st) : J l G M R E Q h ck sk pc ls (.int (zI a) :: st) :=
  J_if_ne hdg ht (fun q => kt (fun e => q (by rw [e]; rfl))) (fun q => kf ((zI_inj ha (by decide)).mp (show zI a = zI 0 from q)))
theorem Z_if_lt {a : Int} {off : Int} {tgt : Nat} (hdg : decode M.2.1 pc = .ok (.ifCond .lt off, 3)) (ht : (pc : Int) + off = (tgt : Int)) (ha : zr a) (kt : a < 0 → J l G M R E Q h ck sk tgt ls st) (kf : ¬ a < 0 → J l G M R E Q h ck sk (pc + 3) ls st) : J l G M R E Q h ck sk pc ls (.int (zI a) :: st) :=
  J_if_lt hdg ht (fun q => kt ((zI_lt ha (by decide)).mp (show zI a < zI 0 from q))) (fun q => kf (fun e => q (show zI a < zI 0 from (zI_lt ha (by decide)).mpr e)))
theorem Z_if_ge {a : Int} {off : Int} {tgt : Nat} (hdg : decode M.2.1 pc = .ok (.ifCond .ge off, 3)) (ht : (pc : Int) + off = (tgt : Int)) (ha : zr a) (kt : 0 ≤ a → J l G M R E Q h ck sk tgt ls st) (kf : ¬ 0 ≤ a → J l G M R E Q h ck sk (pc + 3) ls st) : J l G M R E Q h ck sk pc ls (.int (zI a) :: st) :=
  J_if_ge hdg ht (fun q => kt ((zI_le (by decide) ha).mp (show zI 0 ≤ zI a from q))) (fun q => kf (fun e => q (show zI 0 ≤ zI a from (zI_le (by decide) ha).mpr e)))
theorem Z_if_gt {a : Int} {off : Int} {tgt : Nat} (hdg : decode M.2.1 pc = .ok (.ifCond .gt off, 3)) (ht : (pc : Int) + off = (tgt : Int)) (ha : zr a) (kt : 0 < a → J l G M R E Q h ck sk tgt ls st) (kf : ¬ 0 < a → J l G M R E Q h ck sk (pc + 3) ls st) : J l G M R E Q h ck sk pc ls (.int (zI a) :: st) :=
  J_if_gt hdg ht (fun q => kt ((zI_lt (by decide) ha).mp (show zI 0 < zI a from q))) (fun q => kf (fun e => q (show zI 0 < zI a from (zI_lt (by decide) ha).mpr e)))
theorem Z_if_le {a : Int} {off : Int} {tgt : Nat} (hdg : decode M.2.1 pc = .ok (.ifCond .le off, 3)) (ht : (pc : Int) + off = (tgt : Int)) (ha : zr a) (kt : a ≤ 0 → J l G M R E Q h ck sk tgt ls st) (kf : ¬ a ≤ 0 → J l G M R E Q h ck sk (pc + 3) ls st) : J l G M R E Q h ck sk pc ls (.int (zI a) :: st) :=
  J_if_le hdg ht (fun q => kt ((zI_le ha (by decide)).mp (show zI a ≤ zI 0 from q))) (fun q => kf (fun e => q (show zI a ≤ zI 0 from (zI_le ha (by decide)).mpr e)))
theorem Z_icmp_eq {a b : Int} {off : Int} {tgt : Nat} (hdg : decode M.2.1 pc = .ok (.if_icmp .eq off, 3)) (ht : (pc : Int) + off = (tgt : Int)) (ha : zr a) (hb : zr b) (kt : a = b → J l G M R E Q h ck sk tgt ls st) (kf : ¬ a = b → J l G M R E Q h ck sk (pc + 3) ls st) : J l G M R E Q h ck sk pc ls (.int (zI b) :: .int (zI a) :: st) :=
  J_icmp_eq hdg ht (fun q => kt ((zI_inj ha hb).mp q)) (fun q => kf (fun e => q ((zI_inj ha hb).mpr e)))
theorem Z_icmp_ne {a b : Int} {off : Int} {tgt : Nat} (hdg : decode M.2.1 pc = .ok (.if_icmp .ne off, 3)) (ht : (pc : Int) + off = (tgt : Int)) (ha : zr a) (hb : zr b) (kt : ¬ a = b → J l G M R E Q h ck sk tgt ls st) (kf : a = b → J l G M R E Q h ck sk (pc + 3) ls st) : J l G M R E Q h ck sk pc ls (.int (zI b) :: .int (zI a) :: st) :=
  J_icmp_ne hdg ht (fun q => kt (fun e => q ((zI_inj ha hb).mpr e))) (fun q => kf ((zI_inj ha hb).mp q))
theorem Z_icmp_lt {a b : Int} {off : Int} {tgt : Nat} (hdg : decode M.2.1 pc = .ok (.if_icmp .lt off, 3)) (ht : (pc : Int) + off = (tgt : Int)) (ha : zr a) (hb : zr b) (kt : a < b → J l G M R E Q h ck sk tgt ls st) (kf : ¬ a < b → J l G M R E Q h ck sk (pc + 3) ls st) : J l G M R E Q h ck sk pc ls (.int (zI b) :: .int (zI a) :: st) :=
  J_icmp_lt hdg ht (fun q => kt ((zI_lt ha hb).mp q)) (fun q => kf (fun e => q ((zI_lt ha hb).mpr e)))
theorem Z_icmp_ge {a b : Int} {off : Int} {tgt : Nat} (hdg : decode M.2.1 pc = .ok (.if_icmp .ge off, 3)) (ht : (pc : Int) + off = (tgt : Int)) (ha : zr a) (hb : zr b) (kt : b ≤ a → J l G M R E Q h ck sk tgt ls st) (kf : ¬ b ≤ a → J l G M R E Q h ck sk (pc + 3) ls st) : J l G M R E Q h ck sk pc ls (.int (zI b) :: .int (zI a) :: st) :=
  J_icmp_ge hdg ht (fun q => kt ((zI_le hb ha).mp q)) (fun q => kf (fun e => q ((zI_le hb ha).mpr e)))
theorem Z_icmp_gt {a b : Int} {off : Int} {tgt : Nat} (hdg : decode M.2.1 pc = .ok (.if_icmp .gt off, 3)) (ht : (pc : Int) + off = (tgt : Int)) (ha : zr a) (hb : zr b) (kt : b < a → J l G M R E Q h ck sk tgt ls st) (kf : ¬ b < a → J l G M R E Q h ck sk (pc + 3) ls st) : J l G M R E Q h ck sk pc ls (.int (zI b) :: .int (zI a) :: st) :=
  J_icmp_gt hdg ht (fun q => kt ((zI_lt hb ha).mp q)) (fun q => kf (fun e => q ((zI_lt hb ha).mpr e)))
theorem Z_icmp_le {a b : Int} {off : Int} {tgt : Nat} (hdg : decode M.2.1 pc = .ok (.if_icmp .le off, 3)) (ht : (pc : Int) + off = (tgt : Int)) (ha : zr a) (hb : zr b) (kt : a ≤ b → J l G M R E Q h ck sk tgt ls st) (kf : ¬ a ≤ b → J l G M R E Q h ck sk (pc + 3) ls st) : J l G M R E Q h ck sk pc ls (.int (zI b) :: .int (zI a) :: st) :=
  J_icmp_le hdg ht (fun q => kt ((zI_le ha hb).mp q)) (fun q => kf (fun e => q ((zI_le ha hb).mpr e)))
/-- a read, by the range of what is there -/
theorem Z_iald {k t n : Nat} {f : Nat → Int32} {i lo hi : Int} (hdg : decode M.2.1 pc = .ok (.iaload, 1)) (hf : fh k = some (.inl (t, n, .inl f))) (ht : jT[t]? = some .int) (hn : n < 2 ^ 31) (h0 : 0 ≤ i) (h1 : i < n) (hr : Rng f n lo hi) (kk : ∀ z, lo ≤ z → z ≤ hi → zr z → f i.toNat = zI z → J l G M R E Q (nh, fh) ck sk (pc + 1) ls (.int (zI z) :: st)) : J l G M R E Q (nh, fh) ck sk pc ls (.int (zI i) :: .ref k :: st) := by
  have hi : zr i := by omega
  obtain ⟨z, z1, z2, z3, z4⟩ := hr.at (j := i.toNat) (by omega)
  refine J_iald (i2 := i.toNat) (v := zI z) hdg hf ht (zI_in hi h0 h1) (zI_clamp hi) z4 (kk z z1 z2 z3 z4)
theorem Z_iast {k t n : Nat} {f : Nat → Int32} {i : Int} {x : Int32} (hdg : decode M.2.1 pc = .ok (.iastore, 1)) (hf : hc fh L k = some (.inl (t, n, .inl f))) (ht : jT[t]? = some .int) (hn : n < 2 ^ 31) (h0 : 0 ≤ i) (h1 : i < n) (kk : J l G M R E Q (nh, hc fh ((k, .inl (t, n, .inl (upd f i.toNat x))) :: L)) ck sk (pc + 1) ls st) : J l G M R E Q (nh, hc fh L) ck sk pc ls (.int x :: .int (zI i) :: .ref k :: st) := by
  have hi : zr i := by omega
  exact K_iast (i2 := i.toNat) hdg hf ht (zI_in hi h0 h1) (zI_clamp hi) kk
theorem J_touch {k : Nat} {e : va_E} (hk : hc fh L k = some e) (kk : J l G M R E Q (nh, hc fh ((k, e) :: L)) ck sk pc ls st) : J l G M R E Q (nh, hc fh L) ck sk pc ls st := by
  refine J_hp (fh2 := hc fh ((k, e) :: L)) ?_ kk
  funext x
  show hc fh L x = hu (hc fh L) k e x
  by_cases hx : x = k
  · rw [hx, hu_same, hk]
  · rw [hu_ne hx]
theorem Z_top {a b : Int} (hab : a = b) (k : J l G M R E Q h ck sk pc ls (.int (zI b) :: st)) : J l G M R E Q h ck sk pc ls (.int (zI a) :: st) := hab ▸ k
end ZR
theorem jbn {z : Int} (h0 : 0 ≤ z) (h1 : z ≤ 1) : narrow .boolean (.int (zI z)) = .int (zI z) := by
  rcases (show z = 0 ∨ z = 1 by omega) with rfl | rfl <;> decide +kernel
theorem jbz {z : Int} (h0 : 0 ≤ z) (h1 : z ≤ 1) : ∀ G : jG, narrow .boolean (pv G (.int (zI z))) = pv G (.int (zI z)) ∧ fits .boolean (pv G (.int (zI z))) = true := fun G => by
  show narrow .boolean (.int (zI z)) = .int (zI z) ∧ fits .boolean (.int (zI z)) = true
  rcases (show z = 0 ∨ z = 1 by omega) with rfl | rfl <;> decide +kernel
theorem zI_shr {a : Int} (ha : zr a) (h0 : 0 ≤ a) {s : Int32} (k : Nat) (hs : (s.toBitVec.smod 32).toNat = k) {p : Int} (hp : ((2 ^ k : Nat) : Int) = p) : zI a >>> s = zI (a / p) := by
  obtain ⟨n, rfl⟩ := Int.eq_ofNat_of_zero_le h0
  rw [← zI_nI, pk_shrN (by omega) s k hs, zI_nI, ← hp, Int.natCast_ediv]
def dropL : List Bool → List (Option Value) → List (Option Value)
  | true :: m, a :: l => a :: dropL m l
  | false :: m, _ :: l => none :: dropL m l
  | _, _ => []
theorem dropL_in : ∀ (m : List Bool) (l : List (Option Value)) (i : Nat) (v : Value), (dropL m l)[i]? = some (some v) → l[i]? = some (some v)
  | [], l, i, v, h => by cases l <;> simp [dropL] at h
  | b :: m, [], i, v, h => by cases b <;> simp [dropL] at h
  | true :: m, a :: l, 0, v, h => h
  | false :: m, a :: l, 0, v, h => by simp [dropL] at h
  | true :: m, a :: l, i + 1, v, h => dropL_in m l i v h
  | false :: m, a :: l, i + 1, v, h => dropL_in m l i v h
theorem J_drop {l : Launch} {G : jG} {M : jM} {R : Room} {E : State → Array Value → Prop} {Q : List Frame → Array Value → State → State → Prop} {h : jH} {ck sk pc : Nat} {ls ls2 : List (Option Value)} {st : List Value} (m : List Bool) (hm : dropL m ls = ls2) (k : J l G M R E Q h ck sk pc ls2 st) : J l G M R E Q h ck sk pc ls st :=
  J_forget (fun i v hv => dropL_in m ls i v (by rw [hm]; exact hv)) k
