/-! the turn of a packed row -/
/-- the first goes to the end -/
def tnB (B : Int → Int) (p : Int) : Int → Int := fun j => if j = p - 1 then B 0 else B (j + 1)
theorem tnB_okB {B : Int → Int} {p : Int} (h : okB p B) : okB p (tnB B p) := fun j a b => by
  unfold tnB
  split
  · exact h 0 (Int.le_refl _) (by omega)
  · exact h (j + 1) (by omega) (by omega)
theorem val8_hd {B : Int → Int} : ∀ n : Nat, val8 B (n + 1) = 8 ^ n * (B 0).toNat + val8 (fun j => B (j + 1)) n
  | 0 => by
    show 8 * 0 + (B ((0 : Nat) : Int)).toNat = 8 ^ 0 * (B 0).toNat + 0
    rw [show ((0 : Nat) : Int) = 0 from rfl, Nat.pow_zero]
    omega
  | n + 1 => by
    have u := val8_hd (B := B) n
    show 8 * val8 B (n + 1) + (B ((n + 1 : Nat) : Int)).toNat = 8 ^ (n + 1) * (B 0).toNat + (8 * val8 (fun j => B (j + 1)) n + (B ((n : Int) + 1)).toNat)
    rw [u, show ((n + 1 : Nat) : Int) = (n : Int) + 1 by omega, Nat.pow_succ, Nat.mul_comm (8 ^ n) 8, Nat.mul_assoc]
    omega
def TuR (x p r : Int) : Prop := ∀ B, okB p B → pk3 B p.toNat = x → pk3 (tnB B p) p.toNat = r
theorem TuR.s {x p : Int} (h : p < 2) : TuR x p x := fun B _ e => by
  rw [← e]
  refine pk3_congr _ (fun j a b => ?_)
  have e0 : j = 0 := by omega
  unfold tnB
  rw [if_pos (by omega), e0]
theorem TuR.y {x p s s2 f m q r : Int} (p2 : 2 ≤ p) (h7 : p ≤ 7) (es : s = 3 * p - 3) (es2 : s2 = 3 * p - 3) (e1 : zand (zshr x s) 7 = f) (e2' : zshl 1 s2 = m) (e3 : zand x (m - 1) = q) (e4 : zor (zshl q 3) f = r) : TuR x p r := fun B hB e => by
  have e2 : zshl 1 s = m := by rw [es, ← es2]; exact e2'
  obtain ⟨n, hn⟩ : ∃ n : Nat, p = (n : Int) + 1 := ⟨(p - 1).toNat, by omega⟩
  subst hn
  have t1 : ((n : Int) + 1).toNat = n + 1 := by omega
  have ef : f = B 0 := pk3_dig (p := (n : Int) + 1) (sh := s) (j := 0) hB h7 (Int.le_refl 0) (by omega) (by omega) (by rw [e]; exact e1)
  rw [t1] at e ⊢
  have hB1 : okB ((n + 1 : Nat) : Int) B := fun j a b => hB j a (by omega)
  have hS : okB (n : Int) (fun j => B (j + 1)) := fun j a b => hB (j + 1) (by omega) (by omega)
  have h2 : 2 ^ (3 * n) ≤ 2 ^ 18 := Nat.pow_le_pow_right (by decide) (by omega)
  have h18 : (2 : Nat) ^ 18 = 262144 := by decide
  have hp : 0 < 2 ^ (3 * n) := Nat.two_pow_pos _
  have em : m = ((2 ^ (3 * n) : Nat) : Int) := by
    rw [← e2, show s = ((3 * n : Nat) : Int) by omega]
    have u := zshl_nat (n := 1) (k := 3 * n) (by omega) (by omega)
    rw [Nat.one_mul] at u
    exact u
  have p8 : 2 ^ (3 * n) = 8 ^ n := Nat.pow_mul 2 3 n
  have v8 := val8_hd (B := B) n
  have lt := val8_lt n hS
  have eq : q = ((val8 (fun j => B (j + 1)) n : Nat) : Int) := by
    rw [← e3, ← e, pk3_val (n + 1) (by omega) hB1, em, show ((2 ^ (3 * n) : Nat) : Int) - 1 = ((2 ^ (3 * n) - 1 : Nat) : Int) by omega, zand_nat (by omega), Nat.and_two_pow_sub_one_eq_mod, v8, p8, Nat.mul_add_mod, Nat.mod_eq_of_lt lt]
  have c : pk3 (tnB B ((n : Int) + 1)) n = ((val8 (fun j => B (j + 1)) n : Nat) : Int) := by
    rw [← pk3_val n (by omega) hS]
    refine pk3_congr n (fun j a b => ?_)
    unfold tnB
    rw [if_neg (by omega)]
  show zor (zshl (pk3 (tnB B ((n : Int) + 1)) n) 3) (tnB B ((n : Int) + 1) (n : Int)) = r
  have l : tnB B ((n : Int) + 1) (n : Int) = B 0 := by
    unfold tnB
    rw [if_pos (by omega)]
  rw [c, l, ← eq, ← ef]
  exact e4
