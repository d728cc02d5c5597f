/-! products and quotients of bounded longs -/
theorem mul_bd {a b z : Int} (e : a * b = z) (a0 : -1000000000 ≤ a) (a1 : a ≤ 1000000000) (b0 : -1000000000 ≤ b) (b1 : b ≤ 1000000000) : -1000000000000000000 ≤ z ∧ z ≤ 1000000000000000000 := by
  have h : (a * b).natAbs = a.natAbs * b.natAbs := Int.natAbs_mul a b
  have l : a.natAbs * b.natAbs ≤ 1000000000 * 1000000000 := Nat.mul_le_mul (by omega) (by omega)
  rw [e] at h
  omega
theorem tdiv_bd {a b z : Int} (e : Int.tdiv a b = z) (a0 : -1000000000 ≤ a) (a1 : a ≤ 1000000000) : -1000000000 ≤ z ∧ z ≤ 1000000000 := by
  have u : (Int.tdiv a b).natAbs = a.natAbs / b.natAbs := Int.natAbs_tdiv a b
  have w : a.natAbs / b.natAbs ≤ a.natAbs := Nat.div_le_self _ _
  rw [e] at u
  omega
section YT
variable {l : Launch} {G : jG} {M : jM} {R : Room} {E : State → Array Value → Prop} {Q : List Frame → Array Value → State → State → Prop} {h : jH} {ck sk pc : Nat} {ls : List (Option Value)} {st : List Value}
theorem Y_ldivt {a b z : Int} (hdg : decode M.2.1 pc = .ok (.ldiv, 1)) (a0 : -1000000000 ≤ a) (a1 : a ≤ 1000000000) (hb : zr64 b) (hne : ¬ b = 0) (e : Int.tdiv a b = z) (k : J l G M R E Q h ck sk (pc + 1) ls (.long (zL z) :: st)) : J l G M R E Q h ck sk pc ls (.long (zL b) :: .long (zL a) :: st) := by
  have hz := tdiv_bd e a0 a1
  refine J_ldiv hdg (fun q => hne ?_) ?_ k
  · have := congrArg Int64.toInt q
    rw [zL_toInt hb] at this
    exact this
  · apply Int64.toInt_inj.mp
    rw [zL_toInt (z := z) (by omega)]
    rw [Int64.toInt_div, zL_toInt (z := a) (by omega), zL_toInt hb, e]
    rw [Int.bmod_eq_of_le] <;> omega
end YT
