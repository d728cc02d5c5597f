/-! small rows that the writer uses -/
theorem dv_lem {x c z : Int} (e : x / c = z) (hc : 0 < c) : c * z ≤ x ∧ x ≤ c * z + (c - 1) := by
  subst e
  have h1 := Int.mul_ediv_add_emod x c
  have h2 := Int.emod_nonneg x (show c ≠ 0 by omega)
  have h3 := Int.emod_lt_of_pos x hc
  omega
theorem dvv_lem {x c z : Int} (e : x / c = z) (h0 : 0 ≤ x) (hc : 0 < c) : 0 ≤ z ∧ z ≤ x := by
  subst e
  exact ⟨Int.ediv_nonneg h0 (by omega), Int.ediv_le_self c h0⟩
theorem md_lem {x c z : Int} (e : x % c = z) (hc : 0 < c) : 0 ≤ z ∧ z < c := by
  subst e
  exact ⟨Int.emod_nonneg x (by omega), Int.emod_lt_of_pos x hc⟩
theorem mdle_lem {x c z : Int} (e : x % c = z) (h0 : 0 ≤ x) (hc : 0 < c) : z ≤ x := by
  subst e
  have h1 := Int.mul_ediv_add_emod x c
  have h2 : 0 ≤ x / c := Int.ediv_nonneg h0 (by omega)
  have h3 : 0 ≤ c * (x / c) := Int.mul_nonneg (by omega) h2
  omega
theorem dm_lem {x c q z : Int} (e : x / c = q) (e2 : x % c = z) : x = c * q + z := by
  subst e
  subst e2
  exact (Int.mul_ediv_add_emod x c).symm
theorem rd_same {F G : Int → Int} {i j v z : Int} (e : G = up F j v) (h : i = j) (hz : G i = z) : z = v := by
  subst e
  subst h
  rw [← hz, up_same]
theorem rd_ne {F G : Int → Int} {i j v z : Int} (e : G = up F j v) (h : ¬ i = j) (hz : G i = z) : F i = z := by
  subst e
  rw [← hz, up_ne h]
theorem zi2b_rng {x z : Int} (e : zi2b x = z) : -128 ≤ z ∧ z ≤ 127 := by
  subst e
  unfold zi2b
  rw [Int8.toInt_toInt32]
  have h1 := Int8.le_toInt (zI x).toInt8
  have h2 := Int8.toInt_lt (zI x).toInt8
  omega
section YS
variable {l : Launch} {G : jG} {M : jM} {R : Room} {E : State → Array Value → Prop} {Q : List Frame → Array Value → State → State → Prop} {h : jH} {ck sk pc : Nat} {ls : List (Option Value)} {st : List Value}
theorem Y_lrem {a b : Int} (hdg : decode M.2.1 pc = .ok (.lrem, 1)) (ha : zr64 a) (hb : zr64 b) (h0 : 0 ≤ a) (h1 : 0 < b) (k : J l G M R E Q h ck sk (pc + 1) ls (.long (zL (a % b)) :: st)) : J l G M R E Q h ck sk pc ls (.long (zL b) :: .long (zL a) :: st) := by
  have hd : zL a / zL b = zL (a / b) := by
    apply Int64.toInt_inj.mp
    have h2 : 0 ≤ a / b := Int.ediv_nonneg h0 (by omega)
    have h3 : a / b ≤ a := Int.ediv_le_self b h0
    rw [zL_toInt (z := a / b) (by omega)]
    rw [Int64.toInt_div, zL_toInt ha, zL_toInt hb, Int.tdiv_eq_ediv_of_nonneg h0]
    rw [Int.bmod_eq_of_le] <;> omega
  refine J_lrem hdg (fun q => ?_) ?_ k
  · have := congrArg Int64.toInt q
    rw [zL_toInt hb] at this
    have h9 : (0 : Int64).toInt = 0 := rfl
    omega
  · rw [hd, zL_mul, zL_sub]
    congr 1
    have := Int.mul_ediv_add_emod a b
    rw [Int.mul_comm] at this
    omega
end YS
/-- a cell's number that is none of the fixed ones -/
def jFixed : List Nat := (List.range 135).filter (fun k => !([5, 6, 7, 8, 9, 10, 22, 23, 24, 25, 26, 27, 38, 39, 40, 41, 42, 43, 61, 63, 76, 77, 84, 94, 95].contains k))
def Fx (k : Nat) : Prop := ∀ j, j ∈ jFixed → k ≠ j
