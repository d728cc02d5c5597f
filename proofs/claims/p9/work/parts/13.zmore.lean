/-! THE Z-LAYER, more: chains with unknown numbers, arrays of booleans, bytes and longs, new arrays, max and min -/
theorem hch {f : Nat → Option va_E} {L : List (Nat × va_E)} {k : Nat} {c : va_E} : hc f ((k, c) :: L) k = some c := hu_same
theorem hcn {f : Nat → Option va_E} {L : List (Nat × va_E)} {k j : Nat} {c : va_E} {x : Option va_E} (h : k ≠ j) (r : hc f L k = x) : hc f ((j, c) :: L) k = x := by
  show hu (hc f L) j c k = x
  rw [hu_ne h]
  exact r
theorem hc_dup {f : Nat → Option va_E} {k : Nat} {c : va_E} {B : List (Nat × va_E)} : ∀ (A : List (Nat × va_E)), (∃ e, (k, e) ∈ A) → hc f (A ++ (k, c) :: B) = hc f (A ++ B)
  | [], h => by
    obtain ⟨e, he⟩ := h
    cases he
  | p :: A, h => by
    funext x
    show hu (hc f (A ++ (k, c) :: B)) p.1 p.2 x = hu (hc f (A ++ B)) p.1 p.2 x
    by_cases hx : x = p.1
    · rw [hx, hu_same, hu_same]
    · rw [hu_ne hx, hu_ne hx]
      by_cases hk : k = p.1
      · have : x ≠ k := fun e => hx (e.trans hk)
        clear h
        induction A with
        | nil =>
          show hu (hc f B) k c x = hc f B x
          rw [hu_ne this]
        | cons q A ih =>
          show hu (hc f (A ++ (k, c) :: B)) q.1 q.2 x = hu (hc f (A ++ B)) q.1 q.2 x
          by_cases hq : x = q.1
          · rw [hq, hu_same, hu_same]
          · rw [hu_ne hq, hu_ne hq]
            exact ih
      · obtain ⟨e, he⟩ := h
        rcases List.mem_cons.mp he with q | q
        · exact absurd (congrArg Prod.fst q) hk
        · rw [hc_dup A ⟨e, q⟩]
section ZM
variable {l : Launch} {G : jG} {M : jM} {R : Room} {E : State → Array Value → Prop} {Q : List Frame → Array Value → State → State → Prop} {h : jH} {nh : Nat} {fh : Nat → Option va_E} {L : List (Nat × va_E)} {ck sk pc : Nat} {ls : List (Option Value)} {st : List Value}
theorem J_dupc {A B L2 : List (Nat × va_E)} {k : Nat} {c e : va_E} (h1 : L = A ++ (k, c) :: B) (h2 : A ++ B = L2) (hm : (k, e) ∈ A) (kk : J l G M R E Q (nh, hc fh L2) ck sk pc ls st) : J l G M R E Q (nh, hc fh L) ck sk pc ls st := by
  rw [h1, hc_dup A ⟨e, hm⟩, h2]
  exact kk
theorem Z_zald {k t n : Nat} {f : Nat → Int32} {i lo hi : Int} (hdg : decode M.2.1 pc = .ok (.baload, 1)) (hf : fh k = some (.inl (t, n, .inl f))) (ht : jT[t]? = some .boolean) (hn : n < 2 ^ 31) (h0 : 0 ≤ i) (h1 : i < n) (hr : Rng f n lo hi) (kk : ∀ z, lo ≤ z → z ≤ hi → zr z → f i.toNat = zI z → J l G M R E Q (nh, fh) ck sk (pc + 1) ls (.int (zI z) :: st)) : J l G M R E Q (nh, fh) ck sk pc ls (.int (zI i) :: .ref k :: st) := by
  have hi : zr i := by omega
  obtain ⟨z, z1, z2, z3, z4⟩ := hr.at (j := i.toNat) (by omega)
  refine J_zald (i2 := i.toNat) (v := zI z) hdg hf ht (zI_in hi h0 h1) (zI_clamp hi) z4 (kk z z1 z2 z3 z4)
theorem Z_bald {k t n : Nat} {f : Nat → Int32} {i lo hi : Int} (hdg : decode M.2.1 pc = .ok (.baload, 1)) (hf : fh k = some (.inl (t, n, .inl f))) (ht : jT[t]? = some .byte) (hn : n < 2 ^ 31) (h0 : 0 ≤ i) (h1 : i < n) (hr : Rng f n lo hi) (kk : ∀ z, lo ≤ z → z ≤ hi → zr z → f i.toNat = zI z → J l G M R E Q (nh, fh) ck sk (pc + 1) ls (.int (zI z) :: st)) : J l G M R E Q (nh, fh) ck sk pc ls (.int (zI i) :: .ref k :: st) := by
  have hi : zr i := by omega
  obtain ⟨z, z1, z2, z3, z4⟩ := hr.at (j := i.toNat) (by omega)
  refine J_bald (i2 := i.toNat) (v := zI z) hdg hf ht (zI_in hi h0 h1) (zI_clamp hi) z4 (kk z z1 z2 z3 z4)
theorem Z_lald {k t n : Nat} {f : Nat → Int64} {i : Int} (hdg : decode M.2.1 pc = .ok (.laload, 1)) (hf : fh k = some (.inl (t, n, .inr (.inl f)))) (ht : jT[t]? = some .long) (hn : n < 2 ^ 31) (h0 : 0 ≤ i) (h1 : i < n) (kk : ∀ w, f i.toNat = w → J l G M R E Q (nh, fh) ck sk (pc + 1) ls (.long w :: st)) : J l G M R E Q (nh, fh) ck sk pc ls (.int (zI i) :: .ref k :: st) := by
  have hi : zr i := by omega
  exact J_lald (i2 := i.toNat) hdg hf ht (zI_in hi h0 h1) (zI_clamp hi) rfl (kk _ rfl)
theorem Z_aald {k t n : Nat} {f : Nat → Option Nat} {i : Int} {r : Nat} {ty : FieldType} (hdg : decode M.2.1 pc = .ok (.aaload, 1)) (hf : fh k = some (.inl (t, n, .inr (.inr (.inr (.inr f)))))) (ht : jT[t]? = some ty) (hr : ty.isReference = true) (hn : n < 2 ^ 31) (h0 : 0 ≤ i) (h1 : i < n) (hv : f i.toNat = some r) (kk : J l G M R E Q (nh, fh) ck sk (pc + 1) ls (.ref r :: st)) : J l G M R E Q (nh, fh) ck sk pc ls (.int (zI i) :: .ref k :: st) := by
  have hi : zr i := by omega
  exact J_aald (i2 := i.toNat) hdg hf ht hr (zI_in hi h0 h1) (zI_clamp hi) hv kk
theorem vnz {z : Int} (h0 : 0 ≤ z) (h1 : z ≤ 1) : vp_nar .boolean (zI z) = zI z := by
  rcases (show z = 0 ∨ z = 1 by omega) with rfl | rfl <;> decide +kernel
theorem Z_zast {k t n : Nat} {f : Nat → Int32} {i z : Int} (hdg : decode M.2.1 pc = .ok (.bastore, 1)) (hf : hc fh L k = some (.inl (t, n, .inl f))) (ht : jT[t]? = some .boolean) (hn : n < 2 ^ 31) (h0 : 0 ≤ i) (h1 : i < n) (hz0 : 0 ≤ z) (hz1 : z ≤ 1) (kk : J l G M R E Q (nh, hc fh ((k, .inl (t, n, .inl (upd f i.toNat (zI z)))) :: L)) ck sk (pc + 1) ls st) : J l G M R E Q (nh, hc fh L) ck sk pc ls (.int (zI z) :: .int (zI i) :: .ref k :: st) := by
  have hi : zr i := by omega
  exact K_zast (i2 := i.toNat) hdg hf ht (zI_in hi h0 h1) (zI_clamp hi) (vnz hz0 hz1) kk
theorem Z_bast {k t n : Nat} {f : Nat → Int32} {i : Int} {x : Int32} (hdg : decode M.2.1 pc = .ok (.bastore, 1)) (hf : hc fh L k = some (.inl (t, n, .inl f))) (ht : jT[t]? = some .byte) (hn : n < 2 ^ 31) (h0 : 0 ≤ i) (h1 : i < n) (kk : J l G M R E Q (nh, hc fh ((k, .inl (t, n, .inl (upd f i.toNat (vp_nar .byte x)))) :: L)) ck sk (pc + 1) ls st) : J l G M R E Q (nh, hc fh L) ck sk pc ls (.int x :: .int (zI i) :: .ref k :: st) := by
  have hi : zr i := by omega
  exact K_bast (i2 := i.toNat) hdg hf ht (zI_in hi h0 h1) (zI_clamp hi) rfl kk
theorem Z_last {k t n : Nat} {f : Nat → Int64} {i : Int} {x : Int64} (hdg : decode M.2.1 pc = .ok (.lastore, 1)) (hf : hc fh L k = some (.inl (t, n, .inr (.inl f)))) (ht : jT[t]? = some .long) (hn : n < 2 ^ 31) (h0 : 0 ≤ i) (h1 : i < n) (kk : J l G M R E Q (nh, hc fh ((k, .inl (t, n, .inr (.inl (vp_updL f i.toNat x)))) :: L)) ck sk (pc + 1) ls st) : J l G M R E Q (nh, hc fh L) ck sk pc ls (.long x :: .int (zI i) :: .ref k :: st) := by
  have hi : zr i := by omega
  exact K_last (i2 := i.toNat) hdg hf ht (zI_in hi h0 h1) (zI_clamp hi) kk
theorem Z_aastA {k n r n0 : Nat} {f : Nat → Option Nat} {g : Nat → Int32} {i : Int} (hdg : decode M.2.1 pc = .ok (.aastore, 1)) (hf : hc fh L k = some (.inl (5, n, .inr (.inr (.inr (.inr f)))))) (hr : hc fh L r = some (.inl (0, n0, .inl g))) (hn : n < 2 ^ 31) (h0 : 0 ≤ i) (h1 : i < n) (kk : J l G M R E Q (nh, hc fh ((k, .inl (5, n, .inr (.inr (.inr (.inr (va_up f i.toNat (some r))))))) :: L)) ck sk (pc + 1) ls st) : J l G M R E Q (nh, hc fh L) ck sk pc ls (.ref r :: .int (zI i) :: .ref k :: st) := by
  have hi : zr i := by omega
  exact K_aastA (i2 := i.toNat) hdg hf hr (zI_in hi h0 h1) (zI_clamp hi) kk
/-- new int[z] -/
theorem Z_newi {nh2 ck2 sk2 N : Nat} {z : Int} (hdg : decode M.2.1 pc = .ok (.newarray .int, 2)) (harr : Cond.arrayClass .int ∈ jtb) (hz : zr z) (h0 : 0 ≤ z) (hN : z = N) (hb : N ≤ 100000000) (hc' : ck + 1 ≤ R.cells) (hs : sk + N ≤ R.slots) (h1 : nh + 1 = nh2) (h2 : ck + 1 = ck2) (h3 : sk + N = sk2) (kk : J l G M R E Q (nh2, hc fh ((nh, .inl (0, N, .inl (fun _ => 0))) :: L)) ck2 sk2 (pc + 2) ls (.ref nh :: st)) : J l G M R E Q (nh, hc fh L) ck sk pc ls (.int (zI z) :: st) := by
  refine K_newa (t := 0) (N := N) (a0 := (N, .inl (fun _ => 0))) hdg rfl harr rfl (fun _ _ h9 => h9) (fun _ => rfl) (fun _ => rfl) (fun q => ?_) ?_ ?_ hc' hs h1 h2 h3 kk
  · have q : zI z < zI 0 := q
    rw [zI_lt hz (by decide)] at q
    omega
  · rw [zI_clamp hz]
    omega
  · show N * 4 ≤ 536870912
    omega
theorem zI_max {a b : Int} (ha : zr a) (hb : zr b) : (if zI a < zI b then zI b else zI a) = zI (max a b) := by
  by_cases h : a < b
  · rw [if_pos ((zI_lt ha hb).mpr h), Int.max_eq_right (by omega)]
  · rw [if_neg (fun q => h ((zI_lt ha hb).mp q)), Int.max_eq_left (by omega)]
theorem zI_min {a b : Int} (ha : zr a) (hb : zr b) : (if zI b < zI a then zI b else zI a) = zI (min a b) := by
  by_cases h : b < a
  · rw [if_pos ((zI_lt hb ha).mpr h), Int.min_eq_right (by omega)]
  · rw [if_neg (fun q => h ((zI_lt hb ha).mp q)), Int.min_eq_left (by omega)]
theorem Z_tableOut {dflt lo hi : Int} {offs : Array Int} {len : Nat} {a : Int} {tgt : Nat} (hdg : decode M.2.1 pc = .ok (.tableswitch dflt lo hi offs, len)) (ha : zr a) (hx : a < lo ∨ hi < a) (ht : (pc : Int) + dflt = (tgt : Int)) (k : J l G M R E Q h ck sk tgt ls st) : J l G M R E Q h ck sk pc ls (.int (zI a) :: st) := J_tableOut hdg (by rw [zI_toInt ha]; exact hx) ht k
theorem Z_tableIn {dflt lo hi : Int} {offs : Array Int} {len : Nat} {a : Int} (c : Int) {off : Int} {tgt : Nat} (hdg : decode M.2.1 pc = .ok (.tableswitch dflt lo hi offs, len)) (ha : zr a) (hac : a = c) (h1 : lo ≤ c) (h2 : c ≤ hi) (ho : offs[(c - lo).toNat]? = some off) (ht : (pc : Int) + off = (tgt : Int)) (k : J l G M R E Q h ck sk tgt ls st) : J l G M R E Q h ck sk pc ls (.int (zI a) :: st) := by
  subst hac
  exact J_tableIn hdg (by rw [zI_toInt ha]; omega) (by rw [zI_toInt ha]; omega) (by rw [zI_toInt ha]; exact ho) ht k
theorem Z_lookup {dflt : Int} {ps : Array (Int × Int)} {len : Nat} {a off : Int} {tgt : Nat} (hdg : decode M.2.1 pc = .ok (.lookupswitch dflt ps, len)) (hp : (ps.toList.zip (ps.toList.drop 1)).all (fun (a, next) => a.1 < next.1) = true) (ha : zr a) (ho : Op.lookupswitch.offset ps.toList dflt a = off) (ht : (pc : Int) + off = (tgt : Int)) (k : J l G M R E Q h ck sk tgt ls st) : J l G M R E Q h ck sk pc ls (.int (zI a) :: st) := J_lookup hdg hp (by rw [zI_toInt ha]; exact ho) ht k
end ZM
theorem zcmp (x y : Int64) : ∃ z : Int, -1 ≤ z ∧ z ≤ 1 ∧ lg_cmp x y = zI z ∧ (z = 0 ↔ x.toInt = y.toInt) ∧ (z < 0 ↔ x.toInt < y.toInt) := by
  unfold lg_cmp
  rcases Int.lt_trichotomy x.toInt y.toInt with h | h | h
  · have h1 : ¬ x > y := fun q => by
      have := Int64.lt_iff_toInt_lt.mp q
      omega
    have h2 : ¬ x = y := fun q => by
      rw [q] at h
      omega
    refine ⟨-1, by omega, by omega, ?_, by omega, by omega⟩
    rw [if_neg h1, if_neg h2]
    rfl
  · have h2 : x = y := Int64.toInt_inj.mp h
    subst h2
    have h1 : ¬ x > x := fun q => by
      have := Int64.lt_iff_toInt_lt.mp q
      omega
    refine ⟨0, by omega, by omega, ?_, by omega, by omega⟩
    rw [if_neg h1, if_pos rfl]
    rfl
  · have h1 : x > y := Int64.lt_iff_toInt_lt.mpr h
    refine ⟨1, by omega, by omega, ?_, by omega, by omega⟩
    rw [if_pos h1]
    rfl
