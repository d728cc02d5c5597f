/-! what the Statement gives of the words' text -/
theorem sf_len : ∀ i : Nat, i < 1 → ([73] : List Nat).getD i 0 < 2 ^ 31 := by decide
theorem sf_ex : ∀ i : Nat, i < 1 → Cond.exactly (Term.string "BeanStreet$Reader" 113) "java/lang/String" ∈ flatC (Jvm.Cond.and given_1 narrow_1) := fun i hi => by decide +kernel
theorem sf_co : ∀ i : Nat, i < 1 → Cond.eq (.field (Term.string "BeanStreet$Reader" 113) "java/lang/String" "coder" "B") (.int 0) ∈ flatC (Jvm.Cond.and given_1 narrow_1) := fun i hi => by decide +kernel
theorem sf_ar : ∀ i : Nat, i < 1 → Cond.arrayOf (.field (Term.string "BeanStreet$Reader" 113) "java/lang/String" "value" "[B") .byte ∈ flatC (Jvm.Cond.and given_1 narrow_1) := fun i hi => by decide +kernel
theorem sf_le : ∀ i : Nat, i < 1 → Cond.eq (.length (.field (Term.string "BeanStreet$Reader" 113) "java/lang/String" "value" "[B")) (.int (Int32.ofNat (([73] : List Nat).getD i 0))) ∈ flatC (Jvm.Cond.and given_1 narrow_1) := by decide +kernel
theorem sf_el : ∀ i : Nat, i < 1 → ∀ j : Nat, j < ([73] : List Nat).getD i 0 → Cond.eq (.elem (.field (Term.string "BeanStreet$Reader" 113) "java/lang/String" "value" "[B") (.int (Int32.ofNat j))) (.int ((([jByL] : List (List Int32)).getD i []).getD j 0)) ∈ flatC (Jvm.Cond.and given_1 narrow_1) := by decide +kernel
theorem sf_cs : Cond.eq (.static "java/lang/String" "COMPACT_STRINGS" "Z") (.int 1) ∈ flatC (Jvm.Cond.and given_1 narrow_1) := by decide +kernel
theorem sf_fm : Cond.isRef (.static "jdk/internal/util/Preconditions" "SIOOBE_FORMATTER" "Ljava/util/function/BiFunction;") ∈ flatC (Jvm.Cond.and given_1 narrow_1) := by decide +kernel
/-! whole_start: the law's entry; then the claim, by the skeleton -/
set_option maxHeartbeats 4000000 in
set_option maxRecDepth 100000 in
theorem whole_start {p : Program} {e : Env} {s : State} {m : MethodId} {below : List Frame} {meth : Method} {c : Code} (l : Launch) {b L : Nat} {xs : Nat → Int32} (hL : L ≤ 3072) (C0 : lw_At p s m meth c b L xs) : W p l e room_1 s m #[Value.ref b] below meth c s.heap [] 0 0 (lw_Z below #[Value.ref b] s) (entryFrame m ([Value.ref b] : List Value).toArray 4) := by
  obtain ⟨hx, hb, hr, hml, hown, hts, hX, hbl, hlocks, hgv⟩ := C0
  have htb : ∀ w ∈ jtb, w.before #[Value.ref b] s = true := fun w h => hts w (jtb_tbl h)
  obtain ⟨c0, i0, k0⟩ := u_known (C := RX0) (T := TX0) (N := 4) (n := 4) htb iX0 (htb (.instantiable RX0 4) (jt1 101 rfl rfl))
  obtain ⟨c1, i1, k1⟩ := u_known (C := RX1) (T := TX1) (N := 8) (n := 8) htb iX1 (htb (.instantiable RX1 8) (jt1 164 rfl rfl))
  obtain ⟨c2, i2, k2⟩ := u_known (C := RX2) (T := TX2) (N := 4) (n := 4) htb iX2 (htb (.instantiable RX2 4) (jt2 105 rfl rfl))
  obtain ⟨c3, i3, k3⟩ := u_known (C := RX3) (T := TX3) (N := 8) (n := 8) htb iX3 (htb (.instantiable RX3 8) (jt2 46 rfl rfl))
  obtain ⟨c4, i4, k4⟩ := u_known (C := RX4) (T := TX4) (N := 5) (n := 5) htb iX4 (htb (.instantiable RX4 5) (jt2 170 rfl rfl))
  obtain ⟨c5, i5, k5⟩ := u_known (C := RX5) (T := TX5) (N := 10) (n := 10) htb iX5 (htb (.instantiable RX5 10) (jt1 121 rfl rfl))
  obtain ⟨c6, i6, k6⟩ := u_known (C := RX6) (T := TX6) (N := 13) (n := 13) htb iX6 (htb (.instantiable RX6 13) (jt2 124 rfl rfl))
  obtain ⟨c7, i7, k7⟩ := u_known (C := RX7) (T := TX7) (N := 7) (n := 7) htb iX7 (htb (.instantiable RX7 7) (jt2 77 rfl rfl))
  obtain ⟨c8, i8, k8⟩ := u_known (C := RX8) (T := TX8) (N := 14) (n := 14) htb iX8 (htb (.instantiable RX8 14) (jt1 30 rfl rfl))
  obtain ⟨c9, i9, k9⟩ := u_known (C := RX9) (T := TX9) (N := 10) (n := 10) htb iX9 (htb (.instantiable RX9 10) (jt1 158 rfl rfl))
  obtain ⟨c10, i10, k10⟩ := u_known (C := RX10) (T := TX10) (N := 17) (n := 17) htb iX10 (htb (.instantiable RX10 17) (jt1 227 rfl rfl))
  obtain ⟨c11, i11, k11⟩ := u_known (C := RX11) (T := TX11) (N := 17) (n := 17) htb iX11 (htb (.instantiable RX11 17) (jt1 22 rfl rfl))
  obtain ⟨c12, i12, k12⟩ := u_known (C := RX12) (T := TX12) (N := 56) (n := 56) htb iX12 (htb (.instantiable RX12 56) (jt6 68 rfl rfl))
  obtain ⟨dC, dI, hKc⟩ : ∃ (dC : Nat → ClassId) (dI : Nat → Nat → Nat), ∀ (k : Nat) (q : vw_C), vwCl[k]? = some q → u_Kn s q.1 q.2.1 q.2.2 (dC k) (dI k) := by
    refine ⟨fun k => match k with | 0 => c0 | 1 => c1 | 2 => c2 | 3 => c3 | 4 => c4 | 5 => c5 | 6 => c6 | 7 => c7 | 8 => c8 | 9 => c9 | 10 => c10 | 11 => c11 | _ => c12, fun k => match k with | 0 => i0 | 1 => i1 | 2 => i2 | 3 => i3 | 4 => i4 | 5 => i5 | 6 => i6 | 7 => i7 | 8 => i8 | 9 => i9 | 10 => i10 | 11 => i11 | _ => i12, ?_⟩
    intro k q hq
    match k, hq with
    | 0, hq => cases hq; exact k0
    | 1, hq => cases hq; exact k1
    | 2, hq => cases hq; exact k2
    | 3, hq => cases hq; exact k3
    | 4, hq => cases hq; exact k4
    | 5, hq => cases hq; exact k5
    | 6, hq => cases hq; exact k6
    | 7, hq => cases hq; exact k7
    | 8, hq => cases hq; exact k8
    | 9, hq => cases hq; exact k9
    | 10, hq => cases hq; exact k10
    | 11, hq => cases hq; exact k11
    | 12, hq => cases hq; exact k12
    | k + 13, hq => simp [vwCl] at hq
  obtain ⟨a0, ka0, cc0, ea0, ha0, hd0⟩ := Cond.arrayClass_spec (htb (.arrayClass .int) (jt1 98 rfl rfl))
  obtain ⟨a1, ka1, cc1, ea1, ha1, hd1⟩ := Cond.arrayClass_spec (htb (.arrayClass .long) (jt1 194 rfl rfl))
  obtain ⟨a2, ka2, cc2, ea2, ha2, hd2⟩ := Cond.arrayClass_spec (htb (.arrayClass .boolean) (jt1 119 rfl rfl))
  obtain ⟨a3, ka3, cc3, ea3, ha3, hd3⟩ := Cond.arrayClass_spec (htb (.arrayClass .byte) (jt4 54 rfl rfl))
  have hAO : va_AO "BeanStreet$State" s := hts (.arrayOver (.object "BeanStreet$State")) (List.mem_append_right _ (List.mem_append_left _ (List.mem_of_getElem? (i := 99) rfl)))
  have hAA : (Cond.arrayOver (.array .int)).before #[] s = true := hts (.arrayOver (.array .int)) (List.mem_append_right _ (List.mem_append_left _ (List.mem_of_getElem? (i := 36) rfl)))
  obtain ⟨m4, a4, ka4, o1, -, o3, o4, o5⟩ := Cond.arrayOver_spec hAO
  obtain ⟨m5, a5, ka5, p1, -, p3, p4, p5⟩ := j_over hAA
  have hfl := flat_of_before _ hgv
  have hA : ∀ a : Nat, a < s.heap.size → ¬ (fun q => s.heap.size ≤ q) a := fun a h1 h2 => absurd h1 (Nat.not_lt.mpr h2)
  obtain ⟨adK, adV, hS1, hev⟩ := vk_Sof (args := #[Value.ref b]) (s := s) (N := 1) (tm := fun _ => Term.string "BeanStreet$Reader" 113) (len := [73]) (byt := [jByL]) (A := fun q => s.heap.size ≤ q) sf_len (fun i hi => hfl _ (sf_ex i hi)) (fun i hi => hfl _ (sf_co i hi)) (fun i hi => hfl _ (sf_ar i hi)) (fun i hi => hfl _ (sf_le i hi)) (fun i hi j hj => hfl _ (sf_el i hi j hj)) (fun i j hi hj e => absurd (Nat.lt_one_iff.mp hi) (fun h => e (h.trans (Nat.lt_one_iff.mp hj).symm))) hA
  have hst : (Cond.stringRef "BeanStreet$Reader" 113 "takes lets bars if or and not left right one other apart first beans day ").before #[Value.ref b] s = true := hts (.stringRef "BeanStreet$Reader" 113 "takes lets bars if or and not left right one other apart first beans day ") (List.mem_append_right _ (List.mem_append_right _ (List.mem_append_right _ (List.mem_append_left _ (List.mem_of_getElem? (i := 169) rfl)))))
  have hzc := va_Zof (A := fun q => s.heap.size ≤ q) (hts (.laysStatic "java/lang/String" "COMPACT_STRINGS" "Z") (List.mem_append_right _ (List.mem_append_right _ (List.mem_append_right _ (List.mem_append_left _ (List.mem_of_getElem? (i := 179) rfl)))))) (hts (.initialized "java/lang/String") (List.mem_append_right _ (List.mem_append_left _ (List.mem_of_getElem? (i := 15) rfl)))) (va_eqt (hfl _ sf_cs)) hA
  obtain ⟨f3, hzf⟩ : ∃ f3 : Nat, va_Z "jdk/internal/util/Preconditions" "SIOOBE_FORMATTER" "Ljava/util/function/BiFunction;" .null (fun q => s.heap.size ≤ q) s s.heap ∨ va_Z "jdk/internal/util/Preconditions" "SIOOBE_FORMATTER" "Ljava/util/function/BiFunction;" (.ref f3) (fun q => s.heap.size ≤ q) s s.heap := by
    rcases va_Zqof (A := fun q => s.heap.size ≤ q) (hts (.laysStatic "jdk/internal/util/Preconditions" "SIOOBE_FORMATTER" "Ljava/util/function/BiFunction;") (List.mem_append_right _ (List.mem_append_right _ (List.mem_append_right _ (List.mem_append_left _ (List.mem_of_getElem? (i := 195) rfl)))))) (hts (.initialized "jdk/internal/util/Preconditions") (List.mem_append_right _ (List.mem_append_left _ (List.mem_of_getElem? (i := 17) rfl)))) (hfl _ sf_fm) hA with h | ⟨t, h⟩
    · exact ⟨0, Or.inl h⟩
    · exact ⟨t, Or.inr h⟩
  let G : jG := ((dC, dI), (fun t => match t with | 0 => a0 | 1 => a1 | 2 => a2 | 3 => a3 | 4 => a4 | _ => a5), s.heap.size, (fun k => match k with | 0 => b | 1 => adK 0 | 2 => adV 0 | _ => f3))
  have hj0 := hS1.1 0 (by decide)
  have hjS : jS G s s.heap := ⟨vk_R.of hst (hev 0 (by decide)), hj0.1, hj0.2.1, hj0.2.2.1, hj0.2.2.2, hzc, hzf⟩
  have hN : jN G s := ⟨fun w hw => va_Nw.of (by have h9 := (List.mem_filter.mp hw).2; cases w <;> first | rfl | (simp [jIsNest] at h9; done)) (hts w (List.mem_filter.mp hw).1), hAO, hAA, hjS⟩
  have hK : va_K G.1 vwCl (jTys G) s := by
    refine ⟨hKc, fun k q hq => ?_⟩
    match k, hq with
    | 0, hq =>
      have hq : some (a0, FieldType.int) = some q := hq
      cases hq
      exact ⟨fun n z => ⟨(fun k h => by cases h), ka0, ha0, cc0, hd0⟩, ea0⟩
    | 1, hq =>
      have hq : some (a1, FieldType.long) = some q := hq
      cases hq
      exact ⟨fun n z => ⟨(fun k h => by cases h), ka1, ha1, cc1, hd1⟩, ea1⟩
    | 2, hq =>
      have hq : some (a2, FieldType.boolean) = some q := hq
      cases hq
      exact ⟨fun n z => ⟨(fun k h => by cases h), ka2, ha2, cc2, hd2⟩, ea2⟩
    | 3, hq =>
      have hq : some (a3, FieldType.byte) = some q := hq
      cases hq
      exact ⟨fun n z => ⟨(fun k h => by cases h), ka3, ha3, cc3, hd3⟩, ea3⟩
    | 4, hq =>
      have hq : some (a4, FieldType.object "BeanStreet$State") = some q := hq
      cases hq
      exact ⟨fun n z => ⟨(fun k h => by cases h), ka4, o3, m4, o4⟩, ka4, m4, o3, o4, o1, o5⟩
    | 5, hq =>
      have hq : some (a5, FieldType.array .int) = some q := hq
      cases hq
      exact ⟨fun n z => ⟨(fun k h => by cases h), ka5, p3, m5, p4⟩, p5⟩
    | k + 6, hq => simp [jTys, jT] at hq
  have hl := lv_entry ([.ref b]) (n := 4) (Nat.le_of_ble_eq_true rfl)
  rw [lg_entry_eq]
  refine law_whole (l := l) (G := G) (b := b) (L := L) (xs := xs) hL p e s m #[Value.ref b] below meth c s.heap [] _ ⟨hx, hb, hr, hml, hown, htb, hK, hlocks, (fun h => by cases h), Nat.le_refl _, hN⟩ ⟨rfl, hX, hbl, rfl, rfl⟩ ⟨rfl, fun k e h => by cases h⟩ va_S.rf ⟨hl.1, hl.2.1, fun i v hv => ?_⟩
  match i, hv with
  | 0, hv =>
    have hv : some (some (Value.retAddr 0)) = some (some v) := hv
    cases hv
    exact hl.2.2 (0, .ref b) List.mem_cons_self
  | 1, hv => cases hv
  | 2, hv => cases hv
  | 3, hv => cases hv
  | i + 4, hv => simp at hv
