/-! ===== what holds at the law's entry ===== -/
theorem mx_arr {args : Array Value} {s : State} {ty : FieldType} (h : (Cond.arrayClass ty).before args s = true) : ∃ cA, ArrOfT s cA ty ∧ s.vm.findClass ("[" ++ ty.toString) = some cA := by
  obtain ⟨c, k, comp, h1, h2, h3⟩ := Cond.arrayClass_spec h
  exact ⟨c, fun n z => ⟨fun k h => (by cases h), k, h2, comp, h3⟩, h1⟩
theorem mx_arrO {args : Array Value} {s : State} {C : String} (h : (Cond.arrayOver (.object C)).before args s = true) : ∃ cA, ArrOfT s cA (.object C) ∧ va_RA s cA (.object C) := by
  obtain ⟨comp, c, k, h1, h2, h3, h4, h5⟩ := Cond.arrayOver_spec h
  exact ⟨c, fun n z => ⟨fun k h => (by cases h), k, h3, comp, h4⟩, k, comp, h3, h4, h1, h5⟩
def mx_sx : Nat → Nat
  | 0 => 106 | 1 => 112 | 2 => 114 | 3 => 143 | 4 => 145 | _ => 147
def mx_bys : List (List Int32) := [[112, 114, 101, 115, 115], [102, 101, 101], [102, 105, 110, 101], [104, 111, 107, 116], [112, 116], [115, 107]]
set_option maxRecDepth 100000 in
set_option maxHeartbeats 4000000 in
theorem mx_strs {args : Array Value} {s : State} {A : Nat → Prop} (hfl : ∀ c ∈ flatC (Jvm.Cond.and given_1 narrow_1), c.before args s = true) (hA : ∀ a : Nat, a < s.heap.size → ¬ A a) : ∃ adK adV : Nat → Nat, vk_S 6 [5, 3, 4, 4, 2, 2] mx_bys adK adV A s s.heap ∧ ∀ i : Nat, i < 6 → (Term.string "CreaseLines$Reader" (mx_sx i)).eval args s none [] s = some (.ref (adK i)) := by
  refine vk_Sof (tm := fun i => Term.string "CreaseLines$Reader" (mx_sx i)) ?_ ?_ ?_ ?_ ?_ ?_ ?_ hA
  · exact fun i hi => match i, hi with
    | 0, _ => by decide
    | 1, _ => by decide
    | 2, _ => by decide
    | 3, _ => by decide
    | 4, _ => by decide
    | 5, _ => by decide
    | n + 6, h => absurd h (by omega)
  · exact fun i hi => match i, hi with
    | 0, _ => hfl _ (by decide +kernel)
    | 1, _ => hfl _ (by decide +kernel)
    | 2, _ => hfl _ (by decide +kernel)
    | 3, _ => hfl _ (by decide +kernel)
    | 4, _ => hfl _ (by decide +kernel)
    | 5, _ => hfl _ (by decide +kernel)
    | n + 6, h => absurd h (by omega)
  · exact fun i hi => match i, hi with
    | 0, _ => hfl _ (by decide +kernel)
    | 1, _ => hfl _ (by decide +kernel)
    | 2, _ => hfl _ (by decide +kernel)
    | 3, _ => hfl _ (by decide +kernel)
    | 4, _ => hfl _ (by decide +kernel)
    | 5, _ => hfl _ (by decide +kernel)
    | n + 6, h => absurd h (by omega)
  · exact fun i hi => match i, hi with
    | 0, _ => hfl _ (by decide +kernel)
    | 1, _ => hfl _ (by decide +kernel)
    | 2, _ => hfl _ (by decide +kernel)
    | 3, _ => hfl _ (by decide +kernel)
    | 4, _ => hfl _ (by decide +kernel)
    | 5, _ => hfl _ (by decide +kernel)
    | n + 6, h => absurd h (by omega)
  · exact fun i hi => match i, hi with
    | 0, _ => hfl _ (by decide +kernel)
    | 1, _ => hfl _ (by decide +kernel)
    | 2, _ => hfl _ (by decide +kernel)
    | 3, _ => hfl _ (by decide +kernel)
    | 4, _ => hfl _ (by decide +kernel)
    | 5, _ => hfl _ (by decide +kernel)
    | n + 6, h => absurd h (by omega)
  · exact fun i hi => match i, hi with
    | 0, _ => fun j hj => match j, hj with
      | 0, _ => hfl _ (by decide +kernel)
      | 1, _ => hfl _ (by decide +kernel)
      | 2, _ => hfl _ (by decide +kernel)
      | 3, _ => hfl _ (by decide +kernel)
      | 4, _ => hfl _ (by decide +kernel)
      | n + 5, h => absurd h (by show ¬ n + 5 < 5; omega)
    | 1, _ => fun j hj => match j, hj with
      | 0, _ => hfl _ (by decide +kernel)
      | 1, _ => hfl _ (by decide +kernel)
      | 2, _ => hfl _ (by decide +kernel)
      | n + 3, h => absurd h (by show ¬ n + 3 < 3; omega)
    | 2, _ => fun j hj => match j, hj with
      | 0, _ => hfl _ (by decide +kernel)
      | 1, _ => hfl _ (by decide +kernel)
      | 2, _ => hfl _ (by decide +kernel)
      | 3, _ => hfl _ (by decide +kernel)
      | n + 4, h => absurd h (by show ¬ n + 4 < 4; omega)
    | 3, _ => fun j hj => match j, hj with
      | 0, _ => hfl _ (by decide +kernel)
      | 1, _ => hfl _ (by decide +kernel)
      | 2, _ => hfl _ (by decide +kernel)
      | 3, _ => hfl _ (by decide +kernel)
      | n + 4, h => absurd h (by show ¬ n + 4 < 4; omega)
    | 4, _ => fun j hj => match j, hj with
      | 0, _ => hfl _ (by decide +kernel)
      | 1, _ => hfl _ (by decide +kernel)
      | n + 2, h => absurd h (by show ¬ n + 2 < 2; omega)
    | 5, _ => fun j hj => match j, hj with
      | 0, _ => hfl _ (by decide +kernel)
      | 1, _ => hfl _ (by decide +kernel)
      | n + 2, h => absurd h (by show ¬ n + 2 < 2; omega)
    | n + 6, h => absurd h (by omega)
  · exact fun i j hi hj hne => match i, j, hi, hj, hne with
    | 0, 0, _, _, h => absurd rfl h
    | 0, 1, _, _, h => Or.inl (hfl _ (by decide +kernel))
    | 0, 2, _, _, h => Or.inl (hfl _ (by decide +kernel))
    | 0, 3, _, _, h => Or.inl (hfl _ (by decide +kernel))
    | 0, 4, _, _, h => Or.inl (hfl _ (by decide +kernel))
    | 0, 5, _, _, h => Or.inl (hfl _ (by decide +kernel))
    | 1, 0, _, _, h => Or.inr (hfl _ (by decide +kernel))
    | 1, 1, _, _, h => absurd rfl h
    | 1, 2, _, _, h => Or.inl (hfl _ (by decide +kernel))
    | 1, 3, _, _, h => Or.inl (hfl _ (by decide +kernel))
    | 1, 4, _, _, h => Or.inl (hfl _ (by decide +kernel))
    | 1, 5, _, _, h => Or.inl (hfl _ (by decide +kernel))
    | 2, 0, _, _, h => Or.inr (hfl _ (by decide +kernel))
    | 2, 1, _, _, h => Or.inr (hfl _ (by decide +kernel))
    | 2, 2, _, _, h => absurd rfl h
    | 2, 3, _, _, h => Or.inl (hfl _ (by decide +kernel))
    | 2, 4, _, _, h => Or.inl (hfl _ (by decide +kernel))
    | 2, 5, _, _, h => Or.inl (hfl _ (by decide +kernel))
    | 3, 0, _, _, h => Or.inr (hfl _ (by decide +kernel))
    | 3, 1, _, _, h => Or.inr (hfl _ (by decide +kernel))
    | 3, 2, _, _, h => Or.inr (hfl _ (by decide +kernel))
    | 3, 3, _, _, h => absurd rfl h
    | 3, 4, _, _, h => Or.inl (hfl _ (by decide +kernel))
    | 3, 5, _, _, h => Or.inl (hfl _ (by decide +kernel))
    | 4, 0, _, _, h => Or.inr (hfl _ (by decide +kernel))
    | 4, 1, _, _, h => Or.inr (hfl _ (by decide +kernel))
    | 4, 2, _, _, h => Or.inr (hfl _ (by decide +kernel))
    | 4, 3, _, _, h => Or.inr (hfl _ (by decide +kernel))
    | 4, 4, _, _, h => absurd rfl h
    | 4, 5, _, _, h => Or.inl (hfl _ (by decide +kernel))
    | 5, 0, _, _, h => Or.inr (hfl _ (by decide +kernel))
    | 5, 1, _, _, h => Or.inr (hfl _ (by decide +kernel))
    | 5, 2, _, _, h => Or.inr (hfl _ (by decide +kernel))
    | 5, 3, _, _, h => Or.inr (hfl _ (by decide +kernel))
    | 5, 4, _, _, h => Or.inr (hfl _ (by decide +kernel))
    | 5, 5, _, _, h => absurd rfl h
    | n + 6, _, h, _, _ => absurd h (by omega)
    | 0, n + 6, _, h, _ => absurd h (by omega)
    | 1, n + 6, _, h, _ => absurd h (by omega)
    | 2, n + 6, _, h, _ => absurd h (by omega)
    | 3, n + 6, _, h, _ => absurd h (by omega)
    | 4, n + 6, _, h, _ => absurd h (by omega)
    | 5, n + 6, _, h, _ => absurd h (by omega)
set_option maxRecDepth 100000 in
theorem mx_above {args : Array Value} {s : State} {A : Nat → Prop} (hfl : ∀ c ∈ flatC (Jvm.Cond.and given_1 narrow_1), c.before args s = true) (hA : ∀ a : Nat, a < s.heap.size → ¬ A a) : ∃ t : Nat, (Term.static "CreaseLines" "ABOVE" "[I").eval args s none [] s = some (.ref t) ∧ va_T .int t 6 (fun j => .int (([-1, 0, 0, 1, 2, 0] : List Int32).getD j 0)) A s s.heap := by
  refine va_Tof (by decide) (hfl _ (by decide +kernel)) (va_eqt (z := 6) (hfl _ (by decide +kernel))) (fun j hj => match j, hj with
    | 0, _ => va_eqt (z := (-1)) (hfl _ (by decide +kernel))
    | 1, _ => va_eqt (z := 0) (hfl _ (by decide +kernel))
    | 2, _ => va_eqt (z := 0) (hfl _ (by decide +kernel))
    | 3, _ => va_eqt (z := 1) (hfl _ (by decide +kernel))
    | 4, _ => va_eqt (z := 2) (hfl _ (by decide +kernel))
    | 5, _ => va_eqt (z := 0) (hfl _ (by decide +kernel))
    | n + 6, h => absurd h (by omega)) hA
set_option maxRecDepth 100000 in
theorem mx_most {args : Array Value} {s : State} {A : Nat → Prop} (hfl : ∀ c ∈ flatC (Jvm.Cond.and given_1 narrow_1), c.before args s = true) (hA : ∀ a : Nat, a < s.heap.size → ¬ A a) : ∃ t : Nat, (Term.static "CreaseLines" "MOST_OF_RULE" "[I").eval args s none [] s = some (.ref t) ∧ va_T .int t 4 (fun j => .int (([100, 3, 99, 99] : List Int32).getD j 0)) A s s.heap := by
  refine va_Tof (by decide) (hfl _ (by decide +kernel)) (va_eqt (z := 4) (hfl _ (by decide +kernel))) (fun j hj => match j, hj with
    | 0, _ => va_eqt (z := 100) (hfl _ (by decide +kernel))
    | 1, _ => va_eqt (z := 3) (hfl _ (by decide +kernel))
    | 2, _ => va_eqt (z := 99) (hfl _ (by decide +kernel))
    | 3, _ => va_eqt (z := 99) (hfl _ (by decide +kernel))
    | n + 4, h => absurd h (by omega)) hA
set_option maxRecDepth 100000 in
set_option maxHeartbeats 4000000 in
theorem mx_start {p : Program} {s : State} {m : MethodId} {meth : Method} {c : Code} {b L : Nat} {xs : Nat → Int32} (hL : L ≤ 3072) (C0 : lw_At p s m meth c b L xs) : ∃ (D : va_G) (ta : Nat → ClassId) (sk : Nat → Value), mx_C ((List.range L).map xs) D ta s.heap.size sk s s.heap ∧ (∀ i, sk i = .null ∨ ∃ a, sk i = .ref a) ∧ sk 202 = .ref b := by
  obtain ⟨hx, hb, hr, hml, hown, hts, hX, hbl, hlocks, hgv⟩ := C0
  have hfl := flat_of_before _ hgv
  have hA : ∀ a : Nat, a < s.heap.size → ¬ mx_A s.heap.size a := fun a h h2 => Nat.not_le.mpr h h2
  have hws : ∀ {k : Nat}, k < 8 → ∀ w ∈ u_ws (mx_RX k) (mx_T k) (mx_Nf k), w ∈ lw_tbl := fun hk w hw => (mx_G_tbl w (List.mem_append_left _ (mx_cl_ws hk w hw))).1
  obtain ⟨c0, i0, k0⟩ := u_known (C := RX0) (T := TX0) (N := 13) (n := 13) hts (hws (k := 0) (by decide)) (hts (.instantiable RX0 13) (by decide +kernel))
  obtain ⟨c1, i1, k1⟩ := u_known (C := RX1) (T := TX1) (N := 6) (n := 6) hts (hws (k := 1) (by decide)) (hts (.instantiable RX1 6) (by decide +kernel))
  obtain ⟨c2, i2, k2⟩ := u_known (C := RX2) (T := TX2) (N := 15) (n := 15) hts (hws (k := 2) (by decide)) (hts (.instantiable RX2 15) (by decide +kernel))
  obtain ⟨c3, i3, k3⟩ := u_known (C := RX3) (T := TX3) (N := 3) (n := 3) hts (hws (k := 3) (by decide)) (hts (.instantiable RX3 3) (by decide +kernel))
  obtain ⟨c4, i4, k4⟩ := u_known (C := RX4) (T := TX4) (N := 4) (n := 4) hts (hws (k := 4) (by decide)) (hts (.instantiable RX4 4) (by decide +kernel))
  obtain ⟨c5, i5, k5⟩ := u_known (C := RX5) (T := TX5) (N := 3) (n := 3) hts (hws (k := 5) (by decide)) (hts (.instantiable RX5 3) (by decide +kernel))
  obtain ⟨c6, i6, k6⟩ := u_known (C := RX6) (T := TX6) (N := 12) (n := 12) hts (hws (k := 6) (by decide)) (hts (.instantiable RX6 12) (by decide +kernel))
  obtain ⟨c7, i7, k7⟩ := u_known (C := RX7) (T := TX7) (N := 33) (n := 33) hts (hws (k := 7) (by decide)) (hts (.instantiable RX7 33) (by decide +kernel))
  obtain ⟨dC, dI, hKc⟩ : ∃ (dC : Nat → ClassId) (dI : Nat → Nat → Nat), ∀ (k : Nat) (q : vw_C), vwCl[k]? = some q → u_Kn s q.1 q.2.1 q.2.2 (dC k) (dI k) := by
    refine ⟨fun k => match k with | 0 => c0 | 1 => c1 | 2 => c2 | 3 => c3 | 4 => c4 | 5 => c5 | 6 => c6 | _ => c7, fun k => match k with | 0 => i0 | 1 => i1 | 2 => i2 | 3 => i3 | 4 => i4 | 5 => i5 | 6 => i6 | _ => i7, ?_⟩
    intro k q hq
    match k, hq with
    | 0, hq => cases hq; exact k0
    | 1, hq => cases hq; exact k1
    | 2, hq => cases hq; exact k2
    | 3, hq => cases hq; exact k3
    | 4, hq => cases hq; exact k4
    | 5, hq => cases hq; exact k5
    | 6, hq => cases hq; exact k6
    | 7, hq => cases hq; exact k7
    | k + 8, hq => simp [vwCl] at hq
  obtain ⟨a0, A0, B0⟩ := mx_arr (hts (.arrayClass .int) (by decide +kernel))
  obtain ⟨a1, A1, B1⟩ := mx_arr (hts (.arrayClass .boolean) (by decide +kernel))
  obtain ⟨a2, A2, B2⟩ := mx_arr (hts (.arrayClass .char) (by decide +kernel))
  have o3 : (Cond.arrayOver (.object RX1)).before #[Value.ref b] s = true := hts _ (by decide +kernel)
  have o4 : (Cond.arrayOver (.object RX3)).before #[Value.ref b] s = true := hts _ (by decide +kernel)
  have o5 : (Cond.arrayOver (.object RX4)).before #[Value.ref b] s = true := hts _ (by decide +kernel)
  have o6 : (Cond.arrayOver (.object RX5)).before #[Value.ref b] s = true := hts _ (by decide +kernel)
  obtain ⟨a3, A3, B3⟩ := mx_arrO o3
  obtain ⟨a4, A4, B4⟩ := mx_arrO o4
  obtain ⟨a5, A5, B5⟩ := mx_arrO o5
  obtain ⟨a6, A6, B6⟩ := mx_arrO o6
  obtain ⟨adK, adV, hS, hev⟩ := mx_strs hfl hA
  obtain ⟨t1, e1, T1⟩ := mx_above hfl hA
  obtain ⟨t2, e2, T2⟩ := mx_most hfl hA
  have z1 := va_Zof (hts (.laysStatic "CreaseLines" "ABOVE" "[I") (by decide +kernel)) (hts (.initialized "CreaseLines") (by decide +kernel)) e1 hA
  have z2 := va_Zof (hts (.laysStatic "CreaseLines" "MOST_OF_RULE" "[I") (by decide +kernel)) (hts (.initialized "CreaseLines") (by decide +kernel)) e2 hA
  have z3 := va_Zof (hts (.laysStatic "java/lang/String" "COMPACT_STRINGS" "Z") (by decide +kernel)) (hts (.initialized "java/lang/String") (by decide +kernel)) (va_eqt (z := 1) (hfl (.eq (.static "java/lang/String" "COMPACT_STRINGS" "Z") (.int 1)) (by decide +kernel))) hA
  obtain ⟨vS, z4, hvS⟩ : ∃ vS : Value, va_Z "jdk/internal/util/Preconditions" "SIOOBE_FORMATTER" "Ljava/util/function/BiFunction;" vS (mx_A s.heap.size) s s.heap ∧ (vS = .null ∨ ∃ a, vS = .ref a) := by
    rcases va_Zqof (hts (.laysStatic "jdk/internal/util/Preconditions" "SIOOBE_FORMATTER" "Ljava/util/function/BiFunction;") (by decide +kernel)) (hts (.initialized "jdk/internal/util/Preconditions") (by decide +kernel)) (hfl (.isRef (.static "jdk/internal/util/Preconditions" "SIOOBE_FORMATTER" "Ljava/util/function/BiFunction;")) (by decide +kernel)) hA with h | ⟨t, h⟩
    · exact ⟨_, h, Or.inl rfl⟩
    · exact ⟨_, h, Or.inr ⟨t, rfl⟩⟩
  have hsc : va_T .int b L (fun j => .int (((List.range L).map xs).getD j 0)) (mx_A s.heap.size) s s.heap := by
    obtain ⟨scr, h1, h2, h3, h4, h5⟩ := hX
    refine ⟨scr, h1, h2, h3, Nat.le_of_eq h4.symm, by rw [h4], fun j hj => ?_, hA b hbl⟩
    rw [h5 j hj]
    simp [List.getD, hj]
  refine ⟨(dC, dI), fun k => match k with | 0 => a0 | 1 => a1 | 2 => a2 | 3 => a3 | 4 => a4 | 5 => a5 | _ => a6, fun i => if i < 6 then .ref (adK i) else if 100 ≤ i ∧ i < 106 then .ref (adV (i - 100)) else if i = 200 then .ref t1 else if i = 201 then .ref t2 else if i = 202 then .ref b else if i = 999 then vS else .null, ⟨⟨hKc, ?_⟩, ?_, va_Nw.of rfl (hts _ (by decide +kernel)), ⟨va_AO.of o3, va_AO.of o4, va_AO.of o5, va_AO.of o6⟩, ⟨z1, z2, z3, z4⟩, ?_, ?_, ?_⟩, ?_, rfl⟩
  · intro k q hq
    match k, hq with
    | 0, hq => cases hq; exact ⟨A0, B0⟩
    | 1, hq => cases hq; exact ⟨A1, B1⟩
    | 2, hq => cases hq; exact ⟨A2, B2⟩
    | 3, hq => cases hq; exact ⟨A3, B3⟩
    | 4, hq => cases hq; exact ⟨A4, B4⟩
    | 5, hq => cases hq; exact ⟨A5, B5⟩
    | 6, hq => cases hq; exact ⟨A6, B6⟩
    | k + 7, hq => simp [mx_tys] at hq
  · intro q hq
    refine va_Nw.of rfl (hts _ ?_)
    have : ∀ q ∈ mx_NM, Cond.methodLinkNest q.1 q.2.1 q.2.2 "CreaseLines" ∈ lw_tbl := by decide +kernel
    exact this q hq
  · intro r t l hr
    unfold mx_kt at hr
    split at hr
    · cases hr; exact ⟨adV 0, rfl, (hS.1 0 (by decide)).2.2.2⟩
    · cases hr; exact ⟨adV 1, rfl, (hS.1 1 (by decide)).2.2.2⟩
    · cases hr; exact ⟨adV 2, rfl, (hS.1 2 (by decide)).2.2.2⟩
    · cases hr; exact ⟨adV 3, rfl, (hS.1 3 (by decide)).2.2.2⟩
    · cases hr; exact ⟨adV 4, rfl, (hS.1 4 (by decide)).2.2.2⟩
    · cases hr; exact ⟨adV 5, rfl, (hS.1 5 (by decide)).2.2.2⟩
    · cases hr; exact ⟨t1, rfl, T1⟩
    · cases hr; exact ⟨t2, rfl, T2⟩
    · cases hr
      refine ⟨b, rfl, ?_⟩
      rw [List.length_map, List.length_range]
      exact hsc
    · cases hr
  · intro i hi
    obtain ⟨h1, h2, h3, h4⟩ := hS.1 i hi
    refine ⟨adK i, by simp [hi], h1, h2, ?_⟩
    have e : (if 100 + i < 6 then Value.ref (adK (100 + i)) else if 100 ≤ 100 + i ∧ 100 + i < 106 then .ref (adV (100 + i - 100)) else if 100 + i = 200 then .ref t1 else if 100 + i = 201 then .ref t2 else if 100 + i = 202 then .ref b else if 100 + i = 999 then vS else .null) = .ref (adV i) := by
      rw [if_neg (by omega), if_pos (by omega), show 100 + i - 100 = i by omega]
    show va_OF _ _ _ (if 100 + i < 6 then Value.ref (adK (100 + i)) else _) _ _ _ _
    rw [e]
    exact h3
  · intro q hq
    have hm : ∀ q ∈ mx_SL, q.2.2 < 6 ∧ mx_sx q.2.2 = q.1 ∧ Cond.stringRef RX2 q.1 q.2.1 ∈ lw_tbl := by decide +kernel
    obtain ⟨h1, h2, h3⟩ := hm q hq
    refine ⟨adK q.2.2, by simp [h1], vk_R.of (hts _ h3) ?_⟩
    have h4 := hev q.2.2 h1
    rw [h2] at h4
    exact h4
  · intro i
    dsimp only
    by_cases h1 : i < 6
    · exact Or.inr ⟨_, by rw [if_pos h1]⟩
    · rw [if_neg h1]
      by_cases h2 : 100 ≤ i ∧ i < 106
      · exact Or.inr ⟨_, by rw [if_pos h2]⟩
      · rw [if_neg h2]
        by_cases h3 : i = 200
        · exact Or.inr ⟨_, by rw [if_pos h3]⟩
        · rw [if_neg h3]
          by_cases h4 : i = 201
          · exact Or.inr ⟨_, by rw [if_pos h4]⟩
          · rw [if_neg h4]
            by_cases h5 : i = 202
            · exact Or.inr ⟨_, by rw [if_pos h5]⟩
            · rw [if_neg h5]
              by_cases h6 : i = 999
              · rw [if_pos h6]; exact hvS
              · rw [if_neg h6]; exact Or.inl rfl
/-- THE LAW out of the small machine's answer -/
def mx_law (xs : List Int32) : mx_R := mx_rn xs (mx_ev xs mx_P 12) kk_L_law mx_N 0 (lv_args 0 [.retAddr 202]) [] []
set_option maxHeartbeats 4000000 in
theorem mx_whole (hpure : ∀ xs : List Int32, xs.length ≤ 3072 → ∃ h', mx_law xs = some (some (.int 1), h') ∧ h'.length ≤ 600000 ∧ mx_sz h' ≤ 7302250) {p : Program} {e : Env} {s : State} {m : MethodId} {below : List Frame} {meth : Method} {c : Code} (l : Launch) {b L : Nat} {xs : Nat → Int32} (hL : L ≤ 3072) (C0 : lw_At p s m meth c b L xs) : W p l e room_1 s m #[Value.ref b] below meth c s.heap [] 0 0 (lw_Z below #[Value.ref b] s) (entryFrame m ([Value.ref b] : List Value).toArray 4) := by
  obtain ⟨D, ta, sk, hC, hsk, hb2⟩ := mx_start hL C0
  obtain ⟨hx, hb, hr, hml, hown, hts, hX, hbl, hlocks, hgv⟩ := C0
  obtain ⟨h', hq, hc1, hc2⟩ := hpure ((List.range L).map xs) (by rw [List.length_map, List.length_range]; exact hL)
  have X : mx_X ((List.range L).map xs) mx_P mx_G p room_1 s m #[Value.ref b] meth c yL_law cL_law 4 D ta s.heap.size sk 12 lw_tbl [] := by
    refine ⟨⟨hx, hb, hml, hown, hts⟩, fun e => by exact absurd e (by decide), hC, rfl, hsk, fun w hw => (mx_G_tbl w (List.mem_append_left _ hw)).1, mx_good mx_P_ok (fun w hw => (mx_G_tbl w hw).1), by decide, by decide⟩
  have hW := sd_rn (l := l) (e := e) (below := below) (Q := lw_Z below #[Value.ref b] s) (ret := some .boolean) X ck_law cw_law (mo_ev 12) (fun j as g v g' hg => mx_sound _ l mx_P mx_G mx_P_ok D ta s.heap.size sk hsk 12 j as g v g' hg) (rv := some (.int 1)) (h' := h') (by show h'.length - 0 ≤ 600000; omega) (by show mx_sz h' - mx_sz [] ≤ 7302250; omega) ?_ ?_ ?_ mx_N 0 (lv_args 0 [.retAddr 202]) [] [] hq
  · have hl := lv_entry ([.ref b]) (n := 4) (Nat.le_of_ble_eq_true rfl)
    rw [lg_entry_eq]
    have hl2 : lv_has ((lg_sl ([.ref b]) ++ List.replicate (4 - (lg_sl ([.ref b])).length) Slot.unset).toArray) 4 ((lv_args 0 [.retAddr 202]).map (mx_g s.heap.size sk)) := by
      have e : (lv_args 0 [Value.retAddr 202]).map (mx_g s.heap.size sk) = [(0, sk 202)] := rfl
      rw [e, hb2]
      exact hl
    exact hW s.heap [] _ ⟨rfl, fun k q h => by simp [mx_ws] at h⟩ va_S.rf hl2 (Nat.le_refl _) (Nat.le_refl _)
  · intro pc ls x hd he _
    cases he
    intro H locs lsC hR hS hl a1 a2
    refine va_forget hS.2.2 ?_
    refine W.widen (k := 600000) (n := 7302250) (by show h'.length - 0 ≤ 600000; omega) (by show mx_sz h' - mx_sz [] ≤ 7302250; omega) ?_
    exact lw_ret hx hb hr hlocks hd
  · intro pc ls v _ _ _ ⟨ty, h1, h2⟩
    cases h1
    cases h2
  · intro pc ls _ he _
    cases he
