/-! ===== what makes cells; calls ===== -/
section MXU
variable {p : Program} {l : Launch} {e : Env} {R : Room} {s : State} {m : MethodId} {args : Array Value} {below : List Frame} {meth : Method} {c : Code} {Q : State → Prop}
variable {xs : List Int32} {P : List mx_M} {G : List Cond} {y : MethodName} {cc : ByteArray} {nL : Nat} {ret : Option FieldType} {D : va_G} {ta : Nat → ClassId} {base : Nat} {sk : Nat → Value} {dd : Nat} {Ts : List Cond} {h0 : mx_H}
theorem sd_new {pc : Nat} {ls : mx_L} {st : List Value} {h : mx_H} (X : mx_X xs P G p R s m args meth c y cc nL D ta base sk dd Ts h0) {a i : Nat} (ha : a < 8) (h1 : Cond.classLink y.cls i (mx_RX a) ∈ Ts) (h2 : Cond.instantiable (mx_RX a) (mx_Nf a) ∈ Ts) (h3 : Cond.initialized (mx_RX a) ∈ Ts) (hc : h.length + 1 - h0.length ≤ R.cells) (hs : mx_sz (h ++ [.inr (a, mx_df a)]) - mx_sz h0 ≤ R.slots) (hd : decode cc pc = .ok (.new i, 3)) (k : mx_W p l e R s m args below meth c D ta base sk h0 nL Q (pc + 3) (ls) (.ref h.length :: st) (h ++ [.inr (a, mx_df a)])) : mx_W p l e R s m args below meth c D ta base sk h0 nL Q (pc) (ls) (st) (h) := by
  have X0 := X
  obtain ⟨⟨hx, hb, hml, hown, hts⟩, hini, hC, hz0, hsk, hWS, hGd, hfr, hlo⟩ := X
  intro H locs lsC hR hS hl a1 a2
  have hsz0 := hR.1
  have hN : mx_se (.inr (a, mx_df a)) = mx_Nf a := (mx_cl_df ha).1
  rw [mx_sz_push, hN] at hs
  refine va_new (fs := mx_df a) hx hb hts (fun w hw => hWS w (mx_cl_ws ha w hw)) (mx_tyf a) (mx_cl_ty ha) hown (hts _ h1) (hts _ h2) (hts _ h3) hC.1 hR.2 mx_ws_D hS (fun q hq => by show base ≤ q; omega) (mx_cl_at ha) ((mx_cl_df ha).2 base sk).2 (by omega) (by omega) hd (fun q H1 hP1 hD1 hS1 => ?_)
  have e0 : mx_ce base sk ta (.inr (a, mx_df a)) = .inr (a, mx_df a) := by show Sum.inr (a, (mx_df a).map (mx_cv base sk)) = _; rw [((mx_cl_df ha).2 base sk).1]
  rw [← e0] at hP1 hD1
  refine mx_sized fun hsz => ?_
  obtain ⟨rfl, e1⟩ := mx_fresh (x := mx_ce base sk ta (.inr (a, mx_df a))) hP1 hD1 (by omega)
  have hP2 : va_P D vwCl (mx_ws base sk ta (h ++ [.inr (a, mx_df a)])) H1 := by rw [mx_ws_push]; exact hP1
  have k2 := k H1 locs lsC ⟨by rw [List.length_append]; simp; omega, hP2⟩ hS1 hl (by rw [List.length_append]; omega) (by rw [mx_sz_push]; omega)
  rw [List.length_append, mx_sz_push] at k2
  have e3 : h.length + [(.inr (a, mx_df a) : va_E)].length - h0.length = h.length - h0.length + 1 := by simp; omega
  have e4 : mx_sz h + mx_se (.inr (a, mx_df a)) - mx_sz h0 = mx_sz h - mx_sz h0 + mx_Nf a := by simp [mx_se, (mx_cl_df ha).1]; omega
  rw [e3, e4] at k2
  exact k2
theorem sd_nai {pc : Nat} {ls : mx_L} {st : List Value} {h : mx_H} (X : mx_X xs P G p R s m args meth c y cc nL D ta base sk dd Ts h0) {n : Int32} (h1 : Cond.arrayClass (newarray.typeOf .int) ∈ Ts) (hn : ¬ n < 0) (hn2 : n.toNatClampNeg ≤ 4096) (hc : h.length + 1 - h0.length ≤ R.cells) (hs : mx_sz (h ++ [.inl (0, n.toNatClampNeg, .inl (fun _ => 0))]) - mx_sz h0 ≤ R.slots) (hd : decode cc pc = .ok (.newarray .int, 2)) (k : mx_W p l e R s m args below meth c D ta base sk h0 nL Q (pc + 2) (ls) (.ref h.length :: st) (h ++ [.inl (0, n.toNatClampNeg, .inl (fun _ => 0))])) : mx_W p l e R s m args below meth c D ta base sk h0 nL Q (pc) (ls) (.int n :: st) (h) := by
  have X0 := X
  obtain ⟨⟨hx, hb, hml, hown, hts⟩, hini, hC, hz0, hsk, hWS, hGd, hfr, hlo⟩ := X
  intro H locs lsC hR hS hl a1 a2
  have hsz0 := hR.1
  rw [mx_sz_push] at hs
  have hN : mx_se (.inl (0, n.toNatClampNeg, .inl (fun _ => 0))) = n.toNatClampNeg := rfl
  rw [hN] at hs
  have hcb : componentBytes .int ≤ 4 := by decide
  refine va_newa (ty := .int) (a0 := (n.toNatClampNeg, .inl (fun _ => 0))) hx hb (hts _ h1) rfl hC.1 hR.2 mx_ws_D hS (fun q hq => by show base ≤ q; omega) (fun cA => rfl) hn rfl (Nat.le_trans (Nat.mul_le_mul hn2 hcb) (by decide)) (by omega) (by omega) hd (fun q cA H1 hK1 hP1 hD1 hS1 => ?_)
  have eA : cA = ta 0 := by
    have r1 : s.vm.findClass ("[" ++ (.int : FieldType).toString) = some cA := (hK1.2 7 (cA, .int) rfl).2
    have r2 : s.vm.findClass ("[" ++ (.int : FieldType).toString) = some (ta 0) := (hC.1.2 0 (ta 0, .int) rfl).2
    exact Option.some.inj (r1.symm.trans r2)
  subst eA
  refine mx_sized fun hsz => ?_
  obtain ⟨rfl, e1⟩ := mx_fresh (x := mx_ce base sk ta (.inl (0, n.toNatClampNeg, .inl (fun _ => 0)))) hP1 hD1 (by omega)
  have hP2 : va_P D vwCl (mx_ws base sk ta (h ++ [.inl (0, n.toNatClampNeg, .inl (fun _ => 0))])) H1 := by rw [mx_ws_push]; exact hP1
  have k2 := k H1 locs lsC ⟨by rw [List.length_append]; simp; omega, hP2⟩ hS1 hl (by rw [List.length_append]; omega) (by rw [mx_sz_push]; omega)
  rw [List.length_append, mx_sz_push] at k2
  have e3 : h.length + [(.inl (0, n.toNatClampNeg, .inl (fun _ => 0)) : va_E)].length - h0.length = h.length - h0.length + 1 := by simp; omega
  have e4 : mx_sz h + mx_se (.inl (0, n.toNatClampNeg, .inl (fun _ => 0))) - mx_sz h0 = mx_sz h - mx_sz h0 + n.toNatClampNeg := by simp [mx_se]; omega
  rw [e3, e4] at k2
  exact k2
theorem sd_naz {pc : Nat} {ls : mx_L} {st : List Value} {h : mx_H} (X : mx_X xs P G p R s m args meth c y cc nL D ta base sk dd Ts h0) {n : Int32} (h1 : Cond.arrayClass (newarray.typeOf .boolean) ∈ Ts) (hn : ¬ n < 0) (hn2 : n.toNatClampNeg ≤ 4096) (hc : h.length + 1 - h0.length ≤ R.cells) (hs : mx_sz (h ++ [.inl (1, n.toNatClampNeg, .inl (fun _ => 0))]) - mx_sz h0 ≤ R.slots) (hd : decode cc pc = .ok (.newarray .boolean, 2)) (k : mx_W p l e R s m args below meth c D ta base sk h0 nL Q (pc + 2) (ls) (.ref h.length :: st) (h ++ [.inl (1, n.toNatClampNeg, .inl (fun _ => 0))])) : mx_W p l e R s m args below meth c D ta base sk h0 nL Q (pc) (ls) (.int n :: st) (h) := by
  have X0 := X
  obtain ⟨⟨hx, hb, hml, hown, hts⟩, hini, hC, hz0, hsk, hWS, hGd, hfr, hlo⟩ := X
  intro H locs lsC hR hS hl a1 a2
  have hsz0 := hR.1
  rw [mx_sz_push] at hs
  have hN : mx_se (.inl (1, n.toNatClampNeg, .inl (fun _ => 0))) = n.toNatClampNeg := rfl
  rw [hN] at hs
  have hcb : componentBytes .boolean ≤ 4 := by decide
  refine va_newa (ty := .boolean) (a0 := (n.toNatClampNeg, .inl (fun _ => 0))) hx hb (hts _ h1) rfl hC.1 hR.2 mx_ws_D hS (fun q hq => by show base ≤ q; omega) (fun cA => rfl) hn rfl (Nat.le_trans (Nat.mul_le_mul hn2 hcb) (by decide)) (by omega) (by omega) hd (fun q cA H1 hK1 hP1 hD1 hS1 => ?_)
  have eA : cA = ta 1 := by
    have r1 : s.vm.findClass ("[" ++ (.boolean : FieldType).toString) = some cA := (hK1.2 7 (cA, .boolean) rfl).2
    have r2 : s.vm.findClass ("[" ++ (.boolean : FieldType).toString) = some (ta 1) := (hC.1.2 1 (ta 1, .boolean) rfl).2
    exact Option.some.inj (r1.symm.trans r2)
  subst eA
  refine mx_sized fun hsz => ?_
  obtain ⟨rfl, e1⟩ := mx_fresh (x := mx_ce base sk ta (.inl (1, n.toNatClampNeg, .inl (fun _ => 0)))) hP1 hD1 (by omega)
  have hP2 : va_P D vwCl (mx_ws base sk ta (h ++ [.inl (1, n.toNatClampNeg, .inl (fun _ => 0))])) H1 := by rw [mx_ws_push]; exact hP1
  have k2 := k H1 locs lsC ⟨by rw [List.length_append]; simp; omega, hP2⟩ hS1 hl (by rw [List.length_append]; omega) (by rw [mx_sz_push]; omega)
  rw [List.length_append, mx_sz_push] at k2
  have e3 : h.length + [(.inl (1, n.toNatClampNeg, .inl (fun _ => 0)) : va_E)].length - h0.length = h.length - h0.length + 1 := by simp; omega
  have e4 : mx_sz h + mx_se (.inl (1, n.toNatClampNeg, .inl (fun _ => 0))) - mx_sz h0 = mx_sz h - mx_sz h0 + n.toNatClampNeg := by simp [mx_se]; omega
  rw [e3, e4] at k2
  exact k2
theorem sd_nac {pc : Nat} {ls : mx_L} {st : List Value} {h : mx_H} (X : mx_X xs P G p R s m args meth c y cc nL D ta base sk dd Ts h0) {n : Int32} (h1 : Cond.arrayClass (newarray.typeOf .char) ∈ Ts) (hn : ¬ n < 0) (hn2 : n.toNatClampNeg ≤ 4096) (hc : h.length + 1 - h0.length ≤ R.cells) (hs : mx_sz (h ++ [.inl (2, n.toNatClampNeg, .inl (fun _ => 0))]) - mx_sz h0 ≤ R.slots) (hd : decode cc pc = .ok (.newarray .char, 2)) (k : mx_W p l e R s m args below meth c D ta base sk h0 nL Q (pc + 2) (ls) (.ref h.length :: st) (h ++ [.inl (2, n.toNatClampNeg, .inl (fun _ => 0))])) : mx_W p l e R s m args below meth c D ta base sk h0 nL Q (pc) (ls) (.int n :: st) (h) := by
  have X0 := X
  obtain ⟨⟨hx, hb, hml, hown, hts⟩, hini, hC, hz0, hsk, hWS, hGd, hfr, hlo⟩ := X
  intro H locs lsC hR hS hl a1 a2
  have hsz0 := hR.1
  rw [mx_sz_push] at hs
  have hN : mx_se (.inl (2, n.toNatClampNeg, .inl (fun _ => 0))) = n.toNatClampNeg := rfl
  rw [hN] at hs
  have hcb : componentBytes .char ≤ 4 := by decide
  refine va_newa (ty := .char) (a0 := (n.toNatClampNeg, .inl (fun _ => 0))) hx hb (hts _ h1) rfl hC.1 hR.2 mx_ws_D hS (fun q hq => by show base ≤ q; omega) (fun cA => rfl) hn rfl (Nat.le_trans (Nat.mul_le_mul hn2 hcb) (by decide)) (by omega) (by omega) hd (fun q cA H1 hK1 hP1 hD1 hS1 => ?_)
  have eA : cA = ta 2 := by
    have r1 : s.vm.findClass ("[" ++ (.char : FieldType).toString) = some cA := (hK1.2 7 (cA, .char) rfl).2
    have r2 : s.vm.findClass ("[" ++ (.char : FieldType).toString) = some (ta 2) := (hC.1.2 2 (ta 2, .char) rfl).2
    exact Option.some.inj (r1.symm.trans r2)
  subst eA
  refine mx_sized fun hsz => ?_
  obtain ⟨rfl, e1⟩ := mx_fresh (x := mx_ce base sk ta (.inl (2, n.toNatClampNeg, .inl (fun _ => 0)))) hP1 hD1 (by omega)
  have hP2 : va_P D vwCl (mx_ws base sk ta (h ++ [.inl (2, n.toNatClampNeg, .inl (fun _ => 0))])) H1 := by rw [mx_ws_push]; exact hP1
  have k2 := k H1 locs lsC ⟨by rw [List.length_append]; simp; omega, hP2⟩ hS1 hl (by rw [List.length_append]; omega) (by rw [mx_sz_push]; omega)
  rw [List.length_append, mx_sz_push] at k2
  have e3 : h.length + [(.inl (2, n.toNatClampNeg, .inl (fun _ => 0)) : va_E)].length - h0.length = h.length - h0.length + 1 := by simp; omega
  have e4 : mx_sz h + mx_se (.inl (2, n.toNatClampNeg, .inl (fun _ => 0))) - mx_sz h0 = mx_sz h - mx_sz h0 + n.toNatClampNeg := by simp [mx_se]; omega
  rw [e3, e4] at k2
  exact k2
theorem sd_nq {pc : Nat} {ls : mx_L} {st : List Value} {h : mx_H} (X : mx_X xs P G p R s m args meth c y cc nL D ta base sk dd Ts h0) {a i : Nat} {n : Int32} (ha : 3 ≤ a ∧ a ≤ 6) (h1 : Cond.classLink y.cls i (mx_RX (mx_kc a)) ∈ Ts) (hn : ¬ n < 0) (hn2 : n.toNatClampNeg ≤ 4096) (hc : h.length + 1 - h0.length ≤ R.cells) (hs : mx_sz (h ++ [.inl (a, n.toNatClampNeg, .inr (.inr (.inr (.inr (fun _ => none)))))]) - mx_sz h0 ≤ R.slots) (hd : decode cc pc = .ok (.anewarray i, 3)) (k : mx_W p l e R s m args below meth c D ta base sk h0 nL Q (pc + 3) (ls) (.ref h.length :: st) (h ++ [.inl (a, n.toNatClampNeg, .inr (.inr (.inr (.inr (fun _ => none)))))])) : mx_W p l e R s m args below meth c D ta base sk h0 nL Q (pc) (ls) (.int n :: st) (h) := by
  have X0 := X
  obtain ⟨⟨hx, hb, hml, hown, hts⟩, hini, hC, hz0, hsk, hWS, hGd, hfr, hlo⟩ := X
  intro H locs lsC hR hS hl a1 a2
  have hsz0 := hR.1
  rw [mx_sz_push] at hs
  have hN : mx_se (.inl (a, n.toNatClampNeg, .inr (.inr (.inr (.inr (fun _ => none)))))) = n.toNatClampNeg := rfl
  rw [hN] at hs
  have hAO : va_AO (mx_RX (mx_kc a)) s := by
    obtain ⟨z1, z2, z3, z4⟩ := hC.2.2.2.1
    obtain ⟨b1, b2⟩ := ha
    rcases (show a = 3 ∨ a = 4 ∨ a = 5 ∨ a = 6 by omega) with rfl | rfl | rfl | rfl
    · exact z1
    · exact z2
    · exact z3
    · exact z4
  refine va_newq hx hb hown (hts _ h1) hAO hC.1 hR.2 mx_ws_D hS (fun q hq => by show base ≤ q; omega) hn rfl (by omega) (by omega) (by omega) hd (fun q cA H1 hK1 hP1 hD1 hS1 => ?_)
  have eA : cA = ta a := by
    obtain ⟨_, _, _, _, _, r1⟩ := (hK1.2 7 (cA, .object (mx_RX (mx_kc a))) rfl).2
    obtain ⟨_, _, _, _, _, r2⟩ := (hC.1.2 a (ta a, .object (mx_RX (mx_kc a))) (mx_ty_at ha).1).2
    exact Option.some.inj (r1.symm.trans r2)
  subst eA
  refine mx_sized fun hsz => ?_
  obtain ⟨rfl, e1⟩ := mx_fresh (x := mx_ce base sk ta (.inl (a, n.toNatClampNeg, .inr (.inr (.inr (.inr (fun _ => none))))))) hP1 hD1 (by omega)
  have hP2 : va_P D vwCl (mx_ws base sk ta (h ++ [.inl (a, n.toNatClampNeg, .inr (.inr (.inr (.inr (fun _ => none)))))])) H1 := by rw [mx_ws_push]; exact hP1
  have k2 := k H1 locs lsC ⟨by rw [List.length_append]; simp; omega, hP2⟩ hS1 hl (by rw [List.length_append]; omega) (by rw [mx_sz_push]; omega)
  rw [List.length_append, mx_sz_push] at k2
  have e3 : h.length + [(.inl (a, n.toNatClampNeg, .inr (.inr (.inr (.inr (fun _ => none))))) : va_E)].length - h0.length = h.length - h0.length + 1 := by simp; omega
  have e4 : mx_sz h + mx_se (.inl (a, n.toNatClampNeg, .inr (.inr (.inr (.inr (fun _ => none)))))) - mx_sz h0 = mx_sz h - mx_sz h0 + n.toNatClampNeg := by simp [mx_se]; omega
  rw [e3, e4] at k2
  exact k2
theorem sd_cpy {pc : Nat} {ls : mx_L} {st : List Value} {h : mx_H} (X : mx_X xs P G p R s m args meth c y cc nL D ta base sk dd Ts h0) {i sa da n0 n1 : Nat} {sp dp n : Int32} {f0 f1 : Nat → Int32} (h1 : Cond.methodLink y.cls i arraycopyName ∈ Ts) (h2 : Cond.native arraycopyName ∈ Ts) (h3 : Cond.static arraycopyName ∈ Ts) (h4 : Cond.initialized "java/lang/System" ∈ Ts) (he0 : h[sa]? = some (.inl (0, n0, .inl f0))) (he1 : h[da]? = some (.inl (0, n1, .inl f1))) (c1 : ¬ sp < 0) (c2 : ¬ dp < 0) (c3 : ¬ n < 0) (c4 : sp.toNatClampNeg + n.toNatClampNeg ≤ n0) (c5 : dp.toNatClampNeg + n.toNatClampNeg ≤ n1) (hr : (st.map fun v => v.category).sum ≤ 8) (hd : decode cc pc = .ok (.invokestatic i, 3)) (k : mx_W p l e R s m args below meth c D ta base sk h0 nL Q (pc + 3) (ls) (st) (h.set da (.inl (0, n1, .inl (va_cpy f0 f1 sp.toNatClampNeg dp.toNatClampNeg n.toNatClampNeg))))) : mx_W p l e R s m args below meth c D ta base sk h0 nL Q (pc) (ls) (.int n :: .int dp :: .ref da :: .int sp :: .ref sa :: st) (h) := by
  have X0 := X
  obtain ⟨⟨hx, hb, hml, hown, hts⟩, hini, hC, hz0, hsk, hWS, hGd, hfr, hlo⟩ := X
  intro H locs lsC hR hS hl a1 a2
  have hnf : nativeFrameWords "java/lang/System" "arraycopy" 5 = 7 := by decide
  refine va_copyi (ty := .int) hx hb (hml.trans hl.1.symm) hown (hts _ h1) (hts _ h2) (hts _ h3) (hts _ h4) hC.1 hR.2 mx_ws_D hS sa da 0 0 (mx_ws_at he0) (mx_ws_at he1) rfl rfl rfl c1 c2 c3 c4 c5 (fun _ _ => rfl) (by omega) (by rw [mx_cats hsk, hnf]; omega) hd (fun H1 locs1 hP1 _ hS1 => ?_)
  have hP2 : va_P D vwCl (mx_ws base sk ta (h.set da (.inl (0, n1, .inl (va_cpy f0 f1 sp.toNatClampNeg dp.toNatClampNeg n.toNatClampNeg))))) H1 := by rw [← mx_ws_set]; exact hP1
  refine mx_sized fun hsz => ?_
  have e1 := mx_low hP2 (by rw [List.length_set]; exact Nat.lt_of_le_of_lt (Nat.zero_le da) (mx_pos he1))
  rw [List.length_set] at e1
  have e2 : mx_sz (h.set da (.inl (0, n1, .inl (va_cpy f0 f1 sp.toNatClampNeg dp.toNatClampNeg n.toNatClampNeg)))) = mx_sz h := mx_sz_set he1 (by simp [mx_se])
  have k2 := k H1 locs1 lsC ⟨by rw [List.length_set]; have := hR.1; omega, hP2⟩ hS1 hl (by rw [List.length_set]; exact a1) (by rw [e2]; exact a2)
  rw [List.length_set, e2] at k2
  exact k2
theorem sd_oinit {pc : Nat} {ls : mx_L} {st : List Value} {h : mx_H} (X : mx_X xs P G p R s m args meth c y cc nL D ta base sk dd Ts h0) {i r : Nat} (h1 : Cond.methodLink y.cls i objectInit ∈ Ts) (h2 : Cond.instanceMethod objectInit ∈ Ts) (h3 : Cond.code objectInit ⟨#[0xb1]⟩ 1 none ∈ Ts) (hr : (st.map fun v => v.category).sum ≤ 8) (hd : decode cc pc = .ok (.invokespecial i, 3)) (k : mx_W p l e R s m args below meth c D ta base sk h0 nL Q (pc + 3) (ls) (st) (h)) : mx_W p l e R s m args below meth c D ta base sk h0 nL Q (pc) (ls) (.ref r :: st) (h) := by
  have X0 := X
  obtain ⟨⟨hx, hb, hml, hown, hts⟩, hini, hC, hz0, hsk, hWS, hGd, hfr, hlo⟩ := X
  intro H locs lsC hR hS hl a1 a2
  refine W.objInit hx hb hown (hts _ h1) (hts _ h2) (hts _ h3) rfl (hl.1.trans hml.symm) rfl hd (by omega) (by
    have := lv_room (m := m) (pc := pc) (ls := lsC) (rest := (Value.ref r :: st).map (mx_cv base sk)) (st := st.map (mx_cv base sk)) (by rw [mx_cats hsk]; exact hr)
    omega) ?_
  exact k H locs lsC hR hS hl a1 a2
/-- a method's start and end, over the pure heap -/
def mx_Pc (xs : List Int32) (D : va_G) (ta : Nat → ClassId) (base : Nat) (sk : Nat → Value) (as : List Value) (h : mx_H) : Array Value → State → Prop := va_Pc (as.map (mx_cv base sk)) (fun U => mx_Rl D ta base sk h U.heap ∧ mx_C xs D ta base sk U U.heap)
def mx_Qc (D : va_G) (ta : Nat → ClassId) (base : Nat) (sk : Nat → Value) (rv : Option Value) (h' : mx_H) : Array Value → State → Outcome → State → Prop := fun _ st oc t => oc = .returned (rv.map (mx_cv base sk)) ∧ mx_Rl D ta base sk h' t.heap ∧ va_F (mx_A base) st t
def mx_room (d : Nat) (h h' : mx_H) : Room := { frames := d, cells := h'.length - h.length, slots := mx_sz h' - mx_sz h, locals := 36 * d }
def mx_Met (xs : List Int32) (l : Launch) (P : List mx_M) (G : List Cond) (D : va_G) (ta : Nat → ClassId) (base : Nat) (sk : Nat → Value) (d j : Nat) (as : List Value) (h : mx_H) (rv : Option Value) (h' : mx_H) : Prop :=
  ∃ M : mx_M, P[j]? = some M ∧ Met l M.1 (Cond.code M.1 M.2.1 M.2.2.1 M.2.2.2.1 :: G) (mx_room d h h') (mx_Pc xs D ta base sk as h) (mx_Qc D ta base sk rv h') (h'.length - h.length) (mx_sz h' - mx_sz h) (mx_A base)
theorem mx_blind {as : List Value} {h : mx_H} : FrameBlind (mx_Pc xs D ta base sk as h) := fun a U g mk q => ⟨q.1, q.2.1, mx_C.same (u := U) rfl q.2.2⟩
theorem mx_goon {H : Heap} {locs : List Loc} {cells slots mc ms pc : Nat} {ls : Array Slot} {st0 rest : List Value} {a : Array Value} {rv : Option Value} {g' : mx_H} (hr : va_Run p l e R s m args below meth c H locs cells slots mc ms (F0 m pc ls st0) rest (mx_Qc D ta base sk rv g' a) (mx_A base)) (hS : va_S (mx_A base) s.heap H locs)
    (kk : ∀ (H1 : Heap) (locs1 : List Loc), mx_Rl D ta base sk g' H1 → va_S (mx_A base) s.heap H1 locs1 → W p l e R s m args below meth c H1 locs1 (cells + mc) (slots + ms) Q (F0 m (pc + 3) ls ((rv.map (mx_cv base sk)).toList ++ rest))) : W p l e R s m args below meth c H locs cells slots Q (F0 m pc ls st0) := by
  intro T hT X
  obtain ⟨v, st₀, t, T', L, h0, X', hL, e1, e2, ⟨hv, hRl, hz, hk⟩, st⟩ := hr T hT X
  cases hv
  rw [h0] at hz hk
  obtain ⟨t2, a1, b1⟩ := kk T'.heap (locs ++ L) (by rw [e1]; exact hRl)
    ⟨Nat.le_trans hS.1 (by rw [e1]; exact hz), fun q h1 h2 => by rw [e1, hk q (Nat.lt_of_lt_of_le h1 hS.1) h2]; exact hS.2.1 q h1 h2, fun q hq => by
      rcases List.mem_append.mp hq with h | h
      · exact hS.2.2 q h
      · exact hL q h⟩ T' rfl X'
  exact ⟨t2, st t2 a1, b1⟩
theorem sd_callV {pc : Nat} {ls : mx_L} {st : List Value} {h : mx_H} (X : mx_X xs P G p R s m args meth c y cc nL D ta base sk dd Ts h0) {M' : mx_M} {i b a : Nat} {as : List Value} {rv : Option Value} {g : mx_H} (hPM : P[a]? = some M') (hcal : mx_cal M' b = true) (hb2 : as.length = b) (hst : (st.map fun v => v.category).sum ≤ 8) (hg1 : h.length ≤ g.length) (hg2 : mx_sz h ≤ mx_sz g) (hc : g.length - h0.length ≤ R.cells) (hs : mx_sz g - mx_sz h0 ≤ R.slots) (h1 : Cond.methodLink y.cls i M'.1 ∈ Ts) (h2 : Cond.instanceMethod M'.1 ∈ Ts) (h3 : Cond.selects M'.1.cls M'.1 M'.1 ∈ Ts) (h4 : Cond.initialized M'.1.cls ∈ Ts) {u r : Nat} {fs : List Value} (hu : u < 8) (hcl : mx_RX u = M'.1.cls) (he : h[r]? = some (.inr (u, fs))) (hcall : mx_Met xs l P G D ta base sk dd a (.ref r :: as) h rv g) (hd : decode cc pc = .ok (.invokevirtual i, 3)) (k : mx_W p l e R s m args below meth c D ta base sk h0 nL Q (pc + 3) (ls) (rv.toList ++ st) (g)) : mx_W p l e R s m args below meth c D ta base sk h0 nL Q (pc) (ls) (as.reverse ++ .ref r :: st) (h) := by
  have X0 := X
  obtain ⟨⟨hx, hb, hml, hown, hts⟩, hini, hC, hz0, hsk, hWS, hGd, hfr, hlo⟩ := X
  simp only [mx_cal, Bool.and_eq_true, decide_eq_true_eq] at hcal
  obtain ⟨hnm, hmx⟩ := hcal
  have hmx := Nat.le_of_ble_eq_true hmx
  intro H locs lsC hR hS hl a1 a2
  obtain ⟨M, hM, hMet⟩ := hcall
  have hM0 : M = M' := Option.some.inj (hM.symm.trans hPM)
  subst hM0
  have hnext : ∀ U : State, U.heap = H → s.WarmedH U.vm → mx_Rl D ta base sk h U.heap ∧ mx_C xs D ta base sk U U.heap := fun U hU hW => ⟨by rw [hU]; exact hR, by rw [hU]; exact (hC.kept hS.2.1).warm hW⟩
  have hroom : (mx_room dd h g).frames + 1 ≤ R.frames ∧ 8 + (M.2.2.1 + 11) + (mx_room dd h g).locals ≤ R.locals := ⟨hfr, by show 8 + (M.2.2.1 + 11) + 36 * dd ≤ R.locals; omega⟩
  have hfit : h.length - h0.length + (g.length - h.length) ≤ R.cells ∧ mx_sz h - mx_sz h0 + (mx_sz g - mx_sz h) ≤ R.slots := by omega
  have e3 : h.length - h0.length + (g.length - h.length) = g.length - h0.length := by omega
  have e4 : mx_sz h - mx_sz h0 + (mx_sz g - mx_sz h) = mx_sz g - mx_sz h0 := by omega
  have hgo : ∀ (H1 : Heap) (locs1 : List Loc), mx_Rl D ta base sk g H1 → va_S (mx_A base) s.heap H1 locs1 → W p l e R s m args below meth c H1 locs1 (h.length - h0.length + (g.length - h.length)) (mx_sz h - mx_sz h0 + (mx_sz g - mx_sz h)) Q (F0 m (pc + 3) lsC ((rv.map (mx_cv base sk)).toList ++ st.map (mx_cv base sk))) := by
    intro H1 locs1 hR1 hS1
    have k2 := k H1 locs1 lsC hR1 hS1 hl (by omega) (by omega)
    rw [e3, e4]
    cases rv with
    | none => exact k2
    | some v => exact k2
  have hrm : 2 * (F0 m pc lsC ([] : List Value)).monitorRoom + ((st.map (mx_cv base sk)).map fun v => v.category).sum ≤ 8 := lv_room (by rw [mx_cats hsk]; exact hst)
  refine mx_goon (rest := st.map (mx_cv base sk)) (va_runV (As := as.map (mx_cv base sk)) (b := base + r) (C := M.1.cls) ⟨hx, hb, hml, hown, hts⟩ hMet ⟨callB_of b hts (hGd _ _ hPM) rfl rfl rfl (hts _ h4) (hts _ h1) hnm hroom, hts _ h2, hts _ h3⟩ ⟨mx_blind, ?_, fun U hU hW => ⟨rfl, hnext U hU hW⟩⟩ rfl (by rw [List.length_map]; exact hb2) hl.1 (by simp [mx_cv]) hrm hd hfit) hS hgo
  rw [← hcl]
  exact va_recv hC.1 hR.2 (mx_cl_at hu) (mx_ws_at he)
theorem sd_callT {pc : Nat} {ls : mx_L} {st : List Value} {h : mx_H} (X : mx_X xs P G p R s m args meth c y cc nL D ta base sk dd Ts h0) {M' : mx_M} {i b a : Nat} {as : List Value} {rv : Option Value} {g : mx_H} (hPM : P[a]? = some M') (hcal : mx_cal M' b = true) (hb2 : as.length = b) (hst : (st.map fun v => v.category).sum ≤ 8) (hg1 : h.length ≤ g.length) (hg2 : mx_sz h ≤ mx_sz g) (hc : g.length - h0.length ≤ R.cells) (hs : mx_sz g - mx_sz h0 ≤ R.slots) (h1 : Cond.methodLink y.cls i M'.1 ∈ Ts) (h2 : Cond.instanceMethod M'.1 ∈ Ts) (h3 : Cond.selects M'.1.cls M'.1 M'.1 ∈ Ts) (h4 : Cond.initialized M'.1.cls ∈ Ts) {r : Nat} (hr : r < 6) (hcl : M'.1.cls = "java/lang/String") (hcall : mx_Met xs l P G D ta base sk dd a (.retAddr r :: as) h rv g) (hd : decode cc pc = .ok (.invokevirtual i, 3)) (k : mx_W p l e R s m args below meth c D ta base sk h0 nL Q (pc + 3) (ls) (rv.toList ++ st) (g)) : mx_W p l e R s m args below meth c D ta base sk h0 nL Q (pc) (ls) (as.reverse ++ .retAddr r :: st) (h) := by
  have X0 := X
  obtain ⟨⟨hx, hb, hml, hown, hts⟩, hini, hC, hz0, hsk, hWS, hGd, hfr, hlo⟩ := X
  simp only [mx_cal, Bool.and_eq_true, decide_eq_true_eq] at hcal
  obtain ⟨hnm, hmx⟩ := hcal
  have hmx := Nat.le_of_ble_eq_true hmx
  intro H locs lsC hR hS hl a1 a2
  obtain ⟨M, hM, hMet⟩ := hcall
  have hM0 : M = M' := Option.some.inj (hM.symm.trans hPM)
  subst hM0
  have hnext : ∀ U : State, U.heap = H → s.WarmedH U.vm → mx_Rl D ta base sk h U.heap ∧ mx_C xs D ta base sk U U.heap := fun U hU hW => ⟨by rw [hU]; exact hR, by rw [hU]; exact (hC.kept hS.2.1).warm hW⟩
  have hroom : (mx_room dd h g).frames + 1 ≤ R.frames ∧ 8 + (M.2.2.1 + 11) + (mx_room dd h g).locals ≤ R.locals := ⟨hfr, by show 8 + (M.2.2.1 + 11) + 36 * dd ≤ R.locals; omega⟩
  have hfit : h.length - h0.length + (g.length - h.length) ≤ R.cells ∧ mx_sz h - mx_sz h0 + (mx_sz g - mx_sz h) ≤ R.slots := by omega
  have e3 : h.length - h0.length + (g.length - h.length) = g.length - h0.length := by omega
  have e4 : mx_sz h - mx_sz h0 + (mx_sz g - mx_sz h) = mx_sz g - mx_sz h0 := by omega
  have hgo : ∀ (H1 : Heap) (locs1 : List Loc), mx_Rl D ta base sk g H1 → va_S (mx_A base) s.heap H1 locs1 → W p l e R s m args below meth c H1 locs1 (h.length - h0.length + (g.length - h.length)) (mx_sz h - mx_sz h0 + (mx_sz g - mx_sz h)) Q (F0 m (pc + 3) lsC ((rv.map (mx_cv base sk)).toList ++ st.map (mx_cv base sk))) := by
    intro H1 locs1 hR1 hS1
    have k2 := k H1 locs1 lsC hR1 hS1 hl (by omega) (by omega)
    rw [e3, e4]
    cases rv with
    | none => exact k2
    | some v => exact k2
  have hrm : 2 * (F0 m pc lsC ([] : List Value)).monitorRoom + ((st.map (mx_cv base sk)).map fun v => v.category).sum ≤ 8 := lv_room (by rw [mx_cats hsk]; exact hst)
  obtain ⟨q, e5, hO, -⟩ := hC.2.2.2.2.2.2.1 r hr
  refine mx_goon (rest := st.map (mx_cv base sk)) (va_runV (As := as.map (mx_cv base sk)) (b := q) (C := M.1.cls) ⟨hx, hb, hml, hown, hts⟩ hMet ⟨callB_of b hts (hGd _ _ hPM) rfl rfl rfl (hts _ h4) (hts _ h1) hnm hroom, hts _ h2, hts _ h3⟩ ⟨mx_blind, ?_, fun U hU hW => ⟨by rw [← e5]; rfl, hnext U hU hW⟩⟩ rfl (by rw [List.length_map]; exact hb2) hl.1 (by simp [mx_cv, e5]) hrm hd hfit) hS hgo
  rw [hcl]
  obtain ⟨cell, x1, x2, x3, -⟩ := va_O.kept hO hS.2.1
  exact ⟨cell, x1, x2, x3⟩
theorem sd_callS {pc : Nat} {ls : mx_L} {st : List Value} {h : mx_H} (X : mx_X xs P G p R s m args meth c y cc nL D ta base sk dd Ts h0) {M' : mx_M} {i b a : Nat} {as : List Value} {rv : Option Value} {g : mx_H} (hPM : P[a]? = some M') (hcal : mx_cal M' b = true) (hb2 : as.length = b) (hst : (st.map fun v => v.category).sum ≤ 8) (hg1 : h.length ≤ g.length) (hg2 : mx_sz h ≤ mx_sz g) (hc : g.length - h0.length ≤ R.cells) (hs : mx_sz g - mx_sz h0 ≤ R.slots) (h1 : Cond.methodLink y.cls i M'.1 ∈ Ts) (h2 : Cond.static M'.1 ∈ Ts) (h4 : Cond.initialized M'.1.cls ∈ Ts) (hcall : mx_Met xs l P G D ta base sk dd a as h rv g) (hd : decode cc pc = .ok (.invokestatic i, 3)) (k : mx_W p l e R s m args below meth c D ta base sk h0 nL Q (pc + 3) (ls) (rv.toList ++ st) (g)) : mx_W p l e R s m args below meth c D ta base sk h0 nL Q (pc) (ls) (as.reverse ++ st) (h) := by
  have X0 := X
  obtain ⟨⟨hx, hb, hml, hown, hts⟩, hini, hC, hz0, hsk, hWS, hGd, hfr, hlo⟩ := X
  simp only [mx_cal, Bool.and_eq_true, decide_eq_true_eq] at hcal
  obtain ⟨hnm, hmx⟩ := hcal
  have hmx := Nat.le_of_ble_eq_true hmx
  intro H locs lsC hR hS hl a1 a2
  obtain ⟨M, hM, hMet⟩ := hcall
  have hM0 : M = M' := Option.some.inj (hM.symm.trans hPM)
  subst hM0
  have hnext : ∀ U : State, U.heap = H → s.WarmedH U.vm → mx_Rl D ta base sk h U.heap ∧ mx_C xs D ta base sk U U.heap := fun U hU hW => ⟨by rw [hU]; exact hR, by rw [hU]; exact (hC.kept hS.2.1).warm hW⟩
  have hroom : (mx_room dd h g).frames + 1 ≤ R.frames ∧ 8 + (M.2.2.1 + 11) + (mx_room dd h g).locals ≤ R.locals := ⟨hfr, by show 8 + (M.2.2.1 + 11) + 36 * dd ≤ R.locals; omega⟩
  have hfit : h.length - h0.length + (g.length - h.length) ≤ R.cells ∧ mx_sz h - mx_sz h0 + (mx_sz g - mx_sz h) ≤ R.slots := by omega
  have e3 : h.length - h0.length + (g.length - h.length) = g.length - h0.length := by omega
  have e4 : mx_sz h - mx_sz h0 + (mx_sz g - mx_sz h) = mx_sz g - mx_sz h0 := by omega
  have hgo : ∀ (H1 : Heap) (locs1 : List Loc), mx_Rl D ta base sk g H1 → va_S (mx_A base) s.heap H1 locs1 → W p l e R s m args below meth c H1 locs1 (h.length - h0.length + (g.length - h.length)) (mx_sz h - mx_sz h0 + (mx_sz g - mx_sz h)) Q (F0 m (pc + 3) lsC ((rv.map (mx_cv base sk)).toList ++ st.map (mx_cv base sk))) := by
    intro H1 locs1 hR1 hS1
    have k2 := k H1 locs1 lsC hR1 hS1 hl (by omega) (by omega)
    rw [e3, e4]
    cases rv with
    | none => exact k2
    | some v => exact k2
  have hrm : 2 * (F0 m pc lsC ([] : List Value)).monitorRoom + ((st.map (mx_cv base sk)).map fun v => v.category).sum ≤ 8 := lv_room (by rw [mx_cats hsk]; exact hst)
  exact mx_goon (rest := st.map (mx_cv base sk)) (va_runS (As := as.map (mx_cv base sk)) ⟨hx, hb, hml, hown, hts⟩ hMet ⟨callB_of b hts (hGd _ _ hPM) rfl rfl rfl (hts _ h4) (hts _ h1) hnm hroom, hts _ h2⟩ ⟨mx_blind, fun U hU hW => ⟨rfl, hnext U hU hW⟩⟩ rfl (by rw [List.length_map]; exact hb2) hl.1 (by simp) hrm hd hfit) hS hgo
theorem sd_callSN {pc : Nat} {ls : mx_L} {st : List Value} {h : mx_H} (X : mx_X xs P G p R s m args meth c y cc nL D ta base sk dd Ts h0) {M' : mx_M} {i b a : Nat} {as : List Value} {rv : Option Value} {g : mx_H} (hPM : P[a]? = some M') (hcal : mx_cal M' b = true) (hb2 : as.length = b) (hst : (st.map fun v => v.category).sum ≤ 8) (hg1 : h.length ≤ g.length) (hg2 : mx_sz h ≤ mx_sz g) (hc : g.length - h0.length ≤ R.cells) (hs : mx_sz g - mx_sz h0 ≤ R.slots) (h1 : (y.cls, i, M'.1) ∈ mx_NM) (h2 : Cond.static M'.1 ∈ Ts) (h4 : Cond.initialized M'.1.cls ∈ Ts) (hcall : mx_Met xs l P G D ta base sk dd a as h rv g) (hd : decode cc pc = .ok (.invokestatic i, 3)) (k : mx_W p l e R s m args below meth c D ta base sk h0 nL Q (pc + 3) (ls) (rv.toList ++ st) (g)) : mx_W p l e R s m args below meth c D ta base sk h0 nL Q (pc) (ls) (as.reverse ++ st) (h) := by
  have X0 := X
  obtain ⟨⟨hx, hb, hml, hown, hts⟩, hini, hC, hz0, hsk, hWS, hGd, hfr, hlo⟩ := X
  simp only [mx_cal, Bool.and_eq_true, decide_eq_true_eq] at hcal
  obtain ⟨hnm, hmx⟩ := hcal
  have hmx := Nat.le_of_ble_eq_true hmx
  intro H locs lsC hR hS hl a1 a2
  obtain ⟨M, hM, hMet⟩ := hcall
  have hM0 : M = M' := Option.some.inj (hM.symm.trans hPM)
  subst hM0
  have hnext : ∀ U : State, U.heap = H → s.WarmedH U.vm → mx_Rl D ta base sk h U.heap ∧ mx_C xs D ta base sk U U.heap := fun U hU hW => ⟨by rw [hU]; exact hR, by rw [hU]; exact (hC.kept hS.2.1).warm hW⟩
  have hroom : (mx_room dd h g).frames + 1 ≤ R.frames ∧ 8 + (M.2.2.1 + 11) + (mx_room dd h g).locals ≤ R.locals := ⟨hfr, by show 8 + (M.2.2.1 + 11) + 36 * dd ≤ R.locals; omega⟩
  have hfit : h.length - h0.length + (g.length - h.length) ≤ R.cells ∧ mx_sz h - mx_sz h0 + (mx_sz g - mx_sz h) ≤ R.slots := by omega
  have e3 : h.length - h0.length + (g.length - h.length) = g.length - h0.length := by omega
  have e4 : mx_sz h - mx_sz h0 + (mx_sz g - mx_sz h) = mx_sz g - mx_sz h0 := by omega
  have hgo : ∀ (H1 : Heap) (locs1 : List Loc), mx_Rl D ta base sk g H1 → va_S (mx_A base) s.heap H1 locs1 → W p l e R s m args below meth c H1 locs1 (h.length - h0.length + (g.length - h.length)) (mx_sz h - mx_sz h0 + (mx_sz g - mx_sz h)) Q (F0 m (pc + 3) lsC ((rv.map (mx_cv base sk)).toList ++ st.map (mx_cv base sk))) := by
    intro H1 locs1 hR1 hS1
    have k2 := k H1 locs1 lsC hR1 hS1 hl (by omega) (by omega)
    rw [e3, e4]
    cases rv with
    | none => exact k2
    | some v => exact k2
  have hrm : 2 * (F0 m pc lsC ([] : List Value)).monitorRoom + ((st.map (mx_cv base sk)).map fun v => v.category).sum ≤ 8 := lv_room (by rw [mx_cats hsk]; exact hst)
  exact mx_goon (rest := st.map (mx_cv base sk)) (va_runSN (As := as.map (mx_cv base sk)) (host := "CreaseLines") ⟨hx, hb, hml, hown, hts⟩ hMet ⟨va_cnB b hts (hGd _ _ hPM) rfl rfl rfl (hC.2.1 _ h1) (hts _ h4) hnm hroom, hts _ h2, trivial⟩ ⟨mx_blind, fun U hU hW => ⟨rfl, hnext U hU hW⟩⟩ rfl (by rw [List.length_map]; exact hb2) hl.1 (by simp) hrm hd hfit) hS hgo
theorem sd_callI {pc : Nat} {ls : mx_L} {st : List Value} {h : mx_H} (X : mx_X xs P G p R s m args meth c y cc nL D ta base sk dd Ts h0) {M' : mx_M} {i b a : Nat} {as : List Value} {rv : Option Value} {g : mx_H} (hPM : P[a]? = some M') (hcal : mx_cal M' b = true) (hb2 : as.length = b) (hst : (st.map fun v => v.category).sum ≤ 8) (hg1 : h.length ≤ g.length) (hg2 : mx_sz h ≤ mx_sz g) (hc : g.length - h0.length ≤ R.cells) (hs : mx_sz g - mx_sz h0 ≤ R.slots) (hn0 : M'.1.name = "<init>") (hr0 : M'.2.2.2.1 = none) (h1 : Cond.methodLink y.cls i M'.1 ∈ Ts) (h2 : Cond.instanceMethod M'.1 ∈ Ts) (h4 : Cond.initialized M'.1.cls ∈ Ts) {r : Nat} (hcall : mx_Met xs l P G D ta base sk dd a (.ref r :: as) h rv g) (hd : decode cc pc = .ok (.invokespecial i, 3)) (k : mx_W p l e R s m args below meth c D ta base sk h0 nL Q (pc + 3) (ls) (rv.toList ++ st) (g)) : mx_W p l e R s m args below meth c D ta base sk h0 nL Q (pc) (ls) (as.reverse ++ .ref r :: st) (h) := by
  have X0 := X
  obtain ⟨⟨hx, hb, hml, hown, hts⟩, hini, hC, hz0, hsk, hWS, hGd, hfr, hlo⟩ := X
  simp only [mx_cal, Bool.and_eq_true, decide_eq_true_eq] at hcal
  obtain ⟨hnm, hmx⟩ := hcal
  have hmx := Nat.le_of_ble_eq_true hmx
  intro H locs lsC hR hS hl a1 a2
  obtain ⟨M, hM, hMet⟩ := hcall
  have hM0 : M = M' := Option.some.inj (hM.symm.trans hPM)
  subst hM0
  have hnext : ∀ U : State, U.heap = H → s.WarmedH U.vm → mx_Rl D ta base sk h U.heap ∧ mx_C xs D ta base sk U U.heap := fun U hU hW => ⟨by rw [hU]; exact hR, by rw [hU]; exact (hC.kept hS.2.1).warm hW⟩
  have hroom : (mx_room dd h g).frames + 1 ≤ R.frames ∧ 8 + (M.2.2.1 + 11) + (mx_room dd h g).locals ≤ R.locals := ⟨hfr, by show 8 + (M.2.2.1 + 11) + 36 * dd ≤ R.locals; omega⟩
  have hfit : h.length - h0.length + (g.length - h.length) ≤ R.cells ∧ mx_sz h - mx_sz h0 + (mx_sz g - mx_sz h) ≤ R.slots := by omega
  have e3 : h.length - h0.length + (g.length - h.length) = g.length - h0.length := by omega
  have e4 : mx_sz h - mx_sz h0 + (mx_sz g - mx_sz h) = mx_sz g - mx_sz h0 := by omega
  have hgo : ∀ (H1 : Heap) (locs1 : List Loc), mx_Rl D ta base sk g H1 → va_S (mx_A base) s.heap H1 locs1 → W p l e R s m args below meth c H1 locs1 (h.length - h0.length + (g.length - h.length)) (mx_sz h - mx_sz h0 + (mx_sz g - mx_sz h)) Q (F0 m (pc + 3) lsC ((rv.map (mx_cv base sk)).toList ++ st.map (mx_cv base sk))) := by
    intro H1 locs1 hR1 hS1
    have k2 := k H1 locs1 lsC hR1 hS1 hl (by omega) (by omega)
    rw [e3, e4]
    cases rv with
    | none => exact k2
    | some v => exact k2
  have hrm : 2 * (F0 m pc lsC ([] : List Value)).monitorRoom + ((st.map (mx_cv base sk)).map fun v => v.category).sum ≤ 8 := lv_room (by rw [mx_cats hsk]; exact hst)
  exact mx_goon (rest := st.map (mx_cv base sk)) (va_runI (As := as.map (mx_cv base sk)) (b := base + r) ⟨hx, hb, hml, hown, hts⟩ hMet ⟨callB_of b hts (hGd _ _ hPM) (by rw [hr0]) rfl rfl (hts _ h4) (hts _ h1) hnm hroom, hn0, hts _ h2⟩ ⟨mx_blind, fun U hU hW => ⟨rfl, hnext U hU hW⟩⟩ rfl (by rw [List.length_map]; exact hb2) hl.1 (by simp [mx_cv]) hrm hd hfit) hS hgo
theorem sd_callIN {pc : Nat} {ls : mx_L} {st : List Value} {h : mx_H} (X : mx_X xs P G p R s m args meth c y cc nL D ta base sk dd Ts h0) {M' : mx_M} {i b a : Nat} {as : List Value} {rv : Option Value} {g : mx_H} (hPM : P[a]? = some M') (hcal : mx_cal M' b = true) (hb2 : as.length = b) (hst : (st.map fun v => v.category).sum ≤ 8) (hg1 : h.length ≤ g.length) (hg2 : mx_sz h ≤ mx_sz g) (hc : g.length - h0.length ≤ R.cells) (hs : mx_sz g - mx_sz h0 ≤ R.slots) (hn0 : M'.1.name = "<init>") (hr0 : M'.2.2.2.1 = none) (h1 : (y.cls, i, M'.1) ∈ mx_NM) (h2 : Cond.instanceMethod M'.1 ∈ Ts) (h4 : Cond.initialized M'.1.cls ∈ Ts) {r : Nat} (hcall : mx_Met xs l P G D ta base sk dd a (.ref r :: as) h rv g) (hd : decode cc pc = .ok (.invokespecial i, 3)) (k : mx_W p l e R s m args below meth c D ta base sk h0 nL Q (pc + 3) (ls) (rv.toList ++ st) (g)) : mx_W p l e R s m args below meth c D ta base sk h0 nL Q (pc) (ls) (as.reverse ++ .ref r :: st) (h) := by
  have X0 := X
  obtain ⟨⟨hx, hb, hml, hown, hts⟩, hini, hC, hz0, hsk, hWS, hGd, hfr, hlo⟩ := X
  simp only [mx_cal, Bool.and_eq_true, decide_eq_true_eq] at hcal
  obtain ⟨hnm, hmx⟩ := hcal
  have hmx := Nat.le_of_ble_eq_true hmx
  intro H locs lsC hR hS hl a1 a2
  obtain ⟨M, hM, hMet⟩ := hcall
  have hM0 : M = M' := Option.some.inj (hM.symm.trans hPM)
  subst hM0
  have hnext : ∀ U : State, U.heap = H → s.WarmedH U.vm → mx_Rl D ta base sk h U.heap ∧ mx_C xs D ta base sk U U.heap := fun U hU hW => ⟨by rw [hU]; exact hR, by rw [hU]; exact (hC.kept hS.2.1).warm hW⟩
  have hroom : (mx_room dd h g).frames + 1 ≤ R.frames ∧ 8 + (M.2.2.1 + 11) + (mx_room dd h g).locals ≤ R.locals := ⟨hfr, by show 8 + (M.2.2.1 + 11) + 36 * dd ≤ R.locals; omega⟩
  have hfit : h.length - h0.length + (g.length - h.length) ≤ R.cells ∧ mx_sz h - mx_sz h0 + (mx_sz g - mx_sz h) ≤ R.slots := by omega
  have e3 : h.length - h0.length + (g.length - h.length) = g.length - h0.length := by omega
  have e4 : mx_sz h - mx_sz h0 + (mx_sz g - mx_sz h) = mx_sz g - mx_sz h0 := by omega
  have hgo : ∀ (H1 : Heap) (locs1 : List Loc), mx_Rl D ta base sk g H1 → va_S (mx_A base) s.heap H1 locs1 → W p l e R s m args below meth c H1 locs1 (h.length - h0.length + (g.length - h.length)) (mx_sz h - mx_sz h0 + (mx_sz g - mx_sz h)) Q (F0 m (pc + 3) lsC ((rv.map (mx_cv base sk)).toList ++ st.map (mx_cv base sk))) := by
    intro H1 locs1 hR1 hS1
    have k2 := k H1 locs1 lsC hR1 hS1 hl (by omega) (by omega)
    rw [e3, e4]
    cases rv with
    | none => exact k2
    | some v => exact k2
  have hrm : 2 * (F0 m pc lsC ([] : List Value)).monitorRoom + ((st.map (mx_cv base sk)).map fun v => v.category).sum ≤ 8 := lv_room (by rw [mx_cats hsk]; exact hst)
  exact mx_goon (rest := st.map (mx_cv base sk)) (va_runIN (As := as.map (mx_cv base sk)) (b := base + r) (host := "CreaseLines") ⟨hx, hb, hml, hown, hts⟩ hMet ⟨va_cnB b hts (hGd _ _ hPM) (by rw [hr0]) rfl rfl (hC.2.1 _ h1) (hts _ h4) hnm hroom, hn0, hts _ h2⟩ ⟨mx_blind, fun U hU hW => ⟨rfl, hnext U hU hW⟩⟩ rfl (by rw [List.length_map]; exact hb2) hl.1 (by simp [mx_cv]) hrm hd hfit) hS hgo
end MXU
