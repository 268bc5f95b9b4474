/-! ===== every answer of the small machine is a contract ===== -/
section MXY
variable {p : Program} {l : Launch} {e : Env} {R : Room} {s : State} {m : MethodId} {args : Array Value} {below : List Frame} {meth : Method} {c : Code} {Q : State → Prop}
variable {xs : List Int32} {P : List mx_M} {G : List Cond} {y : MethodName} {cc : ByteArray} {nL : Nat} {ret : Option FieldType} {D : va_G} {ta : Nat → ClassId} {base : Nat} {sk : Nat → Value} {dd : Nat} {Ts : List Cond} {h0 : mx_H}
theorem sd_rn (X : mx_X xs P G p R s m args meth c y cc nL D ta base sk dd Ts h0) {code : List mx_I} (hok : ∀ x ∈ code, mx_ok P y cc nL ret x = true) (hnd : ∀ x ∈ code, ∀ w ∈ mx_need P y.cls x, w ∈ Ts) {call : Nat → List Value → mx_H → mx_R} (hcm : ∀ j as h, mx_mo h (call j as h)) (hcall : ∀ j as g v g', call j as g = some (v, g') → mx_Met xs l P G D ta base sk dd j as g v g') {rv : Option Value} {h' : mx_H} (hcells : h'.length - h0.length ≤ R.cells) (hslots : mx_sz h' - mx_sz h0 ≤ R.slots)
    (hri : ∀ (pc : Nat) (ls : mx_L) (x : Int32), decode cc pc = .ok (.ireturn, 1) → rv = some (.int x) → (∃ ty, ret = some ty ∧ narrow ty (.int x) = .int x) → mx_W p l e R s m args below meth c D ta base sk h0 nL Q (pc) (ls) ([.int x]) (h'))
    (hra : ∀ (pc : Nat) (ls : mx_L) (v : Value), decode cc pc = .ok (.areturn, 1) → rv = some v → mx_isr v → (∃ ty, ret = some ty ∧ mx_isref ty = true) → mx_W p l e R s m args below meth c D ta base sk h0 nL Q (pc) (ls) ([v]) (h'))
    (hrv : ∀ (pc : Nat) (ls : mx_L), decode cc pc = .ok (.return_, 1) → rv = none → ret = none → mx_W p l e R s m args below meth c D ta base sk h0 nL Q (pc) (ls) ([]) (h')) :
    ∀ (n pc : Nat) (ls : mx_L) (st : List Value) (h : mx_H), mx_rn xs call code n pc ls st h = some (rv, h') → mx_W p l e R s m args below meth c D ta base sk h0 nL Q (pc) (ls) (st) (h)
  | 0, _, _, _, _, hq => by unfold mx_rn at hq; cases hq
  | n + 1, pc, ls, st, h, hq => by
    unfold mx_rn at hq
    exact sd_fw X hok hnd hcm hcall (mo_rn hcm n) hcells hslots hri hra hrv (sd_rn X hok hnd hcm hcall hcells hslots hri hra hrv n) _ _ _ _ _ _ hq
end MXY
theorem mx_sl_len {base : Nat} {sk : Nat → Value} (hs : ∀ i, sk i = .null ∨ ∃ a, sk i = .ref a) : ∀ as : List Value, (lg_sl (as.map (mx_cv base sk))).length = (lg_sl as).length
  | [] => rfl
  | v :: as => by
    have ih := mx_sl_len (base := base) hs as
    unfold lg_sl at ih ⊢
    simp only [List.map_cons, List.flatMap_cons, List.length_append, mx_cat hs]
    rw [ih]
    congr 1
    split <;> rfl
theorem mx_args {base : Nat} {sk : Nat → Value} (hs : ∀ i, sk i = .null ∨ ∃ a, sk i = .ref a) : ∀ (as : List Value) (i : Nat), lv_args i (as.map (mx_cv base sk)) = (lv_args i as).map (mx_g base sk)
  | [], _ => rfl
  | v :: as, i => by
    simp only [List.map_cons, lv_args, mx_cat hs]
    rw [mx_args hs as]
    rfl
/-- what the program's table must be for that: checked by the kernel, method by method -/
def mx_Pok (P : List mx_M) (G : List Cond) : Prop := (∀ w ∈ mx_WS, w ∈ G) ∧ (∀ w ∈ G, (w.onTables && w.keeps) = true ∨ ∃ ty, w = .arrayClass ty) ∧
  ∀ (j : Nat) (M : mx_M), P[j]? = some M → plainFor M.1 = true ∧ Cond.code M.1 M.2.1 M.2.2.1 M.2.2.2.1 ∈ G ∧ (∀ x ∈ M.2.2.2.2, mx_ok P M.1 M.2.1 M.2.2.1 M.2.2.2.1 x = true) ∧ (∀ x ∈ M.2.2.2.2, ∀ w ∈ mx_need P M.1.cls x, w ∈ G)
theorem mx_good {P : List mx_M} {G Ts : List Cond} (hP : mx_Pok P G) (hG : ∀ w ∈ G, w ∈ Ts) : ∀ (j : Nat) (M : mx_M), P[j]? = some M → GoodIn Ts (Cond.code M.1 M.2.1 M.2.2.1 M.2.2.2.1 :: G) := by
  intro j M hM w hw
  rcases List.mem_cons.mp hw with rfl | hw
  · exact ⟨hG _ (hP.2.2 j M hM).2.1, hP.2.1 _ (hP.2.2 j M hM).2.1⟩
  · exact ⟨hG _ hw, hP.2.1 _ hw⟩
set_option maxHeartbeats 4000000 in
theorem mx_sound (xs : List Int32) (l : Launch) (P : List mx_M) (G : List Cond) (hP : mx_Pok P G) (D : va_G) (ta : Nat → ClassId) (base : Nat) (sk : Nat → Value) (hsk : ∀ i, sk i = .null ∨ ∃ a, sk i = .ref a) : ∀ (d j : Nat) (as : List Value) (h : mx_H) (rv : Option Value) (h' : mx_H), mx_ev xs P d j as h = some (rv, h') → mx_Met xs l P G D ta base sk d j as h rv h'
  | 0, _, _, _, _, _, hq => by unfold mx_ev at hq; cases hq
  | d + 1, j, as, h, rv, h', hq => by
    have ih := mx_sound xs l P G hP D ta base sk hsk d
    have hmo := mo_ev (xs := xs) (P := P) (d + 1) j as h rv h' hq
    unfold mx_ev at hq
    split at hq
    · rename_i M hM
      obtain ⟨hlen, hq⟩ := iv_bif hq
      obtain ⟨hplain, hcode, hok, hnd⟩ := hP.2.2 j M hM
      refine ⟨M, hM, va_MetF (cc := M.2.1) (maxL := M.2.2.1) (ret := M.2.2.2.1) hplain rfl ?_⟩
      intro p e s m args below meth c s₁ B hml hv
      obtain ⟨rfl, hRl, hC⟩ := hv
      have hx := B.exec
      have hb := B.bytes
      have hr := B.returns
      have hts := atoms_spec (ws := Cond.code M.1 M.2.1 M.2.2.1 M.2.2.2.1 :: G) B.pre
      have hown : s.vm.findClass M.1.cls = some m.cls := findClass_of_methodNamed B.named
      have hlocks := B.notSynchronized
      have hin : meth.name = M.1.name := (name_of_methodNamed B.named B.method).1
      have X : mx_X xs P G p (mx_room (d + 1) h h') s m (as.map (mx_cv base sk)).toArray meth c M.1 M.2.1 M.2.2.1 D ta base sk d (Cond.code M.1 M.2.1 M.2.2.1 M.2.2.2.1 :: G) h := by
        refine ⟨⟨hx, hb, hml, hown, hts⟩, fun e => hin.trans e, hC, hRl.1, hsk, fun w hw => List.mem_cons_of_mem _ (hP.1 w hw), mx_good hP (fun w hw => List.mem_cons_of_mem _ hw), Nat.le_refl _, Nat.le_refl _⟩
      have hW := sd_rn (l := l) (e := e) (below := below) (Q := MQ below (mx_Qc D ta base sk rv h') (as.map (mx_cv base sk)).toArray s (h'.length - h.length) (mx_sz h' - mx_sz h) (mx_A base)) X hok (fun x hx w hw => List.mem_cons_of_mem _ (hnd x hx w hw)) (mo_ev (xs := xs) (P := P) d) (fun j as g v g' hg => ih j as g v g' hg) (rv := rv) (h' := h') (Nat.le_refl _) (Nat.le_refl _) ?_ ?_ ?_ mx_N 0 (lv_args 0 as) [] h hq
      · have hl := lv_entry (as.map (mx_cv base sk)) (n := M.2.2.1) (by rw [mx_sl_len hsk]; exact Nat.le_of_ble_eq_true hlen)
        rw [mx_args hsk] at hl
        rw [lg_entry_eq]
        have hW2 := hW s.heap [] _ hRl va_S.rf hl (Nat.le_refl _) (Nat.le_refl _)
        rw [Nat.sub_self, Nat.sub_self] at hW2
        exact hW2
      · intro pc ls x hd he hty
        subst he
        obtain ⟨ty, h1, h2⟩ := hty
        intro H locs lsC hR hS hl a1 a2
        exact W.zret hx hb (hr.trans h1) h2 (fun t ht hW => ⟨rfl, by rw [ht]; exact hR, hS.F ht⟩) hS.2.2 hd
      · intro pc ls v hd he hv hty
        subst he
        obtain ⟨ty, h1, h2⟩ := hty
        intro H locs lsC hR hS hl a1 a2
        refine W.aret hx hb (hr.trans h1) ?_ (isr_cv hsk hv) (fun t ht hW => ⟨rfl, by rw [ht]; exact hR, hS.F ht⟩) hS.2.2 hd
        cases ty with
        | object n => exact Or.inl ⟨n, rfl⟩
        | array t => exact Or.inr ⟨t, rfl⟩
        | _ => cases h2
      · intro pc ls hd he h1
        subst he
        intro H locs lsC hR hS hl a1 a2
        exact W.vret hx hb (hr.trans h1) (fun t ht hW => ⟨rfl, by rw [ht]; exact hR, hS.F ht⟩) hS.2.2 hd
    · cases hq
