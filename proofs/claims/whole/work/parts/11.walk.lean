/-! ===== a walk of the small machine is a walk of the JVM ===== -/
section MXV
variable {p : Program} {l : Launch} {e : Env} {R : Room} {s : State} {m : MethodId} {args : Array Value} {below : List Frame} {meth : Method} {c : Code} {Q : State → Prop}
variable {xs : List Int32} {P : List mx_M} {G : List Cond} {y : MethodName} {cc : ByteArray} {nL : Nat} {ret : Option FieldType} {D : va_G} {ta : Nat → ClassId} {base : Nat} {sk : Nat → Value} {dd : Nat} {Ts : List Cond} {h0 : mx_H}
theorem iv_gf5 {h : mx_H} {st : List Value} {a b : Nat} {f : List Value → mx_R} {q : Option Value × mx_H} (e : mx_gf h st a b 5 f = some q) : ∃ i rest, st = .retAddr i :: rest ∧ i < 6 ∧ f (.retAddr (100 + i) :: rest) = some q := by
  simp only [mx_gf] at e
  split at e
  · obtain ⟨h1, e⟩ := iv_bif e
    exact ⟨_, _, rfl, Nat.le_of_ble_eq_true h1, e⟩
  · cases e
theorem iv_gf6 {h : mx_H} {st : List Value} {a b : Nat} {f : List Value → mx_R} {q : Option Value × mx_H} (e : mx_gf h st a b 6 f = some q) : ∃ i rest, st = .retAddr i :: rest ∧ i < 6 ∧ f (.int 0 :: rest) = some q := by
  simp only [mx_gf] at e
  split at e
  · obtain ⟨h1, e⟩ := iv_bif e
    exact ⟨_, _, rfl, Nat.le_of_ble_eq_true h1, e⟩
  · cases e
set_option maxHeartbeats 4000000 in
set_option maxRecDepth 100000 in
theorem sd_fw (X : mx_X xs P G p R s m args meth c y cc nL D ta base sk dd Ts h0) {code : List mx_I} (hok : ∀ x ∈ code, mx_ok P y cc nL ret x = true) (hnd : ∀ x ∈ code, ∀ w ∈ mx_need P y.cls x, w ∈ Ts) {call : Nat → List Value → mx_H → mx_R} (hcm : ∀ j as h, mx_mo h (call j as h)) (hcall : ∀ j as g v g', call j as g = some (v, g') → mx_Met xs l P G D ta base sk dd j as g v g') {ct : Nat → mx_L → List Value → mx_H → mx_R} (hctm : ∀ pc ls st h, mx_mo h (ct pc ls st h)) {rv : Option Value} {h' : mx_H} (hcells : h'.length - h0.length ≤ R.cells) (hslots : mx_sz h' - mx_sz h0 ≤ R.slots)
    (hri : ∀ (pc : Nat) (ls : mx_L) (x : Int32), decode cc pc = .ok (.ireturn, 1) → rv = some (.int x) → (∃ ty, ret = some ty ∧ narrow ty (.int x) = .int x) → mx_W p l e R s m args below meth c D ta base sk h0 nL Q (pc) (ls) ([.int x]) (h'))
    (hra : ∀ (pc : Nat) (ls : mx_L) (v : Value), decode cc pc = .ok (.areturn, 1) → rv = some v → mx_isr v → (∃ ty, ret = some ty ∧ mx_isref ty = true) → mx_W p l e R s m args below meth c D ta base sk h0 nL Q (pc) (ls) ([v]) (h'))
    (hrv : ∀ (pc : Nat) (ls : mx_L), decode cc pc = .ok (.return_, 1) → rv = none → ret = none → mx_W p l e R s m args below meth c D ta base sk h0 nL Q (pc) (ls) ([]) (h'))
    (hct : ∀ (pc : Nat) (ls : mx_L) (st : List Value) (h : mx_H), ct pc ls st h = some (rv, h') → mx_W p l e R s m args below meth c D ta base sk h0 nL Q (pc) (ls) (st) (h)) :
    ∀ (k : Nat) (fi : Bool) (pc : Nat) (ls : mx_L) (st : List Value) (h : mx_H), mx_fw xs call code ct fi k pc ls st h = some (rv, h') → mx_W p l e R s m args below meth c D ta base sk h0 nL Q (pc) (ls) (st) (h)
  | 0, _, _, _, _, _, hq => by unfold mx_fw at hq; cases hq
  | k + 1, fi, pc, ls, st, h, hq => by
    have ih := sd_fw X hok hnd hcm hcall hctm hcells hslots hri hra hrv hct k
    unfold mx_fw at hq
    split at hq
    · cases hq
    · rename_i pc0 ins cut lv a b w u v cs hfind
      have hmem := List.mem_of_find?_eq_some hfind
      have hpc0 := List.find?_some hfind
      have hpc : pc0 = pc := Nat.eq_of_beq_eq_true hpc0
      subst hpc
      have ok := hok _ hmem
      have nd := hnd _ hmem
      clear hfind hmem hpc0
      cases hcut : (!fi && cut) with
      | true =>
        rw [hcut] at hq
        have k1 := hct _ _ _ _ hq
        intro H locs lsC hR hS hl a1 a2
        refine k1 H locs lsC hR hS ⟨hl.1, hl.2.1, fun q hq => ?_⟩ a1 a2
        obtain ⟨z, hz, rfl⟩ := List.mem_map.mp hq
        exact hl.2.2 _ (List.mem_map_of_mem (mx_nm_sub hz))
      | false =>
        rw [hcut] at hq
        simp only [cond_false] at hq
        unfold mx_ok at ok
        rw [Bool.and_eq_true] at ok
        obtain ⟨ok1, ok2⟩ := ok
        have hdec := of_decide_eq_true ok1
        cases ins with
        | iconst n =>
          (try dsimp only at hq)
          (try dsimp only at ok2)
          exact sd_iconst X (of_decide_eq_true ok2) hdec (ih _ _ _ _ _ hq)
        | bipush n =>
          (try dsimp only at hq)
          (try dsimp only at ok2)
          exact sd_bipush X (of_decide_eq_true ok2) hdec (ih _ _ _ _ _ hq)
        | sipush n =>
          (try dsimp only at hq)
          (try dsimp only at ok2)
          exact sd_sipush X (of_decide_eq_true ok2) hdec (ih _ _ _ _ _ hq)
        | ldc i =>
          (try dsimp only at hq)
          (try dsimp only at ok2)
          cases hw : Nat.beq w 0 with
          | true =>
            have e : w = 0 := Nat.eq_of_beq_eq_true hw
            subst e
            exact sd_ldc X (nd _ List.mem_cons_self) hdec (ih _ _ _ _ _ hq)
          | false =>
            simp only [hw, Bool.false_or, Bool.and_eq_true, decide_eq_true_eq, List.any_eq_true] at ok2
            simp only [hw, cond_false] at hq
            obtain ⟨ho, q, hm, h1, h2⟩ := ok2
            exact sd_ldcs X ho ⟨q, hm, Nat.eq_of_beq_eq_true h1, Nat.eq_of_beq_eq_true h2⟩ hdec (ih _ _ _ _ _ hq)
        | ldc_w i =>
          (try dsimp only at hq)
          (try dsimp only at ok2)
          exact sd_ldcw X (nd _ List.mem_cons_self) hdec (ih _ _ _ _ _ hq)
        | aconst_null =>
          (try dsimp only at hq)
          (try dsimp only at ok2)
          exact sd_null X hdec (ih _ _ _ _ _ hq)
        | iload_n n =>
          (try dsimp only at hq)
          (try dsimp only at ok2)
          have hz0 := iv_li hq
          clear hq
          obtain ⟨x, hv, hq⟩ := hz0
          exact sd_iload_n X hv hdec (ih _ _ _ _ _ hq)
        | iload n =>
          (try dsimp only at hq)
          (try dsimp only at ok2)
          have hz0 := iv_li hq
          clear hq
          obtain ⟨x, hv, hq⟩ := hz0
          exact sd_iload X hv hdec (ih _ _ _ _ _ hq)
        | aload_n n =>
          (try dsimp only at hq)
          (try dsimp only at ok2)
          have hz0 := iv_la hq
          clear hq
          obtain ⟨x, hv, hr, hq⟩ := hz0
          exact sd_aload_n X hv hr hdec (ih _ _ _ _ _ hq)
        | aload n =>
          (try dsimp only at hq)
          (try dsimp only at ok2)
          have hz0 := iv_la hq
          clear hq
          obtain ⟨x, hv, hr, hq⟩ := hz0
          exact sd_aload X hv hr hdec (ih _ _ _ _ _ hq)
        | istore_n n =>
          (try dsimp only at hq)
          (try dsimp only at ok2)
          have hz0 := iv_s1 hq
          clear hq
          obtain ⟨x, r, rfl, hq⟩ := hz0
          exact sd_istore_n X (Nat.le_of_ble_eq_true ok2) hdec (ih _ _ _ _ _ hq)
        | istore n =>
          (try dsimp only at hq)
          (try dsimp only at ok2)
          have hz0 := iv_s1 hq
          clear hq
          obtain ⟨x, r, rfl, hq⟩ := hz0
          exact sd_istore X (Nat.le_of_ble_eq_true ok2) hdec (ih _ _ _ _ _ hq)
        | astore_n n =>
          (try dsimp only at hq)
          (try dsimp only at ok2)
          have hz0 := iv_sa hq
          clear hq
          obtain ⟨x, r, rfl, hr, hq⟩ := hz0
          exact sd_astore_n X (Nat.le_of_ble_eq_true ok2) hr hdec (ih _ _ _ _ _ hq)
        | astore n =>
          (try dsimp only at hq)
          (try dsimp only at ok2)
          have hz0 := iv_sa hq
          clear hq
          obtain ⟨x, r, rfl, hr, hq⟩ := hz0
          exact sd_astore X (Nat.le_of_ble_eq_true ok2) hr hdec (ih _ _ _ _ _ hq)
        | iinc n d =>
          (try dsimp only at hq)
          (try dsimp only at ok2)
          simp only [Bool.and_eq_true, decide_eq_true_eq] at ok2
          have hz0 := iv_li hq
          clear hq
          obtain ⟨x, hv, hq⟩ := hz0
          exact sd_iinc X (Nat.le_of_ble_eq_true ok2.1) hv ok2.2 hdec (ih _ _ _ _ _ hq)
        | iadd =>
          (try dsimp only at hq)
          (try dsimp only at ok2)
          have hz0 := iv_s2 hq
          clear hq
          obtain ⟨x, z, r, rfl, hq⟩ := hz0
          exact sd_iadd X hdec (ih _ _ _ _ _ hq)
        | isub =>
          (try dsimp only at hq)
          (try dsimp only at ok2)
          have hz0 := iv_s2 hq
          clear hq
          obtain ⟨x, z, r, rfl, hq⟩ := hz0
          exact sd_isub X hdec (ih _ _ _ _ _ hq)
        | imul =>
          (try dsimp only at hq)
          (try dsimp only at ok2)
          have hz0 := iv_s2 hq
          clear hq
          obtain ⟨x, z, r, rfl, hq⟩ := hz0
          exact sd_imul X hdec (ih _ _ _ _ _ hq)
        | iand =>
          (try dsimp only at hq)
          (try dsimp only at ok2)
          have hz0 := iv_s2 hq
          clear hq
          obtain ⟨x, z, r, rfl, hq⟩ := hz0
          exact sd_iand X hdec (ih _ _ _ _ _ hq)
        | ior =>
          (try dsimp only at hq)
          (try dsimp only at ok2)
          have hz0 := iv_s2 hq
          clear hq
          obtain ⟨x, z, r, rfl, hq⟩ := hz0
          exact sd_ior X hdec (ih _ _ _ _ _ hq)
        | ixor =>
          (try dsimp only at hq)
          (try dsimp only at ok2)
          have hz0 := iv_s2 hq
          clear hq
          obtain ⟨x, z, r, rfl, hq⟩ := hz0
          exact sd_ixor X hdec (ih _ _ _ _ _ hq)
        | ishl =>
          (try dsimp only at hq)
          (try dsimp only at ok2)
          have hz0 := iv_s2 hq
          clear hq
          obtain ⟨x, z, r, rfl, hq⟩ := hz0
          exact sd_ishl X hdec (ih _ _ _ _ _ hq)
        | ishr =>
          (try dsimp only at hq)
          (try dsimp only at ok2)
          have hz0 := iv_s2 hq
          clear hq
          obtain ⟨x, z, r, rfl, hq⟩ := hz0
          exact sd_ishr X hdec (ih _ _ _ _ _ hq)
        | iushr =>
          (try dsimp only at hq)
          (try dsimp only at ok2)
          have hz0 := iv_s2 hq
          clear hq
          obtain ⟨x, z, r, rfl, hq⟩ := hz0
          exact sd_iushr X hdec (ih _ _ _ _ _ hq)
        | idiv =>
          (try dsimp only at hq)
          (try dsimp only at ok2)
          have hz0 := iv_s2 hq
          clear hq
          obtain ⟨x, z, r, rfl, hq⟩ := hz0
          split at hq
          · cases hq
          · rename_i hz
            exact sd_idiv X hz hdec (ih _ _ _ _ _ hq)
        | irem =>
          (try dsimp only at hq)
          (try dsimp only at ok2)
          have hz0 := iv_s2 hq
          clear hq
          obtain ⟨x, z, r, rfl, hq⟩ := hz0
          split at hq
          · cases hq
          · rename_i hz
            exact sd_irem X hz hdec (ih _ _ _ _ _ hq)
        | ineg =>
          (try dsimp only at hq)
          (try dsimp only at ok2)
          have hz0 := iv_s1 hq
          clear hq
          obtain ⟨x, r, rfl, hq⟩ := hz0
          exact sd_ineg X hdec (ih _ _ _ _ _ hq)
        | i2s =>
          (try dsimp only at hq)
          (try dsimp only at ok2)
          have hz0 := iv_s1 hq
          clear hq
          obtain ⟨x, r, rfl, hq⟩ := hz0
          exact sd_i2s X hdec (ih _ _ _ _ _ hq)
        | i2c =>
          (try dsimp only at hq)
          (try dsimp only at ok2)
          have hz0 := iv_s1 hq
          clear hq
          obtain ⟨x, r, rfl, hq⟩ := hz0
          exact sd_i2c X hdec (ih _ _ _ _ _ hq)
        | i2b =>
          (try dsimp only at hq)
          (try dsimp only at ok2)
          have hz0 := iv_s1 hq
          clear hq
          obtain ⟨x, r, rfl, hq⟩ := hz0
          exact sd_i2b X hdec (ih _ _ _ _ _ hq)
        | dup =>
          (try dsimp only at hq)
          (try dsimp only at ok2)
          have hz0 := iv_d1 hq
          clear hq
          obtain ⟨v, r, rfl, hv, hq⟩ := hz0
          exact sd_dup X (by rcases hv with ⟨x, rfl⟩ | ⟨x, rfl⟩ <;> rfl) hdec (ih _ _ _ _ _ hq)
        | pop =>
          (try dsimp only at hq)
          (try dsimp only at ok2)
          have hz0 := iv_d1 hq
          clear hq
          obtain ⟨v, r, rfl, hv, hq⟩ := hz0
          exact sd_pop X (by rcases hv with ⟨x, rfl⟩ | ⟨x, rfl⟩ <;> rfl) hdec (ih _ _ _ _ _ hq)
        | dup2 =>
          (try dsimp only at hq)
          (try dsimp only at ok2)
          have hz0 := iv_d2 hq
          clear hq
          obtain ⟨v, z, r, rfl, ⟨x, rfl⟩, hw, hq⟩ := hz0
          exact sd_dup2 X rfl (by rcases hw with ⟨x, rfl⟩ | ⟨x, rfl⟩ <;> rfl) hdec (ih _ _ _ _ _ hq)
        | goto off =>
          (try dsimp only at hq)
          (try dsimp only at ok2)
          exact sd_goto X (of_decide_eq_true ok2) hdec (ih _ _ _ _ _ hq)
        | if_icmp cd off =>
          (try dsimp only at hq)
          (try dsimp only at ok2)
          have hz0 := iv_s2 hq
          clear hq
          obtain ⟨x, z, r, rfl, hq⟩ := hz0
          exact sd_icmp X (of_decide_eq_true ok2) hdec hq (fun hq => ih _ _ _ _ _ hq) (fun hq => ih _ _ _ _ _ hq)
        | ifCond cd off =>
          (try dsimp only at hq)
          (try dsimp only at ok2)
          have hz0 := iv_s1 hq
          clear hq
          obtain ⟨x, r, rfl, hq⟩ := hz0
          exact sd_ifc X (of_decide_eq_true ok2) hdec hq (fun hq => ih _ _ _ _ _ hq) (fun hq => ih _ _ _ _ _ hq)
        | ifnull off =>
          (try dsimp only at hq)
          (try dsimp only at ok2)
          have hz0 := iv_sn hq
          clear hq
          rcases hz0 with ⟨r, rfl, hq⟩ | ⟨x, r, rfl, hq⟩
          · exact sd_ifnull0 (x := 0) X (of_decide_eq_true ok2) hdec (ih _ _ _ _ _ hq)
          · exact sd_ifnull1 X (of_decide_eq_true ok2) hdec (ih _ _ _ _ _ hq)
        | ifnonnull off =>
          (try dsimp only at hq)
          (try dsimp only at ok2)
          have hz0 := iv_sn hq
          clear hq
          rcases hz0 with ⟨r, rfl, hq⟩ | ⟨x, r, rfl, hq⟩
          · exact sd_ifnn0 (x := 0) X (of_decide_eq_true ok2) hdec (ih _ _ _ _ _ hq)
          · exact sd_ifnn1 X (of_decide_eq_true ok2) hdec (ih _ _ _ _ _ hq)
        | getfield i =>
          (try dsimp only at hq)
          (try dsimp only at ok2)
          match w, ok2, nd, hq with
          | 0, ok2, nd, hqq =>
            clear hq
            have hq := hqq
            clear hqq
            simp only [Bool.and_eq_true] at ok2
            have hz0 := iv_sr hq
            clear hq
            obtain ⟨r, rest, rfl, hq⟩ := hz0
            have hz0 := iv_gi hq
            clear hq
            obtain ⟨fs, x, he, hv, hq⟩ := hz0
            exact sd_get X (Nat.le_of_ble_eq_true ok2.1) (Nat.le_of_ble_eq_true ok2.2) (nd _ List.mem_cons_self) he hv hdec (ih _ _ _ _ _ hq)
          | 1, ok2, nd, hqq =>
            clear hq
            have hq := hqq
            clear hqq
            simp only [Bool.and_eq_true] at ok2
            have hz0 := iv_sr hq
            clear hq
            obtain ⟨r, rest, rfl, hq⟩ := hz0
            have hz0 := iv_gr hq
            clear hq
            obtain ⟨fs, x, he, hv, hq⟩ := hz0
            exact sd_get X (Nat.le_of_ble_eq_true ok2.1) (Nat.le_of_ble_eq_true ok2.2) (nd _ List.mem_cons_self) he hv hdec (ih _ _ _ _ _ hq)
          | 5, ok2, nd, hqq =>
            clear hq
            have hq := hqq
            clear hqq
            have hz0 := iv_gf5 hq
            clear hq
            obtain ⟨j, rest, rfl, hj, hq⟩ := hz0
            exact sd_sval X hj (nd _ List.mem_cons_self) hdec (ih _ _ _ _ _ hq)
          | 6, ok2, nd, hqq =>
            clear hq
            have hq := hqq
            clear hqq
            have hz0 := iv_gf6 hq
            clear hq
            obtain ⟨j, rest, rfl, hj, hq⟩ := hz0
            exact sd_scod X hj (nd _ List.mem_cons_self) hdec (ih _ _ _ _ _ hq)
          | 2, ok2, _, _ => cases ok2
          | 3, ok2, _, _ => cases ok2
          | 4, ok2, _, _ => cases ok2
          | w + 7, ok2, _, _ => cases ok2
        | putfield i =>
          (try dsimp only at hq)
          (try dsimp only at ok2)
          simp only [Bool.and_eq_true] at ok2
          obtain ⟨⟨⟨o1, o2⟩, o3⟩, o4⟩ := ok2
          have o1 := Nat.le_of_ble_eq_true o1
          have o2 := Nat.le_of_ble_eq_true o2
          match w, o3, hq with
          | 0, o3, hqq =>
            clear hq
            have hq := hqq
            clear hqq
            have o3 : mx_tyf a b = .int := of_decide_eq_true o3
            have hz0 := iv_ir hq
            clear hq
            obtain ⟨x, r, rest, rfl, hq⟩ := hz0
            have hz0 := iv_pt hq
            clear hq
            obtain ⟨fs, he, hl, hq⟩ := hz0
            exact sd_put X o1 o2 (nd _ List.mem_cons_self) o4 (by rw [o3]; rfl) (by rw [o3]; rfl) he hl hdec (ih _ _ _ _ _ hq)
          | 1, o3, hqq =>
            clear hq
            have hq := hqq
            clear hqq
            have hz0 := iv_rr hq
            clear hq
            obtain ⟨x, r, rest, rfl, hq⟩ := hz0
            have hz0 := iv_pt hq
            clear hq
            obtain ⟨fs, he, hl, hq⟩ := hz0
            exact sd_put X o1 o2 (nd _ List.mem_cons_self) o4 (by
              cases ht : mx_tyf a b with
              | object n => rfl
              | array t => rfl
              | _ => rw [ht] at o3; cases o3) (by
              cases ht : mx_tyf a b with
              | object n => rfl
              | array t => rfl
              | _ => rw [ht] at o3; cases o3) he hl hdec (ih _ _ _ _ _ hq)
          | w + 2, o3, hqq =>
            clear hq
            have hq := hqq
            clear hqq
            have o3 : mx_tyf a b = .boolean := of_decide_eq_true o3
            have hz0 := iv_ir hq
            clear hq
            obtain ⟨x, r, rest, rfl, hq⟩ := hz0
            unfold mx_pz at hq
            split at hq
            · rename_i hx
              have hz0 := iv_pt hq
              clear hq
              obtain ⟨fs, he, hl, hq⟩ := hz0
              refine sd_put X o1 o2 (nd _ List.mem_cons_self) o4 ?_ ?_ he hl hdec (ih _ _ _ _ _ hq)
              · rw [o3]; rcases hx with rfl | rfl <;> rfl
              · rw [o3]; rcases hx with rfl | rfl <;> rfl
            · cases hq
        | getstatic i =>
          (try dsimp only at hq)
          (try dsimp only at ok2)
          by_cases hv2 : v = 2
          · subst hv2
            have ok2 : (decide (y.cls = "CreaseLines$Leg") && Nat.beq i 30 && Nat.beq a 200 && Nat.beq w 0) = true := ok2
            simp only [Bool.and_eq_true, decide_eq_true_eq] at ok2
            obtain ⟨⟨⟨o1, o2⟩, o3⟩, o4⟩ := ok2
            have o2 : i = 30 := Nat.eq_of_beq_eq_true o2
            have o3 : a = 200 := Nat.eq_of_beq_eq_true o3
            have o4 : w = 0 := Nat.eq_of_beq_eq_true o4
            subst o2; subst o3; subst o4
            exact sd_getsN X o1 hdec (ih _ _ _ _ _ hq)
          · simp only [hv2, decide_false, cond_false] at ok2
            have nd3 : Cond.fieldLink y.cls i (mx_sta w a).1 (mx_sta w a).2.1 (mx_sta w a).2.2 ∈ Ts := by
              refine nd _ ?_
              simp [mx_need, hv2]
            refine sd_gets X nd3 ?_ hdec (ih _ _ _ _ _ hq)
            cases w with
            | zero =>
              simp only [mx_so, Bool.or_eq_true] at ok2
              rcases ok2 with (h1 | h1) | h1
              · exact Or.inl ⟨rfl, Or.inl (Nat.eq_of_beq_eq_true h1)⟩
              · exact Or.inl ⟨rfl, Or.inr (Or.inl (Nat.eq_of_beq_eq_true h1))⟩
              · exact Or.inl ⟨rfl, Or.inr (Or.inr (Nat.eq_of_beq_eq_true h1))⟩
            | succ w => exact Or.inr ⟨by omega, of_decide_eq_true ok2⟩
        | iaload =>
          (try dsimp only at hq)
          (try dsimp only at ok2)
          unfold mx_bl at hq
          split at hq
          · have hz0 := iv_ai hq
            clear hq
            obtain ⟨n, g, he, hin, hq⟩ := hz0
            exact sd_iald X he hin hdec (ih _ _ _ _ _ hq)
          · have hz0 := iv_ck hq
            clear hq
            obtain ⟨lx, hk, hin, hq⟩ := hz0
            exact sd_ci X hk hin hdec (ih _ _ _ _ _ hq)
          · cases hq
        | baload =>
          (try dsimp only at hq)
          (try dsimp only at ok2)
          unfold mx_bl at hq
          split at hq
          · have hz0 := iv_ai hq
            clear hq
            obtain ⟨n, g, he, hin, hq⟩ := hz0
            exact sd_zald X he hin hdec (ih _ _ _ _ _ hq)
          · have hz0 := iv_ck hq
            clear hq
            obtain ⟨lx, hk, hin, hq⟩ := hz0
            exact sd_cb X hk hin hdec (ih _ _ _ _ _ hq)
          · cases hq
        | caload =>
          (try dsimp only at hq)
          (try dsimp only at ok2)
          have hz0 := iv_ir hq
          clear hq
          obtain ⟨x, r, rest, rfl, hq⟩ := hz0
          have hz0 := iv_ai hq
          clear hq
          obtain ⟨n, g, he, hin, hq⟩ := hz0
          exact sd_cald X he hin hdec (ih _ _ _ _ _ hq)
        | iastore =>
          (try dsimp only at hq)
          (try dsimp only at ok2)
          have hz0 := iv_iir hq
          clear hq
          obtain ⟨x, j, r, rest, rfl, hq⟩ := hz0
          have hz0 := iv_as hq
          clear hq
          obtain ⟨n, g, he, hin, hq⟩ := hz0
          exact sd_iast X he hin hdec (ih _ _ _ _ _ hq)
        | bastore =>
          (try dsimp only at hq)
          (try dsimp only at ok2)
          have hz0 := iv_iir hq
          clear hq
          obtain ⟨x, j, r, rest, rfl, hq⟩ := hz0
          have hz0 := iv_as hq
          clear hq
          obtain ⟨n, g, he, hin, hq⟩ := hz0
          exact sd_zast X he hin hdec (ih _ _ _ _ _ hq)
        | castore =>
          (try dsimp only at hq)
          (try dsimp only at ok2)
          have hz0 := iv_iir hq
          clear hq
          obtain ⟨x, j, r, rest, rfl, hq⟩ := hz0
          have hz0 := iv_as hq
          clear hq
          obtain ⟨n, g, he, hin, hq⟩ := hz0
          exact sd_cast X he hin hdec (ih _ _ _ _ _ hq)
        | aaload =>
          (try dsimp only at hq)
          (try dsimp only at ok2)
          have hz0 := iv_ir hq
          clear hq
          obtain ⟨x, r, rest, rfl, hq⟩ := hz0
          have hz0 := iv_aa hq
          clear hq
          obtain ⟨tc, n, g, a2, he, ht, hin, hg, hq⟩ := hz0
          exact sd_aald X he ht hin hg hdec (ih _ _ _ _ _ hq)
        | aastore =>
          (try dsimp only at hq)
          (try dsimp only at ok2)
          have hz0 := iv_rir hq
          clear hq
          obtain ⟨x, j, r, rest, rfl, hq⟩ := hz0
          have hz0 := iv_at hq
          clear hq
          obtain ⟨tc, n, g, fs, he, hv, ht, hin, hq⟩ := hz0
          exact sd_aast X he hv ht hin hdec (ih _ _ _ _ _ hq)
        | arraylength =>
          (try dsimp only at hq)
          (try dsimp only at ok2)
          unfold mx_ln at hq
          split at hq
          · have hz0 := iv_al hq
            clear hq
            obtain ⟨tc, n, x, he, ht, hq⟩ := hz0
            exact sd_alen X he ht hdec (ih _ _ _ _ _ hq)
          · have hz0 := iv_cn hq
            clear hq
            obtain ⟨t, lx, hk, hq⟩ := hz0
            exact sd_cn X hk hdec (ih _ _ _ _ _ hq)
          · cases hq
        | new i =>
          (try dsimp only at hq)
          (try dsimp only at ok2)
          unfold mx_nw at hq
          have hm := mo_fw (xs := xs) (c := code) hcm hctm k _ _ _ _ _ _ _ hq
          have b1 := hm.1
          have b2 := hm.2
          rw [List.length_append] at b1
          exact sd_new X (Nat.le_of_ble_eq_true ok2) (nd _ List.mem_cons_self) (nd _ (List.mem_cons_of_mem _ List.mem_cons_self)) (nd _ (List.mem_cons_of_mem _ (List.mem_cons_of_mem _ List.mem_cons_self))) (by simp at b1; omega) (by omega) hdec (ih _ _ _ _ _ hq)
        | newarray t =>
          (try dsimp only at hq)
          (try dsimp only at ok2)
          have hz0 := iv_s1 hq
          clear hq
          obtain ⟨n, r, rfl, hq⟩ := hz0
          unfold mx_na at hq
          split at hq
          · rename_i hn
            have hm := mo_fw (xs := xs) (c := code) hcm hctm k _ _ _ _ _ _ _ hq
            have b1 := hm.1
            have b2 := hm.2
            rw [List.length_append] at b1
            rcases (of_decide_eq_true ok2 : (a = 0 ∧ t = .int) ∨ (a = 1 ∧ t = .boolean) ∨ (a = 2 ∧ t = .char)) with ⟨rfl, rfl⟩ | ⟨rfl, rfl⟩ | ⟨rfl, rfl⟩
            · exact sd_nai X (nd _ List.mem_cons_self) hn.1 hn.2 (by simp at b1; omega) (by omega) hdec (ih _ _ _ _ _ hq)
            · exact sd_naz X (nd _ List.mem_cons_self) hn.1 hn.2 (by simp at b1; omega) (by omega) hdec (ih _ _ _ _ _ hq)
            · exact sd_nac X (nd _ List.mem_cons_self) hn.1 hn.2 (by simp at b1; omega) (by omega) hdec (ih _ _ _ _ _ hq)
          · cases hq
        | anewarray i =>
          (try dsimp only at hq)
          (try dsimp only at ok2)
          have hz0 := iv_s1 hq
          clear hq
          obtain ⟨n, r, rfl, hq⟩ := hz0
          unfold mx_nq at hq
          split at hq
          · rename_i hn
            have hm := mo_fw (xs := xs) (c := code) hcm hctm k _ _ _ _ _ _ _ hq
            have b1 := hm.1
            have b2 := hm.2
            rw [List.length_append] at b1
            exact sd_nq X (of_decide_eq_true ok2) (nd _ List.mem_cons_self) hn.1 hn.2 (by simp at b1; omega) (by omega) hdec (ih _ _ _ _ _ hq)
          · cases hq
        | invokevirtual i =>
          (try dsimp only at hq)
          (try dsimp only at ok2)
          unfold mx_iv at hq
          split at hq
          · rename_i r rest hst
            have hz0 := iv_bif hq
            clear hq
            obtain ⟨hb1, hq⟩ := hz0
            simp only [Bool.and_eq_true] at hb1
            have hz0 := iv_cl hq
            clear hq
            obtain ⟨fs, he, hq⟩ := hz0
            have hz0 := iv_bk hq
            clear hq
            obtain ⟨rv2, g, hcl, hq⟩ := hz0
            have hmet := hcall _ _ _ _ _ hcl
            have hm1 := hcm _ _ _ _ _ hcl
            have hm2 := mo_fw (xs := xs) (c := code) hcm hctm k _ _ _ _ _ _ _ hq
            obtain ⟨M, hPM, -⟩ := id hmet
            simp only [hPM, Bool.and_eq_true] at ok2
            have nd2 : ∀ w ∈ ([.methodLink y.cls i M.1, .instanceMethod M.1, .selects M.1.cls M.1 M.1, .initialized M.1.cls] : List Cond), w ∈ Ts := fun w hw => nd w (by show w ∈ (match P[a]? with | some M => _ | none => _); rw [hPM]; exact hw)
            have est : st = (st.take b).reverse.reverse ++ .ref r :: rest := by rw [List.reverse_reverse, ← hst, List.take_append_drop]
            have elen : ((st.take b).reverse).length = b := by rw [List.length_reverse]; exact Nat.eq_of_beq_eq_true hb1.1.2
            have hu8 : u < 8 := Nat.le_of_ble_eq_true hb1.2
            have hu : u < 8 ∧ mx_RX u = M.1.cls := by
              have o2 := ok2.2
              split at o2
              · omega
              · simp only [Bool.and_eq_true, decide_eq_true_eq] at o2
                exact ⟨hu8, o2.2⟩
            rw [est]
            exact sd_callV X hPM ok2.1 elen (Nat.le_of_ble_eq_true hb1.1.1) hm1.1 hm1.2 (by omega) (by omega) (nd2 _ (by simp)) (nd2 _ (by simp)) (nd2 _ (by simp)) (nd2 _ (by simp)) hu.1 hu.2 he hmet hdec (ih _ _ _ _ _ hq)
          · rename_i r rest hst
            have hz0 := iv_bif hq
            clear hq
            obtain ⟨hb1, hq⟩ := hz0
            simp only [Bool.and_eq_true] at hb1
            have hz0 := iv_bk hq
            clear hq
            obtain ⟨rv2, g, hcl, hq⟩ := hz0
            have hmet := hcall _ _ _ _ _ hcl
            have hm1 := hcm _ _ _ _ _ hcl
            have hm2 := mo_fw (xs := xs) (c := code) hcm hctm k _ _ _ _ _ _ _ hq
            obtain ⟨M, hPM, -⟩ := id hmet
            simp only [hPM, Bool.and_eq_true] at ok2
            have hu : u = 99 := Nat.eq_of_beq_eq_true hb1.1.2
            subst hu
            have nd2 : ∀ w ∈ ([.methodLink y.cls i M.1, .instanceMethod M.1, .selects M.1.cls M.1 M.1, .initialized M.1.cls] : List Cond), w ∈ Ts := fun w hw => nd w (by show w ∈ (match P[a]? with | some M => _ | none => _); rw [hPM]; exact hw)
            have est : st = (st.take b).reverse.reverse ++ .retAddr r :: rest := by rw [List.reverse_reverse, ← hst, List.take_append_drop]
            have elen : ((st.take b).reverse).length = b := by rw [List.length_reverse]; exact Nat.eq_of_beq_eq_true hb1.1.1.2
            rw [est]
            exact sd_callT X hPM ok2.1 elen (Nat.le_of_ble_eq_true hb1.1.1.1) hm1.1 hm1.2 (by omega) (by omega) (nd2 _ (by simp)) (nd2 _ (by simp)) (nd2 _ (by simp)) (nd2 _ (by simp)) (Nat.le_of_ble_eq_true hb1.2) (of_decide_eq_true ok2.2) hmet hdec (ih _ _ _ _ _ hq)
          · cases hq
        | invokestatic i =>
          (try dsimp only at hq)
          (try dsimp only at ok2)
          cases hw : Nat.beq w 8 with
          | true =>
            have e : w = 8 := Nat.eq_of_beq_eq_true hw
            subst e
            have hz0 := iv_cps hq
            clear hq
            obtain ⟨n, dp, d, sp, sa, rest, rfl, hq⟩ := hz0
            have hz0 := iv_bif hq
            clear hq
            obtain ⟨hb1, hq⟩ := hz0
            have hz0 := iv_cp hq
            clear hq
            obtain ⟨n0, f0, n1, f1, e0, e1, c1, c2, c3, c4, c5, hq⟩ := hz0
            exact sd_cpy X (nd _ (by simp [mx_need])) (nd _ (by simp [mx_need])) (nd _ (by simp [mx_need])) (nd _ (by simp [mx_need])) e0 e1 c1 c2 c3 c4 c5 (Nat.le_of_ble_eq_true hb1) hdec (ih _ _ _ _ _ hq)
          | false =>
            simp only [hw, Bool.false_or] at ok2
            simp only [hw, cond_false] at hq
            have hz0 := iv_bif hq
            clear hq
            obtain ⟨hb1, hq⟩ := hz0
            simp only [Bool.and_eq_true] at hb1
            have hz0 := iv_bk hq
            clear hq
            obtain ⟨rv2, g, hcl, hq⟩ := hz0
            have hmet := hcall _ _ _ _ _ hcl
            have hm1 := hcm _ _ _ _ _ hcl
            have hm2 := mo_fw (xs := xs) (c := code) hcm hctm k _ _ _ _ _ _ _ hq
            obtain ⟨M, hPM, -⟩ := id hmet
            simp only [hPM, Bool.and_eq_true] at ok2
            have hw8 : ¬ w = 8 := fun e => by rw [e] at hw; cases hw
            have est : st = (st.take b).reverse.reverse ++ st.drop b := by rw [List.reverse_reverse, List.take_append_drop]
            have elen : ((st.take b).reverse).length = b := by rw [List.length_reverse]; exact Nat.eq_of_beq_eq_true hb1.2
            have nd2 : ∀ w' ∈ (bif decide (v = 1) then [.static M.1, .initialized M.1.cls] else [.methodLink y.cls i M.1, .static M.1, .initialized M.1.cls] : List Cond), w' ∈ Ts := fun w' hw' => nd w' (by
              show w' ∈ (match w with | 8 => _ | _ => (match P[a]? with | some M => _ | none => _))
              split
              · exact absurd rfl hw8
              · rw [hPM]; exact hw')
            rw [est]
            have ih2 := fun hq => ih false (pc0 + 3) ls (rv2.toList ++ st.drop b) g hq
            by_cases hv1 : v = 1
            · subst hv1
              exact sd_callSN X hPM ok2.1 elen (Nat.le_of_ble_eq_true hb1.1) hm1.1 hm1.2 (by omega) (by omega) (of_decide_eq_true ok2.2) (nd2 _ (by simp)) (nd2 _ (by simp)) hmet hdec (ih2 hq)
            · simp only [hv1, decide_false, cond_false] at nd2
              exact sd_callS X hPM ok2.1 elen (Nat.le_of_ble_eq_true hb1.1) hm1.1 hm1.2 (by omega) (by omega) (nd2 _ (by simp)) (nd2 _ (by simp)) (nd2 _ (by simp)) hmet hdec (ih2 hq)
        | invokespecial i =>
          (try dsimp only at hq)
          (try dsimp only at ok2)
          cases hw : Nat.beq w 9 with
          | true =>
            have e : w = 9 := Nat.eq_of_beq_eq_true hw
            subst e
            have hz0 := iv_sr hq
            clear hq
            obtain ⟨r, rest, rfl, hq⟩ := hz0
            have hz0 := iv_bif hq
            clear hq
            obtain ⟨hb1, hq⟩ := hz0
            exact sd_oinit X (nd _ (by simp [mx_need])) (nd _ (by simp [mx_need])) (nd _ (by simp [mx_need])) (Nat.le_of_ble_eq_true hb1) hdec (ih _ _ _ _ _ hq)
          | false =>
            simp only [hw, Bool.false_or] at ok2
            simp only [hw, cond_false] at hq
            unfold mx_is at hq
            split at hq
            · rename_i r rest hst
              have hz0 := iv_bif hq
              clear hq
              obtain ⟨hb1, hq⟩ := hz0
              simp only [Bool.and_eq_true] at hb1
              have hz0 := iv_bk hq
              clear hq
              obtain ⟨rv2, g, hcl, hq⟩ := hz0
              have hmet := hcall _ _ _ _ _ hcl
              have hm1 := hcm _ _ _ _ _ hcl
              have hm2 := mo_fw (xs := xs) (c := code) hcm hctm k _ _ _ _ _ _ _ hq
              obtain ⟨M, hPM, -⟩ := id hmet
              simp only [hPM, Bool.and_eq_true, decide_eq_true_eq] at ok2
              have hw9 : ¬ w = 9 := fun e => by rw [e] at hw; cases hw
              have est : st = (st.take b).reverse.reverse ++ .ref r :: rest := by rw [List.reverse_reverse, ← hst, List.take_append_drop]
              have elen : ((st.take b).reverse).length = b := by rw [List.length_reverse]; exact Nat.eq_of_beq_eq_true hb1.2
              have nd2 : ∀ w' ∈ (bif decide (v = 1) then [.instanceMethod M.1, .initialized M.1.cls] else [.methodLink y.cls i M.1, .instanceMethod M.1, .initialized M.1.cls] : List Cond), w' ∈ Ts := fun w' hw' => nd w' (by
                show w' ∈ (match w with | 9 => _ | _ => (match P[a]? with | some M => _ | none => _))
                split
                · exact absurd rfl hw9
                · rw [hPM]; exact hw')
              rw [est]
              by_cases hv1 : v = 1
              · subst hv1
                exact sd_callIN X hPM ok2.1.1.1 elen (Nat.le_of_ble_eq_true hb1.1) hm1.1 hm1.2 (by omega) (by omega) ok2.1.1.2 ok2.1.2 (of_decide_eq_true ok2.2) (nd2 _ (by simp)) (nd2 _ (by simp)) hmet hdec (ih _ _ _ _ _ hq)
              · simp only [hv1, decide_false, cond_false] at nd2
                exact sd_callI X hPM ok2.1.1.1 elen (Nat.le_of_ble_eq_true hb1.1) hm1.1 hm1.2 (by omega) (by omega) ok2.1.1.2 ok2.1.2 (nd2 _ (by simp)) (nd2 _ (by simp)) (nd2 _ (by simp)) hmet hdec (ih _ _ _ _ _ hq)
            · cases hq
        | ireturn =>
          (try dsimp only at hq)
          (try dsimp only at ok2)
          unfold mx_ri at hq
          split at hq
          · rename_i x
            match u, ok2, hq with
            | 0, ok2, hq => cases hq; exact hri _ _ _ hdec rfl ⟨.int, of_decide_eq_true ok2, rfl⟩
            | 1, ok2, hq =>
              simp only at hq
              split at hq
              · rename_i hx
                cases hq
                exact hri _ _ _ hdec rfl ⟨.boolean, of_decide_eq_true ok2, by rcases hx with rfl | rfl <;> rfl⟩
              · cases hq
            | 2, ok2, hq =>
              simp only at hq
              split at hq
              · rename_i hx
                cases hq
                exact hri _ _ _ hdec rfl ⟨.char, of_decide_eq_true ok2, by rw [← hx]; exact pk_nc x⟩
              · cases hq
            | u + 3, ok2, hq =>
              simp only at hq
              split at hq
              · rename_i hx
                cases hq
                exact hri _ _ _ hdec rfl ⟨.byte, of_decide_eq_true ok2, by rw [← hx]; exact pk_nb x⟩
              · cases hq
          · cases hq
        | areturn =>
          (try dsimp only at hq)
          (try dsimp only at ok2)
          have o2 : ∃ t, ret = some t ∧ mx_isref t = true := by
            revert ok2
            cases ret with
            | none => intro h; cases h
            | some t => intro h; exact ⟨t, rfl, h⟩
          unfold mx_ra at hq
          split at hq
          · cases hq; exact hra _ _ _ hdec rfl (Or.inl ⟨_, rfl⟩) o2
          · cases hq; exact hra _ _ _ hdec rfl (Or.inr (Or.inl rfl)) o2
          · cases hq; exact hra _ _ _ hdec rfl (Or.inr (Or.inr ⟨_, rfl⟩)) o2
          · cases hq
        | return_ =>
          (try dsimp only at hq)
          (try dsimp only at ok2)
          unfold mx_rv at hq
          split at hq
          · cases hq; exact hrv _ _ hdec rfl (of_decide_eq_true ok2)
          · cases hq
        | tableswitch d lo hi offs =>
          (try dsimp only at hq)
          (try dsimp only at ok2)
          simp only [Bool.and_eq_true, decide_eq_true_eq] at ok2
          have hz0 := iv_s1 hq
          clear hq
          obtain ⟨x, r, rfl, hq⟩ := hz0
          exact sd_tsw X ok2.1.1 ok2.1.2 ok2.2 hdec hq (fun t hq => ih _ _ _ _ _ hq) (fun hq => ih _ _ _ _ _ hq)
        | lookupswitch d ps =>
          (try dsimp only at hq)
          (try dsimp only at ok2)
          simp only [Bool.and_eq_true, decide_eq_true_eq] at ok2
          have hz0 := iv_s1 hq
          clear hq
          obtain ⟨x, r, rfl, hq⟩ := hz0
          exact sd_lsw X ok2.1.1 ok2.1.2 ok2.2 hdec hq (fun t hq => ih _ _ _ _ _ hq) (fun hq => ih _ _ _ _ _ hq)
        | _ => cases hq
end MXV
