/-! ===== the heap's rows ===== -/
theorem mx_low {D : va_G} {ta : Nat → ClassId} {base : Nat} {sk : Nat → Value} {g : mx_H} {H1 : Heap} (hP : va_P D vwCl (mx_ws base sk ta g) H1) (hg : 0 < g.length) : base + g.length ≤ H1.size := by
  have h1 : g[g.length - 1]? = some g[g.length - 1] := List.getElem?_eq_getElem (by omega)
  have h2 := (hP _ _ (mx_ws_at h1)).lt
  have h3 : base + (g.length - 1) < H1.size := h2
  omega
theorem mx_pos {h : mx_H} {r : Nat} {e : va_E} (he : h[r]? = some e) : r < h.length := (List.getElem?_eq_some_iff.mp he).1
theorem mx_fresh {D : va_G} {ta : Nat → ClassId} {base : Nat} {sk : Nat → Value} {h : mx_H} {H1 : Heap} {q : Nat} {x : va_E} (hP : va_P D vwCl (mx_ws base sk ta h ++ [(q, x)]) H1) (hD : va_D (mx_A base) (mx_ws base sk ta h ++ [(q, x)])) (hz : H1.size ≤ base + h.length + 1) : q = base + h.length ∧ H1.size = base + h.length + 1 := by
  have hl : (mx_ws base sk ta h).length = h.length := by simp [mx_ws]
  have hq : (mx_ws base sk ta h ++ [(q, x)])[h.length]? = some (q, x) := by rw [List.getElem?_append_right (by omega), hl]; simp
  have h1 : q < H1.size := (hP _ _ hq).lt
  have h2 : base ≤ q := hD.2 _ _ hq
  by_cases hc : q = base + h.length
  · exact ⟨hc, by omega⟩
  · exfalso
    have hj : q - base < h.length := by omega
    have he : h[q - base]? = some h[q - base] := List.getElem?_eq_getElem hj
    have hw : (mx_ws base sk ta h ++ [(q, x)])[q - base]? = some (base + (q - base), mx_ce base sk ta h[q - base]) := by
      rw [List.getElem?_append_left (by omega)]
      exact mx_ws_at he
    have := hD.1 _ _ _ _ hw hq (by show base + (q - base) = q; omega)
    omega
theorem mx_up {g : Nat → Option Nat} {i v base : Nat} : (fun j => (va_up g i (some v) j).map (fun k => base + k)) = va_up (fun j => (g j).map (fun k => base + k)) i (some (base + v)) := by
  funext j
  unfold va_up
  split <;> rfl
theorem mx_ty_at {ta : Nat → ClassId} {c : Nat} (h : 3 ≤ c ∧ c ≤ 6) : (mx_tys ta)[c]? = some (ta c, .object (mx_RX (mx_kc c))) ∧ mx_kc c < 8 := by
  obtain ⟨h1, h2⟩ := h
  rcases (show c = 3 ∨ c = 4 ∨ c = 5 ∨ c = 6 by omega) with rfl | rfl | rfl | rfl <;> exact ⟨rfl, by decide⟩
theorem mx_ty_any {ta : Nat → ClassId} {c : Nat} (h : c < 7) : ∃ t, (mx_tys ta)[c]? = some (ta c, t) := by
  rcases (show c = 0 ∨ c = 1 ∨ c = 2 ∨ c = 3 ∨ c = 4 ∨ c = 5 ∨ c = 6 by omega) with rfl | rfl | rfl | rfl | rfl | rfl | rfl <;> exact ⟨_, rfl⟩
section MXT
variable {p : Program} {l : Launch} {e : Env} {R : Room} {s : State} {m : MethodId} {args : Array Value} {below : List Frame} {meth : Method} {c : Code} {Q : State → Prop}
variable {xs : List Int32} {P : List mx_M} {G : List Cond} {y : MethodName} {cc : ByteArray} {nL : Nat} {ret : Option FieldType} {D : va_G} {ta : Nat → ClassId} {base : Nat} {sk : Nat → Value} {dd : Nat} {Ts : List Cond} {h0 : mx_H}
theorem mx_sized {H : Heap} {locs : List Loc} {cells slots : Nat} {g : JFrame} (k : H.size ≤ s.heap.size + cells → W p l e R s m args below meth c H locs cells slots Q g) : W p l e R s m args below meth c H locs cells slots Q g := fun T hT X => k (by rw [← hT]; exact X.heapSize) T hT X
theorem sd_get {pc : Nat} {ls : mx_L} {st : List Value} {h : mx_H} (X : mx_X xs P G p R s m args meth c y cc nL D ta base sk dd Ts h0) {a b r i : Nat} {fs : List Value} {v : Value} (ha : a < 8) (hbn : b < mx_Nf a) (hlk : Cond.fieldLink y.cls i (mx_T a b).1 (mx_T a b).2.1 (mx_T a b).2.2.1 ∈ Ts) (he : h[r]? = some (.inr (a, fs))) (hv : fs[b]? = some v) (hd : decode cc pc = .ok (.getfield i, 3)) (k : mx_W p l e R s m args below meth c D ta base sk h0 nL Q (pc + 3) (ls) (v :: st) (h)) : mx_W p l e R s m args below meth c D ta base sk h0 nL Q (pc) (ls) (.ref r :: st) (h) := by
  obtain ⟨⟨hx, hb, hml, hown, hts⟩, hini, hC, hz0, hsk, hWS, hGd, hfr, hlo⟩ := X
  exact fun H locs lsC hR hS hl a1 a2 => va_get (v := mx_cv base sk v) hx hb hts (fun w hw => hWS w (mx_cl_ws ha w hw)) hown hC.1 hR.2 r (mx_ws_at he) (mx_cl_at ha) b hbn (hts _ hlk) (fun _ h => h) (by rw [List.getElem?_map, hv]; rfl) hd (k H locs lsC hR hS hl a1 a2)
theorem sd_put {pc : Nat} {ls : mx_L} {st : List Value} {h : mx_H} (X : mx_X xs P G p R s m args meth c y cc nL D ta base sk dd Ts h0) {a b r i : Nat} {fs : List Value} {v : Value} (ha : a < 8) (hbn : b < mx_Nf a) (hlk : Cond.fieldLink y.cls i (mx_T a b).1 (mx_T a b).2.1 (mx_T a b).2.2.1 ∈ Ts) (hfin : !(mx_T a b).2.2.2 || (decide (y.name = "<init>") && decide ((mx_T a b).1 = y.cls))) (hn : narrow (mx_tyf a b) (mx_cv base sk v) = mx_cv base sk v) (hft : fits (mx_tyf a b) (mx_cv base sk v) = true) (he : h[r]? = some (.inr (a, fs))) (hl2 : b < fs.length) (hd : decode cc pc = .ok (.putfield i, 3)) (k : mx_W p l e R s m args below meth c D ta base sk h0 nL Q (pc + 3) (ls) (st) (h.set r (.inr (a, fs.set b v)))) : mx_W p l e R s m args below meth c D ta base sk h0 nL Q (pc) (ls) (v :: .ref r :: st) (h) := by
  obtain ⟨⟨hx, hb, hml, hown, hts⟩, hini, hC, hz0, hsk, hWS, hGd, hfr, hlo⟩ := X
  intro H locs lsC hR hS hl a1 a2
  have hk : ∀ (H1 : Heap) (locs1 : List Loc), va_P D vwCl ((mx_ws base sk ta h).set r (base + r, .inr (a, (fs.map (mx_cv base sk)).set b (mx_cv base sk v)))) H1 → va_D (mx_A base) ((mx_ws base sk ta h).set r (base + r, .inr (a, (fs.map (mx_cv base sk)).set b (mx_cv base sk v)))) → va_S (mx_A base) s.heap H1 locs1 → W p l e R s m args below meth c H1 locs1 (h.length - h0.length) (mx_sz h - mx_sz h0) Q (F0 m (pc + 3) lsC (st.map (mx_cv base sk))) := by
    intro H1 locs1 hP1 _ hS1
    rw [← List.map_set] at hP1
    have hP2 : va_P D vwCl (mx_ws base sk ta (h.set r (.inr (a, fs.set b v)))) H1 := by rw [← mx_ws_set]; exact hP1
    refine mx_sized fun hsz => ?_
    have e1 := mx_low hP2 (by rw [List.length_set]; exact Nat.lt_of_le_of_lt (Nat.zero_le r) (mx_pos he))
    rw [List.length_set] at e1
    have e2 : mx_sz (h.set r (.inr (a, fs.set b v))) = mx_sz h := mx_sz_set he (by simp [mx_se])
    have k2 := k H1 locs1 lsC ⟨by rw [List.length_set]; omega, hP2⟩ hS1 hl (by rw [List.length_set]; exact a1) (by rw [e2]; exact a2)
    rw [List.length_set, e2] at k2
    exact k2
  by_cases hf : (mx_T a b).2.2.2 = true
  · rw [hf] at hfin
    simp only [Bool.not_true, Bool.false_or, Bool.and_eq_true, decide_eq_true_eq] at hfin
    exact va_putF hx hb hts (fun w hw => hWS w (mx_cl_ws ha w hw)) (mx_tyf a) (mx_cl_ty ha) (mx_cl_nm ha) hown hC.1 hR.2 mx_ws_D hS r (mx_ws_at he) (mx_cl_at ha) b hbn (hts _ hlk) (fun _ h => h) hf (hini hfin.1) hfin.2 (mx_cl_ty ha b hbn) hn hft (by rw [List.length_map]; exact hl2) hd hk
  · exact va_put hx hb hts (fun w hw => hWS w (mx_cl_ws ha w hw)) (mx_tyf a) (mx_cl_ty ha) (mx_cl_nm ha) hown hC.1 hR.2 mx_ws_D hS r (mx_ws_at he) (mx_cl_at ha) b hbn (hts _ hlk) (fun _ h => h) (by simpa using hf) (mx_cl_ty ha b hbn) hn hft (by rw [List.length_map]; exact hl2) hd hk
theorem sd_iald {pc : Nat} {ls : mx_L} {st : List Value} {h : mx_H} (X : mx_X xs P G p R s m args meth c y cc nL D ta base sk dd Ts h0) {r n : Nat} {i : Int32} {g : Nat → Int32} (he : h[r]? = some (.inl (0, n, .inl g))) (hin : vp_in i n) (hd : decode cc pc = .ok (.iaload, 1)) (k : mx_W p l e R s m args below meth c D ta base sk h0 nL Q (pc + 1) (ls) (.int (g i.toNatClampNeg) :: st) (h)) : mx_W p l e R s m args below meth c D ta base sk h0 nL Q (pc) (ls) (.int i :: .ref r :: st) (h) := by
  obtain ⟨⟨hx, hb, hml, hown, hts⟩, hini, hC, hz0, hsk, hWS, hGd, hfr, hlo⟩ := X
  exact fun H locs lsC hR hS hl a1 a2 => va_iald hx hb hC.1 hR.2 r 0 (mx_ws_at he) rfl hin hd (k H locs lsC hR hS hl a1 a2)
theorem sd_zald {pc : Nat} {ls : mx_L} {st : List Value} {h : mx_H} (X : mx_X xs P G p R s m args meth c y cc nL D ta base sk dd Ts h0) {r n : Nat} {i : Int32} {g : Nat → Int32} (he : h[r]? = some (.inl (1, n, .inl g))) (hin : vp_in i n) (hd : decode cc pc = .ok (.baload, 1)) (k : mx_W p l e R s m args below meth c D ta base sk h0 nL Q (pc + 1) (ls) (.int (g i.toNatClampNeg) :: st) (h)) : mx_W p l e R s m args below meth c D ta base sk h0 nL Q (pc) (ls) (.int i :: .ref r :: st) (h) := by
  obtain ⟨⟨hx, hb, hml, hown, hts⟩, hini, hC, hz0, hsk, hWS, hGd, hfr, hlo⟩ := X
  exact fun H locs lsC hR hS hl a1 a2 => va_zald hx hb hC.1 hR.2 r 1 (mx_ws_at he) rfl hin hd (k H locs lsC hR hS hl a1 a2)
theorem sd_cald {pc : Nat} {ls : mx_L} {st : List Value} {h : mx_H} (X : mx_X xs P G p R s m args meth c y cc nL D ta base sk dd Ts h0) {r n : Nat} {i : Int32} {g : Nat → Int32} (he : h[r]? = some (.inl (2, n, .inl g))) (hin : vp_in i n) (hd : decode cc pc = .ok (.caload, 1)) (k : mx_W p l e R s m args below meth c D ta base sk h0 nL Q (pc + 1) (ls) (.int (g i.toNatClampNeg) :: st) (h)) : mx_W p l e R s m args below meth c D ta base sk h0 nL Q (pc) (ls) (.int i :: .ref r :: st) (h) := by
  obtain ⟨⟨hx, hb, hml, hown, hts⟩, hini, hC, hz0, hsk, hWS, hGd, hfr, hlo⟩ := X
  exact fun H locs lsC hR hS hl a1 a2 => va_cald hx hb hC.1 hR.2 r 2 (mx_ws_at he) rfl hin hd (k H locs lsC hR hS hl a1 a2)
theorem sd_iast {pc : Nat} {ls : mx_L} {st : List Value} {h : mx_H} (X : mx_X xs P G p R s m args meth c y cc nL D ta base sk dd Ts h0) {r n : Nat} {i x : Int32} {g : Nat → Int32} (he : h[r]? = some (.inl (0, n, .inl g))) (hin : vp_in i n) (hd : decode cc pc = .ok (.iastore, 1)) (k : mx_W p l e R s m args below meth c D ta base sk h0 nL Q (pc + 1) (ls) (st) (h.set r (.inl (0, n, .inl (upd g i.toNatClampNeg x))))) : mx_W p l e R s m args below meth c D ta base sk h0 nL Q (pc) (ls) (.int x :: .int i :: .ref r :: st) (h) := by
  obtain ⟨⟨hx, hb, hml, hown, hts⟩, hini, hC, hz0, hsk, hWS, hGd, hfr, hlo⟩ := X
  intro H locs lsC hR hS hl a1 a2
  refine va_iast hx hb hC.1 hR.2 mx_ws_D hS r 0 (mx_ws_at he) rfl hin hd (fun H1 locs1 hP1 _ hS1 => ?_)
  have hP2 : va_P D vwCl (mx_ws base sk ta (h.set r (.inl (0, n, .inl (upd g i.toNatClampNeg x))))) H1 := by rw [← mx_ws_set]; exact hP1
  refine mx_sized fun hsz => ?_
  have e1 := mx_low hP2 (by rw [List.length_set]; exact Nat.lt_of_le_of_lt (Nat.zero_le r) (mx_pos he))
  rw [List.length_set] at e1
  have e2 : mx_sz (h.set r (.inl (0, n, .inl (upd g i.toNatClampNeg x)))) = mx_sz h := mx_sz_set he (by simp [mx_se])
  have k2 := k H1 locs1 lsC ⟨by rw [List.length_set]; omega, hP2⟩ hS1 hl (by rw [List.length_set]; exact a1) (by rw [e2]; exact a2)
  rw [List.length_set, e2] at k2
  exact k2
theorem sd_zast {pc : Nat} {ls : mx_L} {st : List Value} {h : mx_H} (X : mx_X xs P G p R s m args meth c y cc nL D ta base sk dd Ts h0) {r n : Nat} {i x : Int32} {g : Nat → Int32} (he : h[r]? = some (.inl (1, n, .inl g))) (hin : vp_in i n) (hd : decode cc pc = .ok (.bastore, 1)) (k : mx_W p l e R s m args below meth c D ta base sk h0 nL Q (pc + 1) (ls) (st) (h.set r (.inl (1, n, .inl (upd g i.toNatClampNeg (vp_nar .boolean x)))))) : mx_W p l e R s m args below meth c D ta base sk h0 nL Q (pc) (ls) (.int x :: .int i :: .ref r :: st) (h) := by
  obtain ⟨⟨hx, hb, hml, hown, hts⟩, hini, hC, hz0, hsk, hWS, hGd, hfr, hlo⟩ := X
  intro H locs lsC hR hS hl a1 a2
  refine va_zast hx hb hC.1 hR.2 mx_ws_D hS r 1 (mx_ws_at he) rfl hin hd (fun H1 locs1 hP1 _ hS1 => ?_)
  have hP2 : va_P D vwCl (mx_ws base sk ta (h.set r (.inl (1, n, .inl (upd g i.toNatClampNeg (vp_nar .boolean x)))))) H1 := by rw [← mx_ws_set]; exact hP1
  refine mx_sized fun hsz => ?_
  have e1 := mx_low hP2 (by rw [List.length_set]; exact Nat.lt_of_le_of_lt (Nat.zero_le r) (mx_pos he))
  rw [List.length_set] at e1
  have e2 : mx_sz (h.set r (.inl (1, n, .inl (upd g i.toNatClampNeg (vp_nar .boolean x))))) = mx_sz h := mx_sz_set he (by simp [mx_se])
  have k2 := k H1 locs1 lsC ⟨by rw [List.length_set]; omega, hP2⟩ hS1 hl (by rw [List.length_set]; exact a1) (by rw [e2]; exact a2)
  rw [List.length_set, e2] at k2
  exact k2
theorem sd_cast {pc : Nat} {ls : mx_L} {st : List Value} {h : mx_H} (X : mx_X xs P G p R s m args meth c y cc nL D ta base sk dd Ts h0) {r n : Nat} {i x : Int32} {g : Nat → Int32} (he : h[r]? = some (.inl (2, n, .inl g))) (hin : vp_in i n) (hd : decode cc pc = .ok (.castore, 1)) (k : mx_W p l e R s m args below meth c D ta base sk h0 nL Q (pc + 1) (ls) (st) (h.set r (.inl (2, n, .inl (upd g i.toNatClampNeg (vp_nar .char x)))))) : mx_W p l e R s m args below meth c D ta base sk h0 nL Q (pc) (ls) (.int x :: .int i :: .ref r :: st) (h) := by
  obtain ⟨⟨hx, hb, hml, hown, hts⟩, hini, hC, hz0, hsk, hWS, hGd, hfr, hlo⟩ := X
  intro H locs lsC hR hS hl a1 a2
  refine va_cast hx hb hC.1 hR.2 mx_ws_D hS r 2 (mx_ws_at he) rfl hin hd (fun H1 locs1 hP1 _ hS1 => ?_)
  have hP2 : va_P D vwCl (mx_ws base sk ta (h.set r (.inl (2, n, .inl (upd g i.toNatClampNeg (vp_nar .char x)))))) H1 := by rw [← mx_ws_set]; exact hP1
  refine mx_sized fun hsz => ?_
  have e1 := mx_low hP2 (by rw [List.length_set]; exact Nat.lt_of_le_of_lt (Nat.zero_le r) (mx_pos he))
  rw [List.length_set] at e1
  have e2 : mx_sz (h.set r (.inl (2, n, .inl (upd g i.toNatClampNeg (vp_nar .char x))))) = mx_sz h := mx_sz_set he (by simp [mx_se])
  have k2 := k H1 locs1 lsC ⟨by rw [List.length_set]; omega, hP2⟩ hS1 hl (by rw [List.length_set]; exact a1) (by rw [e2]; exact a2)
  rw [List.length_set, e2] at k2
  exact k2
theorem sd_aald {pc : Nat} {ls : mx_L} {st : List Value} {h : mx_H} (X : mx_X xs P G p R s m args meth c y cc nL D ta base sk dd Ts h0) {r n a tc : Nat} {i : Int32} {g : Nat → Option Nat} (he : h[r]? = some (.inl (tc, n, .inr (.inr (.inr (.inr g)))))) (ht : 3 ≤ tc ∧ tc ≤ 6) (hin : vp_in i n) (hg : g i.toNatClampNeg = some a) (hd : decode cc pc = .ok (.aaload, 1)) (k : mx_W p l e R s m args below meth c D ta base sk h0 nL Q (pc + 1) (ls) (.ref a :: st) (h)) : mx_W p l e R s m args below meth c D ta base sk h0 nL Q (pc) (ls) (.int i :: .ref r :: st) (h) := by
  obtain ⟨⟨hx, hb, hml, hown, hts⟩, hini, hC, hz0, hsk, hWS, hGd, hfr, hlo⟩ := X
  intro H locs lsC hR hS hl a1 a2
  refine va_aldq hx hb hC.1 hR.2 r tc (mx_ws_at he) (mx_ty_at ht).1 hin hd ?_
  have e : va_rf ((g i.toNatClampNeg).map (fun k => base + k)) = .ref (base + a) := by rw [hg]; rfl
  rw [e]
  exact k H locs lsC hR hS hl a1 a2
theorem sd_aast {pc : Nat} {ls : mx_L} {st : List Value} {h : mx_H} (X : mx_X xs P G p R s m args meth c y cc nL D ta base sk dd Ts h0) {r n v tc : Nat} {i : Int32} {g : Nat → Option Nat} {fs : List Value} (he : h[r]? = some (.inl (tc, n, .inr (.inr (.inr (.inr g)))))) (hv : h[v]? = some (.inr (mx_kc tc, fs))) (ht : 3 ≤ tc ∧ tc ≤ 6) (hin : vp_in i n) (hd : decode cc pc = .ok (.aastore, 1)) (k : mx_W p l e R s m args below meth c D ta base sk h0 nL Q (pc + 1) (ls) (st) (h.set r (.inl (tc, n, .inr (.inr (.inr (.inr (va_up g i.toNatClampNeg (some v))))))))) : mx_W p l e R s m args below meth c D ta base sk h0 nL Q (pc) (ls) (.ref v :: .int i :: .ref r :: st) (h) := by
  obtain ⟨⟨hx, hb, hml, hown, hts⟩, hini, hC, hz0, hsk, hWS, hGd, hfr, hlo⟩ := X
  intro H locs lsC hR hS hl a1 a2
  refine va_astq hx hb hC.1 hR.2 mx_ws_D hS r tc v (mx_kc tc) (mx_ws_at he) (mx_ty_at ht).1 (mx_ws_at hv) (mx_cl_at (mx_ty_at (ta := ta) ht).2) hin hd (fun H1 locs1 hP1 _ hS1 => ?_)
  have hP2 : va_P D vwCl (mx_ws base sk ta (h.set r (.inl (tc, n, .inr (.inr (.inr (.inr (va_up g i.toNatClampNeg (some v))))))))) H1 := by
    rw [← mx_ws_set]
    have e : mx_ce base sk ta (.inl (tc, n, .inr (.inr (.inr (.inr (va_up g i.toNatClampNeg (some v))))))) = .inl (ta tc, n, .inr (.inr (.inr (.inr (va_up (fun j => (g j).map (fun k => base + k)) i.toNatClampNeg (some (base + v))))))) := by
      rw [← mx_up]; rfl
    rw [e]
    exact hP1
  refine mx_sized fun hsz => ?_
  have e1 := mx_low hP2 (by rw [List.length_set]; exact Nat.lt_of_le_of_lt (Nat.zero_le r) (mx_pos he))
  rw [List.length_set] at e1
  have e2 : mx_sz (h.set r (.inl (tc, n, .inr (.inr (.inr (.inr (va_up g i.toNatClampNeg (some v)))))))) = mx_sz h := mx_sz_set he (by simp [mx_se])
  have k2 := k H1 locs1 lsC ⟨by rw [List.length_set]; omega, hP2⟩ hS1 hl (by rw [List.length_set]; exact a1) (by rw [e2]; exact a2)
  rw [List.length_set, e2] at k2
  exact k2
theorem sd_alen {pc : Nat} {ls : mx_L} {st : List Value} {h : mx_H} (X : mx_X xs P G p R s m args meth c y cc nL D ta base sk dd Ts h0) {r n tc : Nat} {x : (Nat → Int32) ⊕ (Nat → Int64) ⊕ (Nat → UInt32) ⊕ (Nat → UInt64) ⊕ (Nat → Option Nat)} (he : h[r]? = some (.inl (tc, n, x))) (ht : tc < 7) (hd : decode cc pc = .ok (.arraylength, 1)) (k : mx_W p l e R s m args below meth c D ta base sk h0 nL Q (pc + 1) (ls) (.int (Int32.ofNat n) :: st) (h)) : mx_W p l e R s m args below meth c D ta base sk h0 nL Q (pc) (ls) (.ref r :: st) (h) := by
  obtain ⟨⟨hx, hb, hml, hown, hts⟩, hini, hC, hz0, hsk, hWS, hGd, hfr, hlo⟩ := X
  intro H locs lsC hR hS hl a1 a2
  obtain ⟨t, h1⟩ := mx_ty_any (ta := ta) ht
  exact va_alen hx hb hC.1 hR.2 r tc (mx_ws_at he) h1 rfl hd (k H locs lsC hR hS hl a1 a2)
theorem sd_ci {pc : Nat} {ls : mx_L} {st : List Value} {h : mx_H} (X : mx_X xs P G p R s m args meth c y cc nL D ta base sk dd Ts h0) {r : Nat} {i : Int32} {lx : List Int32} (hk : mx_kt xs r = some (0, lx)) (hin : vp_in i lx.length) (hd : decode cc pc = .ok (.iaload, 1)) (k : mx_W p l e R s m args below meth c D ta base sk h0 nL Q (pc + 1) (ls) (.int (lx.getD i.toNatClampNeg 0) :: st) (h)) : mx_W p l e R s m args below meth c D ta base sk h0 nL Q (pc) (ls) (.int i :: .retAddr r :: st) (h) := by
  obtain ⟨⟨hx, hb, hml, hown, hts⟩, hini, hC, hz0, hsk, hWS, hGd, hfr, hlo⟩ := X
  intro H locs lsC hR hS hl a1 a2
  obtain ⟨a, e1, hT⟩ := hC.2.2.2.2.2.1 r _ _ hk
  have k2 := k H locs lsC hR hS hl a1 a2
  show W p l e R s m args below meth c H locs _ _ Q (F0 m pc lsC (.int i :: sk r :: st.map (mx_cv base sk)))
  rw [e1]
  exact va_ti hx hb hT hS hin rfl hd k2
theorem sd_cb {pc : Nat} {ls : mx_L} {st : List Value} {h : mx_H} (X : mx_X xs P G p R s m args meth c y cc nL D ta base sk dd Ts h0) {r : Nat} {i : Int32} {lx : List Int32} (hk : mx_kt xs r = some (7, lx)) (hin : vp_in i lx.length) (hd : decode cc pc = .ok (.baload, 1)) (k : mx_W p l e R s m args below meth c D ta base sk h0 nL Q (pc + 1) (ls) (.int (lx.getD i.toNatClampNeg 0) :: st) (h)) : mx_W p l e R s m args below meth c D ta base sk h0 nL Q (pc) (ls) (.int i :: .retAddr r :: st) (h) := by
  obtain ⟨⟨hx, hb, hml, hown, hts⟩, hini, hC, hz0, hsk, hWS, hGd, hfr, hlo⟩ := X
  intro H locs lsC hR hS hl a1 a2
  obtain ⟨a, e1, hT⟩ := hC.2.2.2.2.2.1 r _ _ hk
  have k2 := k H locs lsC hR hS hl a1 a2
  show W p l e R s m args below meth c H locs _ _ Q (F0 m pc lsC (.int i :: sk r :: st.map (mx_cv base sk)))
  rw [e1]
  exact va_tb hx hb hT hS hin rfl hd k2
theorem sd_cn {pc : Nat} {ls : mx_L} {st : List Value} {h : mx_H} (X : mx_X xs P G p R s m args meth c y cc nL D ta base sk dd Ts h0) {r t : Nat} {lx : List Int32} (hk : mx_kt xs r = some (t, lx)) (hd : decode cc pc = .ok (.arraylength, 1)) (k : mx_W p l e R s m args below meth c D ta base sk h0 nL Q (pc + 1) (ls) (.int (Int32.ofNat lx.length) :: st) (h)) : mx_W p l e R s m args below meth c D ta base sk h0 nL Q (pc) (ls) (.retAddr r :: st) (h) := by
  obtain ⟨⟨hx, hb, hml, hown, hts⟩, hini, hC, hz0, hsk, hWS, hGd, hfr, hlo⟩ := X
  intro H locs lsC hR hS hl a1 a2
  obtain ⟨a, e1, hT⟩ := hC.2.2.2.2.2.1 r _ _ hk
  have k2 := k H locs lsC hR hS hl a1 a2
  show W p l e R s m args below meth c H locs _ _ Q (F0 m pc lsC (sk r :: st.map (mx_cv base sk)))
  rw [e1]
  exact va_tlen hx hb hT hS rfl hd k2
theorem sd_sval {pc : Nat} {ls : mx_L} {st : List Value} {h : mx_H} (X : mx_X xs P G p R s m args meth c y cc nL D ta base sk dd Ts h0) {r i : Nat} (hr : r < 6) (hlk : Cond.fieldLink y.cls i "java/lang/String" "value" "[B" ∈ Ts) (hd : decode cc pc = .ok (.getfield i, 3)) (k : mx_W p l e R s m args below meth c D ta base sk h0 nL Q (pc + 3) (ls) (.retAddr (100 + r) :: st) (h)) : mx_W p l e R s m args below meth c D ta base sk h0 nL Q (pc) (ls) (.retAddr r :: st) (h) := by
  obtain ⟨⟨hx, hb, hml, hown, hts⟩, hini, hC, hz0, hsk, hWS, hGd, hfr, hlo⟩ := X
  intro H locs lsC hR hS hl a1 a2
  obtain ⟨a, e1, -, hc, hv⟩ := hC.2.2.2.2.2.2.1 r hr
  have k2 := k H locs lsC hR hS hl a1 a2
  show W p l e R s m args below meth c H locs _ _ Q (F0 m pc lsC (sk r :: st.map (mx_cv base sk)))
  rw [e1]
  exact vk_getf hx hb hv hS hown (hts _ hlk) (fun _ h => h) hd k2
theorem sd_scod {pc : Nat} {ls : mx_L} {st : List Value} {h : mx_H} (X : mx_X xs P G p R s m args meth c y cc nL D ta base sk dd Ts h0) {r i : Nat} (hr : r < 6) (hlk : Cond.fieldLink y.cls i "java/lang/String" "coder" "B" ∈ Ts) (hd : decode cc pc = .ok (.getfield i, 3)) (k : mx_W p l e R s m args below meth c D ta base sk h0 nL Q (pc + 3) (ls) (.int 0 :: st) (h)) : mx_W p l e R s m args below meth c D ta base sk h0 nL Q (pc) (ls) (.retAddr r :: st) (h) := by
  obtain ⟨⟨hx, hb, hml, hown, hts⟩, hini, hC, hz0, hsk, hWS, hGd, hfr, hlo⟩ := X
  intro H locs lsC hR hS hl a1 a2
  obtain ⟨a, e1, -, hc, hv⟩ := hC.2.2.2.2.2.2.1 r hr
  have k2 := k H locs lsC hR hS hl a1 a2
  show W p l e R s m args below meth c H locs _ _ Q (F0 m pc lsC (sk r :: st.map (mx_cv base sk)))
  rw [e1]
  exact vk_getf hx hb hc hS hown (hts _ hlk) (fun _ h => h) hd k2
theorem sd_ldcs {pc : Nat} {ls : mx_L} {st : List Value} {h : mx_H} (X : mx_X xs P G p R s m args meth c y cc nL D ta base sk dd Ts h0) {i a : Nat} (ho : y.cls = RX2) (hq : ∃ q ∈ mx_SL, q.1 = i ∧ q.2.2 = a) (hd : decode cc pc = .ok (.ldc i, 2)) (k : mx_W p l e R s m args below meth c D ta base sk h0 nL Q (pc + 2) (ls) (.retAddr a :: st) (h)) : mx_W p l e R s m args below meth c D ta base sk h0 nL Q (pc) (ls) (st) (h) := by
  obtain ⟨⟨hx, hb, hml, hown, hts⟩, hini, hC, hz0, hsk, hWS, hGd, hfr, hlo⟩ := X
  intro H locs lsC hR hS hl a1 a2
  obtain ⟨q, hq, rfl, rfl⟩ := hq
  obtain ⟨a, e1, hZ⟩ := hC.2.2.2.2.2.2.2 q hq
  have k2 := k H locs lsC hR hS hl a1 a2
  have e2 : ((Value.retAddr q.2.2 :: st).map (mx_cv base sk)) = .ref a :: st.map (mx_cv base sk) := by rw [List.map_cons, ← e1]; rfl
  rw [e2] at k2
  rw [ho] at hown
  exact va_ldcS hx hb hown hZ hd k2
theorem sd_gets {pc : Nat} {ls : mx_L} {st : List Value} {h : mx_H} (X : mx_X xs P G p R s m args meth c y cc nL D ta base sk dd Ts h0) {i a w : Nat} {v : Int32} (hlk : Cond.fieldLink y.cls i (mx_sta w a).1 (mx_sta w a).2.1 (mx_sta w a).2.2 ∈ Ts) (ho : (w = 0 ∧ (a = 200 ∨ a = 201 ∨ a = 999)) ∨ (¬ w = 0 ∧ v = 1)) (hd : decode cc pc = .ok (.getstatic i, 3)) (k : mx_W p l e R s m args below meth c D ta base sk h0 nL Q (pc + 3) (ls) (mx_sv w a v :: st) (h)) : mx_W p l e R s m args below meth c D ta base sk h0 nL Q (pc) (ls) (st) (h) := by
  obtain ⟨⟨hx, hb, hml, hown, hts⟩, hini, hC, hz0, hsk, hWS, hGd, hfr, hlo⟩ := X
  intro H locs lsC hR hS hl a1 a2
  have k2 := k H locs lsC hR hS hl a1 a2
  obtain ⟨z1, z2, z3, z4⟩ := hC.2.2.2.2.1
  rcases ho with ⟨rfl, rfl | rfl | rfl⟩ | ⟨hw, rfl⟩
  · exact va_gets hx hb z1 hS hown (hts _ hlk) (fun _ h => h) hd k2
  · exact va_gets hx hb z2 hS hown (hts _ hlk) (fun _ h => h) hd k2
  · exact va_gets hx hb z4 hS hown (hts _ hlk) (fun _ h => h) hd k2
  · match w, hw, hlk, k2 with
    | 0, hw, _, _ => exact absurd rfl hw
    | w + 1, _, hlk, k2 => exact va_gets hx hb z3 hS hown (hts _ hlk) (fun _ h => h) hd k2
theorem sd_getsN {pc : Nat} {ls : mx_L} {st : List Value} {h : mx_H} (X : mx_X xs P G p R s m args meth c y cc nL D ta base sk dd Ts h0) (ho : y.cls = "CreaseLines$Leg") (hd : decode cc pc = .ok (.getstatic 30, 3)) (k : mx_W p l e R s m args below meth c D ta base sk h0 nL Q (pc + 3) (ls) (.retAddr 200 :: st) (h)) : mx_W p l e R s m args below meth c D ta base sk h0 nL Q (pc) (ls) (st) (h) := by
  obtain ⟨⟨hx, hb, hml, hown, hts⟩, hini, hC, hz0, hsk, hWS, hGd, hfr, hlo⟩ := X
  intro H locs lsC hR hS hl a1 a2
  have k2 := k H locs lsC hR hS hl a1 a2
  rw [ho] at hown
  exact va_getsN hx hb hC.2.2.2.2.1.1 hS hown (va_Nw.use rfl hC.2.2.1) (fun _ h => h) hd k2
end MXT
