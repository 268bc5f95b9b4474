/-! ===== the small machine is the JVM's: row by row ===== -/
def mx_g (base : Nat) (sk : Nat → Value) (q : Nat × Value) : Nat × Value := (q.1, mx_cv base sk q.2)
def mx_X (xs : List Int32) (P : List mx_M) (G : List Cond) (p : Program) (R : Room) (s : State) (m : MethodId) (args : Array Value) (meth : Method) (c : Code) (y : MethodName) (cc : ByteArray) (nL : Nat) (D : va_G) (ta : Nat → ClassId) (base : Nat) (sk : Nat → Value) (dd : Nat) (Ts : List Cond) (h0 : mx_H) : Prop :=
  CallFix p m c cc nL s args Ts y.cls ∧ (y.name = "<init>" → meth.name = "<init>") ∧ mx_C xs D ta base sk s s.heap ∧ s.heap.size = base + h0.length ∧ (∀ i, sk i = .null ∨ ∃ a, sk i = .ref a) ∧ (∀ w ∈ mx_WS, w ∈ Ts) ∧ (∀ (j : Nat) (M : mx_M), P[j]? = some M → GoodIn Ts (Cond.code M.1 M.2.1 M.2.2.1 M.2.2.2.1 :: G)) ∧ dd + 1 ≤ R.frames ∧ 36 * (dd + 1) ≤ R.locals
def mx_W (p : Program) (l : Launch) (e : Env) (R : Room) (s : State) (m : MethodId) (args : Array Value) (below : List Frame) (meth : Method) (c : Code) (D : va_G) (ta : Nat → ClassId) (base : Nat) (sk : Nat → Value) (h0 : mx_H) (nL : Nat) (Q : State → Prop) (pc : Nat) (ls : mx_L) (st : List Value) (h : mx_H) : Prop :=
  ∀ (H : Heap) (locs : List Loc) (lsC : Array Slot), mx_Rl D ta base sk h H → va_S (mx_A base) s.heap H locs → lv_has lsC nL (ls.map (mx_g base sk)) → h0.length ≤ h.length → mx_sz h0 ≤ mx_sz h → W p l e R s m args below meth c H locs (h.length - h0.length) (mx_sz h - mx_sz h0) Q (F0 m pc lsC (st.map (mx_cv base sk)))
/-- a reference, or null, or what is older -/
def mx_isr (v : Value) : Prop := (∃ x, v = .ref x) ∨ v = .null ∨ ∃ x, v = .retAddr x
section MXI
theorem iv_li {ls : mx_L} {i : Nat} {f : Int32 → mx_R} {q : Option Value × mx_H} (h : mx_li ls i f = some q) : ∃ x, mx_ld ls i = some (.int x) ∧ f x = some q := by
  unfold mx_li at h; split at h
  · rename_i x hx; exact ⟨x, hx, h⟩
  · cases h
theorem iv_la {ls : mx_L} {i : Nat} {f : Value → mx_R} {q : Option Value × mx_H} (h : mx_la ls i f = some q) : ∃ v, mx_ld ls i = some v ∧ mx_isr v ∧ f v = some q := by
  unfold mx_la at h; split at h
  · rename_i x hx; exact ⟨_, hx, Or.inl ⟨_, rfl⟩, h⟩
  · rename_i hx; exact ⟨_, hx, Or.inr (Or.inl rfl), h⟩
  · rename_i x hx; exact ⟨_, hx, Or.inr (Or.inr ⟨_, rfl⟩), h⟩
  · cases h
theorem iv_s1 {st : List Value} {f : Int32 → List Value → mx_R} {q : Option Value × mx_H} (h : mx_s1 st f = some q) : ∃ x r, st = .int x :: r ∧ f x r = some q := by
  unfold mx_s1 at h; split at h
  · exact ⟨_, _, rfl, h⟩
  · cases h
theorem iv_s2 {st : List Value} {f : Int32 → Int32 → List Value → mx_R} {q : Option Value × mx_H} (h : mx_s2 st f = some q) : ∃ x y r, st = .int y :: .int x :: r ∧ f x y r = some q := by
  unfold mx_s2 at h; split at h
  · exact ⟨_, _, _, rfl, h⟩
  · cases h
theorem iv_sa {st : List Value} {f : Value → List Value → mx_R} {q : Option Value × mx_H} (h : mx_sa st f = some q) : ∃ v r, st = v :: r ∧ mx_isr v ∧ f v r = some q := by
  unfold mx_sa at h; split at h
  · exact ⟨_, _, rfl, Or.inl ⟨_, rfl⟩, h⟩
  · exact ⟨_, _, rfl, Or.inr (Or.inl rfl), h⟩
  · exact ⟨_, _, rfl, Or.inr (Or.inr ⟨_, rfl⟩), h⟩
  · cases h
theorem iv_sr {st : List Value} {f : Nat → List Value → mx_R} {q : Option Value × mx_H} (h : mx_sr st f = some q) : ∃ x r, st = .ref x :: r ∧ f x r = some q := by
  unfold mx_sr at h; split at h
  · exact ⟨_, _, rfl, h⟩
  · cases h
theorem iv_sn {st : List Value} {f g : List Value → mx_R} {q : Option Value × mx_H} (h : mx_sn st f g = some q) : (∃ r, st = .null :: r ∧ f r = some q) ∨ ∃ x r, st = .ref x :: r ∧ g r = some q := by
  unfold mx_sn at h; split at h
  · exact Or.inl ⟨_, rfl, h⟩
  · exact Or.inr ⟨_, _, rfl, h⟩
  · cases h
theorem iv_d1 {st : List Value} {f : Value → List Value → mx_R} {q : Option Value × mx_H} (h : mx_d1 st f = some q) : ∃ v r, st = v :: r ∧ ((∃ x, v = .int x) ∨ ∃ x, v = .ref x) ∧ f v r = some q := by
  unfold mx_d1 at h; split at h
  · exact ⟨_, _, rfl, Or.inl ⟨_, rfl⟩, h⟩
  · exact ⟨_, _, rfl, Or.inr ⟨_, rfl⟩, h⟩
  · cases h
theorem iv_d2 {st : List Value} {f : Value → Value → List Value → mx_R} {q : Option Value × mx_H} (h : mx_d2 st f = some q) : ∃ v w r, st = v :: w :: r ∧ (∃ x, v = .int x) ∧ ((∃ x, w = .int x) ∨ ∃ x, w = .ref x) ∧ f v w r = some q := by
  unfold mx_d2 at h; split at h
  · exact ⟨_, _, _, rfl, ⟨_, rfl⟩, Or.inr ⟨_, rfl⟩, h⟩
  · exact ⟨_, _, _, rfl, ⟨_, rfl⟩, Or.inl ⟨_, rfl⟩, h⟩
  · cases h
theorem iv_ir {st : List Value} {f : Int32 → Nat → List Value → mx_R} {q : Option Value × mx_H} (h : mx_ir st f = some q) : ∃ x y r, st = .int x :: .ref y :: r ∧ f x y r = some q := by
  unfold mx_ir at h; split at h
  · exact ⟨_, _, _, rfl, h⟩
  · cases h
theorem iv_rr {st : List Value} {f : Nat → Nat → List Value → mx_R} {q : Option Value × mx_H} (h : mx_rr st f = some q) : ∃ x y r, st = .ref x :: .ref y :: r ∧ f x y r = some q := by
  unfold mx_rr at h; split at h
  · exact ⟨_, _, _, rfl, h⟩
  · cases h
theorem iv_iir {st : List Value} {f : Int32 → Int32 → Nat → List Value → mx_R} {q : Option Value × mx_H} (h : mx_iir st f = some q) : ∃ x i y r, st = .int x :: .int i :: .ref y :: r ∧ f x i y r = some q := by
  unfold mx_iir at h; split at h
  · exact ⟨_, _, _, _, rfl, h⟩
  · cases h
theorem iv_rir {st : List Value} {f : Nat → Int32 → Nat → List Value → mx_R} {q : Option Value × mx_H} (h : mx_rir st f = some q) : ∃ x i y r, st = .ref x :: .int i :: .ref y :: r ∧ f x i y r = some q := by
  unfold mx_rir at h; split at h
  · exact ⟨_, _, _, _, rfl, h⟩
  · cases h
theorem iv_cps {st : List Value} {f : Int32 → Int32 → Nat → Int32 → Nat → List Value → mx_R} {q : Option Value × mx_H} (h : mx_cps st f = some q) : ∃ n dp d sp s r, st = .int n :: .int dp :: .ref d :: .int sp :: .ref s :: r ∧ f n dp d sp s r = some q := by
  unfold mx_cps at h; split at h
  · exact ⟨_, _, _, _, _, _, rfl, h⟩
  · cases h
theorem iv_bif {b : Bool} {x : mx_R} {q : Option Value × mx_H} (h : (bif b then x else none) = some q) : b = true ∧ x = some q := by
  cases b
  · cases h
  · exact ⟨rfl, h⟩
theorem iv_gi {h : mx_H} {r ci k : Nat} {f : Int32 → mx_R} {q : Option Value × mx_H} (e : mx_gi h r ci k f = some q) : ∃ fs x, h[r]? = some (.inr (ci, fs)) ∧ fs[k]? = some (.int x) ∧ f x = some q := by
  unfold mx_gi at e; split at e
  · rename_i he
    split at e
    · rename_i hc
      subst hc
      split at e
      · rename_i hx; exact ⟨_, _, he, hx, e⟩
      · cases e
    · cases e
  · cases e
theorem iv_gr {h : mx_H} {r ci k : Nat} {f : Nat → mx_R} {q : Option Value × mx_H} (e : mx_gr h r ci k f = some q) : ∃ fs x, h[r]? = some (.inr (ci, fs)) ∧ fs[k]? = some (.ref x) ∧ f x = some q := by
  unfold mx_gr at e; split at e
  · rename_i he
    split at e
    · rename_i hc
      subst hc
      split at e
      · rename_i hx; exact ⟨_, _, he, hx, e⟩
      · cases e
    · cases e
  · cases e
theorem iv_pt {h : mx_H} {r ci k : Nat} {v : Value} {f : mx_H → mx_R} {q : Option Value × mx_H} (e : mx_pt h r ci k v f = some q) : ∃ fs, h[r]? = some (.inr (ci, fs)) ∧ k < fs.length ∧ f (h.set r (.inr (ci, fs.set k v))) = some q := by
  unfold mx_pt at e; split at e
  · rename_i he
    split at e
    · rename_i hc
      obtain ⟨rfl, hk⟩ := hc
      exact ⟨_, he, hk, e⟩
    · cases e
  · cases e
theorem iv_ai {h : mx_H} {r t : Nat} {i : Int32} {f : Int32 → mx_R} {q : Option Value × mx_H} (e : mx_ai h r t i f = some q) : ∃ n g, h[r]? = some (.inl (t, n, .inl g)) ∧ vp_in i n ∧ f (g i.toNatClampNeg) = some q := by
  unfold mx_ai at e; split at e
  · rename_i he
    split at e
    · rename_i hc
      obtain ⟨rfl, hk⟩ := hc
      exact ⟨_, _, he, hk, e⟩
    · cases e
  · cases e
theorem iv_as {h : mx_H} {r t : Nat} {i x : Int32} {f : mx_H → mx_R} {q : Option Value × mx_H} (e : mx_as h r t i x f = some q) : ∃ n g, h[r]? = some (.inl (t, n, .inl g)) ∧ vp_in i n ∧ f (h.set r (.inl (t, n, .inl (upd g i.toNatClampNeg x)))) = some q := by
  unfold mx_as at e; split at e
  · rename_i he
    split at e
    · rename_i hc
      obtain ⟨rfl, hk⟩ := hc
      exact ⟨_, _, he, hk, e⟩
    · cases e
  · cases e
theorem iv_aa {h : mx_H} {r : Nat} {i : Int32} {f : Nat → mx_R} {q : Option Value × mx_H} (e : mx_aa h r i f = some q) : ∃ c n g a, h[r]? = some (.inl (c, n, .inr (.inr (.inr (.inr g))))) ∧ (3 ≤ c ∧ c ≤ 6) ∧ vp_in i n ∧ g i.toNatClampNeg = some a ∧ f a = some q := by
  unfold mx_aa at e; split at e
  · rename_i he
    split at e
    · rename_i hc
      split at e
      · rename_i ha
        exact ⟨_, _, _, _, he, hc.1, hc.2, ha, e⟩
      · cases e
    · cases e
  · cases e
theorem iv_at {h : mx_H} {r : Nat} {i : Int32} {v : Nat} {f : mx_H → mx_R} {q : Option Value × mx_H} (e : mx_at h r i v f = some q) : ∃ c n g fs, h[r]? = some (.inl (c, n, .inr (.inr (.inr (.inr g))))) ∧ h[v]? = some (.inr (mx_kc c, fs)) ∧ (3 ≤ c ∧ c ≤ 6) ∧ vp_in i n ∧ f (h.set r (.inl (c, n, .inr (.inr (.inr (.inr (va_up g i.toNatClampNeg (some v)))))))) = some q := by
  unfold mx_at at e; split at e
  · rename_i he hv
    split at e
    · rename_i hc
      obtain ⟨h1, rfl, h2⟩ := hc
      exact ⟨_, _, _, _, he, hv, h1, h2, e⟩
    · cases e
  · cases e
theorem iv_al {h : mx_H} {r : Nat} {f : Int32 → mx_R} {q : Option Value × mx_H} (e : mx_al h r f = some q) : ∃ c n x, h[r]? = some (.inl (c, n, x)) ∧ c < 7 ∧ f (Int32.ofNat n) = some q := by
  unfold mx_al at e; split at e
  · rename_i he
    split at e
    · rename_i hc; exact ⟨_, _, _, he, hc, e⟩
    · cases e
  · cases e
theorem iv_ck {xs : List Int32} {t r : Nat} {i : Int32} {f : Int32 → mx_R} {q : Option Value × mx_H} (e : mx_ck xs t r i f = some q) : ∃ l, mx_kt xs r = some (t, l) ∧ vp_in i l.length ∧ f (l.getD i.toNatClampNeg 0) = some q := by
  unfold mx_ck at e; split at e
  · rename_i he
    split at e
    · rename_i hc
      obtain ⟨rfl, hk⟩ := hc
      exact ⟨_, he, hk, e⟩
    · cases e
  · cases e
theorem iv_cn {xs : List Int32} {r : Nat} {f : Int32 → mx_R} {q : Option Value × mx_H} (e : mx_cn xs r f = some q) : ∃ t l, mx_kt xs r = some (t, l) ∧ f (Int32.ofNat l.length) = some q := by
  unfold mx_cn at e; split at e
  · rename_i he; exact ⟨_, _, he, e⟩
  · cases e
theorem iv_cp {h : mx_H} {s d : Nat} {sp dp n : Int32} {f : mx_H → mx_R} {q : Option Value × mx_H} (e : mx_cp h s sp d dp n f = some q) : ∃ n0 f0 n1 f1, h[s]? = some (.inl (0, n0, .inl f0)) ∧ h[d]? = some (.inl (0, n1, .inl f1)) ∧ ¬ sp < 0 ∧ ¬ dp < 0 ∧ ¬ n < 0 ∧ sp.toNatClampNeg + n.toNatClampNeg ≤ n0 ∧ dp.toNatClampNeg + n.toNatClampNeg ≤ n1 ∧ f (h.set d (.inl (0, n1, .inl (va_cpy f0 f1 sp.toNatClampNeg dp.toNatClampNeg n.toNatClampNeg)))) = some q := by
  unfold mx_cp at e; split at e
  · rename_i h1 h2
    split at e
    · rename_i hc
      obtain ⟨rfl, rfl, c1, c2, c3, c4, c5⟩ := hc
      exact ⟨_, _, _, _, h1, h2, c1, c2, c3, c4, c5, e⟩
    · cases e
  · cases e
/-- what came back, and the stack with it -/
theorem iv_bk {w : Nat} {r : mx_R} {rest : List Value} {f : List Value → mx_H → mx_R} {q : Option Value × mx_H} (e : mx_bk w r rest f = some q) : ∃ v g, r = some (v, g) ∧ f (v.toList ++ rest) g = some q := by
  unfold mx_bk at e; split at e
  · unfold mx_c0 at e; split at e
    · exact ⟨_, _, rfl, e⟩
    · cases e
  · unfold mx_c1 at e; split at e
    · exact ⟨_, _, rfl, e⟩
    · cases e
  · unfold mx_c2 at e; split at e
    · exact ⟨_, _, rfl, e⟩
    · cases e
  · unfold mx_c3 at e; split at e
    · exact ⟨_, _, rfl, e⟩
    · exact ⟨_, _, rfl, e⟩
    · cases e
  · unfold mx_c4 at e; split at e
    · exact ⟨_, _, rfl, e⟩
    · cases e
theorem iv_cl {h : mx_H} {r ci : Nat} {x : mx_R} {q : Option Value × mx_H} (e : mx_cl h r ci x = some q) : ∃ fs, h[r]? = some (.inr (ci, fs)) ∧ x = some q := by
  unfold mx_cl at e; split at e
  · rename_i he
    split at e
    · rename_i hc; subst hc; exact ⟨_, he, e⟩
    · cases e
  · cases e
theorem mx_ld_mem {ls : mx_L} {i : Nat} {v : Value} (h : mx_ld ls i = some v) : (i, v) ∈ ls := by
  unfold mx_ld at h; split at h
  · rename_i q hq
    cases h
    have h1 := List.find?_some hq
    have h2 := List.mem_of_find?_eq_some hq
    have h3 : q.1 = i := Nat.eq_of_beq_eq_true h1
    rw [← h3]
    exact h2
  · cases h
theorem mx_nm_sub {ls : mx_L} : ∀ {is : List Nat} {q : Nat × Value}, q ∈ mx_nm is ls → q ∈ ls
  | [], q, h => by cases h
  | i :: is, q, h => by
    unfold mx_nm at h
    split at h
    · rename_i v hv
      rcases List.mem_cons.mp h with h | h
      · rw [h]; exact mx_ld_mem hv
      · exact mx_nm_sub h
    · exact mx_nm_sub h
theorem mx_cat {base : Nat} {sk : Nat → Value} (hs : ∀ i, sk i = .null ∨ ∃ a, sk i = .ref a) (v : Value) : (mx_cv base sk v).category = v.category := by
  cases v with
  | retAddr i =>
    show (sk i).category = 1
    rcases hs i with h | ⟨a, h⟩ <;> rw [h] <;> rfl
  | _ => rfl
theorem mx_st_map {base : Nat} {sk : Nat → Value} (hs : ∀ i, sk i = .null ∨ ∃ a, sk i = .ref a) (ls : mx_L) (i : Nat) (v : Value) : (i, mx_cv base sk v) :: (ls.map (mx_g base sk)).filter (fun q => !(q.1 == i) && !(q.1 + 1 == i && q.2.category == 2)) = (mx_st ls i v).map (mx_g base sk) := by
  unfold mx_st
  rw [List.map_cons, List.filter_map]
  congr 3
  funext q
  simp only [Function.comp, mx_g, mx_cat hs]
theorem mx_cats {base : Nat} {sk : Nat → Value} (hs : ∀ i, sk i = .null ∨ ∃ a, sk i = .ref a) (st : List Value) : ((st.map (mx_cv base sk)).map fun v => v.category) = st.map fun v => v.category := by
  rw [List.map_map]
  apply List.map_congr_left
  intro v _
  exact mx_cat hs v
theorem isr_cv {base : Nat} {sk : Nat → Value} (hs : ∀ i, sk i = .null ∨ ∃ a, sk i = .ref a) {v : Value} (h : mx_isr v) : mx_cv base sk v = .null ∨ ∃ a, mx_cv base sk v = .ref a := by
  rcases h with ⟨x, rfl⟩ | rfl | ⟨x, rfl⟩
  · exact Or.inr ⟨_, rfl⟩
  · exact Or.inl rfl
  · exact hs x
end MXI

section MXS
variable {p : Program} {l : Launch} {e : Env} {R : Room} {s : State} {m : MethodId} {args : Array Value} {below : List Frame} {meth : Method} {c : Code} {Q : State → Prop}
variable {xs : List Int32} {P : List mx_M} {G : List Cond} {y : MethodName} {cc : ByteArray} {nL : Nat} {ret : Option FieldType} {D : va_G} {ta : Nat → ClassId} {base : Nat} {sk : Nat → Value} {dd : Nat} {Ts : List Cond} {h0 : mx_H}
theorem sd_iconst {pc : Nat} {ls : mx_L} {st : List Value} {h : mx_H} (X : mx_X xs P G p R s m args meth c y cc nL D ta base sk dd Ts h0) {n : Int} {v : Int32} (hv : Int32.ofInt n = v) (hd : decode cc pc = .ok (.iconst n, 1)) (k : mx_W p l e R s m args below meth c D ta base sk h0 nL Q (pc + 1) (ls) (.int v :: st) (h)) : mx_W p l e R s m args below meth c D ta base sk h0 nL Q (pc) (ls) (st) (h) := by
  obtain ⟨⟨hx, hb, hml, hown, hts⟩, hini, hC, hz0, hsk, hWS, hGd, hfr, hlo⟩ := X
  exact fun H locs lsC hR hS hl a1 a2 => lv_iconst hx hb hd hv (k H locs lsC hR hS hl a1 a2)
theorem sd_bipush {pc : Nat} {ls : mx_L} {st : List Value} {h : mx_H} (X : mx_X xs P G p R s m args meth c y cc nL D ta base sk dd Ts h0) {n : Int} {v : Int32} (hv : (Int8.ofInt n).toInt32 = v) (hd : decode cc pc = .ok (.bipush n, 2)) (k : mx_W p l e R s m args below meth c D ta base sk h0 nL Q (pc + 2) (ls) (.int v :: st) (h)) : mx_W p l e R s m args below meth c D ta base sk h0 nL Q (pc) (ls) (st) (h) := by
  obtain ⟨⟨hx, hb, hml, hown, hts⟩, hini, hC, hz0, hsk, hWS, hGd, hfr, hlo⟩ := X
  exact fun H locs lsC hR hS hl a1 a2 => lv_bipush hx hb hd hv (k H locs lsC hR hS hl a1 a2)
theorem sd_sipush {pc : Nat} {ls : mx_L} {st : List Value} {h : mx_H} (X : mx_X xs P G p R s m args meth c y cc nL D ta base sk dd Ts h0) {n : Int} {v : Int32} (hv : (Int16.ofInt n).toInt32 = v) (hd : decode cc pc = .ok (.sipush n, 3)) (k : mx_W p l e R s m args below meth c D ta base sk h0 nL Q (pc + 3) (ls) (.int v :: st) (h)) : mx_W p l e R s m args below meth c D ta base sk h0 nL Q (pc) (ls) (st) (h) := by
  obtain ⟨⟨hx, hb, hml, hown, hts⟩, hini, hC, hz0, hsk, hWS, hGd, hfr, hlo⟩ := X
  exact fun H locs lsC hR hS hl a1 a2 => lv_sipush hx hb hd hv (k H locs lsC hR hS hl a1 a2)
theorem sd_ldc {pc : Nat} {ls : mx_L} {st : List Value} {h : mx_H} (X : mx_X xs P G p R s m args meth c y cc nL D ta base sk dd Ts h0) {i : Nat} {v : Int32} (hv : Cond.constant y.cls i v ∈ Ts) (hd : decode cc pc = .ok (.ldc i, 2)) (k : mx_W p l e R s m args below meth c D ta base sk h0 nL Q (pc + 2) (ls) (.int v :: st) (h)) : mx_W p l e R s m args below meth c D ta base sk h0 nL Q (pc) (ls) (st) (h) := by
  obtain ⟨⟨hx, hb, hml, hown, hts⟩, hini, hC, hz0, hsk, hWS, hGd, hfr, hlo⟩ := X
  exact fun H locs lsC hR hS hl a1 a2 => lv_ldc hx hb hown (hts _ hv) hd (k H locs lsC hR hS hl a1 a2)
theorem sd_ldcw {pc : Nat} {ls : mx_L} {st : List Value} {h : mx_H} (X : mx_X xs P G p R s m args meth c y cc nL D ta base sk dd Ts h0) {i : Nat} {v : Int32} (hv : Cond.constant y.cls i v ∈ Ts) (hd : decode cc pc = .ok (.ldc_w i, 3)) (k : mx_W p l e R s m args below meth c D ta base sk h0 nL Q (pc + 3) (ls) (.int v :: st) (h)) : mx_W p l e R s m args below meth c D ta base sk h0 nL Q (pc) (ls) (st) (h) := by
  obtain ⟨⟨hx, hb, hml, hown, hts⟩, hini, hC, hz0, hsk, hWS, hGd, hfr, hlo⟩ := X
  exact fun H locs lsC hR hS hl a1 a2 => lv_ldcw hx hb hown (hts _ hv) hd (k H locs lsC hR hS hl a1 a2)
theorem sd_null {pc : Nat} {ls : mx_L} {st : List Value} {h : mx_H} (X : mx_X xs P G p R s m args meth c y cc nL D ta base sk dd Ts h0)  (hd : decode cc pc = .ok (.aconst_null, 1)) (k : mx_W p l e R s m args below meth c D ta base sk h0 nL Q (pc + 1) (ls) (.null :: st) (h)) : mx_W p l e R s m args below meth c D ta base sk h0 nL Q (pc) (ls) (st) (h) := by
  obtain ⟨⟨hx, hb, hml, hown, hts⟩, hini, hC, hz0, hsk, hWS, hGd, hfr, hlo⟩ := X
  exact fun H locs lsC hR hS hl a1 a2 => lv_null hx hb hd (k H locs lsC hR hS hl a1 a2)
theorem sd_iadd {pc : Nat} {ls : mx_L} {st : List Value} {h : mx_H} (X : mx_X xs P G p R s m args meth c y cc nL D ta base sk dd Ts h0) {x z : Int32} (hd : decode cc pc = .ok (.iadd, 1)) (k : mx_W p l e R s m args below meth c D ta base sk h0 nL Q (pc + 1) (ls) (.int (x + z) :: st) (h)) : mx_W p l e R s m args below meth c D ta base sk h0 nL Q (pc) (ls) (.int z :: .int x :: st) (h) := by
  obtain ⟨⟨hx, hb, hml, hown, hts⟩, hini, hC, hz0, hsk, hWS, hGd, hfr, hlo⟩ := X
  exact fun H locs lsC hR hS hl a1 a2 => lv_iadd hx hb hd (k H locs lsC hR hS hl a1 a2)
theorem sd_isub {pc : Nat} {ls : mx_L} {st : List Value} {h : mx_H} (X : mx_X xs P G p R s m args meth c y cc nL D ta base sk dd Ts h0) {x z : Int32} (hd : decode cc pc = .ok (.isub, 1)) (k : mx_W p l e R s m args below meth c D ta base sk h0 nL Q (pc + 1) (ls) (.int (x - z) :: st) (h)) : mx_W p l e R s m args below meth c D ta base sk h0 nL Q (pc) (ls) (.int z :: .int x :: st) (h) := by
  obtain ⟨⟨hx, hb, hml, hown, hts⟩, hini, hC, hz0, hsk, hWS, hGd, hfr, hlo⟩ := X
  exact fun H locs lsC hR hS hl a1 a2 => lv_isub hx hb hd (k H locs lsC hR hS hl a1 a2)
theorem sd_imul {pc : Nat} {ls : mx_L} {st : List Value} {h : mx_H} (X : mx_X xs P G p R s m args meth c y cc nL D ta base sk dd Ts h0) {x z : Int32} (hd : decode cc pc = .ok (.imul, 1)) (k : mx_W p l e R s m args below meth c D ta base sk h0 nL Q (pc + 1) (ls) (.int (x * z) :: st) (h)) : mx_W p l e R s m args below meth c D ta base sk h0 nL Q (pc) (ls) (.int z :: .int x :: st) (h) := by
  obtain ⟨⟨hx, hb, hml, hown, hts⟩, hini, hC, hz0, hsk, hWS, hGd, hfr, hlo⟩ := X
  exact fun H locs lsC hR hS hl a1 a2 => lv_imul hx hb hd (k H locs lsC hR hS hl a1 a2)
theorem sd_iand {pc : Nat} {ls : mx_L} {st : List Value} {h : mx_H} (X : mx_X xs P G p R s m args meth c y cc nL D ta base sk dd Ts h0) {x z : Int32} (hd : decode cc pc = .ok (.iand, 1)) (k : mx_W p l e R s m args below meth c D ta base sk h0 nL Q (pc + 1) (ls) (.int (x &&& z) :: st) (h)) : mx_W p l e R s m args below meth c D ta base sk h0 nL Q (pc) (ls) (.int z :: .int x :: st) (h) := by
  obtain ⟨⟨hx, hb, hml, hown, hts⟩, hini, hC, hz0, hsk, hWS, hGd, hfr, hlo⟩ := X
  exact fun H locs lsC hR hS hl a1 a2 => lv_iand hx hb hd (k H locs lsC hR hS hl a1 a2)
theorem sd_ior {pc : Nat} {ls : mx_L} {st : List Value} {h : mx_H} (X : mx_X xs P G p R s m args meth c y cc nL D ta base sk dd Ts h0) {x z : Int32} (hd : decode cc pc = .ok (.ior, 1)) (k : mx_W p l e R s m args below meth c D ta base sk h0 nL Q (pc + 1) (ls) (.int (x ||| z) :: st) (h)) : mx_W p l e R s m args below meth c D ta base sk h0 nL Q (pc) (ls) (.int z :: .int x :: st) (h) := by
  obtain ⟨⟨hx, hb, hml, hown, hts⟩, hini, hC, hz0, hsk, hWS, hGd, hfr, hlo⟩ := X
  exact fun H locs lsC hR hS hl a1 a2 => lv_ior hx hb hd (k H locs lsC hR hS hl a1 a2)
theorem sd_ixor {pc : Nat} {ls : mx_L} {st : List Value} {h : mx_H} (X : mx_X xs P G p R s m args meth c y cc nL D ta base sk dd Ts h0) {x z : Int32} (hd : decode cc pc = .ok (.ixor, 1)) (k : mx_W p l e R s m args below meth c D ta base sk h0 nL Q (pc + 1) (ls) (.int (x ^^^ z) :: st) (h)) : mx_W p l e R s m args below meth c D ta base sk h0 nL Q (pc) (ls) (.int z :: .int x :: st) (h) := by
  obtain ⟨⟨hx, hb, hml, hown, hts⟩, hini, hC, hz0, hsk, hWS, hGd, hfr, hlo⟩ := X
  exact fun H locs lsC hR hS hl a1 a2 => lv_ixor hx hb hd (k H locs lsC hR hS hl a1 a2)
theorem sd_ishl {pc : Nat} {ls : mx_L} {st : List Value} {h : mx_H} (X : mx_X xs P G p R s m args meth c y cc nL D ta base sk dd Ts h0) {x z : Int32} (hd : decode cc pc = .ok (.ishl, 1)) (k : mx_W p l e R s m args below meth c D ta base sk h0 nL Q (pc + 1) (ls) (.int (x <<< (z &&& 31)) :: st) (h)) : mx_W p l e R s m args below meth c D ta base sk h0 nL Q (pc) (ls) (.int z :: .int x :: st) (h) := by
  obtain ⟨⟨hx, hb, hml, hown, hts⟩, hini, hC, hz0, hsk, hWS, hGd, hfr, hlo⟩ := X
  exact fun H locs lsC hR hS hl a1 a2 => lv_ishl hx hb hd (k H locs lsC hR hS hl a1 a2)
theorem sd_ishr {pc : Nat} {ls : mx_L} {st : List Value} {h : mx_H} (X : mx_X xs P G p R s m args meth c y cc nL D ta base sk dd Ts h0) {x z : Int32} (hd : decode cc pc = .ok (.ishr, 1)) (k : mx_W p l e R s m args below meth c D ta base sk h0 nL Q (pc + 1) (ls) (.int (x >>> (z &&& 31)) :: st) (h)) : mx_W p l e R s m args below meth c D ta base sk h0 nL Q (pc) (ls) (.int z :: .int x :: st) (h) := by
  obtain ⟨⟨hx, hb, hml, hown, hts⟩, hini, hC, hz0, hsk, hWS, hGd, hfr, hlo⟩ := X
  exact fun H locs lsC hR hS hl a1 a2 => lv_ishr hx hb hd (k H locs lsC hR hS hl a1 a2)
theorem sd_iushr {pc : Nat} {ls : mx_L} {st : List Value} {h : mx_H} (X : mx_X xs P G p R s m args meth c y cc nL D ta base sk dd Ts h0) {x z : Int32} (hd : decode cc pc = .ok (.iushr, 1)) (k : mx_W p l e R s m args below meth c D ta base sk h0 nL Q (pc + 1) (ls) (.int (mx_us x z) :: st) (h)) : mx_W p l e R s m args below meth c D ta base sk h0 nL Q (pc) (ls) (.int z :: .int x :: st) (h) := by
  obtain ⟨⟨hx, hb, hml, hown, hts⟩, hini, hC, hz0, hsk, hWS, hGd, hfr, hlo⟩ := X
  exact fun H locs lsC hR hS hl a1 a2 => lv_iushr hx hb hd rfl (k H locs lsC hR hS hl a1 a2)
theorem sd_idiv {pc : Nat} {ls : mx_L} {st : List Value} {h : mx_H} (X : mx_X xs P G p R s m args meth c y cc nL D ta base sk dd Ts h0) {x z : Int32} (hz : ¬ z = 0) (hd : decode cc pc = .ok (.idiv, 1)) (k : mx_W p l e R s m args below meth c D ta base sk h0 nL Q (pc + 1) (ls) (.int (x / z) :: st) (h)) : mx_W p l e R s m args below meth c D ta base sk h0 nL Q (pc) (ls) (.int z :: .int x :: st) (h) := by
  obtain ⟨⟨hx, hb, hml, hown, hts⟩, hini, hC, hz0, hsk, hWS, hGd, hfr, hlo⟩ := X
  exact fun H locs lsC hR hS hl a1 a2 => lv_idiv hx hb hd hz (k H locs lsC hR hS hl a1 a2)
theorem sd_irem {pc : Nat} {ls : mx_L} {st : List Value} {h : mx_H} (X : mx_X xs P G p R s m args meth c y cc nL D ta base sk dd Ts h0) {x z : Int32} (hz : ¬ z = 0) (hd : decode cc pc = .ok (.irem, 1)) (k : mx_W p l e R s m args below meth c D ta base sk h0 nL Q (pc + 1) (ls) (.int (mx_rm x z) :: st) (h)) : mx_W p l e R s m args below meth c D ta base sk h0 nL Q (pc) (ls) (.int z :: .int x :: st) (h) := by
  obtain ⟨⟨hx, hb, hml, hown, hts⟩, hini, hC, hz0, hsk, hWS, hGd, hfr, hlo⟩ := X
  exact fun H locs lsC hR hS hl a1 a2 => lv_irem hx hb hd hz (k H locs lsC hR hS hl a1 a2)
theorem sd_ineg {pc : Nat} {ls : mx_L} {st : List Value} {h : mx_H} (X : mx_X xs P G p R s m args meth c y cc nL D ta base sk dd Ts h0) {x : Int32} (hd : decode cc pc = .ok (.ineg, 1)) (k : mx_W p l e R s m args below meth c D ta base sk h0 nL Q (pc + 1) (ls) (.int (-x) :: st) (h)) : mx_W p l e R s m args below meth c D ta base sk h0 nL Q (pc) (ls) (.int x :: st) (h) := by
  obtain ⟨⟨hx, hb, hml, hown, hts⟩, hini, hC, hz0, hsk, hWS, hGd, hfr, hlo⟩ := X
  exact fun H locs lsC hR hS hl a1 a2 => lv_ineg hx hb hd (k H locs lsC hR hS hl a1 a2)
theorem sd_i2s {pc : Nat} {ls : mx_L} {st : List Value} {h : mx_H} (X : mx_X xs P G p R s m args meth c y cc nL D ta base sk dd Ts h0) {x : Int32} (hd : decode cc pc = .ok (.i2s, 1)) (k : mx_W p l e R s m args below meth c D ta base sk h0 nL Q (pc + 1) (ls) (.int x.toInt16.toInt32 :: st) (h)) : mx_W p l e R s m args below meth c D ta base sk h0 nL Q (pc) (ls) (.int x :: st) (h) := by
  obtain ⟨⟨hx, hb, hml, hown, hts⟩, hini, hC, hz0, hsk, hWS, hGd, hfr, hlo⟩ := X
  exact fun H locs lsC hR hS hl a1 a2 => lv_i2s hx hb hd rfl (k H locs lsC hR hS hl a1 a2)
theorem sd_i2b {pc : Nat} {ls : mx_L} {st : List Value} {h : mx_H} (X : mx_X xs P G p R s m args meth c y cc nL D ta base sk dd Ts h0) {x : Int32} (hd : decode cc pc = .ok (.i2b, 1)) (k : mx_W p l e R s m args below meth c D ta base sk h0 nL Q (pc + 1) (ls) (.int x.toInt8.toInt32 :: st) (h)) : mx_W p l e R s m args below meth c D ta base sk h0 nL Q (pc) (ls) (.int x :: st) (h) := by
  obtain ⟨⟨hx, hb, hml, hown, hts⟩, hini, hC, hz0, hsk, hWS, hGd, hfr, hlo⟩ := X
  exact fun H locs lsC hR hS hl a1 a2 => lv_i2b hx hb hd rfl (k H locs lsC hR hS hl a1 a2)
theorem sd_i2c {pc : Nat} {ls : mx_L} {st : List Value} {h : mx_H} (X : mx_X xs P G p R s m args meth c y cc nL D ta base sk dd Ts h0) {x : Int32} (hd : decode cc pc = .ok (.i2c, 1)) (k : mx_W p l e R s m args below meth c D ta base sk h0 nL Q (pc + 1) (ls) (.int (x.toUInt32 % 65536).toInt32 :: st) (h)) : mx_W p l e R s m args below meth c D ta base sk h0 nL Q (pc) (ls) (.int x :: st) (h) := by
  obtain ⟨⟨hx, hb, hml, hown, hts⟩, hini, hC, hz0, hsk, hWS, hGd, hfr, hlo⟩ := X
  exact fun H locs lsC hR hS hl a1 a2 => lv_i2c hx hb hd rfl (k H locs lsC hR hS hl a1 a2)
theorem sd_dup {pc : Nat} {ls : mx_L} {st : List Value} {h : mx_H} (X : mx_X xs P G p R s m args meth c y cc nL D ta base sk dd Ts h0) {v : Value} (hv : v.category = 1) (hd : decode cc pc = .ok (.dup, 1)) (k : mx_W p l e R s m args below meth c D ta base sk h0 nL Q (pc + 1) (ls) (v :: v :: st) (h)) : mx_W p l e R s m args below meth c D ta base sk h0 nL Q (pc) (ls) (v :: st) (h) := by
  obtain ⟨⟨hx, hb, hml, hown, hts⟩, hini, hC, hz0, hsk, hWS, hGd, hfr, hlo⟩ := X
  exact fun H locs lsC hR hS hl a1 a2 => lv_dup hx hb hd ((mx_cat hsk _).trans hv) (k H locs lsC hR hS hl a1 a2)
theorem sd_dup2 {pc : Nat} {ls : mx_L} {st : List Value} {h : mx_H} (X : mx_X xs P G p R s m args meth c y cc nL D ta base sk dd Ts h0) {v w : Value} (hv : v.category = 1) (hw : w.category = 1) (hd : decode cc pc = .ok (.dup2, 1)) (k : mx_W p l e R s m args below meth c D ta base sk h0 nL Q (pc + 1) (ls) (v :: w :: v :: w :: st) (h)) : mx_W p l e R s m args below meth c D ta base sk h0 nL Q (pc) (ls) (v :: w :: st) (h) := by
  obtain ⟨⟨hx, hb, hml, hown, hts⟩, hini, hC, hz0, hsk, hWS, hGd, hfr, hlo⟩ := X
  exact fun H locs lsC hR hS hl a1 a2 => lv_dup2_11 hx hb hd ((mx_cat hsk _).trans hv) ((mx_cat hsk _).trans hw) (k H locs lsC hR hS hl a1 a2)
theorem sd_pop {pc : Nat} {ls : mx_L} {st : List Value} {h : mx_H} (X : mx_X xs P G p R s m args meth c y cc nL D ta base sk dd Ts h0) {v : Value} (hv : v.category = 1) (hd : decode cc pc = .ok (.pop, 1)) (k : mx_W p l e R s m args below meth c D ta base sk h0 nL Q (pc + 1) (ls) (st) (h)) : mx_W p l e R s m args below meth c D ta base sk h0 nL Q (pc) (ls) (v :: st) (h) := by
  obtain ⟨⟨hx, hb, hml, hown, hts⟩, hini, hC, hz0, hsk, hWS, hGd, hfr, hlo⟩ := X
  exact fun H locs lsC hR hS hl a1 a2 => lv_pop hx hb hd ((mx_cat hsk _).trans hv) (k H locs lsC hR hS hl a1 a2)
theorem sd_iload {pc : Nat} {ls : mx_L} {st : List Value} {h : mx_H} (X : mx_X xs P G p R s m args meth c y cc nL D ta base sk dd Ts h0) {i : Nat} {x : Int32} (hv : mx_ld ls i = some (.int x)) (hd : decode cc pc = .ok (.iload i, 2)) (k : mx_W p l e R s m args below meth c D ta base sk h0 nL Q (pc + 2) (ls) (.int x :: st) (h)) : mx_W p l e R s m args below meth c D ta base sk h0 nL Q (pc) (ls) (st) (h) := by
  obtain ⟨⟨hx, hb, hml, hown, hts⟩, hini, hC, hz0, hsk, hWS, hGd, hfr, hlo⟩ := X
  exact fun H locs lsC hR hS hl a1 a2 => lv_iload hx hb hd (hl.2.2 _ (List.mem_map_of_mem (f := mx_g base sk) (mx_ld_mem hv))) (k H locs lsC hR hS hl a1 a2)
theorem sd_iload_n {pc : Nat} {ls : mx_L} {st : List Value} {h : mx_H} (X : mx_X xs P G p R s m args meth c y cc nL D ta base sk dd Ts h0) {n : Fin 4} {x : Int32} (hv : mx_ld ls n.val = some (.int x)) (hd : decode cc pc = .ok (.iload_n n, 1)) (k : mx_W p l e R s m args below meth c D ta base sk h0 nL Q (pc + 1) (ls) (.int x :: st) (h)) : mx_W p l e R s m args below meth c D ta base sk h0 nL Q (pc) (ls) (st) (h) := by
  obtain ⟨⟨hx, hb, hml, hown, hts⟩, hini, hC, hz0, hsk, hWS, hGd, hfr, hlo⟩ := X
  exact fun H locs lsC hR hS hl a1 a2 => lv_iload_n hx hb hd rfl (hl.2.2 _ (List.mem_map_of_mem (f := mx_g base sk) (mx_ld_mem hv))) (k H locs lsC hR hS hl a1 a2)
theorem sd_aload {pc : Nat} {ls : mx_L} {st : List Value} {h : mx_H} (X : mx_X xs P G p R s m args meth c y cc nL D ta base sk dd Ts h0) {i : Nat} {v : Value} (hv : mx_ld ls i = some v) (hr : mx_isr v) (hd : decode cc pc = .ok (.aload i, 2)) (k : mx_W p l e R s m args below meth c D ta base sk h0 nL Q (pc + 2) (ls) (v :: st) (h)) : mx_W p l e R s m args below meth c D ta base sk h0 nL Q (pc) (ls) (st) (h) := by
  obtain ⟨⟨hx, hb, hml, hown, hts⟩, hini, hC, hz0, hsk, hWS, hGd, hfr, hlo⟩ := X
  intro H locs lsC hR hS hl a1 a2
  have hg : lsC[i]? = some (.val (mx_cv base sk v)) := hl.2.2 _ (List.mem_map_of_mem (f := mx_g base sk) (mx_ld_mem hv))
  have k2 := k H locs lsC hR hS hl a1 a2
  rw [List.map_cons] at k2
  rcases isr_cv (base := base) hsk hr with h1 | ⟨a, h1⟩
  · rw [h1] at hg k2
    exact lv_aloadN hx hb hd hg k2
  · rw [h1] at hg k2
    exact lv_aload hx hb hd hg k2
theorem sd_aload_n {pc : Nat} {ls : mx_L} {st : List Value} {h : mx_H} (X : mx_X xs P G p R s m args meth c y cc nL D ta base sk dd Ts h0) {n : Fin 4} {v : Value} (hv : mx_ld ls n.val = some v) (hr : mx_isr v) (hd : decode cc pc = .ok (.aload_n n, 1)) (k : mx_W p l e R s m args below meth c D ta base sk h0 nL Q (pc + 1) (ls) (v :: st) (h)) : mx_W p l e R s m args below meth c D ta base sk h0 nL Q (pc) (ls) (st) (h) := by
  obtain ⟨⟨hx, hb, hml, hown, hts⟩, hini, hC, hz0, hsk, hWS, hGd, hfr, hlo⟩ := X
  intro H locs lsC hR hS hl a1 a2
  have hg : lsC[n.val]? = some (.val (mx_cv base sk v)) := hl.2.2 _ (List.mem_map_of_mem (f := mx_g base sk) (mx_ld_mem hv))
  have k2 := k H locs lsC hR hS hl a1 a2
  rw [List.map_cons] at k2
  rcases isr_cv (base := base) hsk hr with h1 | ⟨a, h1⟩
  · rw [h1] at hg k2
    exact lv_aload_nN hx hb hd rfl hg k2
  · rw [h1] at hg k2
    exact lv_aload_n hx hb hd rfl hg k2
theorem sd_istore {pc : Nat} {ls : mx_L} {st : List Value} {h : mx_H} (X : mx_X xs P G p R s m args meth c y cc nL D ta base sk dd Ts h0) {i : Nat} {x : Int32} (hn : i < nL) (hd : decode cc pc = .ok (.istore i, 2)) (k : mx_W p l e R s m args below meth c D ta base sk h0 nL Q (pc + 2) (mx_st ls i (.int x)) (st) (h)) : mx_W p l e R s m args below meth c D ta base sk h0 nL Q (pc) (ls) (.int x :: st) (h) := by
  obtain ⟨⟨hx, hb, hml, hown, hts⟩, hini, hC, hz0, hsk, hWS, hGd, hfr, hlo⟩ := X
  exact fun H locs lsC hR hS hl a1 a2 => lv_istore hx hb hd hl hn (mx_st_map hsk ls _ (.int x)) (fun ls2 hl2 => k H locs ls2 hR hS hl2 a1 a2)
theorem sd_istore_n {pc : Nat} {ls : mx_L} {st : List Value} {h : mx_H} (X : mx_X xs P G p R s m args meth c y cc nL D ta base sk dd Ts h0) {n : Fin 4} {x : Int32} (hn : n.val < nL) (hd : decode cc pc = .ok (.istore_n n, 1)) (k : mx_W p l e R s m args below meth c D ta base sk h0 nL Q (pc + 1) (mx_st ls n.val (.int x)) (st) (h)) : mx_W p l e R s m args below meth c D ta base sk h0 nL Q (pc) (ls) (.int x :: st) (h) := by
  obtain ⟨⟨hx, hb, hml, hown, hts⟩, hini, hC, hz0, hsk, hWS, hGd, hfr, hlo⟩ := X
  exact fun H locs lsC hR hS hl a1 a2 => lv_istore_n hx hb hd rfl hl hn (mx_st_map hsk ls _ (.int x)) (fun ls2 hl2 => k H locs ls2 hR hS hl2 a1 a2)
theorem sd_astore {pc : Nat} {ls : mx_L} {st : List Value} {h : mx_H} (X : mx_X xs P G p R s m args meth c y cc nL D ta base sk dd Ts h0) {i : Nat} {v : Value} (hn : i < nL) (hr : mx_isr v) (hd : decode cc pc = .ok (.astore i, 2)) (k : mx_W p l e R s m args below meth c D ta base sk h0 nL Q (pc + 2) (mx_st ls i v) (st) (h)) : mx_W p l e R s m args below meth c D ta base sk h0 nL Q (pc) (ls) (v :: st) (h) := by
  obtain ⟨⟨hx, hb, hml, hown, hts⟩, hini, hC, hz0, hsk, hWS, hGd, hfr, hlo⟩ := X
  intro H locs lsC hR hS hl a1 a2
  have hm := mx_st_map hsk ls i v (base := base)
  rw [List.map_cons]
  rcases isr_cv (base := base) hsk hr with h1 | ⟨a, h1⟩
  · rw [h1] at hm ⊢
    exact lv_astoreN hx hb hd hl hn hm (fun ls2 hl2 => k H locs ls2 hR hS hl2 a1 a2)
  · rw [h1] at hm ⊢
    exact lv_astore hx hb hd hl hn hm (fun ls2 hl2 => k H locs ls2 hR hS hl2 a1 a2)
theorem sd_astore_n {pc : Nat} {ls : mx_L} {st : List Value} {h : mx_H} (X : mx_X xs P G p R s m args meth c y cc nL D ta base sk dd Ts h0) {n : Fin 4} {v : Value} (hn : n.val < nL) (hr : mx_isr v) (hd : decode cc pc = .ok (.astore_n n, 1)) (k : mx_W p l e R s m args below meth c D ta base sk h0 nL Q (pc + 1) (mx_st ls n.val v) (st) (h)) : mx_W p l e R s m args below meth c D ta base sk h0 nL Q (pc) (ls) (v :: st) (h) := by
  obtain ⟨⟨hx, hb, hml, hown, hts⟩, hini, hC, hz0, hsk, hWS, hGd, hfr, hlo⟩ := X
  intro H locs lsC hR hS hl a1 a2
  have hm := mx_st_map hsk ls n.val v (base := base)
  rw [List.map_cons]
  rcases isr_cv (base := base) hsk hr with h1 | ⟨a, h1⟩
  · rw [h1] at hm ⊢
    exact lv_astore_nN hx hb hd rfl hl hn hm (fun ls2 hl2 => k H locs ls2 hR hS hl2 a1 a2)
  · rw [h1] at hm ⊢
    exact lv_astore_n hx hb hd rfl hl hn hm (fun ls2 hl2 => k H locs ls2 hR hS hl2 a1 a2)
theorem sd_iinc {pc : Nat} {ls : mx_L} {st : List Value} {h : mx_H} (X : mx_X xs P G p R s m args meth c y cc nL D ta base sk dd Ts h0) {i : Nat} {n : Int} {x v : Int32} (hn : i < nL) (hv : mx_ld ls i = some (.int x)) (hc : Int32.ofInt n = v) (hd : decode cc pc = .ok (.iinc i n, 3)) (k : mx_W p l e R s m args below meth c D ta base sk h0 nL Q (pc + 3) (mx_st ls i (.int (x + v))) (st) (h)) : mx_W p l e R s m args below meth c D ta base sk h0 nL Q (pc) (ls) (st) (h) := by
  obtain ⟨⟨hx, hb, hml, hown, hts⟩, hini, hC, hz0, hsk, hWS, hGd, hfr, hlo⟩ := X
  intro H locs lsC hR hS hl a1 a2
  obtain ⟨j, hj⟩ := List.getElem?_of_mem (List.mem_map_of_mem (f := mx_g base sk) (mx_ld_mem hv))
  subst hc
  exact lv_iinc hx hb hd hl hj rfl hn (mx_st_map hsk ls i (.int (x + Int32.ofInt n))) (fun ls2 hl2 => k H locs ls2 hR hS hl2 a1 a2)
theorem sd_goto {pc : Nat} {ls : mx_L} {st : List Value} {h : mx_H} (X : mx_X xs P G p R s m args meth c y cc nL D ta base sk dd Ts h0) {off : Int} {a : Nat} (ht : (pc : Int) + off = (a : Int)) (hd : decode cc pc = .ok (.goto off, 3)) (k : mx_W p l e R s m args below meth c D ta base sk h0 nL Q (a) (ls) (st) (h)) : mx_W p l e R s m args below meth c D ta base sk h0 nL Q (pc) (ls) (st) (h) := by
  obtain ⟨⟨hx, hb, hml, hown, hts⟩, hini, hC, hz0, hsk, hWS, hGd, hfr, hlo⟩ := X
  exact fun H locs lsC hR hS hl a1 a2 => lv_goto hx hb hd ht (k H locs lsC hR hS hl a1 a2)
theorem sd_icmp {pc : Nat} {ls : mx_L} {st : List Value} {h : mx_H} (X : mx_X xs P G p R s m args meth c y cc nL D ta base sk dd Ts h0) {cd : Jvm.ClassFile.Cond} {off : Int} {a : Nat} {x z : Int32} {A B : mx_R} {q : Option Value × mx_H} (ht : (pc : Int) + off = (a : Int)) (hd : decode cc pc = .ok (.if_icmp cd off, 3)) (hq : mx_ic cd x z A B = some q) (kA : A = some q → mx_W p l e R s m args below meth c D ta base sk h0 nL Q (a) (ls) (st) (h)) (kB : B = some q → mx_W p l e R s m args below meth c D ta base sk h0 nL Q (pc + 3) (ls) (st) (h)) : mx_W p l e R s m args below meth c D ta base sk h0 nL Q (pc) (ls) (.int z :: .int x :: st) (h) := by
  obtain ⟨⟨hx, hb, hml, hown, hts⟩, hini, hC, hz0, hsk, hWS, hGd, hfr, hlo⟩ := X
  intro H locs lsC hR hS hl a1 a2
  cases cd with
  | eq => exact lv_icmp_eq hx hb hd ht (fun c => kA (by simpa [mx_ic, c] using hq) H locs lsC hR hS hl a1 a2) (fun c => kB (by simpa [mx_ic, c] using hq) H locs lsC hR hS hl a1 a2)
  | ne => exact lv_icmp_ne hx hb hd ht (fun c => kA (by simpa [mx_ic, c] using hq) H locs lsC hR hS hl a1 a2) (fun c => kB (by simpa [mx_ic, c] using hq) H locs lsC hR hS hl a1 a2)
  | lt => exact lv_icmp_lt hx hb hd ht (fun c => kA (by unfold mx_ic at hq; rw [if_pos c] at hq; exact hq) H locs lsC hR hS hl a1 a2) (fun c => kB (by unfold mx_ic at hq; rw [if_neg c] at hq; exact hq) H locs lsC hR hS hl a1 a2)
  | ge => exact lv_icmp_ge hx hb hd ht (fun c => kA (by unfold mx_ic at hq; rw [if_pos c] at hq; exact hq) H locs lsC hR hS hl a1 a2) (fun c => kB (by unfold mx_ic at hq; rw [if_neg c] at hq; exact hq) H locs lsC hR hS hl a1 a2)
  | gt => exact lv_icmp_gt hx hb hd ht (fun c => kA (by unfold mx_ic at hq; rw [if_pos c] at hq; exact hq) H locs lsC hR hS hl a1 a2) (fun c => kB (by unfold mx_ic at hq; rw [if_neg c] at hq; exact hq) H locs lsC hR hS hl a1 a2)
  | le => exact lv_icmp_le hx hb hd ht (fun c => kA (by unfold mx_ic at hq; rw [if_pos c] at hq; exact hq) H locs lsC hR hS hl a1 a2) (fun c => kB (by unfold mx_ic at hq; rw [if_neg c] at hq; exact hq) H locs lsC hR hS hl a1 a2)
theorem sd_ifc {pc : Nat} {ls : mx_L} {st : List Value} {h : mx_H} (X : mx_X xs P G p R s m args meth c y cc nL D ta base sk dd Ts h0) {cd : Jvm.ClassFile.Cond} {off : Int} {a : Nat} {x : Int32} {A B : mx_R} {q : Option Value × mx_H} (ht : (pc : Int) + off = (a : Int)) (hd : decode cc pc = .ok (.ifCond cd off, 3)) (hq : mx_ic cd x 0 A B = some q) (kA : A = some q → mx_W p l e R s m args below meth c D ta base sk h0 nL Q (a) (ls) (st) (h)) (kB : B = some q → mx_W p l e R s m args below meth c D ta base sk h0 nL Q (pc + 3) (ls) (st) (h)) : mx_W p l e R s m args below meth c D ta base sk h0 nL Q (pc) (ls) (.int x :: st) (h) := by
  obtain ⟨⟨hx, hb, hml, hown, hts⟩, hini, hC, hz0, hsk, hWS, hGd, hfr, hlo⟩ := X
  intro H locs lsC hR hS hl a1 a2
  cases cd with
  | eq => exact lv_if_eq hx hb hd ht (fun c => kA (by simpa [mx_ic, c] using hq) H locs lsC hR hS hl a1 a2) (fun c => kB (by simpa [mx_ic, c] using hq) H locs lsC hR hS hl a1 a2)
  | ne => exact lv_if_ne hx hb hd ht (fun c => kA (by simpa [mx_ic, c] using hq) H locs lsC hR hS hl a1 a2) (fun c => kB (by simpa [mx_ic, c] using hq) H locs lsC hR hS hl a1 a2)
  | lt => exact lv_if_lt hx hb hd ht (fun c => kA (by unfold mx_ic at hq; rw [if_pos c] at hq; exact hq) H locs lsC hR hS hl a1 a2) (fun c => kB (by unfold mx_ic at hq; rw [if_neg c] at hq; exact hq) H locs lsC hR hS hl a1 a2)
  | ge => exact lv_if_ge hx hb hd ht (fun c => kA (by unfold mx_ic at hq; rw [if_pos c] at hq; exact hq) H locs lsC hR hS hl a1 a2) (fun c => kB (by unfold mx_ic at hq; rw [if_neg c] at hq; exact hq) H locs lsC hR hS hl a1 a2)
  | gt => exact lv_if_gt hx hb hd ht (fun c => kA (by unfold mx_ic at hq; rw [if_pos c] at hq; exact hq) H locs lsC hR hS hl a1 a2) (fun c => kB (by unfold mx_ic at hq; rw [if_neg c] at hq; exact hq) H locs lsC hR hS hl a1 a2)
  | le => exact lv_if_le hx hb hd ht (fun c => kA (by unfold mx_ic at hq; rw [if_pos c] at hq; exact hq) H locs lsC hR hS hl a1 a2) (fun c => kB (by unfold mx_ic at hq; rw [if_neg c] at hq; exact hq) H locs lsC hR hS hl a1 a2)
theorem sd_ifnull0 {pc : Nat} {ls : mx_L} {st : List Value} {h : mx_H} (X : mx_X xs P G p R s m args meth c y cc nL D ta base sk dd Ts h0) {off : Int} {a x : Nat} (ht : (pc : Int) + off = (a : Int)) (hd : decode cc pc = .ok (.ifnull off, 3)) (k : mx_W p l e R s m args below meth c D ta base sk h0 nL Q (a) (ls) (st) (h)) : mx_W p l e R s m args below meth c D ta base sk h0 nL Q (pc) (ls) (.null :: st) (h) := by
  obtain ⟨⟨hx, hb, hml, hown, hts⟩, hini, hC, hz0, hsk, hWS, hGd, hfr, hlo⟩ := X
  exact fun H locs lsC hR hS hl a1 a2 => lv_ifnullN hx hb hd ht (k H locs lsC hR hS hl a1 a2)
theorem sd_ifnull1 {pc : Nat} {ls : mx_L} {st : List Value} {h : mx_H} (X : mx_X xs P G p R s m args meth c y cc nL D ta base sk dd Ts h0) {off : Int} {a x : Nat} (ht : (pc : Int) + off = (a : Int)) (hd : decode cc pc = .ok (.ifnull off, 3)) (k : mx_W p l e R s m args below meth c D ta base sk h0 nL Q (pc + 3) (ls) (st) (h)) : mx_W p l e R s m args below meth c D ta base sk h0 nL Q (pc) (ls) (.ref x :: st) (h) := by
  obtain ⟨⟨hx, hb, hml, hown, hts⟩, hini, hC, hz0, hsk, hWS, hGd, hfr, hlo⟩ := X
  exact fun H locs lsC hR hS hl a1 a2 => lv_ifnull hx hb hd (k H locs lsC hR hS hl a1 a2)
theorem sd_ifnn0 {pc : Nat} {ls : mx_L} {st : List Value} {h : mx_H} (X : mx_X xs P G p R s m args meth c y cc nL D ta base sk dd Ts h0) {off : Int} {a x : Nat} (ht : (pc : Int) + off = (a : Int)) (hd : decode cc pc = .ok (.ifnonnull off, 3)) (k : mx_W p l e R s m args below meth c D ta base sk h0 nL Q (pc + 3) (ls) (st) (h)) : mx_W p l e R s m args below meth c D ta base sk h0 nL Q (pc) (ls) (.null :: st) (h) := by
  obtain ⟨⟨hx, hb, hml, hown, hts⟩, hini, hC, hz0, hsk, hWS, hGd, hfr, hlo⟩ := X
  exact fun H locs lsC hR hS hl a1 a2 => lv_ifnonnullN hx hb hd (k H locs lsC hR hS hl a1 a2)
theorem sd_ifnn1 {pc : Nat} {ls : mx_L} {st : List Value} {h : mx_H} (X : mx_X xs P G p R s m args meth c y cc nL D ta base sk dd Ts h0) {off : Int} {a x : Nat} (ht : (pc : Int) + off = (a : Int)) (hd : decode cc pc = .ok (.ifnonnull off, 3)) (k : mx_W p l e R s m args below meth c D ta base sk h0 nL Q (a) (ls) (st) (h)) : mx_W p l e R s m args below meth c D ta base sk h0 nL Q (pc) (ls) (.ref x :: st) (h) := by
  obtain ⟨⟨hx, hb, hml, hown, hts⟩, hini, hC, hz0, hsk, hWS, hGd, hfr, hlo⟩ := X
  exact fun H locs lsC hR hS hl a1 a2 => lv_ifnonnull hx hb hd ht (k H locs lsC hR hS hl a1 a2)
theorem sw_tb {pc : Nat} {x : Int32} {f : Nat → mx_R} {d : mx_R} {q : Option Value × mx_H} : ∀ {lo : Int} {os : List Int} {cs : List (Int32 × Nat)}, mx_tb pc lo os cs = true → mx_sw cs x f d = some q → (∃ (i : Nat) (o : Int) (t : Nat), os[i]? = some o ∧ x.toInt = lo + i ∧ (pc : Int) + o = (t : Int) ∧ f t = some q) ∨ ((x.toInt < lo ∨ lo + os.length ≤ x.toInt) ∧ d = some q)
  | lo, [], [], _, hq => Or.inr ⟨by simp; omega, hq⟩
  | lo, o :: os, (v, t) :: cs, hb, hq => by
    simp only [mx_tb, Bool.and_eq_true, decide_eq_true_eq] at hb
    unfold mx_sw at hq
    split at hq
    · rename_i hx
      exact Or.inl ⟨0, o, t, rfl, by rw [hx, hb.1.1]; simp, hb.1.2, hq⟩
    · rename_i hx
      rcases sw_tb hb.2 hq with ⟨i, o', t', h1, h2, h3, h4⟩ | ⟨h1, h2⟩
      · exact Or.inl ⟨i + 1, o', t', by simpa using h1, by rw [h2]; push_cast; omega, h3, h4⟩
      · refine Or.inr ⟨?_, h2⟩
        have hne : x.toInt ≠ lo := fun e => hx (Int32.toInt_inj.mp (by rw [e, hb.1.1]))
        simp only [List.length_cons]
        push_cast
        omega
  | _, [], _ :: _, hb, _ => by simp [mx_tb] at hb
  | _, _ :: _, [], hb, _ => by simp [mx_tb] at hb
theorem sw_lk {pc a : Nat} {dflt : Int} {x : Int32} {f : Nat → mx_R} {d : mx_R} {q : Option Value × mx_H} (ha : (pc : Int) + dflt = (a : Int)) : ∀ {ps : List (Int × Int)} {cs : List (Int32 × Nat)}, mx_lk pc ps cs = true → mx_sw cs x f d = some q → ∃ (o : Int) (t : Nat), Op.lookupswitch.offset ps dflt x.toInt = o ∧ (pc : Int) + o = (t : Int) ∧ (f t = some q ∨ (t = a ∧ d = some q))
  | [], [], _, hq => ⟨dflt, a, rfl, ha, Or.inr ⟨rfl, hq⟩⟩
  | (n, o) :: ps, (v, t) :: cs, hb, hq => by
    simp only [mx_lk, Bool.and_eq_true, decide_eq_true_eq] at hb
    unfold mx_sw at hq
    split at hq
    · rename_i hx
      exact ⟨o, t, by rw [Op.lookupswitch.offset_cons, if_pos]; rw [hx, hb.1.1], hb.1.2, Or.inl hq⟩
    · rename_i hx
      obtain ⟨o', t', h1, h2, h3⟩ := sw_lk ha hb.2 hq
      exact ⟨o', t', by rw [lv_osw hx hb.1.1]; exact h1, h2, h3⟩
  | [], _ :: _, hb, _ => by simp [mx_lk] at hb
  | _ :: _, [], hb, _ => by simp [mx_lk] at hb
theorem sd_tsw {pc : Nat} {ls : mx_L} {st : List Value} {h : mx_H} (X : mx_X xs P G p R s m args meth c y cc nL D ta base sk dd Ts h0) {dflt lo hi : Int} {offs : Array Int} {len a : Nat} {cs : List (Int32 × Nat)} {x : Int32} {f : Nat → mx_R} {d : mx_R} {q : Option Value × mx_H} (ht : (pc : Int) + dflt = (a : Int)) (hn : hi + 1 = lo + (offs.toList.length : Int)) (htb : mx_tb pc lo offs.toList cs = true) (hd : decode cc pc = .ok (.tableswitch dflt lo hi offs, len)) (hq : mx_sw cs x f d = some q) (kf : ∀ t, f t = some q → mx_W p l e R s m args below meth c D ta base sk h0 nL Q (t) (ls) (st) (h)) (kd : d = some q → mx_W p l e R s m args below meth c D ta base sk h0 nL Q (a) (ls) (st) (h)) : mx_W p l e R s m args below meth c D ta base sk h0 nL Q (pc) (ls) (.int x :: st) (h) := by
  obtain ⟨⟨hx, hb, hml, hown, hts⟩, hini, hC, hz0, hsk, hWS, hGd, hfr, hlo⟩ := X
  intro H locs lsC hR hS hl a1 a2
  rcases sw_tb htb hq with ⟨i, o, t, h1, h2, h3, h4⟩ | ⟨h1, h2⟩
  · have hi2 : i < offs.toList.length := (List.getElem?_eq_some_iff.mp h1).1
    exact lv_tableIn hx hb hd (by omega) (by omega) (by rw [show (x.toInt - lo).toNat = i by omega, ← Array.getElem?_toList]; exact h1) h3 (kf t h4 H locs lsC hR hS hl a1 a2)
  · exact lv_tableOut hx hb hd (by omega) ht (kd h2 H locs lsC hR hS hl a1 a2)
theorem sd_lsw {pc : Nat} {ls : mx_L} {st : List Value} {h : mx_H} (X : mx_X xs P G p R s m args meth c y cc nL D ta base sk dd Ts h0) {dflt : Int} {ps : Array (Int × Int)} {len a : Nat} {cs : List (Int32 × Nat)} {x : Int32} {f : Nat → mx_R} {d : mx_R} {q : Option Value × mx_H} (ht : (pc : Int) + dflt = (a : Int)) (hp : (ps.toList.zip (ps.toList.drop 1)).all (fun (a, next) => a.1 < next.1) = true) (hlk : mx_lk pc ps.toList cs = true) (hd : decode cc pc = .ok (.lookupswitch dflt ps, len)) (hq : mx_sw cs x f d = some q) (kf : ∀ t, f t = some q → mx_W p l e R s m args below meth c D ta base sk h0 nL Q (t) (ls) (st) (h)) (kd : d = some q → mx_W p l e R s m args below meth c D ta base sk h0 nL Q (a) (ls) (st) (h)) : mx_W p l e R s m args below meth c D ta base sk h0 nL Q (pc) (ls) (.int x :: st) (h) := by
  obtain ⟨⟨hx, hb, hml, hown, hts⟩, hini, hC, hz0, hsk, hWS, hGd, hfr, hlo⟩ := X
  intro H locs lsC hR hS hl a1 a2
  obtain ⟨o, t, h1, h2, h3⟩ := sw_lk ht hlk hq
  rcases h3 with h3 | ⟨rfl, h3⟩
  · exact lv_lookup hx hb hd hp h1 h2 (kf t h3 H locs lsC hR hS hl a1 a2)
  · exact lv_lookup hx hb hd hp h1 h2 (kd h3 H locs lsC hR hS hl a1 a2)
end MXS
