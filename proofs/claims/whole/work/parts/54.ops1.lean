/-! ===== calls on one leg ===== -/
def q_add (C : q_C) (a b c : Nat) : q_C := q_mk (C.n + 1) (fun i j => if i = C.n then (if j = 0 then a else if j = 1 then b else if j = 2 then c else 0) else C.L i j) C.ru C.K C.p C.t C.s C.day C.z
theorem q_add_n (C : q_C) (a b c : Nat) : (q_add C a b c).n = (C.n + 1) := mk_n _ _ _ _ _ _ _ _ _
theorem q_add_L (C : q_C) (a b c : Nat) : (q_add C a b c).L = (fun i j => if i = C.n then (if j = 0 then a else if j = 1 then b else if j = 2 then c else 0) else C.L i j) := mk_L _ _ _ _ _ _ _ _ _
theorem q_add_ru (C : q_C) (a b c : Nat) : (q_add C a b c).ru = C.ru := mk_ru _ _ _ _ _ _ _ _ _
theorem q_add_K (C : q_C) (a b c : Nat) : (q_add C a b c).K = C.K := mk_K _ _ _ _ _ _ _ _ _
theorem q_add_p (C : q_C) (a b c : Nat) : (q_add C a b c).p = C.p := mk_p _ _ _ _ _ _ _ _ _
theorem q_add_t (C : q_C) (a b c : Nat) : (q_add C a b c).t = C.t := mk_t _ _ _ _ _ _ _ _ _
theorem q_add_s (C : q_C) (a b c : Nat) : (q_add C a b c).s = C.s := mk_s _ _ _ _ _ _ _ _ _
theorem q_add_day (C : q_C) (a b c : Nat) : (q_add C a b c).day = C.day := mk_day _ _ _ _ _ _ _ _ _
theorem q_add_z (C : q_C) (a b c : Nat) : (q_add C a b c).z = C.z := mk_z _ _ _ _ _ _ _ _ _
section O1
variable {S : List en_S} {σ0 σ σ1 σ2 : Nat → Nat → Int32} {cb d : Nat} {xs : List Int32} {C D : q_C} {G : q_G}
theorem q_ok_add (ok : q_ok C) (hn : C.n < 10) {a b c : Nat} (ha : a ≤ 5) (hb : b ≤ 59) (hc : c ≤ 99) : q_ok (q_add C a b c) := by
  refine ⟨by rw [q_add_n]; omega, fun i hi => ?_, by rw [q_add_ru]; exact ok.r0, by rw [q_add_ru]; exact ok.r1, by rw [q_add_ru]; exact ok.r2, by rw [q_add_ru]; exact ok.r3, by rw [q_add_K]; exact ok.K⟩
  rw [q_add_n] at hi
  rw [q_add_L]
  by_cases e : i = C.n
  · subst e
    simp only [if_true]
    refine ⟨ha, hb, hc, ?_, ?_, ?_⟩ <;> simp
  · simp only [e, if_false]
    exact ok.L i (by omega)
theorem x_addLeg (h : XC S σ0 σ cb C) (hn : C.n < 10) {a b c : Nat} : ∃ σ', mx_ev xs mx_P (d + 2) 22 [.ref cb, .int (nI a), .int (nI b), .int (nI c)] (en S σ) = some (none, en S σ') ∧ XC S σ0 σ' cb (q_add C a b c) := by
  have hl := h.leg hn
  have hr := h.r
  have ht := h.lt
  have hne : cb + 7 + C.n ≠ cb := by omega
  rw [ev_X0_addLeg, en_gi h.cl.1 rfl, hr.n, if_neg (by exact nI_ge (b := 10) hn (by decide)), en_gr h.cl.1 rfl, en_gi h.cl.1 rfl, hr.n, cl_aa h.cl hn, en_cl hl, ev_X1_begin, en_pt hl rfl, en_pt hl rfl, en_pt hl rfl, en_pt hl rfl, en_pt hl rfl, en_pt hl rfl, rv0, c0s, en_gi h.cl.1 rfl, en_up_a (Ne.symm hne), en_up_a (Ne.symm hne), en_up_a (Ne.symm hne), en_up_a (Ne.symm hne), en_up_a (Ne.symm hne), en_up_a (Ne.symm hne), hr.n, nI_1, en_pt h.cl.1 rfl]
  have fo : ∀ c', c' ≠ cb → c' ≠ cb + 7 + C.n → ∀ k, (en_up (en_up (en_up (en_up (en_up (en_up (en_up σ (cb + 7 + C.n) 0 (nI a)) (cb + 7 + C.n) 1 (nI b)) (cb + 7 + C.n) 2 (nI c)) (cb + 7 + C.n) 3 0) (cb + 7 + C.n) 4 0) (cb + 7 + C.n) 5 0) cb 1 (nI (C.n + 1))) c' k = σ c' k := fun c' h1 h2 k => by
    rw [en_up_a h1, en_up_a h2, en_up_a h2, en_up_a h2, en_up_a h2, en_up_a h2, en_up_a h2]
  have fc : ∀ k, k ≠ 1 → (en_up (en_up (en_up (en_up (en_up (en_up (en_up σ (cb + 7 + C.n) 0 (nI a)) (cb + 7 + C.n) 1 (nI b)) (cb + 7 + C.n) 2 (nI c)) (cb + 7 + C.n) 3 0) (cb + 7 + C.n) 4 0) (cb + 7 + C.n) 5 0) cb 1 (nI (C.n + 1))) cb k = σ cb k := fun k hk => by
    rw [en_up_k hk, en_up_a (Ne.symm hne), en_up_a (Ne.symm hne), en_up_a (Ne.symm hne), en_up_a (Ne.symm hne), en_up_a (Ne.symm hne), en_up_a (Ne.symm hne)]
  refine ⟨_, rfl, h.cl, h.lt, ⟨by rw [en_up_s, q_add_n], fun i hi j hj => ?_, fun k hk => by rw [fo _ (by omega) (by omega), q_add_ru]; exact hr.ru k hk, ?_, by rw [fc 6 (by decide), q_add_p]; exact hr.p, by rw [fc 7 (by decide), q_add_t]; exact hr.t, by rw [fc 8 (by decide), q_add_s]; exact hr.s, by rw [fc 9 (by decide), q_add_day]; exact hr.day, by rw [fc 10 (by decide), q_add_z]; exact hr.z⟩, fun b hb => by funext k; rw [fo b (by omega) (by omega)]; exact congrFun (h.fr b hb) k⟩
  · rw [q_add_n] at hi
    rw [q_add_L]
    by_cases e : i = C.n
    · subst e
      rw [en_up_a hne]
      rcases (show j = 0 ∨ j = 1 ∨ j = 2 ∨ j = 3 ∨ j = 4 ∨ j = 5 by omega) with rfl | rfl | rfl | rfl | rfl | rfl <;> simp [en_up_i] <;> rfl
    · rw [fo _ (by omega) (by omega), hr.L i (by omega) j hj]
      simp [e]
  · rw [q_add_K]
    exact hr.K.fr (fc 4 (by decide)) (by funext k; exact fo _ (by omega) (by omega) k) (by funext k; exact fo _ (by omega) (by omega) k) (fun b hb => by funext k; exact fo _ (by omega) (by omega) k)
theorem m_comes (h : MC S σ0 σ C) (hn : C.n < 10) {a b c : Nat} : ∃ σ', mx_ev xs mx_P (d + 2) 147 [.ref 90, .int (nI a), .int (nI b), .int (nI c)] (en S σ) = some (some (.int (nI C.n)), en S σ') ∧ MC S σ0 σ' (q_add C a b c) := by
  have hr := h.r
  rw [ev_X7_comes, en_gr h.mo.o rfl, m_rd h (k := 1) (w := 1) (by decide) rfl, en_gr h.mo.o rfl, m_rd h (k := 1) (w := 1) (by decide) rfl, hr.n, m_wr h (k := 1) (w := 1) (by decide) rfl, nI_1, en_cl h.mo.o, m_put (w := 0) (j := 0) h.mo hn (by decide) rfl, c0s, en_cl h.mo.o, m_put (w := 1) (j := 1) h.mo hn (by decide) rfl, c0s, en_cl h.mo.o, m_put (w := 2) (j := 2) h.mo hn (by decide) rfl, c0s, en_cl h.mo.o, m_put (w := 3) (j := 3) h.mo hn (by decide) rfl, c0s, en_cl h.mo.o, m_put (w := 4) (j := 4) h.mo hn (by decide) rfl, c0s, en_cl h.mo.o, m_put (w := 5) (j := 5) h.mo hn (by decide) rfl, c0s]
  have fo : ∀ k, k ≠ 1 → (∀ j, j < 6 → k ≠ 11 + 6 * C.n + j) → (en_up (en_up (en_up (en_up (en_up (en_up (en_up σ 91 1 (nI (C.n + 1))) 91 (11 + 6 * C.n + 0) (nI a)) 91 (11 + 6 * C.n + 1) (nI b)) 91 (11 + 6 * C.n + 2) (nI c)) 91 (11 + 6 * C.n + 3) 0) 91 (11 + 6 * C.n + 4) 0) 91 (11 + 6 * C.n + 5) 0) 91 k = σ 91 k := fun k h1 h2 => by
    rw [en_up_k (h2 5 (by decide)), en_up_k (h2 4 (by decide)), en_up_k (h2 3 (by decide)), en_up_k (h2 2 (by decide)), en_up_k (h2 1 (by decide)), en_up_k (h2 0 (by decide)), en_up_k h1]
  refine ⟨_, rfl, h.mo, ⟨?_, fun i hi j hj => ?_, fun k hk => by rw [fo _ (by omega) (by omega), q_add_ru]; exact hr.ru k hk, ?_, by rw [fo 7 (by omega) (by omega), q_add_p]; exact hr.p, by rw [fo 8 (by omega) (by omega), q_add_t]; exact hr.t, by rw [fo 9 (by omega) (by omega), q_add_s]; exact hr.s, by rw [fo 2 (by omega) (by omega), q_add_day]; exact hr.day, by rw [fo 0 (by omega) (by omega), q_add_z]; exact hr.z⟩, fun b h1 h2 h3 => ?_⟩
  · rw [en_up_k (by omega), en_up_k (by omega), en_up_k (by omega), en_up_k (by omega), en_up_k (by omega), en_up_k (by omega), en_up_s, q_add_n]
  · rw [q_add_n] at hi
    rw [q_add_L]
    by_cases e : i = C.n
    · subst e
      rcases (show j = 0 ∨ j = 1 ∨ j = 2 ∨ j = 3 ∨ j = 4 ∨ j = 5 by omega) with rfl | rfl | rfl | rfl | rfl | rfl <;> simp [en_up_i] <;> rfl
    · rw [fo _ (by omega) (fun k hk => by omega), hr.L i (by omega) j hj]
      simp [e]
  · rw [q_add_K]
    refine ⟨(fo 10 (by omega) (fun j hj => by omega)).trans hr.K.1, fun t ht => ⟨(fo _ (by omega) (fun j hj => by omega)).trans (hr.K.2 t ht).1, (fo _ (by omega) (fun j hj => by omega)).trans (hr.K.2 t ht).2.1, fun k c hc => (fo _ (by omega) (fun j hj => by omega)).trans ((hr.K.2 t ht).2.2 k c hc)⟩⟩
  · rw [← h.fr b h1 h2 h3]
    funext k
    simp [en_up_i, h1]
theorem t_leg (a1 a2 a3 : Int32) : St xs 83 148 [.int a1, .int a2, .int a3] := by
  intro S σ G hX hM ok
  have h10 := ok.now.n
  rw [ev_X6_leg, x_isKind, c1s]
  rcases q_w_c a1 (h := 5) (z := 5) rfl (by decide) with e1 | ⟨j1, k1, rfl, e1⟩
  · rw [e1, if_pos rfl, ri0]
    refine ⟨σ, σ, _, rfl, ?_, RR_same hX hM ok⟩
    rw [ev_X7_leg, m_in', c1s, e1, if_pos rfl, ri0]
  rcases q_w_c a2 (h := 59) (z := 59) rfl (by decide) with e2 | ⟨j2, k2, rfl, e2⟩
  · rw [e1, if_neg (by decide), x_within, c1s, e2, if_pos rfl, ri0]
    refine ⟨σ, σ, _, rfl, ?_, RR_same hX hM ok⟩
    rw [ev_X7_leg, m_in', c1s, e1, if_neg (by decide), m_in', c1s, e2, if_pos rfl, ri0]
  rcases q_w_c a3 (h := 99) (z := 99) rfl (by decide) with e3 | ⟨j3, k3, rfl, e3⟩
  · rw [e1, if_neg (by decide), x_within, c1s, e2, if_neg (by decide), x_within, c1s, e3, if_pos rfl, ri0]
    refine ⟨σ, σ, _, rfl, ?_, RR_same hX hM ok⟩
    rw [ev_X7_leg, m_in', c1s, e1, if_neg (by decide), m_in', c1s, e2, if_neg (by decide), m_in', c1s, e3, if_pos rfl, ri0]
  rw [e1, if_neg (by decide), x_within, c1s, e2, if_neg (by decide), x_within, c1s, e3, if_neg (by decide), en_gr hX.x.o rfl, en_gi hX.x.c1.1 rfl, hX.now.n]
  by_cases hn : G.now.n < 10
  · obtain ⟨σ1, r1, x1⟩ := x_addLeg (xs := xs) (d := 9) (a := j1) (b := j2) (c := j3) hX.xc hn
    have mm := (hM.aft x1).mc
    obtain ⟨σ2, r2, m2⟩ := m_comes (xs := xs) (d := 9) (a := j1) (b := j2) (c := j3) mm hn
    rw [if_pos (by exact nI_lt (b := 10) hn (by decide)), en_gr hX.x.o rfl, en_cl hX.x.c1.1, r1, c0s, en_gr hX.x.o rfl, en_gi hX.x.c1.1 rfl, x1.r.n, q_add_n, ri0]
    have e : nI (G.now.n + 1) - 1 = nI G.now.n := by rw [show (1 : Int32) = nI 1 from rfl, pk_sub (by omega)]; rfl
    refine ⟨σ1, σ2, _, rfl, ?_, RR_now hX hM ok x1 m2 (q_ok_add ok.now hn k1 k2 k3) (by rw [q_add_day]; exact ok.day)⟩
    rw [ev_X7_leg, m_in', c1s, e1, if_neg (by decide), m_in', c1s, e2, if_neg (by decide), m_in', c1s, e3, if_neg (by decide), en_gr hM.mo.o rfl, m_rd mm (k := 1) (w := 1) (by decide) rfl, mm.r.n, if_neg (fun e => by have := (nI_eq (b := 10) (by omega) (by decide)).mp e; omega), en_cl hM.mo.o, r2, c1s, ri0, e]
  · rw [if_neg (by exact nI_nlt (b := 10) (by omega) (by omega)), ri0]
    refine ⟨σ, σ, _, rfl, ?_, RR_same hX hM ok⟩
    rw [ev_X7_leg, m_in', c1s, e1, if_neg (by decide), m_in', c1s, e2, if_neg (by decide), m_in', c1s, e3, if_neg (by decide), en_gr hM.mo.o rfl, m_rd hM.mc (k := 1) (w := 1) (by decide) rfl, hM.now.n, if_pos (by rw [show G.now.n = 10 by omega]; rfl), ri0]
end O1
