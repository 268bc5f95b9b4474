/-! ===== set, rule, days, closet, count, fee, fine, why, textTold ===== -/
section O3
variable {S : List en_S} {σ0 σ σ1 σ2 : Nat → Nat → Int32} {cb d : Nat} {xs : List Int32} {C D : q_C} {G : q_G}
theorem t_sets (a1 a2 a3 : Int32) : St xs 87 153 [.int a1, .int a2, .int a3] := by
  intro S σ G hX hM ok
  have h10 := ok.now.n
  rw [ev_X6_set, en_gr hX.x.o rfl, en_cl hX.x.c1.1, x_has hX.xc h10, c1s]
  rcases q_hl_c a1 (n := G.now.n) (by omega) with e1 | ⟨i, hi, rfl, e1⟩
  · rw [e1, if_pos rfl, ri0]
    refine ⟨σ, σ, _, rfl, ?_, RR_same hX hM ok⟩
    rw [ev_X7_set, en_cl hM.mo.o, m_isLeg hM.mc h10, c1s, e1, if_pos rfl, if_pos rfl, ri0]
  rw [e1, if_neg (by decide), x_within, c1s]
  rcases q_w_1 a2 (h := 5) (z := 5) rfl (by decide) with e2 | ⟨j, hj0, hj, rfl, e2⟩
  · rw [e2, if_pos rfl, ri0]
    refine ⟨σ, σ, _, rfl, ?_, RR_same hX hM ok⟩
    rw [ev_X7_set, en_cl hM.mo.o, m_isLeg hM.mc h10, c1s, e1, if_neg (by decide), m_in', c1s, e2, if_pos rfl, if_pos rfl, ri0]
  have hl := hX.xc.leg (i := i) (by omega)
  have ei : ((11 : Int32) + 6 * nI i) + nI j = nI (11 + 6 * i + j) := m_ix rfl
  obtain ⟨σt, v, rt, xt, v1, v2, v3, v4, v5⟩ := x_told (xs := xs) (d := 5) (j := j) hX ok hi (by omega)
  obtain ⟨rfl, rfl⟩ := v1 (by omega)
  have fin : ∀ b : Nat, (j = 1 → b ≤ 59) ∧ (j = 2 → b ≤ 99) ∧ (j = 3 → b ≤ 99) ∧ (j = 4 → b ≤ 99) ∧ (j = 5 → b ≤ 9) → RR S (en_up (en_up σt (1 + 7 + i) j (nI b)) 91 (11 + 6 * i + j) (nI b)) := fun b hb => by
    have x1 := hX.xc.put (i := i) (j := j) (v := b) (by omega)
    have m2 := ((hM.aft x1).mc).put (i := i) (j := j) (v := b) (by omega) (by omega)
    exact RR_now hX hM ok x1 m2 (q_ok_pt ok.now (by omega)) (by rw [q_pt_day]; exact ok.day)
  have mmf : ∀ b : Nat, MC S (en_up σt (1 + 7 + i) j (nI b)) (en_up σt (1 + 7 + i) j (nI b)) G.now := fun b => (hM.aft (hX.xc.put (i := i) (j := j) (v := b) (by omega))).mc
  rw [e2, if_neg (by decide)]
  rcases (show j = 1 ∨ j = 2 ∨ j = 3 ∨ j = 4 ∨ j = 5 by omega) with rfl | rfl | rfl | rfl | rfl
  · rw [ev_X6_mostOf, if_pos (by decide), ri0, c1s, x_within, c1s]
    rcases q_w_c a3 (h := 59) (z := 59) rfl (by decide) with e3 | ⟨b, hb, rfl, e3⟩
    · rw [e3, if_pos rfl, ri0]
      refine ⟨σt, σt, _, rfl, ?_, RR_same hX hM ok⟩
      rw [ev_X7_set, en_cl hM.mo.o, m_isLeg hM.mc h10, c1s, e1, if_neg (by decide), m_in', c1s, e2, if_neg (by decide), if_pos (by decide), m_in', c1s, e3, if_pos rfl, if_pos rfl, ri0]
    · rw [e3, if_neg (by decide), en_cl hX.x.o, rt, c1s, en_gr hX.x.o rfl, en_gr hX.x.c1.1 rfl, cl_aa hX.x.c1 (by omega), if_pos (by decide), en_pt hl rfl, ri0]
      refine ⟨_, _, _, rfl, ?_, fin b (by omega)⟩
      rw [ev_X7_set, en_cl hM.mo.o, m_isLeg (mmf b) h10, c1s, e1, if_neg (by decide), m_in', c1s, e2, if_neg (by decide), if_pos (by decide), m_in', c1s, e3, if_neg (by decide), if_neg (by decide), en_cl hM.mo.o, m_swaps (mmf b) ei (by omega), c1s, ri0, (mmf b).r.L i hi _ (by decide)]
  · rw [ev_X6_mostOf, if_neg (by decide), if_neg (by decide), ri0, c1s, x_within, c1s]
    rcases q_w_c a3 (h := 99) (z := 99) rfl (by decide) with e3 | ⟨b, hb, rfl, e3⟩
    · rw [e3, if_pos rfl, ri0]
      refine ⟨σt, σt, _, rfl, ?_, RR_same hX hM ok⟩
      rw [ev_X7_set, en_cl hM.mo.o, m_isLeg hM.mc h10, c1s, e1, if_neg (by decide), m_in', c1s, e2, if_neg (by decide), if_neg (by decide), if_neg (by decide), m_in', c1s, e3, if_pos rfl, if_pos rfl, ri0]
    · rw [e3, if_neg (by decide), en_cl hX.x.o, rt, c1s, en_gr hX.x.o rfl, en_gr hX.x.c1.1 rfl, cl_aa hX.x.c1 (by omega), if_neg (by decide), if_pos (by decide), en_pt hl rfl, ri0]
      refine ⟨_, _, _, rfl, ?_, fin b (by omega)⟩
      rw [ev_X7_set, en_cl hM.mo.o, m_isLeg (mmf b) h10, c1s, e1, if_neg (by decide), m_in', c1s, e2, if_neg (by decide), if_neg (by decide), if_neg (by decide), m_in', c1s, e3, if_neg (by decide), if_neg (by decide), en_cl hM.mo.o, m_swaps (mmf b) ei (by omega), c1s, ri0, (mmf b).r.L i hi _ (by decide)]
  · rw [ev_X6_mostOf, if_neg (by decide), if_neg (by decide), ri0, c1s, x_within, c1s]
    rcases q_w_c a3 (h := 99) (z := 99) rfl (by decide) with e3 | ⟨b, hb, rfl, e3⟩
    · rw [e3, if_pos rfl, ri0]
      refine ⟨σt, σt, _, rfl, ?_, RR_same hX hM ok⟩
      rw [ev_X7_set, en_cl hM.mo.o, m_isLeg hM.mc h10, c1s, e1, if_neg (by decide), m_in', c1s, e2, if_neg (by decide), if_neg (by decide), if_neg (by decide), m_in', c1s, e3, if_pos rfl, if_pos rfl, ri0]
    · rw [e3, if_neg (by decide), en_cl hX.x.o, rt, c1s, en_gr hX.x.o rfl, en_gr hX.x.c1.1 rfl, cl_aa hX.x.c1 (by omega), if_neg (by decide), if_neg (by decide), if_pos (by decide), en_pt hl rfl, ri0]
      refine ⟨_, _, _, rfl, ?_, fin b (by omega)⟩
      rw [ev_X7_set, en_cl hM.mo.o, m_isLeg (mmf b) h10, c1s, e1, if_neg (by decide), m_in', c1s, e2, if_neg (by decide), if_neg (by decide), if_neg (by decide), m_in', c1s, e3, if_neg (by decide), if_neg (by decide), en_cl hM.mo.o, m_swaps (mmf b) ei (by omega), c1s, ri0, (mmf b).r.L i hi _ (by decide)]
  · rw [ev_X6_mostOf, if_neg (by decide), if_neg (by decide), ri0, c1s, x_within, c1s]
    rcases q_w_c a3 (h := 99) (z := 99) rfl (by decide) with e3 | ⟨b, hb, rfl, e3⟩
    · rw [e3, if_pos rfl, ri0]
      refine ⟨σt, σt, _, rfl, ?_, RR_same hX hM ok⟩
      rw [ev_X7_set, en_cl hM.mo.o, m_isLeg hM.mc h10, c1s, e1, if_neg (by decide), m_in', c1s, e2, if_neg (by decide), if_neg (by decide), if_neg (by decide), m_in', c1s, e3, if_pos rfl, if_pos rfl, ri0]
    · rw [e3, if_neg (by decide), en_cl hX.x.o, rt, c1s, en_gr hX.x.o rfl, en_gr hX.x.c1.1 rfl, cl_aa hX.x.c1 (by omega), if_neg (by decide), if_neg (by decide), if_neg (by decide), if_pos (by decide), en_pt hl rfl, ri0]
      refine ⟨_, _, _, rfl, ?_, fin b (by omega)⟩
      rw [ev_X7_set, en_cl hM.mo.o, m_isLeg (mmf b) h10, c1s, e1, if_neg (by decide), m_in', c1s, e2, if_neg (by decide), if_neg (by decide), if_neg (by decide), m_in', c1s, e3, if_neg (by decide), if_neg (by decide), en_cl hM.mo.o, m_swaps (mmf b) ei (by omega), c1s, ri0, (mmf b).r.L i hi _ (by decide)]
  · rw [ev_X6_mostOf, if_neg (by decide), if_pos (by decide), ri0, c1s, x_within, c1s]
    rcases q_w_c a3 (h := 9) (z := 9) rfl (by decide) with e3 | ⟨b, hb, rfl, e3⟩
    · rw [e3, if_pos rfl, ri0]
      refine ⟨σt, σt, _, rfl, ?_, RR_same hX hM ok⟩
      rw [ev_X7_set, en_cl hM.mo.o, m_isLeg hM.mc h10, c1s, e1, if_neg (by decide), m_in', c1s, e2, if_neg (by decide), if_neg (by decide), if_pos (by decide), m_in', c1s, e3, if_pos rfl, if_pos rfl, ri0]
    · rw [e3, if_neg (by decide), en_cl hX.x.o, rt, c1s, en_gr hX.x.o rfl, en_gr hX.x.c1.1 rfl, cl_aa hX.x.c1 (by omega), if_neg (by decide), if_neg (by decide), if_neg (by decide), if_neg (by decide), en_pt hl rfl, ri0]
      refine ⟨_, _, _, rfl, ?_, fin b (by omega)⟩
      rw [ev_X7_set, en_cl hM.mo.o, m_isLeg (mmf b) h10, c1s, e1, if_neg (by decide), m_in', c1s, e2, if_neg (by decide), if_neg (by decide), if_pos (by decide), m_in', c1s, e3, if_neg (by decide), if_neg (by decide), en_cl hM.mo.o, m_swaps (mmf b) ei (by omega), c1s, ri0, (mmf b).r.L i hi _ (by decide)]
theorem t_rule (a1 a2 : Int32) : St xs 90 156 [.int a1, .int a2] := by
  intro S σ G hX hM ok
  rw [ev_X6_rule, x_within, c1s]
  rcases q_w_c a1 (h := 3) (z := 3) rfl (by decide) with e1 | ⟨j, hj, rfl, e1⟩
  · rw [e1, if_pos rfl, ri0]
    refine ⟨σ, σ, _, rfl, ?_, RR_same hX hM ok⟩
    rw [ev_X7_rule, m_in', c1s, e1, if_pos rfl, if_pos rfl, ri0]
  have fin : ∀ b : Nat, (j = 0 → b ≤ 100) ∧ (j = 1 → b ≤ 3) ∧ (j = 2 → b ≤ 99) ∧ (j = 3 → b ≤ 99) → RR S (en_up (en_up σ (1 + 2) j (nI b)) 91 (3 + j) (nI b)) := fun b hb => by
    have x1 := hX.xc.pru (k := j) (v := b)
    have m2 := m_wru ((hM.aft x1).mc) (k := j) (by omega) b
    exact RR_now hX hM ok x1 m2 (q_ok_wr ok.now (by omega)) (by rw [q_wr_day]; exact ok.day)
  have mmf : ∀ b : Nat, MC S (en_up σ (1 + 2) j (nI b)) (en_up σ (1 + 2) j (nI b)) G.now := fun b => (hM.aft (hX.xc.pru (k := j) (v := b))).mc
  have ei : (3 : Int32) + nI j = nI (3 + j) := nI_add 3 j
  rw [e1, if_neg (by decide)]
  rcases (show j = 0 ∨ j = 1 ∨ j = 2 ∨ j = 3 by omega) with rfl | rfl | rfl | rfl
  · rw [show (mx_ck xs 0 201 (nI 0) : (Int32 → mx_R) → mx_R) = fun f => f 100 from rfl]
    show ∃ σ1 σ2 v, mx_c1 (mx_ev xs mx_P 11 127 [.int a2, .int 0, .int 100] (en S σ)) _ = _ ∧ _
    rw [x_within, c1s]
    rcases q_w_c a2 (h := 100) (z := 100) rfl (by decide) with e3 | ⟨b, hb, rfl, e3⟩
    · rw [e3, if_pos rfl, ri0]
      refine ⟨σ, σ, _, rfl, ?_, RR_same hX hM ok⟩
      rw [ev_X7_rule, m_in', c1s, e1, if_neg (by decide), if_pos (by decide), m_in', c1s, e3, if_pos rfl, if_pos rfl, ri0]
    · rw [e3, if_neg (by decide), en_gr hX.x.o rfl, en_gr hX.x.c1.1 rfl, en_aiN hX.x.c1.2.2.1 (by decide) (by decide), en_gr hX.x.o rfl, en_gr hX.x.c1.1 rfl, en_asN hX.x.c1.2.2.1 (by decide) (by decide), ri0, hX.now.ru 0 (by decide)]
      refine ⟨_, _, _, rfl, ?_, fin b (by omega)⟩
      rw [ev_X7_rule, m_in', c1s, e1, if_neg (by decide), if_pos (by decide), m_in', c1s, e3, if_neg (by decide), if_neg (by decide), en_cl hM.mo.o, m_swaps (mmf b) ei (by omega), c1s, ri0, (mmf b).r.ru 0 (by decide)]
  · rw [show (mx_ck xs 0 201 (nI 1) : (Int32 → mx_R) → mx_R) = fun f => f 3 from rfl]
    show ∃ σ1 σ2 v, mx_c1 (mx_ev xs mx_P 11 127 [.int a2, .int 0, .int 3] (en S σ)) _ = _ ∧ _
    rw [x_within, c1s]
    rcases q_w_c a2 (h := 3) (z := 3) rfl (by decide) with e3 | ⟨b, hb, rfl, e3⟩
    · rw [e3, if_pos rfl, ri0]
      refine ⟨σ, σ, _, rfl, ?_, RR_same hX hM ok⟩
      rw [ev_X7_rule, m_in', c1s, e1, if_neg (by decide), if_neg (by decide), if_pos (by decide), m_in', c1s, e3, if_pos rfl, if_pos rfl, ri0]
    · rw [e3, if_neg (by decide), en_gr hX.x.o rfl, en_gr hX.x.c1.1 rfl, en_aiN hX.x.c1.2.2.1 (by decide) (by decide), en_gr hX.x.o rfl, en_gr hX.x.c1.1 rfl, en_asN hX.x.c1.2.2.1 (by decide) (by decide), ri0, hX.now.ru 1 (by decide)]
      refine ⟨_, _, _, rfl, ?_, fin b (by omega)⟩
      rw [ev_X7_rule, m_in', c1s, e1, if_neg (by decide), if_neg (by decide), if_pos (by decide), m_in', c1s, e3, if_neg (by decide), if_neg (by decide), en_cl hM.mo.o, m_swaps (mmf b) ei (by omega), c1s, ri0, (mmf b).r.ru 1 (by decide)]
  · rw [show (mx_ck xs 0 201 (nI 2) : (Int32 → mx_R) → mx_R) = fun f => f 99 from rfl]
    show ∃ σ1 σ2 v, mx_c1 (mx_ev xs mx_P 11 127 [.int a2, .int 0, .int 99] (en S σ)) _ = _ ∧ _
    rw [x_within, c1s]
    rcases q_w_c a2 (h := 99) (z := 99) rfl (by decide) with e3 | ⟨b, hb, rfl, e3⟩
    · rw [e3, if_pos rfl, ri0]
      refine ⟨σ, σ, _, rfl, ?_, RR_same hX hM ok⟩
      rw [ev_X7_rule, m_in', c1s, e1, if_neg (by decide), if_neg (by decide), if_neg (by decide), m_in', c1s, e3, if_pos rfl, if_pos rfl, ri0]
    · rw [e3, if_neg (by decide), en_gr hX.x.o rfl, en_gr hX.x.c1.1 rfl, en_aiN hX.x.c1.2.2.1 (by decide) (by decide), en_gr hX.x.o rfl, en_gr hX.x.c1.1 rfl, en_asN hX.x.c1.2.2.1 (by decide) (by decide), ri0, hX.now.ru 2 (by decide)]
      refine ⟨_, _, _, rfl, ?_, fin b (by omega)⟩
      rw [ev_X7_rule, m_in', c1s, e1, if_neg (by decide), if_neg (by decide), if_neg (by decide), m_in', c1s, e3, if_neg (by decide), if_neg (by decide), en_cl hM.mo.o, m_swaps (mmf b) ei (by omega), c1s, ri0, (mmf b).r.ru 2 (by decide)]
  · rw [show (mx_ck xs 0 201 (nI 3) : (Int32 → mx_R) → mx_R) = fun f => f 99 from rfl]
    show ∃ σ1 σ2 v, mx_c1 (mx_ev xs mx_P 11 127 [.int a2, .int 0, .int 99] (en S σ)) _ = _ ∧ _
    rw [x_within, c1s]
    rcases q_w_c a2 (h := 99) (z := 99) rfl (by decide) with e3 | ⟨b, hb, rfl, e3⟩
    · rw [e3, if_pos rfl, ri0]
      refine ⟨σ, σ, _, rfl, ?_, RR_same hX hM ok⟩
      rw [ev_X7_rule, m_in', c1s, e1, if_neg (by decide), if_neg (by decide), if_neg (by decide), m_in', c1s, e3, if_pos rfl, if_pos rfl, ri0]
    · rw [e3, if_neg (by decide), en_gr hX.x.o rfl, en_gr hX.x.c1.1 rfl, en_aiN hX.x.c1.2.2.1 (by decide) (by decide), en_gr hX.x.o rfl, en_gr hX.x.c1.1 rfl, en_asN hX.x.c1.2.2.1 (by decide) (by decide), ri0, hX.now.ru 3 (by decide)]
      refine ⟨_, _, _, rfl, ?_, fin b (by omega)⟩
      rw [ev_X7_rule, m_in', c1s, e1, if_neg (by decide), if_neg (by decide), if_neg (by decide), m_in', c1s, e3, if_neg (by decide), if_neg (by decide), en_cl hM.mo.o, m_swaps (mmf b) ei (by omega), c1s, ri0, (mmf b).r.ru 3 (by decide)]
theorem x_daysLeft (h : XC S σ0 σ cb C) (hd : C.day ≤ 9999) {m : Nat} (hm : m ≤ 100) : mx_ev xs mx_P (d + 2) 25 [.ref cb, .int (nI m)] (en S σ) = some (some (.int (nI (min m (9999 - C.day)))), en S σ) := by
  have e : (9999 : Int32) - nI C.day = nI (9999 - C.day) := by rw [show (9999 : Int32) = nI 9999 from rfl, pk_sub hd]
  rw [ev_X0_daysLeft, en_gi h.cl.1 rfl, h.r.day, e, q_min xs d _ (by omega) (by omega), c1s, ri0]
theorem t_days (a1 : Int32) : St xs 93 164 [.int a1] := by
  intro S σ G hX hM ok
  have hd := ok.day
  rw [ev_X6_days, x_within, c1s]
  rcases q_w_1 a1 (h := 100) (z := 100) rfl (by decide) with e1 | ⟨m, hm0, hm, rfl, e1⟩
  · rw [e1, if_pos rfl, ri0]
    refine ⟨σ, σ, _, rfl, ?_, RR_same hX hM ok⟩
    rw [ev_X7_days, m_in', c1s, e1, if_pos rfl, ri0]
  obtain ⟨σ1, r1, x1⟩ := x_passDays (xs := xs) (d := 4) (m := min m (9999 - G.now.day)) hX.xc ok.now (by omega) (by omega)
  have mm := (hM.aft x1).mc
  obtain ⟨σ2, r2, m2⟩ := m_goesOn (xs := xs) (d := 4) (m := min m (9999 - G.now.day)) mm ok.now (by omega) (by omega)
  have e : (9999 : Int32) - nI G.now.day = nI (9999 - G.now.day) := by rw [show (9999 : Int32) = nI 9999 from rfl, pk_sub hd]
  rw [e1, if_neg (by decide), en_gr hX.x.o rfl, en_gi hX.x.c1.1 rfl, hX.now.p, en_gr hX.x.o rfl, en_gr hX.x.o rfl, en_cl hX.x.c1.1, x_daysLeft (d := 9) hX.xc hd hm, c1s, en_cl hX.x.c1.1, r1, c0s, en_gr hX.x.o rfl, en_gi hX.x.c1.1 rfl, x1.r.p, ri0]
  refine ⟨σ1, σ2, _, rfl, ?_, RR_now hX hM ok x1 m2 (q_ok_days ok.now _) (by rw [q_days_day]; omega)⟩
  rw [ev_X7_days, m_in', c1s, e1, if_neg (by decide), en_gr hM.mo.o rfl, m_rd mm (k := 7) (w := 7) (by decide) rfl, mm.r.p, en_gr hM.mo.o rfl, m_rd mm (k := 2) (w := 2) (by decide) rfl, mm.r.day, e, m_within xs 10 (lo := 0) (hi := m) (v := 9999 - G.now.day) (y := 0) (z := nI m) _ rfl rfl rfl (by omega) (by omega) (by omega), c1s, show max 0 (min m (9999 - G.now.day)) = min m (9999 - G.now.day) by omega, en_cl hM.mo.o, r2, c0s, en_gr hM.mo.o rfl, m_rd m2 (k := 7) (w := 7) (by decide) rfl, m2.r.p, ri0]
theorem m_dbl_loop (h : MC S σ0 σ C) (ok : q_ok C) : ∀ (m i N : Nat), i + m = C.n → m < N → mx_rn xs (mx_ev xs mx_P (d + 1)) kk_X7_doubled N 4 [(0, .ref 90), (1, .int (q_dbl C.L i)), (2, .int (nI i))] [] (en S σ) = some (some (.int (q_dbl C.L C.n)), en S σ)
  | m, i, 0, _, h2 => absurd h2 (by omega)
  | 0, i, N + 1, h1, _ => by
    rw [rn_X7_doubled_4, en_gr h.mo.o rfl, m_rd h (k := 1) (w := 1) (by decide) rfl, h.r.n, if_pos (by rw [show i = C.n by omega]; exact Int32.le_refl _), show i = C.n by omega]
    rfl
  | m + 1, i, N + 1, h1, h2 => by
    have h10 := ok.n
    have hi : i < C.n := by omega
    have k1 := (ok.L i hi).2.2.2.1
    have ih := m_dbl_loop h ok m (i + 1) N (by omega) (by omega)
    rw [q_dbl_s] at ih
    rw [rn_X7_doubled_4, en_gr h.mo.o rfl, m_rd h (k := 1) (w := 1) (by decide) rfl, h.r.n, if_neg (nI_ge hi (by omega)), en_cl h.mo.o, m_of' h (w := 3) (j := 3) hi h10 (by decide) rfl, c1s, nI_1]
    by_cases e : C.L i 3 = 0
    · rw [e, if_pos (by decide), Int32.or_zero]
      rw [if_pos e] at ih
      exact ih
    · rw [if_neg (nI_nle (by omega) (by omega))]
      rw [if_neg e] at ih
      exact ih
theorem m_doubled (h : MC S σ0 σ C) (ok : q_ok C) : mx_ev xs mx_P (d + 2) 166 [.ref 90] (en S σ) = some (some (.int (q_dbl C.L C.n)), en S σ) := by
  have h10 := ok.n
  rw [ev_X7_doubled]
  exact m_dbl_loop h ok C.n 0 99999 (by omega) (by omega)
theorem t_closet (a1 : Int32) : St xs 94 167 [.int a1] := by
  intro S σ G hX hM ok
  have h10 := ok.now.n
  have nn := hX.now
  have mm := hM.mc
  refine ⟨σ, σ, ?_⟩
  rw [ev_X6_closet, ev_X7_closet]
  by_cases c0 : a1 = 0
  · subst c0
    rw [if_pos rfl, en_gr hX.x.o rfl, en_gi hX.x.c1.1 rfl, nn.p, if_pos rfl, en_gr hM.mo.o rfl, m_rd mm (k := 7) (w := 7 + 0) (by decide) rfl, mm.r.p]
    exact ⟨_, rfl, rfl, RR_same hX hM ok⟩
  by_cases c1 : a1 = 1
  · subst c1
    rw [if_neg (by decide), if_pos rfl, en_gr hX.x.o rfl, en_gi hX.x.c1.1 rfl, nn.t, if_neg (by decide), if_pos rfl, en_gr hM.mo.o rfl, m_rd mm (k := 8) (w := 7 + 1) (by decide) rfl, mm.r.t]
    exact ⟨_, rfl, rfl, RR_same hX hM ok⟩
  by_cases c2 : a1 = 2
  · subst c2
    rw [if_neg (by decide), if_neg (by decide), if_pos rfl, en_gr hX.x.o rfl, en_gi hX.x.c1.1 rfl, nn.s, if_neg (by decide), if_neg (by decide), if_pos rfl, en_gr hM.mo.o rfl, m_rd mm (k := 9) (w := 7 + 2) (by decide) rfl, mm.r.s]
    exact ⟨_, rfl, rfl, RR_same hX hM ok⟩
  by_cases c3 : a1 = 3
  · subst c3
    rw [if_neg (by decide), if_neg (by decide), if_neg (by decide), if_pos rfl, en_gr hX.x.o rfl, en_cl hX.x.c1.1, cl_sharpOfAll hX.x.c1 h10 nn.n nn.L, c1s, if_neg (by decide), if_neg (by decide), if_neg (by decide), if_pos rfl, en_cl hM.mo.o, m_allSharp hM.mo h10 mm.r.n mm.r.L, c1s]
    exact ⟨_, rfl, rfl, RR_same hX hM ok⟩
  by_cases c4 : a1 = 4
  · subst c4
    rw [if_neg (by decide), if_neg (by decide), if_neg (by decide), if_neg (by decide), if_pos rfl, en_gr hX.x.o rfl, en_cl hX.x.c1.1, cl_doubled hX.x.c1 h10 nn.n nn.L ok.now.L, c1s, if_neg (by decide), if_neg (by decide), if_neg (by decide), if_neg (by decide), if_pos rfl, en_cl hM.mo.o, m_doubled mm ok.now, c1s]
    exact ⟨_, rfl, rfl, RR_same hX hM ok⟩
  by_cases c5 : a1 = 5
  · subst c5
    by_cases e : G.now.n = 0
    · rw [if_neg (by decide), if_neg (by decide), if_neg (by decide), if_neg (by decide), if_neg (by decide), if_pos rfl, en_gr hX.x.o rfl, en_gi hX.x.c1.1 rfl, nn.n, if_pos (by rw [e]; rfl), if_neg (by decide), if_neg (by decide), if_neg (by decide), if_neg (by decide), if_neg (by decide), if_pos rfl, en_gr hM.mo.o rfl, m_rd mm (k := 1) (w := 1) (by decide) rfl, mm.r.n, if_pos (by rw [e]; rfl)]
      exact ⟨_, rfl, rfl, RR_same hX hM ok⟩
    · rw [if_neg (by decide), if_neg (by decide), if_neg (by decide), if_neg (by decide), if_neg (by decide), if_pos rfl, en_gr hX.x.o rfl, en_gi hX.x.c1.1 rfl, nn.n, if_neg (q_nz (by omega) (by omega)), en_gr hX.x.o rfl, en_cl hX.x.c1.1, cl_dullest hX.x.c1 (by omega) h10 nn.n nn.L ok.now.L, c1s, if_neg (by decide), if_neg (by decide), if_neg (by decide), if_neg (by decide), if_neg (by decide), if_pos rfl, en_gr hM.mo.o rfl, m_rd mm (k := 1) (w := 1) (by decide) rfl, mm.r.n, if_neg (q_nz (by omega) (by omega)), en_cl hM.mo.o, m_dullest hM.mo (by omega) h10 mm.r.n mm.r.L ok.now.L, c1s]
      exact ⟨_, rfl, rfl, RR_same hX hM ok⟩
  rw [if_neg c0, if_neg c1, if_neg c2, if_neg c3, if_neg c4, if_neg c5, if_neg c0, if_neg c1, if_neg c2, if_neg c3, if_neg c4, if_neg c5]
  exact ⟨_, rfl, rfl, RR_same hX hM ok⟩
theorem t_count (a1 : Int32) : St xs 125 216 [.int a1] := by
  intro S σ G hX hM ok
  have nn := hX.now
  have mm := hM.mc
  refine ⟨σ, σ, ?_⟩
  rw [ev_X6_count, ev_X7_count]
  by_cases c0 : a1 = 0
  · subst c0
    rw [if_pos rfl, en_gr hX.x.o rfl, en_gi hX.x.c1.1 rfl, nn.n, if_pos rfl, en_gr hM.mo.o rfl, m_rd mm (k := 1) (w := 1) (by decide) rfl, mm.r.n]
    exact ⟨_, rfl, rfl, RR_same hX hM ok⟩
  by_cases c1 : a1 = 1
  · subst c1
    rw [if_neg (by decide), if_pos rfl, en_gr hX.x.o rfl, en_gi hX.x.c1.1 rfl, nn.day, if_neg (by decide), if_pos rfl, en_gr hM.mo.o rfl, m_rd mm (k := 2) (w := 2 + 1 - 1) (by decide) rfl, mm.r.day]
    exact ⟨_, rfl, rfl, RR_same hX hM ok⟩
  by_cases c2 : a1 = 2
  · subst c2
    rw [if_neg (by decide), if_neg (by decide), if_pos rfl, en_gr hX.x.o rfl, en_gr hX.x.c1.1 rfl, show (mx_ai (en S σ) (1 + 2) 0 0 : (Int32 → mx_R) → mx_R) = mx_ai (en S σ) (1 + 2) 0 (nI 0) from rfl, en_aiN hX.x.c1.2.2.1 (by decide) (by decide), nn.ru 0 (by decide), if_neg (by decide), if_neg (by decide), if_pos rfl, en_gr hM.mo.o rfl, m_rd mm (k := 3 + 0) (w := 2 + 2 - 1) (by decide) rfl, mm.r.ru 0 (by decide)]
    exact ⟨_, rfl, rfl, RR_same hX hM ok⟩
  by_cases c3 : a1 = 3
  · subst c3
    rw [if_neg (by decide), if_neg (by decide), if_neg (by decide), if_pos rfl, en_gr hX.x.o rfl, en_gr hX.x.c1.1 rfl, show (mx_ai (en S σ) (1 + 2) 0 1 : (Int32 → mx_R) → mx_R) = mx_ai (en S σ) (1 + 2) 0 (nI 1) from rfl, en_aiN hX.x.c1.2.2.1 (by decide) (by decide), nn.ru 1 (by decide), if_neg (by decide), if_neg (by decide), if_neg (by decide), if_pos rfl, en_gr hM.mo.o rfl, m_rd mm (k := 3 + 1) (w := 2 + 3 - 1) (by decide) rfl, mm.r.ru 1 (by decide)]
    exact ⟨_, rfl, rfl, RR_same hX hM ok⟩
  by_cases c4 : a1 = 4
  · subst c4
    rw [if_neg (by decide), if_neg (by decide), if_neg (by decide), if_neg (by decide), if_pos rfl, en_gr hX.x.o rfl, en_gr hX.x.c1.1 rfl, show (mx_ai (en S σ) (1 + 2) 0 2 : (Int32 → mx_R) → mx_R) = mx_ai (en S σ) (1 + 2) 0 (nI 2) from rfl, en_aiN hX.x.c1.2.2.1 (by decide) (by decide), nn.ru 2 (by decide), if_neg (by decide), if_neg (by decide), if_neg (by decide), if_neg (by decide), if_pos rfl, en_gr hM.mo.o rfl, m_rd mm (k := 3 + 2) (w := 2 + 4 - 1) (by decide) rfl, mm.r.ru 2 (by decide)]
    exact ⟨_, rfl, rfl, RR_same hX hM ok⟩
  by_cases c5 : a1 = 5
  · subst c5
    rw [if_neg (by decide), if_neg (by decide), if_neg (by decide), if_neg (by decide), if_neg (by decide), if_pos rfl, en_gr hX.x.o rfl, en_gr hX.x.c1.1 rfl, show (mx_ai (en S σ) (1 + 2) 0 3 : (Int32 → mx_R) → mx_R) = mx_ai (en S σ) (1 + 2) 0 (nI 3) from rfl, en_aiN hX.x.c1.2.2.1 (by decide) (by decide), nn.ru 3 (by decide), if_neg (by decide), if_neg (by decide), if_neg (by decide), if_neg (by decide), if_neg (by decide), if_pos rfl, en_gr hM.mo.o rfl, m_rd mm (k := 3 + 3) (w := 2 + 5 - 1) (by decide) rfl, mm.r.ru 3 (by decide)]
    exact ⟨_, rfl, rfl, RR_same hX hM ok⟩
  by_cases c6 : a1 = 6
  · subst c6
    rw [if_neg (by decide), if_neg (by decide), if_neg (by decide), if_neg (by decide), if_neg (by decide), if_neg (by decide), if_pos rfl, en_gr hX.x.o rfl, en_gi hX.x.c1.1 rfl, nn.K.1, if_neg (by decide), if_neg (by decide), if_neg (by decide), if_neg (by decide), if_neg (by decide), if_neg (by decide), if_pos rfl, en_gr hM.mo.o rfl, m_rd mm (k := 10) (w := 10) (by decide) rfl, show σ 91 10 = nI G.now.K.length from mm.r.K.1]
    exact ⟨_, rfl, rfl, RR_same hX hM ok⟩
  by_cases c7 : a1 = 7
  · subst c7
    rw [if_neg (by decide), if_neg (by decide), if_neg (by decide), if_neg (by decide), if_neg (by decide), if_neg (by decide), if_neg (by decide), if_pos rfl, en_gi hX.x.o rfl, hX.wc, if_neg (by decide), if_neg (by decide), if_neg (by decide), if_neg (by decide), if_neg (by decide), if_neg (by decide), if_neg (by decide), if_pos rfl, en_gi hM.mo.o rfl, hM.wc]
    exact ⟨_, rfl, rfl, RR_same hX hM ok⟩
  by_cases c8 : a1 = 8
  · subst c8
    rw [if_neg (by decide), if_neg (by decide), if_neg (by decide), if_neg (by decide), if_neg (by decide), if_neg (by decide), if_neg (by decide), if_neg (by decide), if_pos rfl, en_gi hX.x.o rfl, hX.tl, if_neg (by decide), if_neg (by decide), if_neg (by decide), if_neg (by decide), if_neg (by decide), if_neg (by decide), if_neg (by decide), if_neg (by decide), if_pos rfl, en_gi hM.mo.o rfl, hM.tl]
    exact ⟨_, rfl, rfl, RR_same hX hM ok⟩
  by_cases c9 : a1 = 9
  · subst c9
    rw [if_neg (by decide), if_neg (by decide), if_neg (by decide), if_neg (by decide), if_neg (by decide), if_neg (by decide), if_neg (by decide), if_neg (by decide), if_neg (by decide), if_pos rfl, en_gr hX.x.o rfl, en_gi hX.x.c1.1 rfl, nn.z, if_neg (by decide), if_neg (by decide), if_neg (by decide), if_neg (by decide), if_neg (by decide), if_neg (by decide), if_neg (by decide), if_neg (by decide), if_neg (by decide), if_pos rfl, en_gr hM.mo.o rfl, m_rd mm (k := 0) (w := 0) (by decide) rfl, mm.r.z]
    exact ⟨_, rfl, rfl, RR_same hX hM ok⟩
  rw [if_neg c0, if_neg c1, if_neg c2, if_neg c3, if_neg c4, if_neg c5, if_neg c6, if_neg c7, if_neg c8, if_neg c9, if_neg c0, if_neg c1, if_neg c2, if_neg c3, if_neg c4, if_neg c5, if_neg c6, if_neg c7, if_neg c8, if_neg c9]
  exact ⟨_, rfl, rfl, RR_same hX hM ok⟩
theorem t_why (a1 : Int32) : St xs 111 198 [.int a1] := by
  intro S σ G hX hM ok
  have h14 := ok.now.K.1
  refine ⟨σ, σ, ?_⟩
  rw [ev_X6_why, ev_X7_why, x_within, c1s, m_in', c1s]
  rcases q_w_c a1 (h := 2) (z := 2) rfl (by decide) with e1 | ⟨j, hj, rfl, e1⟩
  · rw [e1, if_pos rfl, if_pos rfl]
    exact ⟨_, rfl, rfl, RR_same hX hM ok⟩
  · rw [e1, if_neg (by decide), if_neg (by decide), en_gr hX.x.o rfl, en_gr hX.x.c1.1 rfl, en_aiN hX.x.c1.2.2.2.2.1 (by omega) (by decide), hX.now.K.2.2 j (by omega), en_cl hM.mo.o, m_counts hM.mc ok.now (key := j) rfl (by omega), c1s]
    cases hq : q_last G.now.K j with
    | none =>
      rw [show m_cv none = -1 from rfl, if_neg (by decide)]
      exact ⟨_, rfl, rfl, RR_same hX hM ok⟩
    | some t =>
      obtain ⟨ht, _⟩ := q_lst_some hq
      rw [show m_cv (some t) = nI t from rfl, if_pos (nI_pos' (by omega))]
      exact ⟨_, rfl, rfl, RR_same hX hM ok⟩
theorem t_textTold (a1 a2 : Int32) : St xs 110 196 [.int a1, .int a2] := by
  intro S σ G hX hM ok
  have h14 := ok.now.K.1
  refine ⟨σ, σ, ?_⟩
  rw [ev_X6_textTold, ev_X7_textTold, en_gr hX.x.o rfl, en_gi hX.x.c1.1 rfl, hX.now.K.1, en_gr hM.mo.o rfl, m_rd hM.mc (k := 10) (w := 10) (by decide) rfl, show σ 91 10 = nI G.now.K.length from hM.now.K.1, x_within, c1s, m_in', c1s, q_w_hl a1 (by omega)]
  rcases q_hl_c a1 (n := G.now.K.length) (by omega) with e1 | ⟨t, ht, rfl, e1⟩
  · rw [e1, if_pos rfl, if_pos rfl]
    exact ⟨_, rfl, rfl, RR_same hX hM ok⟩
  rw [e1, if_neg (by decide), if_neg (by decide), x_within, c1s, m_in', c1s]
  rcases q_w_c a2 (h := 1) (z := 1) rfl (by decide) with e2 | ⟨j, hj, rfl, e2⟩
  · rw [e2, if_pos rfl, if_pos rfl]
    exact ⟨_, rfl, rfl, RR_same hX hM ok⟩
  obtain ⟨ta, as, k1, k2, k3, k4, k5, k6, k7, k8, k9⟩ := hX.now.K.2.1 t ht
  have hm := hM.now.K.2 t ht
  have hb := ok.now.K.2 t ht
  have ei : (71 : Int32) + 2 * nI t = nI (71 + 2 * t) := by rw [show (71 : Int32) = nI 71 from rfl, show (2 : Int32) = nI 2 from rfl, pk_mul, nI_add]
  have e3 : nI (1000 * (G.now.K.getD t (0, 0, [])).1 + (q_code G.now.K t).length) / 1000 = nI (G.now.K.getD t (0, 0, [])).1 := by
    rw [show (1000 : Int32) = nI 1000 from rfl, pk_div (d := 1000) (by omega) (by decide) (by decide)]
    congr 1
    omega
  rw [e2]
  rcases (show j = 0 ∨ j = 1 by omega) with rfl | rfl
  · rw [if_neg (by decide), if_pos (by decide), if_neg (by decide), if_pos (by decide), en_gr hX.x.o rfl, en_gr hX.x.c1.1 rfl, en_ta hX.x.c1.2.2.2.1 (by decide) (by omega) (by decide) k1 k2, en_gi k5 rfl, k7, en_gr hM.mo.o rfl, ei, en_aiN hM.mo.w (by omega) (by decide), show σ 91 (71 + 2 * t) = _ from hm.1, if_neg (by decide), e3]
    exact ⟨_, rfl, rfl, RR_same hX hM ok⟩
  · rw [if_neg (by decide), if_neg (by decide), if_neg (by decide), if_neg (by decide), en_gr hX.x.o rfl, en_gr hX.x.c1.1 rfl, en_ta hX.x.c1.2.2.2.1 (by decide) (by omega) (by decide) k1 k2, en_gi k5 rfl, k8, en_gr hM.mo.o rfl, ei, nI_1, en_aiN hM.mo.w (by omega) (by decide), show 71 + 2 * t + 1 = 72 + 2 * t by omega, show σ 91 (72 + 2 * t) = _ from hm.2.1]
    exact ⟨_, rfl, rfl, RR_same hX hM ok⟩
def q_nm2 (a b : Int32) : Nat → Int32
  | 0 => a
  | _ => b
/-- what fee and fine give: a law of two names, or the first of them -/
def q_law2 (K : q_K) (key : Nat) (a b : Int32) : Int32 := match q_last K key with
  | none => a
  | some t => q_val (q_nm2 a b) (q_code K t)
theorem XC.side (h : XC S σ0 σ cb C) {σ' : Nat → Nat → Int32} (hf : ∀ b, b ≠ cb + 5 → b ≠ cb + 6 → σ' b = σ b) : XC S σ0 σ' cb C :=
  (h.legs (σ' := σ') (L := C.L) (fun a ha j hj => by rw [hf _ (by omega) (by omega)]; exact h.r.L a ha j hj) (fun b _ h5 h6 => hf b h5 h6)).cg (by simp only [mk_n, mk_L, mk_ru, mk_K, mk_p, mk_t, mk_s, mk_day, mk_z, q_pt_n, q_pt_L, q_pt_ru, q_pt_K, q_pt_p, q_pt_t, q_pt_s, q_pt_day, q_pt_z, q_wearC_n, q_wearC_L, q_wearC_ru, q_wearC_K, q_wearC_p, q_wearC_t, q_wearC_s, q_wearC_day, q_wearC_z, q_drawC_n, q_drawC_L, q_drawC_ru, q_drawC_K, q_drawC_p, q_drawC_t, q_drawC_s, q_drawC_day, q_drawC_z, q_soakC_n, q_soakC_L, q_soakC_ru, q_soakC_K, q_soakC_p, q_soakC_t, q_soakC_s, q_soakC_day, q_soakC_z, q_pressC_n, q_pressC_L, q_pressC_ru, q_pressC_K, q_pressC_p, q_pressC_t, q_pressC_s, q_pressC_day, q_pressC_z, q_tick_n, q_tick_L, q_tick_ru, q_tick_K, q_tick_p, q_tick_t, q_tick_s, q_tick_day, q_tick_z, q_wL_n, q_wL_L, q_wL_ru, q_wL_K, q_wL_p, q_wL_t, q_wL_s, q_wL_day, q_wL_z, q_wp_n, q_wp_L, q_wp_ru, q_wp_K, q_wp_p, q_wp_t, q_wp_s, q_wp_day, q_wp_z, q_wt_n, q_wt_L, q_wt_ru, q_wt_K, q_wt_p, q_wt_t, q_wt_s, q_wt_day, q_wt_z, q_ws_n, q_ws_L, q_ws_ru, q_ws_K, q_ws_p, q_ws_t, q_ws_s, q_ws_day, q_ws_z, q_wz_n, q_wz_L, q_wz_ru, q_wz_K, q_wz_p, q_wz_t, q_wz_s, q_wz_day, q_wz_z, q_wd_n, q_wd_L, q_wd_ru, q_wd_K, q_wd_p, q_wd_t, q_wd_s, q_wd_day, q_wd_z, q_wr_n, q_wr_L, q_wr_ru, q_wr_K, q_wr_p, q_wr_t, q_wr_s, q_wr_day, q_wr_z, q_add_n, q_add_L, q_add_ru, q_add_K, q_add_p, q_add_t, q_add_s, q_add_day, q_add_z]) (fun a ha b hb => by simp only [mk_n, mk_L, mk_ru, mk_K, mk_p, mk_t, mk_s, mk_day, mk_z, q_pt_n, q_pt_L, q_pt_ru, q_pt_K, q_pt_p, q_pt_t, q_pt_s, q_pt_day, q_pt_z, q_wearC_n, q_wearC_L, q_wearC_ru, q_wearC_K, q_wearC_p, q_wearC_t, q_wearC_s, q_wearC_day, q_wearC_z, q_drawC_n, q_drawC_L, q_drawC_ru, q_drawC_K, q_drawC_p, q_drawC_t, q_drawC_s, q_drawC_day, q_drawC_z, q_soakC_n, q_soakC_L, q_soakC_ru, q_soakC_K, q_soakC_p, q_soakC_t, q_soakC_s, q_soakC_day, q_soakC_z, q_pressC_n, q_pressC_L, q_pressC_ru, q_pressC_K, q_pressC_p, q_pressC_t, q_pressC_s, q_pressC_day, q_pressC_z, q_tick_n, q_tick_L, q_tick_ru, q_tick_K, q_tick_p, q_tick_t, q_tick_s, q_tick_day, q_tick_z, q_wL_n, q_wL_L, q_wL_ru, q_wL_K, q_wL_p, q_wL_t, q_wL_s, q_wL_day, q_wL_z, q_wp_n, q_wp_L, q_wp_ru, q_wp_K, q_wp_p, q_wp_t, q_wp_s, q_wp_day, q_wp_z, q_wt_n, q_wt_L, q_wt_ru, q_wt_K, q_wt_p, q_wt_t, q_wt_s, q_wt_day, q_wt_z, q_ws_n, q_ws_L, q_ws_ru, q_ws_K, q_ws_p, q_ws_t, q_ws_s, q_ws_day, q_ws_z, q_wz_n, q_wz_L, q_wz_ru, q_wz_K, q_wz_p, q_wz_t, q_wz_s, q_wz_day, q_wz_z, q_wd_n, q_wd_L, q_wd_ru, q_wd_K, q_wd_p, q_wd_t, q_wd_s, q_wd_day, q_wd_z, q_wr_n, q_wr_L, q_wr_ru, q_wr_K, q_wr_p, q_wr_t, q_wr_s, q_wr_day, q_wr_z, q_add_n, q_add_L, q_add_ru, q_add_K, q_add_p, q_add_t, q_add_s, q_add_day, q_add_z]) (by simp only [mk_n, mk_L, mk_ru, mk_K, mk_p, mk_t, mk_s, mk_day, mk_z, q_pt_n, q_pt_L, q_pt_ru, q_pt_K, q_pt_p, q_pt_t, q_pt_s, q_pt_day, q_pt_z, q_wearC_n, q_wearC_L, q_wearC_ru, q_wearC_K, q_wearC_p, q_wearC_t, q_wearC_s, q_wearC_day, q_wearC_z, q_drawC_n, q_drawC_L, q_drawC_ru, q_drawC_K, q_drawC_p, q_drawC_t, q_drawC_s, q_drawC_day, q_drawC_z, q_soakC_n, q_soakC_L, q_soakC_ru, q_soakC_K, q_soakC_p, q_soakC_t, q_soakC_s, q_soakC_day, q_soakC_z, q_pressC_n, q_pressC_L, q_pressC_ru, q_pressC_K, q_pressC_p, q_pressC_t, q_pressC_s, q_pressC_day, q_pressC_z, q_tick_n, q_tick_L, q_tick_ru, q_tick_K, q_tick_p, q_tick_t, q_tick_s, q_tick_day, q_tick_z, q_wL_n, q_wL_L, q_wL_ru, q_wL_K, q_wL_p, q_wL_t, q_wL_s, q_wL_day, q_wL_z, q_wp_n, q_wp_L, q_wp_ru, q_wp_K, q_wp_p, q_wp_t, q_wp_s, q_wp_day, q_wp_z, q_wt_n, q_wt_L, q_wt_ru, q_wt_K, q_wt_p, q_wt_t, q_wt_s, q_wt_day, q_wt_z, q_ws_n, q_ws_L, q_ws_ru, q_ws_K, q_ws_p, q_ws_t, q_ws_s, q_ws_day, q_ws_z, q_wz_n, q_wz_L, q_wz_ru, q_wz_K, q_wz_p, q_wz_t, q_wz_s, q_wz_day, q_wz_z, q_wd_n, q_wd_L, q_wd_ru, q_wd_K, q_wd_p, q_wd_t, q_wd_s, q_wd_day, q_wd_z, q_wr_n, q_wr_L, q_wr_ru, q_wr_K, q_wr_p, q_wr_t, q_wr_s, q_wr_day, q_wr_z, q_add_n, q_add_L, q_add_ru, q_add_K, q_add_p, q_add_t, q_add_s, q_add_day, q_add_z]) (by simp only [mk_n, mk_L, mk_ru, mk_K, mk_p, mk_t, mk_s, mk_day, mk_z, q_pt_n, q_pt_L, q_pt_ru, q_pt_K, q_pt_p, q_pt_t, q_pt_s, q_pt_day, q_pt_z, q_wearC_n, q_wearC_L, q_wearC_ru, q_wearC_K, q_wearC_p, q_wearC_t, q_wearC_s, q_wearC_day, q_wearC_z, q_drawC_n, q_drawC_L, q_drawC_ru, q_drawC_K, q_drawC_p, q_drawC_t, q_drawC_s, q_drawC_day, q_drawC_z, q_soakC_n, q_soakC_L, q_soakC_ru, q_soakC_K, q_soakC_p, q_soakC_t, q_soakC_s, q_soakC_day, q_soakC_z, q_pressC_n, q_pressC_L, q_pressC_ru, q_pressC_K, q_pressC_p, q_pressC_t, q_pressC_s, q_pressC_day, q_pressC_z, q_tick_n, q_tick_L, q_tick_ru, q_tick_K, q_tick_p, q_tick_t, q_tick_s, q_tick_day, q_tick_z, q_wL_n, q_wL_L, q_wL_ru, q_wL_K, q_wL_p, q_wL_t, q_wL_s, q_wL_day, q_wL_z, q_wp_n, q_wp_L, q_wp_ru, q_wp_K, q_wp_p, q_wp_t, q_wp_s, q_wp_day, q_wp_z, q_wt_n, q_wt_L, q_wt_ru, q_wt_K, q_wt_p, q_wt_t, q_wt_s, q_wt_day, q_wt_z, q_ws_n, q_ws_L, q_ws_ru, q_ws_K, q_ws_p, q_ws_t, q_ws_s, q_ws_day, q_ws_z, q_wz_n, q_wz_L, q_wz_ru, q_wz_K, q_wz_p, q_wz_t, q_wz_s, q_wz_day, q_wz_z, q_wd_n, q_wd_L, q_wd_ru, q_wd_K, q_wd_p, q_wd_t, q_wd_s, q_wd_day, q_wd_z, q_wr_n, q_wr_L, q_wr_ru, q_wr_K, q_wr_p, q_wr_t, q_wr_s, q_wr_day, q_wr_z, q_add_n, q_add_L, q_add_ru, q_add_K, q_add_p, q_add_t, q_add_s, q_add_day, q_add_z]) (by simp only [mk_n, mk_L, mk_ru, mk_K, mk_p, mk_t, mk_s, mk_day, mk_z, q_pt_n, q_pt_L, q_pt_ru, q_pt_K, q_pt_p, q_pt_t, q_pt_s, q_pt_day, q_pt_z, q_wearC_n, q_wearC_L, q_wearC_ru, q_wearC_K, q_wearC_p, q_wearC_t, q_wearC_s, q_wearC_day, q_wearC_z, q_drawC_n, q_drawC_L, q_drawC_ru, q_drawC_K, q_drawC_p, q_drawC_t, q_drawC_s, q_drawC_day, q_drawC_z, q_soakC_n, q_soakC_L, q_soakC_ru, q_soakC_K, q_soakC_p, q_soakC_t, q_soakC_s, q_soakC_day, q_soakC_z, q_pressC_n, q_pressC_L, q_pressC_ru, q_pressC_K, q_pressC_p, q_pressC_t, q_pressC_s, q_pressC_day, q_pressC_z, q_tick_n, q_tick_L, q_tick_ru, q_tick_K, q_tick_p, q_tick_t, q_tick_s, q_tick_day, q_tick_z, q_wL_n, q_wL_L, q_wL_ru, q_wL_K, q_wL_p, q_wL_t, q_wL_s, q_wL_day, q_wL_z, q_wp_n, q_wp_L, q_wp_ru, q_wp_K, q_wp_p, q_wp_t, q_wp_s, q_wp_day, q_wp_z, q_wt_n, q_wt_L, q_wt_ru, q_wt_K, q_wt_p, q_wt_t, q_wt_s, q_wt_day, q_wt_z, q_ws_n, q_ws_L, q_ws_ru, q_ws_K, q_ws_p, q_ws_t, q_ws_s, q_ws_day, q_ws_z, q_wz_n, q_wz_L, q_wz_ru, q_wz_K, q_wz_p, q_wz_t, q_wz_s, q_wz_day, q_wz_z, q_wd_n, q_wd_L, q_wd_ru, q_wd_K, q_wd_p, q_wd_t, q_wd_s, q_wd_day, q_wd_z, q_wr_n, q_wr_L, q_wr_ru, q_wr_K, q_wr_p, q_wr_t, q_wr_s, q_wr_day, q_wr_z, q_add_n, q_add_L, q_add_ru, q_add_K, q_add_p, q_add_t, q_add_s, q_add_day, q_add_z]) (by simp only [mk_n, mk_L, mk_ru, mk_K, mk_p, mk_t, mk_s, mk_day, mk_z, q_pt_n, q_pt_L, q_pt_ru, q_pt_K, q_pt_p, q_pt_t, q_pt_s, q_pt_day, q_pt_z, q_wearC_n, q_wearC_L, q_wearC_ru, q_wearC_K, q_wearC_p, q_wearC_t, q_wearC_s, q_wearC_day, q_wearC_z, q_drawC_n, q_drawC_L, q_drawC_ru, q_drawC_K, q_drawC_p, q_drawC_t, q_drawC_s, q_drawC_day, q_drawC_z, q_soakC_n, q_soakC_L, q_soakC_ru, q_soakC_K, q_soakC_p, q_soakC_t, q_soakC_s, q_soakC_day, q_soakC_z, q_pressC_n, q_pressC_L, q_pressC_ru, q_pressC_K, q_pressC_p, q_pressC_t, q_pressC_s, q_pressC_day, q_pressC_z, q_tick_n, q_tick_L, q_tick_ru, q_tick_K, q_tick_p, q_tick_t, q_tick_s, q_tick_day, q_tick_z, q_wL_n, q_wL_L, q_wL_ru, q_wL_K, q_wL_p, q_wL_t, q_wL_s, q_wL_day, q_wL_z, q_wp_n, q_wp_L, q_wp_ru, q_wp_K, q_wp_p, q_wp_t, q_wp_s, q_wp_day, q_wp_z, q_wt_n, q_wt_L, q_wt_ru, q_wt_K, q_wt_p, q_wt_t, q_wt_s, q_wt_day, q_wt_z, q_ws_n, q_ws_L, q_ws_ru, q_ws_K, q_ws_p, q_ws_t, q_ws_s, q_ws_day, q_ws_z, q_wz_n, q_wz_L, q_wz_ru, q_wz_K, q_wz_p, q_wz_t, q_wz_s, q_wz_day, q_wz_z, q_wd_n, q_wd_L, q_wd_ru, q_wd_K, q_wd_p, q_wd_t, q_wd_s, q_wd_day, q_wd_z, q_wr_n, q_wr_L, q_wr_ru, q_wr_K, q_wr_p, q_wr_t, q_wr_s, q_wr_day, q_wr_z, q_add_n, q_add_L, q_add_ru, q_add_K, q_add_p, q_add_t, q_add_s, q_add_day, q_add_z]) (by simp only [mk_n, mk_L, mk_ru, mk_K, mk_p, mk_t, mk_s, mk_day, mk_z, q_pt_n, q_pt_L, q_pt_ru, q_pt_K, q_pt_p, q_pt_t, q_pt_s, q_pt_day, q_pt_z, q_wearC_n, q_wearC_L, q_wearC_ru, q_wearC_K, q_wearC_p, q_wearC_t, q_wearC_s, q_wearC_day, q_wearC_z, q_drawC_n, q_drawC_L, q_drawC_ru, q_drawC_K, q_drawC_p, q_drawC_t, q_drawC_s, q_drawC_day, q_drawC_z, q_soakC_n, q_soakC_L, q_soakC_ru, q_soakC_K, q_soakC_p, q_soakC_t, q_soakC_s, q_soakC_day, q_soakC_z, q_pressC_n, q_pressC_L, q_pressC_ru, q_pressC_K, q_pressC_p, q_pressC_t, q_pressC_s, q_pressC_day, q_pressC_z, q_tick_n, q_tick_L, q_tick_ru, q_tick_K, q_tick_p, q_tick_t, q_tick_s, q_tick_day, q_tick_z, q_wL_n, q_wL_L, q_wL_ru, q_wL_K, q_wL_p, q_wL_t, q_wL_s, q_wL_day, q_wL_z, q_wp_n, q_wp_L, q_wp_ru, q_wp_K, q_wp_p, q_wp_t, q_wp_s, q_wp_day, q_wp_z, q_wt_n, q_wt_L, q_wt_ru, q_wt_K, q_wt_p, q_wt_t, q_wt_s, q_wt_day, q_wt_z, q_ws_n, q_ws_L, q_ws_ru, q_ws_K, q_ws_p, q_ws_t, q_ws_s, q_ws_day, q_ws_z, q_wz_n, q_wz_L, q_wz_ru, q_wz_K, q_wz_p, q_wz_t, q_wz_s, q_wz_day, q_wz_z, q_wd_n, q_wd_L, q_wd_ru, q_wd_K, q_wd_p, q_wd_t, q_wd_s, q_wd_day, q_wd_z, q_wr_n, q_wr_L, q_wr_ru, q_wr_K, q_wr_p, q_wr_t, q_wr_s, q_wr_day, q_wr_z, q_add_n, q_add_L, q_add_ru, q_add_K, q_add_p, q_add_t, q_add_s, q_add_day, q_add_z]) (by simp only [mk_n, mk_L, mk_ru, mk_K, mk_p, mk_t, mk_s, mk_day, mk_z, q_pt_n, q_pt_L, q_pt_ru, q_pt_K, q_pt_p, q_pt_t, q_pt_s, q_pt_day, q_pt_z, q_wearC_n, q_wearC_L, q_wearC_ru, q_wearC_K, q_wearC_p, q_wearC_t, q_wearC_s, q_wearC_day, q_wearC_z, q_drawC_n, q_drawC_L, q_drawC_ru, q_drawC_K, q_drawC_p, q_drawC_t, q_drawC_s, q_drawC_day, q_drawC_z, q_soakC_n, q_soakC_L, q_soakC_ru, q_soakC_K, q_soakC_p, q_soakC_t, q_soakC_s, q_soakC_day, q_soakC_z, q_pressC_n, q_pressC_L, q_pressC_ru, q_pressC_K, q_pressC_p, q_pressC_t, q_pressC_s, q_pressC_day, q_pressC_z, q_tick_n, q_tick_L, q_tick_ru, q_tick_K, q_tick_p, q_tick_t, q_tick_s, q_tick_day, q_tick_z, q_wL_n, q_wL_L, q_wL_ru, q_wL_K, q_wL_p, q_wL_t, q_wL_s, q_wL_day, q_wL_z, q_wp_n, q_wp_L, q_wp_ru, q_wp_K, q_wp_p, q_wp_t, q_wp_s, q_wp_day, q_wp_z, q_wt_n, q_wt_L, q_wt_ru, q_wt_K, q_wt_p, q_wt_t, q_wt_s, q_wt_day, q_wt_z, q_ws_n, q_ws_L, q_ws_ru, q_ws_K, q_ws_p, q_ws_t, q_ws_s, q_ws_day, q_ws_z, q_wz_n, q_wz_L, q_wz_ru, q_wz_K, q_wz_p, q_wz_t, q_wz_s, q_wz_day, q_wz_z, q_wd_n, q_wd_L, q_wd_ru, q_wd_K, q_wd_p, q_wd_t, q_wd_s, q_wd_day, q_wd_z, q_wr_n, q_wr_L, q_wr_ru, q_wr_K, q_wr_p, q_wr_t, q_wr_s, q_wr_day, q_wr_z, q_add_n, q_add_L, q_add_ru, q_add_K, q_add_p, q_add_t, q_add_s, q_add_day, q_add_z]) (by simp only [mk_n, mk_L, mk_ru, mk_K, mk_p, mk_t, mk_s, mk_day, mk_z, q_pt_n, q_pt_L, q_pt_ru, q_pt_K, q_pt_p, q_pt_t, q_pt_s, q_pt_day, q_pt_z, q_wearC_n, q_wearC_L, q_wearC_ru, q_wearC_K, q_wearC_p, q_wearC_t, q_wearC_s, q_wearC_day, q_wearC_z, q_drawC_n, q_drawC_L, q_drawC_ru, q_drawC_K, q_drawC_p, q_drawC_t, q_drawC_s, q_drawC_day, q_drawC_z, q_soakC_n, q_soakC_L, q_soakC_ru, q_soakC_K, q_soakC_p, q_soakC_t, q_soakC_s, q_soakC_day, q_soakC_z, q_pressC_n, q_pressC_L, q_pressC_ru, q_pressC_K, q_pressC_p, q_pressC_t, q_pressC_s, q_pressC_day, q_pressC_z, q_tick_n, q_tick_L, q_tick_ru, q_tick_K, q_tick_p, q_tick_t, q_tick_s, q_tick_day, q_tick_z, q_wL_n, q_wL_L, q_wL_ru, q_wL_K, q_wL_p, q_wL_t, q_wL_s, q_wL_day, q_wL_z, q_wp_n, q_wp_L, q_wp_ru, q_wp_K, q_wp_p, q_wp_t, q_wp_s, q_wp_day, q_wp_z, q_wt_n, q_wt_L, q_wt_ru, q_wt_K, q_wt_p, q_wt_t, q_wt_s, q_wt_day, q_wt_z, q_ws_n, q_ws_L, q_ws_ru, q_ws_K, q_ws_p, q_ws_t, q_ws_s, q_ws_day, q_ws_z, q_wz_n, q_wz_L, q_wz_ru, q_wz_K, q_wz_p, q_wz_t, q_wz_s, q_wz_day, q_wz_z, q_wd_n, q_wd_L, q_wd_ru, q_wd_K, q_wd_p, q_wd_t, q_wd_s, q_wd_day, q_wd_z, q_wr_n, q_wr_L, q_wr_ru, q_wr_K, q_wr_p, q_wr_t, q_wr_s, q_wr_day, q_wr_z, q_add_n, q_add_L, q_add_ru, q_add_K, q_add_p, q_add_t, q_add_s, q_add_day, q_add_z])
/-- the class's law of two names, once its names are set -/
theorem x_law2 (h : XC S σ0 σ cb C) (ok : q_ok C) {key t ta as : Nat} (a b : Int32) (hB : q_B key = 2) (ht : t < C.K.length) (hkt : (C.K.getD t (0, 0, [])).1 = key) (h3 : 112 ≤ as) (h4 : S[ta]? = some (.inl (5, [none, none, some as]))) (h5 : S[as]? = some (.inr (.inl (0, (q_code C.K t).length)))) (h6 : ∀ k c, (q_code C.K t)[k]? = some c → σ as k = q_ec c) : ∃ σ', mx_ev xs mx_P (d + 2) 80 [.ref ta, .ref (cb + 5), .ref (cb + 6)] (en S (en_up (en_up σ (cb + 5) 0 a) (cb + 5) 1 b)) = some (some (.int (q_val (q_nm2 a b) (q_code C.K t))), en S σ') ∧ XC S σ0 σ' cb C := by
  have hl := h.lt
  have hw := (ok.K.2 t ht).2.2
  rw [hkt, hB] at hw
  obtain ⟨σ', r1, r2⟩ := tx_value (xs := xs) (d := d) (B := 2) (nm := q_nm2 a b) (cs := q_code C.K t) (σ := en_up (en_up σ (cb + 5) 0 a) (cb + 5) 1 b) h4 h5 h.cl.2.2.2.2.2.1 h.cl.2.2.2.2.2.2.1 (by decide) hw.1 (by omega) (by omega) (fun k c hk => by
      rw [en_up_a (by omega), en_up_a (by omega)]
      exact h6 k c hk) (fun k hk => by
      rcases (show k = 0 ∨ k = 1 by omega) with rfl | rfl <;> simp [en_up_i, q_nm2]) hw.2
  refine ⟨σ', r1, h.side (fun b' hb5 hb6 => ?_)⟩
  rw [r2 b' hb6]
  unfold en_up
  rw [if_neg hb5, if_neg hb5]
theorem x_fee (h : XC S σ0 σ cb C) (ok : q_ok C) : ∃ σ', mx_ev xs mx_P (d + 4) 32 [.ref cb] (en S σ) = some (some (.int (q_law2 C.K 1 C.p C.t)), en S σ') ∧ XC S σ0 σ' cb C := by
  have hne : cb ≠ cb + 5 := by omega
  rw [ev_X0_feeGiven, en_cl h.cl.1]
  unfold q_law2
  rcases cl_lawOf (xs := xs) (d := d + 2) h.cl h.r.K ok.K (key := 1) (w := 1) rfl (by decide) with ⟨h1, h2⟩ | ⟨t, ta, as, h1, h2, h3, h4, h5, h6, h7, h8⟩
  · rw [h2, c3n, en_gi h.cl.1 rfl, h.r.p, h1, ri0]
    exact ⟨σ, rfl, h⟩
  · obtain ⟨σ', r1, r2⟩ := x_law2 (xs := xs) (d := d + 1) h ok (key := 1) C.p C.t rfl h2 h3 h4 h5 h6 h7
    rw [h8, c3r, en_gr h.cl.1 rfl, en_gi h.cl.1 rfl, h.r.p, show (mx_as (en S σ) (cb + 5) 0 0 C.p : (mx_H → mx_R) → mx_R) = mx_as (en S σ) (cb + 5) 0 (nI 0) C.p from rfl, en_asN h.cl.2.2.2.2.2.1 (by decide) (by decide), en_gr h.cl.1 rfl, en_gi h.cl.1 rfl, en_up_a hne, h.r.t, show (1 : Int32) = nI 1 from rfl, en_asN h.cl.2.2.2.2.2.1 (by decide) (by decide), en_gr h.cl.1 rfl, en_gr h.cl.1 rfl, en_cl h5, r1, c1s, h1, ri0]
    exact ⟨σ', rfl, r2⟩
theorem x_fine (h : XC S σ0 σ cb C) (ok : q_ok C) {i : Nat} (hi : i < C.n) : ∃ σ', mx_ev xs mx_P (d + 4) 33 [.ref cb, .ref (cb + 7 + i)] (en S σ) = some (some (.int (q_law2 C.K 2 (nI (C.L i 2)) (nI (C.L i 4)))), en S σ') ∧ XC S σ0 σ' cb C := by
  have h10 := ok.n
  have hne : cb + 7 + i ≠ cb + 5 := by omega
  have hl := h.leg (i := i) (by omega)
  have hq := h.r.L i hi
  rw [ev_X0_fineGiven, en_cl h.cl.1]
  unfold q_law2
  rcases cl_lawOf (xs := xs) (d := d + 2) h.cl h.r.K ok.K (key := 2) (w := 2) rfl (by decide) with ⟨h1, h2⟩ | ⟨t, ta, as, h1, h2, h3, h4, h5, h6, h7, h8⟩
  · rw [h2, c3n, en_gi hl rfl, hq 2 (by decide), h1, ri0]
    exact ⟨σ, rfl, h⟩
  · obtain ⟨σ', r1, r2⟩ := x_law2 (xs := xs) (d := d + 1) h ok (key := 2) (nI (C.L i 2)) (nI (C.L i 4)) rfl h2 h3 h4 h5 h6 h7
    rw [h8, c3r, en_gr h.cl.1 rfl, en_gi hl rfl, hq 2 (by decide), show (mx_as (en S σ) (cb + 5) 0 0 (nI (C.L i 2)) : (mx_H → mx_R) → mx_R) = mx_as (en S σ) (cb + 5) 0 (nI 0) (nI (C.L i 2)) from rfl, en_asN h.cl.2.2.2.2.2.1 (by decide) (by decide), en_gr h.cl.1 rfl, en_gi hl rfl, en_up_a hne, hq 4 (by decide), show (1 : Int32) = nI 1 from rfl, en_asN h.cl.2.2.2.2.2.1 (by decide) (by decide), en_gr h.cl.1 rfl, en_gr h.cl.1 rfl, en_cl h5, r1, c1s, h1, ri0]
    exact ⟨σ', rfl, r2⟩
/-- the reference's law of two names: its facts are set first -/
theorem MC.facts (h : MC S σ0 σ C) (k : Nat) (v : Int32) : MC S σ0 (en_up σ 102 k v) C := h.side (by funext j; exact en_up_a (by decide)) (fun b h1 h2 h3 => by unfold en_up; rw [if_neg h3])
theorem m_law2 (h : MC S σ0 σ C) (ok : q_ok C) {key t : Nat} (a b : Int32) (hB : q_B key = 2) (hkey : key < 3) (hq : q_last C.K key = some t) : ∃ σ', mx_ev xs mx_P (d + 2) 200 [.ref 90, .int (nI t)] (en S (en_up (en_up σ 102 0 a) 102 1 b)) = some (some (.int (q_val (q_nm2 a b) (q_code C.K t))), en S σ') ∧ MC S σ0 σ' C := by
  obtain ⟨ht, hkt⟩ := q_lst_some hq
  have h14 := ok.K.1
  have hw := (ok.K.2 t ht).2.2
  have hKt := h.r.K.2 t ht
  rw [hkt] at hw hKt
  rw [hB] at hw
  obtain ⟨σ5, r1, r2⟩ := m_worksOut (xs := xs) (d := d) (σ := en_up (en_up σ 102 0 a) 102 1 b) (t := t) (key := key) (B := 2) (nm := q_nm2 a b) (cs := q_code C.K t) h.mo (by omega) hkey (by decide) hw.1 (by rw [en_up_a (by decide), en_up_a (by decide)]; exact hKt.1) (fun k c hc => by rw [en_up_a (by decide), en_up_a (by decide)]; exact hKt.2.2 k c hc) (fun k hk => by
      rcases (show k = 0 ∨ k = 1 by omega) with rfl | rfl <;> simp [en_up_i, q_nm2]) hw.2
  exact ⟨σ5, r1, ((h.facts 0 a).facts 1 b).side (r2 91 (by decide)) (fun b h1 h2 h3 => r2 b h2)⟩
theorem m_fee (h : MC S σ0 σ C) (ok : q_ok C) : ∃ σ', mx_ev xs mx_P (d + 3) 180 [.ref 90] (en S σ) = some (some (.int (q_law2 C.K 1 C.p C.t)), en S σ') ∧ MC S σ0 σ' C := by
  have h14 := ok.K.1
  have s1 := h.facts 0 C.p
  have s2 := s1.facts 1 C.t
  rw [ev_X7_fee, en_cl h.mo.o, m_counts h ok (key := 1) (w := 1) rfl (by decide), c1s, en_gr h.mo.o rfl, en_gr h.mo.o rfl, m_rd h (k := 7) (w := 7) (by decide) rfl, h.r.p, show (mx_as (en S σ) 102 0 0 C.p : (mx_H → mx_R) → mx_R) = mx_as (en S σ) 102 0 (nI 0) C.p from rfl, en_asN h.mo.fa (by decide) (by decide), en_gr h.mo.o rfl, en_gr h.mo.o rfl, m_rd s1 (k := 8) (w := 8) (by decide) rfl, s1.r.t, show (1 : Int32) = nI 1 from rfl, en_asN h.mo.fa (by decide) (by decide)]
  unfold q_law2
  cases hq : q_last C.K 1 with
  | none =>
    rw [show m_cv none = -1 from rfl, if_neg (by decide), en_gr h.mo.o rfl, m_rd s2 (k := 7) (w := 7) (by decide) rfl, s2.r.p, ri0]
    exact ⟨_, rfl, s2⟩
  | some t =>
    obtain ⟨ht, hkt⟩ := q_lst_some hq
    obtain ⟨σ', r1, r2⟩ := m_law2 (xs := xs) (d := d) h ok (key := 1) C.p C.t rfl (by decide) hq
    rw [show m_cv (some t) = nI t from rfl, if_pos (nI_pos' (by omega)), en_cl h.mo.o, r1, c1s, ri0]
    exact ⟨σ', rfl, r2⟩
theorem m_fine (h : MC S σ0 σ C) (ok : q_ok C) {i : Nat} (hi : i < C.n) : ∃ σ', mx_ev xs mx_P (d + 3) 181 [.ref 90, .int (nI i)] (en S σ) = some (some (.int (q_law2 C.K 2 (nI (C.L i 2)) (nI (C.L i 4)))), en S σ') ∧ MC S σ0 σ' C := by
  have h14 := ok.K.1
  have h10 := ok.n
  have s1 := h.facts 0 (nI (C.L i 2))
  have s2 := s1.facts 1 (nI (C.L i 4))
  have e1 : q_hl (nI i) C.n = 1 := by unfold q_hl; rw [if_neg (nI_pos (by omega)), if_neg (nI_ge hi (by omega))]
  rw [ev_X7_fine, en_cl h.mo.o, m_isLeg h h10, c1s, e1, if_neg (by decide), en_cl h.mo.o, m_counts h ok (key := 2) (w := 2) rfl (by decide), c1s, en_gr h.mo.o rfl, en_cl h.mo.o, m_of' h (w := 2) (j := 2) hi h10 (by decide) rfl, c1s, show (mx_as (en S σ) 102 0 0 (nI (C.L i 2)) : (mx_H → mx_R) → mx_R) = mx_as (en S σ) 102 0 (nI 0) (nI (C.L i 2)) from rfl, en_asN h.mo.fa (by decide) (by decide), en_gr h.mo.o rfl, en_cl h.mo.o, m_of' s1 (w := 4) (j := 4) hi h10 (by decide) rfl, c1s, show (1 : Int32) = nI 1 from rfl, en_asN h.mo.fa (by decide) (by decide)]
  unfold q_law2
  cases hq : q_last C.K 2 with
  | none =>
    rw [show m_cv none = -1 from rfl, if_neg (by decide), en_cl h.mo.o, m_of' s2 (w := 2) (j := 2) hi h10 (by decide) rfl, c1s, ri0]
    exact ⟨_, rfl, s2⟩
  | some t =>
    obtain ⟨ht, hkt⟩ := q_lst_some hq
    obtain ⟨σ', r1, r2⟩ := m_law2 (xs := xs) (d := d) h ok (key := 2) (nI (C.L i 2)) (nI (C.L i 4)) rfl (by decide) hq
    rw [show m_cv (some t) = nI t from rfl, if_pos (nI_pos' (by omega)), en_cl h.mo.o, r1, c1s, ri0]
    exact ⟨σ', rfl, r2⟩
theorem t_fee : St xs 104 180 [] := by
  intro S σ G hX hM ok
  obtain ⟨σ1, r1, x1⟩ := x_fee (xs := xs) (d := 7) hX.xc ok.now
  obtain ⟨σ2, r2, m2⟩ := m_fee (xs := xs) (d := 9) (hM.aft x1).mc ok.now
  rw [ev_X6_fee, en_gr hX.x.o rfl, en_cl hX.x.c1.1, r1, c1s, ri0]
  exact ⟨σ1, σ2, _, rfl, r2, RR_now hX hM ok x1 m2 ok.now ok.day⟩
theorem t_fine (a1 : Int32) : St xs 105 181 [.int a1] := by
  intro S σ G hX hM ok
  have h10 := ok.now.n
  rw [ev_X6_fine, en_gr hX.x.o rfl, en_cl hX.x.c1.1, x_has hX.xc h10, c1s]
  rcases q_hl_c a1 (n := G.now.n) (by omega) with e1 | ⟨i, hi, rfl, e1⟩
  · rw [e1, if_pos rfl, ri0]
    refine ⟨σ, σ, _, rfl, ?_, RR_same hX hM ok⟩
    rw [ev_X7_fine, en_cl hM.mo.o, m_isLeg hM.mc h10, c1s, e1, if_pos rfl, ri0]
  obtain ⟨σ1, r1, x1⟩ := x_fine (xs := xs) (d := 7) hX.xc ok.now hi
  obtain ⟨σ2, r2, m2⟩ := m_fine (xs := xs) (d := 9) (hM.aft x1).mc ok.now hi
  rw [e1, if_neg (by decide), en_gr hX.x.o rfl, en_gr hX.x.o rfl, en_gr hX.x.c1.1 rfl, cl_aa hX.x.c1 (by omega), en_cl hX.x.c1.1, r1, c1s, ri0]
  exact ⟨σ1, σ2, _, rfl, r2, RR_now hX hM ok x1 m2 ok.now ok.day⟩
end O3
