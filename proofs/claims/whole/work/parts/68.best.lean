/-! ===== iron, first, becomes ===== -/
noncomputable def q_sd (C : q_C) (n : Nat) : Nat := q_sum (q_days C n).L (q_days C n).n
noncomputable def q_ir (C : q_C) (n v : Nat) : Nat → Nat → Int32
  | 0, _ => -1000000005
  | m + 1, k => if q_sd (q_wr C 3 k) n < v then q_ir C n v m (k + 1) else nI k
def q_bm (f : Nat → Nat) : Nat → Nat × Nat
  | 0 => (0, f 0)
  | k + 1 => if f (k + 1) ≤ (q_bm f k).2 then q_bm f k else (k + 1, f (k + 1))
theorem q_bm_s (f : Nat → Nat) (k : Nat) : q_bm f (k + 1) = if f (k + 1) ≤ (q_bm f k).2 then q_bm f k else (k + 1, f (k + 1)) := rfl
theorem ck_heat (xs : List Int32) (f : Int32 → mx_R) : mx_ck xs 0 201 3 f = f 99 := rfl
section BE
variable {S : List en_S} {σ0 σ σ1 σ2 τ τ' : Nat → Nat → Int32} {cb d : Nat} {xs : List Int32} {C D : q_C} {G : q_G}
theorem q_sd_le (ok : q_ok C) (n : Nat) : q_sd C n ≤ 990 := by
  have h := q_sum_le (L := (q_days C n).L) (n := (q_days C n).n) (q_ok_days ok n).L
  have h2 := (q_ok_days ok n).n
  unfold q_sd
  omega
theorem q_bm_le {f : Nat → Nat} {B : Nat} (h : ∀ i, f i ≤ B) : ∀ k, (q_bm f k).2 ≤ B
  | 0 => h 0
  | k + 1 => by
    unfold q_bm
    split
    · exact q_bm_le h k
    · exact h (k + 1)
theorem m_sharpOn (h : MC S τ τ' C) (t : thN σ τ) (ok : q_ok C) (hd : C.day ≤ 9999) {n : Nat} (hn : n ≤ 100) : ∃ σ', mx_ev xs mx_P (d + 8) 175 [.ref 90, .int (nI n)] (en S τ') = some (some (.int (nI (q_sd C n))), en S σ') ∧ thM σ σ' := by
  obtain ⟨τ2, s2, m2⟩ := m_goesOn (xs := xs) (d := d) (m := n) h ok (by omega) (by omega)
  obtain ⟨τ3, s3, t3, _⟩ := m_bk (xs := xs) (d := d + 5) h.mo (t.go m2)
  refine ⟨τ3, ?_, t3⟩
  rw [ev_X7_sharpOn, en_cl h.mo.o, s2, c0s, en_cl h.mo.o, m_allSharp h.mo (q_ok_days ok n).n m2.r.n m2.r.L, c1s, en_cl h.mo.o, s3, c0s, ri0]
  rfl
/-- the class: days go by in thought, all sharp together -/
theorem x_sharpOn (h : XC S τ τ' 35 C) (ok : q_ok C) (hd : C.day ≤ 9999) {n : Nat} (hn : n ≤ 100) : ∃ σ', mx_ev xs mx_P (d + 7) 26 [.ref 35, .int (nI n)] (en S τ') = some (none, en S σ') ∧ mx_ev xs mx_P (d + 7) 36 [.ref 35] (en S σ') = some (some (.int (nI (q_sd C n))), en S σ') ∧ XC S τ σ' 35 (q_days C n) := by
  obtain ⟨τ2, s2, m2⟩ := x_passDays (xs := xs) (d := d) (m := n) h ok (by omega) (by omega)
  exact ⟨τ2, s2, cl_sharpOfAll m2.cl (q_ok_days ok n).n m2.r.n m2.r.L, m2⟩
theorem x_iron_loop (hX : XR S σ G) (ok : GO G) {n v : Nat} (hn : n ≤ 30) (hv : v ≤ 990) : ∀ (m k N : Nat) (τ : Nat → Nat → Int32), k + m = 100 → m < N → thX σ τ → ∃ σ', mx_rn xs (mx_ev xs mx_P (d + 7)) kk_X6_iron N 26 [(0, .ref 0), (1, .int (nI n)), (2, .int (nI v)), (3, .int (nI k))] [] (en S τ) = some (some (.int (q_ir G.now n v m k)), en S σ') ∧ thX σ σ'
  | m, k, 0, _, _, h2, _ => absurd h2 (by omega)
  | 0, k, N + 1, τ, h1, _, h => by
    rw [rn_X6_iron_26, show k = 100 by omega, ck_heat, if_pos (by decide), ri0]
    exact ⟨τ, rfl, h⟩
  | m + 1, k, N + 1, τ, h1, h2, h => by
    obtain ⟨τ1, r1, x1⟩ := x_th (xs := xs) (d := d + 4) hX ok h
    have x2 := x1.pru (k := 3) (v := k)
    have ok2 : q_ok (q_wr G.now 3 k) := q_ok_wr ok.now ⟨by omega, by omega, by omega, by omega⟩
    have hd2 : (q_wr G.now 3 k).day ≤ 9999 := by rw [q_wr_day]; exact ok.day
    obtain ⟨τ3, r3, r4, x3⟩ := x_sharpOn (xs := xs) (d := d) (n := n) x2 ok2 hd2 (by omega)
    have hb := q_sd_le ok2 n
    rw [rn_X6_iron_26, ck_heat]
    show ∃ σ', (if (99 : Int32) < nI k then _ else _) = some (some (Value.int (if q_sd (q_wr G.now 3 k) n < v then q_ir G.now n v m (k + 1) else nI k)), _) ∧ _
    rw [if_neg (by exact nI_nlt (a := 99) (by omega) (by decide)), en_cl hX.x.o, r1, c2s, en_gr x1.cl.1 rfl, en_asW x1.cl.2.2.1 (w := 3) (j := 3) rfl (by decide) (by decide), en_cl x1.cl.1, r3, c0s, en_cl x1.cl.1, r4, c1s]
    by_cases c : q_sd (q_wr G.now 3 k) n < v
    · rw [if_pos (nI_lt c (by omega)), if_pos c, nI_1]
      exact x_iron_loop hX ok hn hv m (k + 1) N τ3 (by omega) (by omega) (h.go x3)
    · rw [if_neg (nI_nlt (by omega) (by omega)), if_neg c, ri0]
      exact ⟨τ3, rfl, h.go x3⟩
theorem m_iron_loop (hM : MR S σ G) (ok : GO G) {n v : Nat} (hn : n ≤ 30) (hv : v ≤ 990) : ∀ (m k N : Nat) (τ : Nat → Nat → Int32), k + m = 100 → m < N → thM σ τ → ∃ σ', mx_rn xs (mx_ev xs mx_P (d + 8)) kk_X7_iron N 30 [(0, .ref 90), (1, .int (nI n)), (2, .int (nI v)), (3, .int (nI k))] [] (en S τ) = some (some (.int (q_ir G.now n v m k)), en S σ') ∧ thM σ σ'
  | m, k, 0, _, _, h2, _ => absurd h2 (by omega)
  | 0, k, N + 1, τ, h1, _, h => by
    rw [rn_X7_iron_30, show k = 100 by omega, if_pos (by decide), ri0]
    exact ⟨τ, rfl, h⟩
  | m + 1, k, N + 1, τ, h1, h2, h => by
    have m1 := m_wru (h.mc hM ok) (k := 3) (by decide) k
    have ok2 : q_ok (q_wr G.now 3 k) := q_ok_wr ok.now ⟨by omega, by omega, by omega, by omega⟩
    have hd2 : (q_wr G.now 3 k).day ≤ 9999 := by rw [q_wr_day]; exact ok.day
    obtain ⟨τ3, r3, t3⟩ := m_sharpOn (xs := xs) (d := d) (n := n) m1 h.2 ok2 hd2 (by omega)
    have hb := q_sd_le ok2 n
    rw [rn_X7_iron_30, if_neg (by exact nI_nlt (a := 99) (by omega) (by decide)), en_gr hM.mo.o rfl, m_wr (h.mc hM ok) (k := 6) (w := 6) (by decide) rfl, en_cl hM.mo.o, r3, c1s]
    show ∃ σ', _ = some (some (Value.int (if q_sd (q_wr G.now 3 k) n < v then q_ir G.now n v m (k + 1) else nI k)), _) ∧ _
    by_cases c : q_sd (q_wr G.now 3 k) n < v
    · rw [if_pos (nI_lt c (by omega)), if_pos c, nI_1]
      exact m_iron_loop hM ok hn hv m (k + 1) N τ3 (by omega) (by omega) t3
    · rw [if_neg (nI_nlt (by omega) (by omega)), if_neg c, ri0]
      exact ⟨τ3, rfl, t3⟩
theorem t_iron (a1 a2 : Int32) : St xs 99 176 [.int a1, .int a2] := by
  intro S σ G hX hM ok
  rw [ev_X6_iron, x_within, c1s]
  rcases q_w_c a1 (h := 30) (z := 30) rfl (by decide) with e1 | ⟨n, hn, rfl, e1⟩
  · rw [e1, if_pos rfl, ri0]
    refine ⟨σ, σ, _, rfl, ?_, RR_same hX hM ok⟩
    rw [ev_X7_iron, m_in', c1s, e1, if_pos rfl, ri0]
  rw [e1, if_neg (by decide), x_within, c1s]
  rcases q_w_c a2 (h := 990) (z := 990) rfl (by decide) with e2 | ⟨v, hv, rfl, e2⟩
  · rw [e2, if_pos rfl, ri0]
    refine ⟨σ, σ, _, rfl, ?_, RR_same hX hM ok⟩
    rw [ev_X7_iron, m_in', c1s, e1, if_neg (by decide), m_in', c1s, e2, if_pos rfl, ri0]
  rw [e2, if_neg (by decide)]
  obtain ⟨σ1, r1, hx⟩ := x_iron_loop (xs := xs) (d := 4) hX ok hn hv 100 0 99999 σ (by omega) (by omega) thX.r
  have hM1 := hx.m hM
  obtain ⟨υ, s1, t1⟩ := m_th (xs := xs) (d := 9) hM1
  obtain ⟨σ2, s2, t2⟩ := m_iron_loop (xs := xs) (d := 3) hM1 ok hn hv 100 0 99999 υ (by omega) (by omega) t1
  refine ⟨σ1, σ2, _, r1, ?_, RR_th hX hM ok hx t2⟩
  rw [ev_X7_iron, m_in', c1s, e1, if_neg (by decide), m_in', c1s, e2, if_neg (by decide), en_cl hM.mo.o, s1, c0s]
  exact s2
/-! whom to press first -/
theorem x_first_step (hX : XR S σ G) (ok : GO G) {n i : Nat} (hn : n ≤ 60) (hi : i < G.now.n) (a2 : Int32) (N : Nat) (h : thX σ τ) : ∃ τ2, thX σ τ2 ∧ ∀ b m : Int32, mx_rn xs (mx_ev xs mx_P (d + 7)) kk_X6_first (N + 1) 43 [(0, .ref 0), (1, .int (nI n)), (2, .int a2), (3, .int b), (4, .int m), (5, .int (nI i))] [] (en S τ) = if nI (q_sd (q_pressC G.now i 3) n) ≤ m then mx_rn xs (mx_ev xs mx_P (d + 7)) kk_X6_first N 43 [(0, .ref 0), (1, .int (nI n)), (2, .int a2), (3, .int b), (4, .int m), (5, .int (nI (i + 1)))] [] (en S τ2) else mx_rn xs (mx_ev xs mx_P (d + 7)) kk_X6_first N 43 [(0, .ref 0), (1, .int (nI n)), (2, .int a2), (3, .int (nI i)), (4, .int (nI (q_sd (q_pressC G.now i 3) n))), (5, .int (nI (i + 1)))] [] (en S τ2) := by
  have h10 := ok.now.n
  obtain ⟨τ1, r1, x1⟩ := x_th (xs := xs) (d := d + 4) hX ok h
  obtain ⟨τ2, r2, x2⟩ := x_press (xs := xs) (d := d + 2) (i := i) (u := 3) (x := 0) x1 ok.now hi (by decide) (by decide)
  have ok2 : q_ok (q_pressC G.now i 3) := q_ok_press ok.now
  have hd2 : (q_pressC G.now i 3).day ≤ 9999 := by rw [q_pressC_day]; exact ok.day
  obtain ⟨τ3, r3, r4, x3⟩ := x_sharpOn (xs := xs) (d := d) (n := n) x2 ok2 hd2 (by omega)
  refine ⟨τ3, h.go x3, fun b m => ?_⟩
  have hn1 : τ 1 1 = nI G.now.n := (h.now hX ok).n
  rw [rn_X6_first_43, en_gr hX.x.o rfl, en_gi hX.x.c1.1 rfl, hn1, if_neg (nI_ge hi (by omega)), en_cl hX.x.o, r1, c2s, en_gr x1.cl.1 rfl, cl_aa x1.cl (by omega), en_cl x1.cl.1, r2, c1s, en_cl x1.cl.1, r3, c0s, en_cl x1.cl.1, r4, c1s, nI_1]
theorem x_first_loop (hX : XR S σ G) (ok : GO G) {n : Nat} (hn : n ≤ 60) (a2 : Int32) : ∀ (m k N : Nat) (τ : Nat → Nat → Int32), k + 1 + m = G.now.n → m < N → thX σ τ → ∃ σ', mx_rn xs (mx_ev xs mx_P (d + 7)) kk_X6_first N 43 [(0, .ref 0), (1, .int (nI n)), (2, .int a2), (3, .int (nI (q_bm (fun i => q_sd (q_pressC G.now i 3) n) k).1)), (4, .int (nI (q_bm (fun i => q_sd (q_pressC G.now i 3) n) k).2)), (5, .int (nI (k + 1)))] [] (en S τ) = some (some (.int (if a2 = 0 then nI (q_bm (fun i => q_sd (q_pressC G.now i 3) n) (G.now.n - 1)).1 else nI (q_bm (fun i => q_sd (q_pressC G.now i 3) n) (G.now.n - 1)).2)), en S σ') ∧ thX σ σ'
  | m, k, 0, _, _, h2, _ => absurd h2 (by omega)
  | 0, k, N + 1, τ, h1, _, h => by
    have hn1 : τ 1 1 = nI G.now.n := (h.now hX ok).n
    rw [rn_X6_first_43, en_gr hX.x.o rfl, en_gi hX.x.c1.1 rfl, hn1, if_pos (by rw [show k + 1 = G.now.n by omega]; exact Int32.le_refl _), show G.now.n - 1 = k by omega]
    refine ⟨τ, ?_, h⟩
    split <;> rfl
  | m + 1, k, N + 1, τ, h1, h2, h => by
    obtain ⟨τ2, h3, e⟩ := x_first_step (xs := xs) (d := d) (i := k + 1) hX ok hn (by omega) a2 N h
    have ih := x_first_loop hX ok hn a2 m (k + 1) N τ2 (by omega) (by omega) h3
    have hf : ∀ i, q_sd (q_pressC G.now i 3) n ≤ 990 := fun i => q_sd_le (q_ok_press ok.now) n
    have hb := q_bm_le (f := fun i => q_sd (q_pressC G.now i 3) n) hf k
    rw [e]
    rw [q_bm_s _ k] at ih
    by_cases c : q_sd (q_pressC G.now (k + 1) 3) n ≤ (q_bm (fun i => q_sd (q_pressC G.now i 3) n) k).2
    · rw [if_pos (nI_le c (by omega))]
      rw [if_pos c] at ih
      exact ih
    · have := hf (k + 1)
      rw [if_neg (nI_ge (by omega) (by omega))]
      rw [if_neg c] at ih
      exact ih
theorem m_first_step (hM : MR S σ G) (ok : GO G) {n i : Nat} (hn : n ≤ 60) (hi : i < G.now.n) (a2 : Int32) (N : Nat) (h : thM σ τ) : ∃ τ2, thM σ τ2 ∧ ∀ b m : Int32, mx_rn xs (mx_ev xs mx_P (d + 8)) kk_X7_first (N + 1) 34 [(0, .ref 90), (1, .int (nI n)), (2, .int a2), (3, .int b), (4, .int m), (5, .int (nI i))] [] (en S τ) = if nI (q_sd (q_pressC G.now i 3) n) ≤ m then mx_rn xs (mx_ev xs mx_P (d + 8)) kk_X7_first N 34 [(0, .ref 90), (1, .int (nI n)), (2, .int a2), (3, .int b), (4, .int m), (5, .int (nI (i + 1)))] [] (en S τ2) else mx_rn xs (mx_ev xs mx_P (d + 8)) kk_X7_first N 34 [(0, .ref 90), (1, .int (nI n)), (2, .int a2), (3, .int (nI i)), (4, .int (nI (q_sd (q_pressC G.now i 3) n))), (5, .int (nI (i + 1)))] [] (en S τ2) := by
  have h10 := ok.now.n
  have mc := h.mc hM ok
  obtain ⟨τ1, r1, m1⟩ := m_presses (xs := xs) (d := d + 3) (i := i) (u := 3) (x := 0) mc ok.now hi (by decide) (by decide)
  have ok2 : q_ok (q_pressC G.now i 3) := q_ok_press ok.now
  have hd2 : (q_pressC G.now i 3).day ≤ 9999 := by rw [q_pressC_day]; exact ok.day
  obtain ⟨τ3, r3, t3⟩ := m_sharpOn (xs := xs) (d := d) (n := n) m1 h.2 ok2 hd2 (by omega)
  refine ⟨τ3, t3, fun b m => ?_⟩
  rw [rn_X7_first_34, en_gr hM.mo.o rfl, m_rd mc (k := 1) (w := 1) (by decide) rfl, mc.r.n, if_neg (nI_ge hi (by omega)), en_cl hM.mo.o, r1, c1s, en_cl hM.mo.o, r3, c1s, nI_1]
  by_cases c : nI (q_sd (q_pressC G.now i 3) n) ≤ m
  · rw [if_pos c, if_pos c, if_pos c]
  · rw [if_neg c, if_neg c, if_neg c]
theorem m_first_loop (hM : MR S σ G) (ok : GO G) {n : Nat} (hn : n ≤ 60) (a2 : Int32) : ∀ (m k N : Nat) (τ : Nat → Nat → Int32), k + 1 + m = G.now.n → m < N → thM σ τ → ∃ σ', mx_rn xs (mx_ev xs mx_P (d + 8)) kk_X7_first N 34 [(0, .ref 90), (1, .int (nI n)), (2, .int a2), (3, .int (nI (q_bm (fun i => q_sd (q_pressC G.now i 3) n) k).1)), (4, .int (nI (q_bm (fun i => q_sd (q_pressC G.now i 3) n) k).2)), (5, .int (nI (k + 1)))] [] (en S τ) = some (some (.int (if a2 = 0 then nI (q_bm (fun i => q_sd (q_pressC G.now i 3) n) (G.now.n - 1)).1 else nI (q_bm (fun i => q_sd (q_pressC G.now i 3) n) (G.now.n - 1)).2)), en S σ') ∧ thM σ σ'
  | m, k, 0, _, _, h2, _ => absurd h2 (by omega)
  | 0, k, N + 1, τ, h1, _, h => by
    have h10 := ok.now.n
    have mc := h.mc hM ok
    have hb : ∀ k, (q_bm (fun i => q_sd (q_pressC G.now i 3) n) k).1 ≤ k := fun k => by
      induction k with
      | zero => exact Nat.le_refl _
      | succ k ih =>
        unfold q_bm
        split
        · omega
        · exact Nat.le_refl _
    have := hb k
    rw [rn_X7_first_34, en_gr hM.mo.o rfl, m_rd mc (k := 1) (w := 1) (by decide) rfl, mc.r.n, if_pos (by rw [show k + 1 = G.now.n by omega]; exact Int32.le_refl _), if_pos (nI_pos' (by omega)), show G.now.n - 1 = k by omega]
    refine ⟨τ, ?_, h⟩
    split <;> rfl
  | m + 1, k, N + 1, τ, h1, h2, h => by
    obtain ⟨τ2, h3, e⟩ := m_first_step (xs := xs) (d := d) (i := k + 1) hM ok hn (by omega) a2 N h
    have ih := m_first_loop hM ok hn a2 m (k + 1) N τ2 (by omega) (by omega) h3
    have hf : ∀ i, q_sd (q_pressC G.now i 3) n ≤ 990 := fun i => q_sd_le (q_ok_press ok.now) n
    have hb := q_bm_le (f := fun i => q_sd (q_pressC G.now i 3) n) hf k
    rw [e]
    rw [q_bm_s _ k] at ih
    by_cases c : q_sd (q_pressC G.now (k + 1) 3) n ≤ (q_bm (fun i => q_sd (q_pressC G.now i 3) n) k).2
    · rw [if_pos (nI_le c (by omega))]
      rw [if_pos c] at ih
      exact ih
    · have := hf (k + 1)
      rw [if_neg (nI_ge (by omega) (by omega))]
      rw [if_neg c] at ih
      exact ih
theorem q_nle1 {f : Nat} (h : f < 2 ^ 31) : ¬ nI f ≤ -1 := fun e => nI_pos h (Int32.lt_of_le_of_lt e (by decide))
theorem t_first (a1 a2 : Int32) : St xs 100 177 [.int a1, .int a2] := by
  intro S σ G hX hM ok
  have h10 := ok.now.n
  rw [ev_X6_first, x_within, c1s]
  rcases q_w_1 a1 (h := 60) (z := 60) rfl (by decide) with e1 | ⟨n, hn1, hn, rfl, e1⟩
  · rw [e1, if_pos rfl, ri0]
    refine ⟨σ, σ, _, rfl, ?_, RR_same hX hM ok⟩
    rw [ev_X7_first, m_in', c1s, e1, if_pos rfl, ri0]
  rw [e1, if_neg (by decide), x_within, c1s]
  rcases q_w_c a2 (h := 1) (z := 1) rfl (by decide) with e2 | ⟨v, hv, rfl, e2⟩
  · rw [e2, if_pos rfl, ri0]
    refine ⟨σ, σ, _, rfl, ?_, RR_same hX hM ok⟩
    rw [ev_X7_first, m_in', c1s, e1, if_neg (by decide), m_in', c1s, e2, if_pos rfl, ri0]
  rw [e2, if_neg (by decide), en_gr hX.x.o rfl, en_gi hX.x.c1.1 rfl, hX.now.n]
  by_cases hz : G.now.n = 0
  · obtain ⟨υ, s1, t1⟩ := m_th (xs := xs) (d := 9) hM
    have mc := t1.mc hM ok
    rw [hz, if_pos (by decide), ri0]
    refine ⟨σ, υ, _, rfl, ?_, RR_th hX hM ok thX.r t1⟩
    rw [ev_X7_first, m_in', c1s, e1, if_neg (by decide), m_in', c1s, e2, if_neg (by decide), en_cl hM.mo.o, s1, c0s, show (99999 : Nat) = 99998 + 1 from rfl, rn_X7_first_34, en_gr hM.mo.o rfl, m_rd mc (k := 1) (w := 1) (by decide) rfl, mc.r.n, hz, if_pos (by decide), if_neg (by decide), ri0]
  · have hf : ∀ i, q_sd (q_pressC G.now i 3) n ≤ 990 := fun i => q_sd_le (q_ok_press ok.now) n
    have hf0 := hf 0
    obtain ⟨τ2, h3, e⟩ := x_first_step (xs := xs) (d := 4) (i := 0) hX ok hn (by omega) (nI v) 99998 thX.r
    obtain ⟨σ1, r1, hx⟩ := x_first_loop (xs := xs) (d := 4) hX ok hn (nI v) (G.now.n - 1) 0 99998 τ2 (by omega) (by omega) h3
    have hM1 := hx.m hM
    obtain ⟨υ, s1, t1⟩ := m_th (xs := xs) (d := 9) hM1
    obtain ⟨υ2, t2, f⟩ := m_first_step (xs := xs) (d := 3) (i := 0) hM1 ok hn (by omega) (nI v) 99998 t1
    obtain ⟨σ2, s2, t3⟩ := m_first_loop (xs := xs) (d := 3) hM1 ok hn (nI v) (G.now.n - 1) 0 99998 υ2 (by omega) (by omega) t2
    rw [if_neg (q_nz (by omega) (by omega)), show (99999 : Nat) = 99998 + 1 from rfl]
    refine ⟨σ1, σ2, _, ((e 0 (-1)).trans ((if_neg (q_nle1 (by omega))).trans r1)), ?_, RR_th hX hM ok hx t3⟩
    rw [ev_X7_first, m_in', c1s, e1, if_neg (by decide), m_in', c1s, e2, if_neg (by decide), en_cl hM.mo.o, s1, c0s, show (99999 : Nat) = 99998 + 1 from rfl]
    exact (f (-1) (-1)).trans ((if_neg (q_nle1 (by omega))).trans s2)
/-! as what one had best be -/
theorem x_becomes_step (hX : XR S σ G) (ok : GO G) {n i l : Nat} (hn : n ≤ 60) (hi : i < 6) (hl : l < G.now.n) (a3 : Int32) (N : Nat) (h : thX σ τ) : ∃ τ2, thX σ τ2 ∧ ∀ b m : Int32, mx_rn xs (mx_ev xs mx_P (d + 7)) kk_X6_becomes (N + 1) 42 [(0, .ref 0), (1, .int (nI l)), (2, .int (nI n)), (3, .int a3), (4, .int b), (5, .int m), (6, .int (nI i))] [] (en S τ) = if nI (q_sd (q_pt G.now l 0 i) n) ≤ m then mx_rn xs (mx_ev xs mx_P (d + 7)) kk_X6_becomes N 42 [(0, .ref 0), (1, .int (nI l)), (2, .int (nI n)), (3, .int a3), (4, .int b), (5, .int m), (6, .int (nI (i + 1)))] [] (en S τ2) else mx_rn xs (mx_ev xs mx_P (d + 7)) kk_X6_becomes N 42 [(0, .ref 0), (1, .int (nI l)), (2, .int (nI n)), (3, .int a3), (4, .int (nI i)), (5, .int (nI (q_sd (q_pt G.now l 0 i) n))), (6, .int (nI (i + 1)))] [] (en S τ2) := by
  have h10 := ok.now.n
  obtain ⟨τ1, r1, x1⟩ := x_th (xs := xs) (d := d + 4) hX ok h
  have x2 := x1.put (i := l) (j := 0) (v := i) (by omega)
  have ok2 : q_ok (q_pt G.now l 0 i) := q_ok_pt ok.now ⟨by omega, by omega, by omega, by omega, by omega, by omega⟩
  have hd2 : (q_pt G.now l 0 i).day ≤ 9999 := by rw [q_pt_day]; exact ok.day
  obtain ⟨τ3, r3, r4, x3⟩ := x_sharpOn (xs := xs) (d := d) (n := n) x2 ok2 hd2 (by omega)
  refine ⟨τ3, h.go x3, fun b m => ?_⟩
  rw [rn_X6_becomes_42, if_neg (by exact nI_ge (b := 6) hi (by decide)), en_cl hX.x.o, r1, c2s, en_gr x1.cl.1 rfl, cl_aa x1.cl (by omega), en_pt (x1.leg (by omega)) rfl, en_cl x1.cl.1, r3, c0s, en_cl x1.cl.1, r4, c1s, nI_1]
theorem x_becomes_loop (hX : XR S σ G) (ok : GO G) {n l : Nat} (hn : n ≤ 60) (hl : l < G.now.n) (a3 : Int32) : ∀ (m k N : Nat) (τ : Nat → Nat → Int32), k + 1 + m = 6 → m < N → thX σ τ → ∃ σ', mx_rn xs (mx_ev xs mx_P (d + 7)) kk_X6_becomes N 42 [(0, .ref 0), (1, .int (nI l)), (2, .int (nI n)), (3, .int a3), (4, .int (nI (q_bm (fun i => q_sd (q_pt G.now l 0 (min i 5)) n) k).1)), (5, .int (nI (q_bm (fun i => q_sd (q_pt G.now l 0 (min i 5)) n) k).2)), (6, .int (nI (k + 1)))] [] (en S τ) = some (some (.int (if a3 = 0 then nI (q_bm (fun i => q_sd (q_pt G.now l 0 (min i 5)) n) 5).1 else nI (q_bm (fun i => q_sd (q_pt G.now l 0 (min i 5)) n) 5).2)), en S σ') ∧ thX σ σ'
  | m, k, 0, _, _, h2, _ => absurd h2 (by omega)
  | 0, k, N + 1, τ, h1, _, h => by
    have e : k = 5 := by omega
    subst e
    rw [rn_X6_becomes_42, if_pos (by decide)]
    refine ⟨τ, ?_, h⟩
    split <;> rfl
  | m + 1, k, N + 1, τ, h1, h2, h => by
    obtain ⟨τ2, h3, e⟩ := x_becomes_step (xs := xs) (d := d) (i := k + 1) hX ok hn (by omega) hl a3 N h
    have ih := x_becomes_loop hX ok hn hl a3 m (k + 1) N τ2 (by omega) (by omega) h3
    have hf : ∀ i, q_sd (q_pt G.now l 0 (min i 5)) n ≤ 990 := fun i => q_sd_le (q_ok_pt ok.now ⟨by omega, by omega, by omega, by omega, by omega, by omega⟩) n
    have hb := q_bm_le (f := fun i => q_sd (q_pt G.now l 0 (min i 5)) n) hf k
    have hf1 := hf (k + 1)
    rw [e]
    rw [q_bm_s _ k] at ih
    rw [show min (k + 1) 5 = k + 1 by omega] at ih hf1
    by_cases c : q_sd (q_pt G.now l 0 (k + 1)) n ≤ (q_bm (fun i => q_sd (q_pt G.now l 0 (min i 5)) n) k).2
    · rw [if_pos (nI_le c (by omega))]
      rw [if_pos c] at ih
      exact ih
    · rw [if_neg (nI_ge (by omega) (by omega))]
      rw [if_neg c] at ih
      exact ih
theorem m_becomes_step (hM : MR S σ G) (ok : GO G) {n i l : Nat} (hn : n ≤ 60) (hi : i < 6) (hl : l < G.now.n) (a3 : Int32) (N : Nat) (h : thM σ τ) : ∃ τ2, thM σ τ2 ∧ ∀ b m : Int32, mx_rn xs (mx_ev xs mx_P (d + 8)) kk_X7_becomes (N + 1) 43 [(0, .ref 90), (1, .int (nI l)), (2, .int (nI n)), (3, .int a3), (4, .int b), (5, .int m), (6, .int (nI i))] [] (en S τ) = if nI (q_sd (q_pt G.now l 0 i) n) ≤ m then mx_rn xs (mx_ev xs mx_P (d + 8)) kk_X7_becomes N 43 [(0, .ref 90), (1, .int (nI l)), (2, .int (nI n)), (3, .int a3), (4, .int b), (5, .int m), (6, .int (nI (i + 1)))] [] (en S τ2) else mx_rn xs (mx_ev xs mx_P (d + 8)) kk_X7_becomes N 43 [(0, .ref 90), (1, .int (nI l)), (2, .int (nI n)), (3, .int a3), (4, .int (nI i)), (5, .int (nI (q_sd (q_pt G.now l 0 i) n))), (6, .int (nI (i + 1)))] [] (en S τ2) := by
  have h10 := ok.now.n
  have mc := h.mc hM ok
  have m1 := mc.put (i := l) (j := 0) (v := i) (by omega) (by decide)
  have ok2 : q_ok (q_pt G.now l 0 i) := q_ok_pt ok.now ⟨by omega, by omega, by omega, by omega, by omega, by omega⟩
  have hd2 : (q_pt G.now l 0 i).day ≤ 9999 := by rw [q_pt_day]; exact ok.day
  obtain ⟨τ3, r3, t3⟩ := m_sharpOn (xs := xs) (d := d) (n := n) m1 h.2 ok2 hd2 (by omega)
  refine ⟨τ3, t3, fun b m => ?_⟩
  rw [rn_X7_becomes_43, if_neg (by exact nI_nlt (a := 5) (by omega) (by decide)), en_cl hM.mo.o, m_put (w := 0) (j := 0) hM.mo (by omega) (by decide) rfl, c0s, en_cl hM.mo.o, r3, c1s, nI_1]
  by_cases c : nI (q_sd (q_pt G.now l 0 i) n) ≤ m
  · rw [if_pos c, if_pos c, if_pos c]
  · rw [if_neg c, if_neg c, if_neg c]
theorem m_becomes_loop (hM : MR S σ G) (ok : GO G) {n l : Nat} (hn : n ≤ 60) (hl : l < G.now.n) (a3 : Int32) : ∀ (m k N : Nat) (τ : Nat → Nat → Int32), k + 1 + m = 6 → m < N → thM σ τ → ∃ σ', mx_rn xs (mx_ev xs mx_P (d + 8)) kk_X7_becomes N 43 [(0, .ref 90), (1, .int (nI l)), (2, .int (nI n)), (3, .int a3), (4, .int (nI (q_bm (fun i => q_sd (q_pt G.now l 0 (min i 5)) n) k).1)), (5, .int (nI (q_bm (fun i => q_sd (q_pt G.now l 0 (min i 5)) n) k).2)), (6, .int (nI (k + 1)))] [] (en S τ) = some (some (.int (if a3 = 0 then nI (q_bm (fun i => q_sd (q_pt G.now l 0 (min i 5)) n) 5).1 else nI (q_bm (fun i => q_sd (q_pt G.now l 0 (min i 5)) n) 5).2)), en S σ') ∧ thM σ σ'
  | m, k, 0, _, _, h2, _ => absurd h2 (by omega)
  | 0, k, N + 1, τ, h1, _, h => by
    have e : k = 5 := by omega
    subst e
    rw [rn_X7_becomes_43, if_pos (by decide)]
    refine ⟨τ, ?_, h⟩
    split <;> rfl
  | m + 1, k, N + 1, τ, h1, h2, h => by
    obtain ⟨τ2, h3, e⟩ := m_becomes_step (xs := xs) (d := d) (i := k + 1) hM ok hn (by omega) hl a3 N h
    have ih := m_becomes_loop hM ok hn hl a3 m (k + 1) N τ2 (by omega) (by omega) h3
    have hf : ∀ i, q_sd (q_pt G.now l 0 (min i 5)) n ≤ 990 := fun i => q_sd_le (q_ok_pt ok.now ⟨by omega, by omega, by omega, by omega, by omega, by omega⟩) n
    have hb := q_bm_le (f := fun i => q_sd (q_pt G.now l 0 (min i 5)) n) hf k
    have hf1 := hf (k + 1)
    rw [e]
    rw [q_bm_s _ k] at ih
    rw [show min (k + 1) 5 = k + 1 by omega] at ih hf1
    by_cases c : q_sd (q_pt G.now l 0 (k + 1)) n ≤ (q_bm (fun i => q_sd (q_pt G.now l 0 (min i 5)) n) k).2
    · rw [if_pos (nI_le c (by omega))]
      rw [if_pos c] at ih
      exact ih
    · rw [if_neg (nI_ge (by omega) (by omega))]
      rw [if_neg c] at ih
      exact ih
theorem t_becomes (a1 a2 a3 : Int32) : St xs 101 178 [.int a1, .int a2, .int a3] := by
  intro S σ G hX hM ok
  have h10 := ok.now.n
  rw [ev_X6_becomes, en_gr hX.x.o rfl, en_cl hX.x.c1.1, x_has hX.xc h10, c1s]
  rcases q_hl_c a1 (n := G.now.n) (by omega) with e0 | ⟨l, hl, rfl, e0⟩
  · rw [e0, if_pos rfl, ri0]
    refine ⟨σ, σ, _, rfl, ?_, RR_same hX hM ok⟩
    rw [ev_X7_becomes, en_cl hM.mo.o, m_isLeg hM.mc h10, c1s, e0, if_pos rfl, ri0]
  rw [e0, if_neg (by decide), x_within, c1s]
  rcases q_w_1 a2 (h := 60) (z := 60) rfl (by decide) with e1 | ⟨n, hn1, hn, rfl, e1⟩
  · rw [e1, if_pos rfl, ri0]
    refine ⟨σ, σ, _, rfl, ?_, RR_same hX hM ok⟩
    rw [ev_X7_becomes, en_cl hM.mo.o, m_isLeg hM.mc h10, c1s, e0, if_neg (by decide), m_in', c1s, e1, if_pos rfl, ri0]
  rw [e1, if_neg (by decide), x_within, c1s]
  rcases q_w_c a3 (h := 1) (z := 1) rfl (by decide) with e2 | ⟨v, hv, rfl, e2⟩
  · rw [e2, if_pos rfl, ri0]
    refine ⟨σ, σ, _, rfl, ?_, RR_same hX hM ok⟩
    rw [ev_X7_becomes, en_cl hM.mo.o, m_isLeg hM.mc h10, c1s, e0, if_neg (by decide), m_in', c1s, e1, if_neg (by decide), m_in', c1s, e2, if_pos rfl, ri0]
  rw [e2, if_neg (by decide)]
  have hf0 := q_sd_le (q_ok_pt (i := l) (j := 0) (v := 0) ok.now ⟨by omega, by omega, by omega, by omega, by omega, by omega⟩) n
  obtain ⟨τ2, h3, e⟩ := x_becomes_step (xs := xs) (d := 4) (i := 0) hX ok hn (by omega) hl (nI v) 99998 thX.r
  obtain ⟨σ1, r1, hx⟩ := x_becomes_loop (xs := xs) (d := 4) hX ok hn hl (nI v) 5 0 99998 τ2 (by omega) (by omega) h3
  have hM1 := hx.m hM
  obtain ⟨υ, s1, t1⟩ := m_th (xs := xs) (d := 9) hM1
  obtain ⟨υ2, t2, f⟩ := m_becomes_step (xs := xs) (d := 3) (i := 0) hM1 ok hn (by omega) hl (nI v) 99998 t1
  obtain ⟨σ2, s2, t3⟩ := m_becomes_loop (xs := xs) (d := 3) hM1 ok hn hl (nI v) 5 0 99998 υ2 (by omega) (by omega) t2
  rw [show (99999 : Nat) = 99998 + 1 from rfl]
  refine ⟨σ1, σ2, _, ((e 0 (-1)).trans ((if_neg (q_nle1 (by omega))).trans r1)), ?_, RR_th hX hM ok hx t3⟩
  rw [ev_X7_becomes, en_cl hM.mo.o, m_isLeg hM1.mc h10, c1s, e0, if_neg (by decide), m_in', c1s, e1, if_neg (by decide), m_in', c1s, e2, if_neg (by decide), en_cl hM.mo.o, s1, c0s, show (99999 : Nat) = 99998 + 1 from rfl]
  exact (f 0 (-1)).trans ((if_neg (q_nle1 (by omega))).trans s2)
end BE
