/-! ===== deal, keep, back, tell, trim ===== -/
noncomputable def q_dl1 (C : q_C) : q_C := q_add (q_drawC (q_drawC (q_drawC C))) (q_dr (q_z C.z) % 6) (q_dr (q_z (q_z C.z)) % 60) (q_dr (q_z (q_z (q_z C.z))) % 100)
noncomputable def q_dls (C : q_C) : Nat → q_C
  | 0 => C
  | k + 1 => q_dl1 (q_dls C k)
theorem q_dls_s (C : q_C) (k : Nat) : q_dls C (k + 1) = q_dl1 (q_dls C k) := rfl
theorem q_dl1_n (C : q_C) : (q_dl1 C).n = C.n + 1 := by unfold q_dl1; simp only [mk_n, mk_L, mk_ru, mk_K, mk_p, mk_t, mk_s, mk_day, mk_z, q_pt_n, q_pt_L, q_pt_ru, q_pt_K, q_pt_p, q_pt_t, q_pt_s, q_pt_day, q_pt_z, q_wearC_n, q_wearC_L, q_wearC_ru, q_wearC_K, q_wearC_p, q_wearC_t, q_wearC_s, q_wearC_day, q_wearC_z, q_drawC_n, q_drawC_L, q_drawC_ru, q_drawC_K, q_drawC_p, q_drawC_t, q_drawC_s, q_drawC_day, q_drawC_z, q_soakC_n, q_soakC_L, q_soakC_ru, q_soakC_K, q_soakC_p, q_soakC_t, q_soakC_s, q_soakC_day, q_soakC_z, q_pressC_n, q_pressC_L, q_pressC_ru, q_pressC_K, q_pressC_p, q_pressC_t, q_pressC_s, q_pressC_day, q_pressC_z, q_tick_n, q_tick_L, q_tick_ru, q_tick_K, q_tick_p, q_tick_t, q_tick_s, q_tick_day, q_tick_z, q_wL_n, q_wL_L, q_wL_ru, q_wL_K, q_wL_p, q_wL_t, q_wL_s, q_wL_day, q_wL_z, q_wp_n, q_wp_L, q_wp_ru, q_wp_K, q_wp_p, q_wp_t, q_wp_s, q_wp_day, q_wp_z, q_wt_n, q_wt_L, q_wt_ru, q_wt_K, q_wt_p, q_wt_t, q_wt_s, q_wt_day, q_wt_z, q_ws_n, q_ws_L, q_ws_ru, q_ws_K, q_ws_p, q_ws_t, q_ws_s, q_ws_day, q_ws_z, q_wz_n, q_wz_L, q_wz_ru, q_wz_K, q_wz_p, q_wz_t, q_wz_s, q_wz_day, q_wz_z, q_wd_n, q_wd_L, q_wd_ru, q_wd_K, q_wd_p, q_wd_t, q_wd_s, q_wd_day, q_wd_z, q_wr_n, q_wr_L, q_wr_ru, q_wr_K, q_wr_p, q_wr_t, q_wr_s, q_wr_day, q_wr_z, q_add_n, q_add_L, q_add_ru, q_add_K, q_add_p, q_add_t, q_add_s, q_add_day, q_add_z]
theorem q_dl1_day (C : q_C) : (q_dl1 C).day = C.day := by unfold q_dl1; simp only [mk_n, mk_L, mk_ru, mk_K, mk_p, mk_t, mk_s, mk_day, mk_z, q_pt_n, q_pt_L, q_pt_ru, q_pt_K, q_pt_p, q_pt_t, q_pt_s, q_pt_day, q_pt_z, q_wearC_n, q_wearC_L, q_wearC_ru, q_wearC_K, q_wearC_p, q_wearC_t, q_wearC_s, q_wearC_day, q_wearC_z, q_drawC_n, q_drawC_L, q_drawC_ru, q_drawC_K, q_drawC_p, q_drawC_t, q_drawC_s, q_drawC_day, q_drawC_z, q_soakC_n, q_soakC_L, q_soakC_ru, q_soakC_K, q_soakC_p, q_soakC_t, q_soakC_s, q_soakC_day, q_soakC_z, q_pressC_n, q_pressC_L, q_pressC_ru, q_pressC_K, q_pressC_p, q_pressC_t, q_pressC_s, q_pressC_day, q_pressC_z, q_tick_n, q_tick_L, q_tick_ru, q_tick_K, q_tick_p, q_tick_t, q_tick_s, q_tick_day, q_tick_z, q_wL_n, q_wL_L, q_wL_ru, q_wL_K, q_wL_p, q_wL_t, q_wL_s, q_wL_day, q_wL_z, q_wp_n, q_wp_L, q_wp_ru, q_wp_K, q_wp_p, q_wp_t, q_wp_s, q_wp_day, q_wp_z, q_wt_n, q_wt_L, q_wt_ru, q_wt_K, q_wt_p, q_wt_t, q_wt_s, q_wt_day, q_wt_z, q_ws_n, q_ws_L, q_ws_ru, q_ws_K, q_ws_p, q_ws_t, q_ws_s, q_ws_day, q_ws_z, q_wz_n, q_wz_L, q_wz_ru, q_wz_K, q_wz_p, q_wz_t, q_wz_s, q_wz_day, q_wz_z, q_wd_n, q_wd_L, q_wd_ru, q_wd_K, q_wd_p, q_wd_t, q_wd_s, q_wd_day, q_wd_z, q_wr_n, q_wr_L, q_wr_ru, q_wr_K, q_wr_p, q_wr_t, q_wr_s, q_wr_day, q_wr_z, q_add_n, q_add_L, q_add_ru, q_add_K, q_add_p, q_add_t, q_add_s, q_add_day, q_add_z]
theorem q_dls_n (C : q_C) : ∀ k, (q_dls C k).n = C.n + k
  | 0 => rfl
  | k + 1 => by rw [q_dls_s, q_dl1_n, q_dls_n C k]; omega
theorem q_dls_day (C : q_C) : ∀ k, (q_dls C k).day = C.day
  | 0 => rfl
  | k + 1 => by rw [q_dls_s, q_dl1_day, q_dls_day C k]
section O4
variable {S : List en_S} {σ0 σ σ1 σ2 : Nat → Nat → Int32} {cb d : Nat} {xs : List Int32} {C D : q_C} {G : q_G}
theorem q_ok_dl1 (ok : q_ok C) (hn : C.n < 10) : q_ok (q_dl1 C) := by
  unfold q_dl1
  exact q_ok_add (q_ok_draw (q_ok_draw (q_ok_draw ok))) (by simp only [mk_n, mk_L, mk_ru, mk_K, mk_p, mk_t, mk_s, mk_day, mk_z, q_pt_n, q_pt_L, q_pt_ru, q_pt_K, q_pt_p, q_pt_t, q_pt_s, q_pt_day, q_pt_z, q_wearC_n, q_wearC_L, q_wearC_ru, q_wearC_K, q_wearC_p, q_wearC_t, q_wearC_s, q_wearC_day, q_wearC_z, q_drawC_n, q_drawC_L, q_drawC_ru, q_drawC_K, q_drawC_p, q_drawC_t, q_drawC_s, q_drawC_day, q_drawC_z, q_soakC_n, q_soakC_L, q_soakC_ru, q_soakC_K, q_soakC_p, q_soakC_t, q_soakC_s, q_soakC_day, q_soakC_z, q_pressC_n, q_pressC_L, q_pressC_ru, q_pressC_K, q_pressC_p, q_pressC_t, q_pressC_s, q_pressC_day, q_pressC_z, q_tick_n, q_tick_L, q_tick_ru, q_tick_K, q_tick_p, q_tick_t, q_tick_s, q_tick_day, q_tick_z, q_wL_n, q_wL_L, q_wL_ru, q_wL_K, q_wL_p, q_wL_t, q_wL_s, q_wL_day, q_wL_z, q_wp_n, q_wp_L, q_wp_ru, q_wp_K, q_wp_p, q_wp_t, q_wp_s, q_wp_day, q_wp_z, q_wt_n, q_wt_L, q_wt_ru, q_wt_K, q_wt_p, q_wt_t, q_wt_s, q_wt_day, q_wt_z, q_ws_n, q_ws_L, q_ws_ru, q_ws_K, q_ws_p, q_ws_t, q_ws_s, q_ws_day, q_ws_z, q_wz_n, q_wz_L, q_wz_ru, q_wz_K, q_wz_p, q_wz_t, q_wz_s, q_wz_day, q_wz_z, q_wd_n, q_wd_L, q_wd_ru, q_wd_K, q_wd_p, q_wd_t, q_wd_s, q_wd_day, q_wd_z, q_wr_n, q_wr_L, q_wr_ru, q_wr_K, q_wr_p, q_wr_t, q_wr_s, q_wr_day, q_wr_z, q_add_n, q_add_L, q_add_ru, q_add_K, q_add_p, q_add_t, q_add_s, q_add_day, q_add_z]; exact hn) (by omega) (by omega) (by omega)
theorem q_ok_dls (ok : q_ok C) : ∀ k, C.n + k ≤ 10 → q_ok (q_dls C k)
  | 0, _ => ok
  | k + 1, h => q_ok_dl1 (q_ok_dls ok k (by omega)) (by rw [q_dls_n]; omega)
theorem x_deal_loop (hX : XS S) (ok : q_ok C) {c : Nat} (hc : C.n + c ≤ 10) : ∀ (m i N : Nat) (σ : Nat → Nat → Int32), i + m = c → m < N → XC S σ0 σ 1 (q_dls C i) → ∃ σ', mx_rn xs (mx_ev xs mx_P (d + 2)) kk_X6_deal N 30 [(0, .ref 0), (2, .int (nI c)), (3, .int (nI i))] [] (en S σ) = some (some (.int (nI c)), en S σ') ∧ XC S σ0 σ' 1 (q_dls C c)
  | m, i, 0, σ, _, h2, _ => absurd h2 (by omega)
  | 0, i, N + 1, σ, h1, _, h => by
    have e : i = c := by omega
    subst e
    rw [rn_X6_deal_30, if_pos (Int32.le_refl _)]
    exact ⟨σ, rfl, h⟩
  | m + 1, i, N + 1, σ, h1, h2, h => by
    obtain ⟨q1, g1⟩ := x_draw (xs := xs) (d := d + 1) h
    obtain ⟨q2, g2⟩ := x_draw (xs := xs) (d := d + 1) g1
    obtain ⟨q3, g3⟩ := x_draw (xs := xs) (d := d + 1) g2
    have z1 : (q_drawC (q_dls C i)).z = q_z (q_dls C i).z := q_drawC_z _
    have z2 : (q_drawC (q_drawC (q_dls C i))).z = q_z (q_z (q_dls C i).z) := by rw [q_drawC_z, z1]
    rw [z1] at q2 g2 q3 g3
    rw [z2] at q3 g3
    obtain ⟨σ4, r4, g4⟩ := x_addLeg (xs := xs) (d := d) (a := q_dr (q_z (q_dls C i).z) % 6) (b := q_dr (q_z (q_z (q_dls C i).z)) % 60) (c := q_dr (q_z (q_z (q_z (q_dls C i).z))) % 100) g3 (by simp only [mk_n, mk_L, mk_ru, mk_K, mk_p, mk_t, mk_s, mk_day, mk_z, q_pt_n, q_pt_L, q_pt_ru, q_pt_K, q_pt_p, q_pt_t, q_pt_s, q_pt_day, q_pt_z, q_wearC_n, q_wearC_L, q_wearC_ru, q_wearC_K, q_wearC_p, q_wearC_t, q_wearC_s, q_wearC_day, q_wearC_z, q_drawC_n, q_drawC_L, q_drawC_ru, q_drawC_K, q_drawC_p, q_drawC_t, q_drawC_s, q_drawC_day, q_drawC_z, q_soakC_n, q_soakC_L, q_soakC_ru, q_soakC_K, q_soakC_p, q_soakC_t, q_soakC_s, q_soakC_day, q_soakC_z, q_pressC_n, q_pressC_L, q_pressC_ru, q_pressC_K, q_pressC_p, q_pressC_t, q_pressC_s, q_pressC_day, q_pressC_z, q_tick_n, q_tick_L, q_tick_ru, q_tick_K, q_tick_p, q_tick_t, q_tick_s, q_tick_day, q_tick_z, q_wL_n, q_wL_L, q_wL_ru, q_wL_K, q_wL_p, q_wL_t, q_wL_s, q_wL_day, q_wL_z, q_wp_n, q_wp_L, q_wp_ru, q_wp_K, q_wp_p, q_wp_t, q_wp_s, q_wp_day, q_wp_z, q_wt_n, q_wt_L, q_wt_ru, q_wt_K, q_wt_p, q_wt_t, q_wt_s, q_wt_day, q_wt_z, q_ws_n, q_ws_L, q_ws_ru, q_ws_K, q_ws_p, q_ws_t, q_ws_s, q_ws_day, q_ws_z, q_wz_n, q_wz_L, q_wz_ru, q_wz_K, q_wz_p, q_wz_t, q_wz_s, q_wz_day, q_wz_z, q_wd_n, q_wd_L, q_wd_ru, q_wd_K, q_wd_p, q_wd_t, q_wd_s, q_wd_day, q_wd_z, q_wr_n, q_wr_L, q_wr_ru, q_wr_K, q_wr_p, q_wr_t, q_wr_s, q_wr_day, q_wr_z, q_add_n, q_add_L, q_add_ru, q_add_K, q_add_p, q_add_t, q_add_s, q_add_day, q_add_z]; rw [q_dls_n]; omega)
    rw [rn_X6_deal_30, if_neg (nI_ge (by omega) (by omega)), en_gr hX.o rfl, en_cl hX.c1.1, q1, c1s, if_neg (by decide), en_gr hX.o rfl, en_cl hX.c1.1, q2, c1s, if_neg (by decide), en_gr hX.o rfl, en_cl hX.c1.1, q3, c1s, if_neg (by decide), en_gr hX.o rfl, en_cl hX.c1.1, q_rm (b := 6) (y := 6) (by have := q_dr_lt (q_z (q_dls C i).z); omega) (by decide) (by decide) rfl, q_rm (b := 60) (y := 60) (by have := q_dr_lt (q_z (q_z (q_dls C i).z)); omega) (by decide) (by decide) rfl, q_rm (b := 100) (y := 100) (by have := q_dr_lt (q_z (q_z (q_z (q_dls C i).z))); omega) (by decide) (by decide) rfl, r4, c0s, nI_1]
    exact x_deal_loop hX ok hc m (i + 1) N σ4 (by omega) (by omega) g4
theorem m_deal_loop (ok : q_ok C) {w c : Nat} (hw : w ≤ 10) (hc : c = min w (10 - C.n)) : ∀ (m i N : Nat) (σ : Nat → Nat → Int32), i + m = c → m < N → MC S σ0 σ (q_dls C i) → ∃ σ', mx_rn xs (mx_ev xs mx_P (d + 2)) kk_X7_deal N 15 [(0, .ref 90), (1, .int (nI w)), (2, .int (nI i))] [] (en S σ) = some (some (.int (nI c)), en S σ') ∧ MC S σ0 σ' (q_dls C c)
  | m, i, 0, σ, _, h2, _ => absurd h2 (by omega)
  | 0, i, N + 1, σ, h1, _, h => by
    have h10 := ok.n
    have e : i = c := by omega
    subst e
    rw [rn_X7_deal_15]
    by_cases e2 : w ≤ i
    · rw [if_pos ((nI_leI (by omega) (by omega)).mpr e2)]
      exact ⟨σ, rfl, h⟩
    · rw [if_neg (fun x => e2 ((nI_leI (by omega) (by omega)).mp x)), en_gr h.mo.o rfl, m_rd h (k := 1) (w := 1) (by decide) rfl, h.r.n, q_dls_n, if_pos (by exact (nI_leI (a := 10) (by decide) (by omega)).mpr (by omega))]
      exact ⟨σ, rfl, h⟩
  | m + 1, i, N + 1, σ, h1, h2, h => by
    have h10 := ok.n
    obtain ⟨q1, g1⟩ := m_draw' (xs := xs) (d := d + 1) h
    obtain ⟨q2, g2⟩ := m_draw' (xs := xs) (d := d + 1) g1
    obtain ⟨q3, g3⟩ := m_draw' (xs := xs) (d := d + 1) g2
    have z1 : (q_drawC (q_dls C i)).z = q_z (q_dls C i).z := q_drawC_z _
    have z2 : (q_drawC (q_drawC (q_dls C i))).z = q_z (q_z (q_dls C i).z) := by rw [q_drawC_z, z1]
    rw [z1] at q2 g2 q3 g3
    rw [z2] at q3 g3
    obtain ⟨σ4, r4, g4⟩ := m_comes (xs := xs) (d := d) (a := q_dr (q_z (q_dls C i).z) % 6) (b := q_dr (q_z (q_z (q_dls C i).z)) % 60) (c := q_dr (q_z (q_z (q_z (q_dls C i).z))) % 100) g3 (by simp only [mk_n, mk_L, mk_ru, mk_K, mk_p, mk_t, mk_s, mk_day, mk_z, q_pt_n, q_pt_L, q_pt_ru, q_pt_K, q_pt_p, q_pt_t, q_pt_s, q_pt_day, q_pt_z, q_wearC_n, q_wearC_L, q_wearC_ru, q_wearC_K, q_wearC_p, q_wearC_t, q_wearC_s, q_wearC_day, q_wearC_z, q_drawC_n, q_drawC_L, q_drawC_ru, q_drawC_K, q_drawC_p, q_drawC_t, q_drawC_s, q_drawC_day, q_drawC_z, q_soakC_n, q_soakC_L, q_soakC_ru, q_soakC_K, q_soakC_p, q_soakC_t, q_soakC_s, q_soakC_day, q_soakC_z, q_pressC_n, q_pressC_L, q_pressC_ru, q_pressC_K, q_pressC_p, q_pressC_t, q_pressC_s, q_pressC_day, q_pressC_z, q_tick_n, q_tick_L, q_tick_ru, q_tick_K, q_tick_p, q_tick_t, q_tick_s, q_tick_day, q_tick_z, q_wL_n, q_wL_L, q_wL_ru, q_wL_K, q_wL_p, q_wL_t, q_wL_s, q_wL_day, q_wL_z, q_wp_n, q_wp_L, q_wp_ru, q_wp_K, q_wp_p, q_wp_t, q_wp_s, q_wp_day, q_wp_z, q_wt_n, q_wt_L, q_wt_ru, q_wt_K, q_wt_p, q_wt_t, q_wt_s, q_wt_day, q_wt_z, q_ws_n, q_ws_L, q_ws_ru, q_ws_K, q_ws_p, q_ws_t, q_ws_s, q_ws_day, q_ws_z, q_wz_n, q_wz_L, q_wz_ru, q_wz_K, q_wz_p, q_wz_t, q_wz_s, q_wz_day, q_wz_z, q_wd_n, q_wd_L, q_wd_ru, q_wd_K, q_wd_p, q_wd_t, q_wd_s, q_wd_day, q_wd_z, q_wr_n, q_wr_L, q_wr_ru, q_wr_K, q_wr_p, q_wr_t, q_wr_s, q_wr_day, q_wr_z, q_add_n, q_add_L, q_add_ru, q_add_K, q_add_p, q_add_t, q_add_s, q_add_day, q_add_z]; rw [q_dls_n]; omega)
    rw [rn_X7_deal_15, if_neg (nI_ge (by omega) (by omega)), en_gr h.mo.o rfl, m_rd h (k := 1) (w := 1) (by decide) rfl, h.r.n, q_dls_n, if_neg (by exact nI_ge (b := 10) (by omega) (by decide)), en_cl h.mo.o, q1, c1s, if_neg (by decide), en_cl h.mo.o, q2, c1s, if_neg (by decide), en_cl h.mo.o, q3, c1s, if_neg (by decide), en_cl h.mo.o, q_rm (b := 6) (y := 6) (by have := q_dr_lt (q_z (q_dls C i).z); omega) (by decide) (by decide) rfl, q_rm (b := 60) (y := 60) (by have := q_dr_lt (q_z (q_z (q_dls C i).z)); omega) (by decide) (by decide) rfl, q_rm (b := 100) (y := 100) (by have := q_dr_lt (q_z (q_z (q_z (q_dls C i).z))); omega) (by decide) (by decide) rfl, r4, c1s, nI_1]
    exact m_deal_loop ok hw hc m (i + 1) N σ4 (by omega) (by omega) g4
theorem t_deal (a1 : Int32) : St xs 91 158 [.int a1] := by
  intro S σ G hX hM ok
  have h10 := ok.now.n
  rw [ev_X6_deal, x_within, c1s]
  rcases q_w_1 a1 (h := 10) (z := 10) rfl (by decide) with e1 | ⟨w, hw0, hw, rfl, e1⟩
  · rw [e1, if_pos rfl, ri0]
    refine ⟨σ, σ, _, rfl, ?_, RR_same hX hM ok⟩
    rw [ev_X7_deal, m_in', c1s, e1, if_pos rfl, ri0]
  have e : (10 : Int32) - nI G.now.n = nI (10 - G.now.n) := by rw [show (10 : Int32) = nI 10 from rfl, pk_sub h10]
  rw [e1, if_neg (by decide), en_gr hX.x.o rfl, en_gi hX.x.c1.1 rfl, hX.now.n, e, q_min xs 10 _ (by omega) (by omega), c1s]
  obtain ⟨σ1, r1, x1⟩ := x_deal_loop (xs := xs) (d := 9) (C := G.now) (c := min w (10 - G.now.n)) hX.x ok.now (by omega) (min w (10 - G.now.n)) 0 99999 σ (by omega) (by omega) hX.xc
  obtain ⟨σ2, r2, m2⟩ := m_deal_loop (xs := xs) (d := 9) (C := G.now) (w := w) (c := min w (10 - G.now.n)) ok.now hw rfl (min w (10 - G.now.n)) 0 99999 σ1 (by omega) (by omega) (hM.aft x1).mc
  refine ⟨σ1, σ2, _, r1, ?_, RR_now hX hM ok x1 m2 (q_ok_dls ok.now _ (by omega)) (by rw [q_dls_day]; exact ok.day)⟩
  rw [ev_X7_deal, m_in', c1s, e1, if_neg (by decide)]
  exact r2
theorem t_keep : St xs 123 214 [] := by
  intro S σ G hX hM ok
  obtain ⟨σ1, r1, x1⟩ := x_takeOver (xs := xs) (d := 9) hX.x.c2 hX.x.c1 (by omega) (by omega) (by omega) hX.now ok.now
  rw [ev_X6_keep, en_gr hX.x.o rfl, en_gr hX.x.o rfl, en_cl hX.x.c2.1, r1, c0s, en_pz hX.x.o rfl (Or.inr rfl), en_gr hX.x.o rfl, en_gi hX.x.c1.1 rfl, en_up_a (by decide), x1.fr 1 (by omega), hX.now.n, ri0]
  have oA : ∀ b, b ≠ 0 → ¬ (18 ≤ b ∧ b < 35) → en_up σ1 0 3 1 b = σ b := fun b h0 hb => by
    rw [show en_up σ1 0 3 1 b = σ1 b by unfold en_up; rw [if_neg h0]]
    exact x1.fr b (by omega)
  have xg : XR S (en_up σ1 0 3 1) (g_img G (some G.now)) := hX.g_img ok (some G.now) (fun k hk => by rw [en_up_k hk, x1.fr 0 (by omega)]) oA en_up_s (fun C hC => by
    cases hC
    exact x1.r.fr ok.now.n (by funext k; exact en_up_a (by decide)) (by funext k; exact en_up_a (by decide)) (by funext k; exact en_up_a (by decide)) (by funext k; exact en_up_a (by decide)) (fun i hi => by funext k; exact en_up_a (by omega)) (fun b hb => by funext k; exact en_up_a (by omega)))
  have og : GO (g_img G (some G.now)) := ok.g_img (some G.now) (fun C hC => by cases hC; exact ⟨ok.now, ok.day⟩)
  have hM1 : MR S (en_up σ1 0 3 1) G := hM.after (fun b h1 h2 => oA b (by omega) (by omega))
  obtain ⟨σ2, r2, c2, f2⟩ := m_copyAll (xs := xs) (d := 10) (σ := en_up σ1 0 3 1) hM.mo.w hM.mo.im (by decide)
  have g91 : ∀ b, b ≠ 92 → b ≠ 90 → en_up σ2 90 3 1 b = en_up σ1 0 3 1 b := fun b hb h0 => by
    rw [show en_up σ2 90 3 1 b = σ2 b by unfold en_up; rw [if_neg h0]]
    exact f2 b hb
  refine ⟨_, en_up σ2 90 3 1, _, rfl, ?_, ⟨g_img G (some G.now), xg.fr og (fun b hb => g91 b (fun e => hb (by unfold scr; omega)) (fun e => hb (by unfold scr; omega))), ?_, og⟩⟩
  · rw [ev_X7_keep, en_gr hM.mo.o rfl, en_gr hM.mo.o rfl, r2, c0s, en_pz hM.mo.o rfl (Or.inr rfl), en_gr hM.mo.o rfl, show (mx_ai (en S (en_up σ2 90 3 1)) 91 0 1 : (Int32 → mx_R) → mx_R) = mx_ai (en S (en_up σ2 90 3 1)) 91 0 (nI 1) from rfl, en_aiN hM.mo.w (by decide) (by decide), en_up_a (by decide), f2 91 (by decide), hM1.now.n, ri0]
  · refine hM1.g_img (some G.now) (fun k hk => by rw [en_up_k hk, f2 90 (by decide)]) (fun b h1 h2 h3 h4 => g91 b (by omega) (by omega)) en_up_s (fun C hC => ?_)
    cases hC
    refine hM1.now.congr ok.now.K ok.now.n (fun k hk => ?_)
    rw [en_up_a (by decide)]
    exact c2 k hk
theorem t_back : St xs 124 215 [] := by
  intro S σ G hX hM ok
  rw [ev_X6_back, en_gi hX.x.o rfl, hX.ik]
  cases hI : G.img with
  | none =>
    rw [show g_k none = 0 from rfl, if_pos rfl, ri0]
    refine ⟨σ, σ, _, rfl, ?_, RR_same hX hM ok⟩
    rw [ev_X7_back, en_gi hM.mo.o rfl, hM.ik, hI, show g_k none = 0 from rfl, if_pos rfl, ri0]
  | some C =>
    obtain ⟨oC, dC⟩ := ok.img C hI
    obtain ⟨σ1, r1, x1⟩ := x_takeOver (xs := xs) (d := 9) hX.x.c1 hX.x.c2 (by omega) (by omega) (by omega) (hX.img C hI) oC
    have hM1 := hM.aft x1
    obtain ⟨σ2, r2, c2, f2⟩ := m_copyAll (xs := xs) (d := 10) (σ := σ1) hM.mo.im hM.mo.w (by decide)
    have m2 : MC S σ1 σ2 C := ⟨hM.mo, (hM1.img C hI).congr oC.K oC.n c2, fun b hb _ _ => f2 b hb⟩
    rw [show g_k (some C) = 1 from rfl, if_neg (by decide), en_gr hX.x.o rfl, en_gr hX.x.o rfl, en_cl hX.x.c1.1, r1, c0s, en_gr hX.x.o rfl, en_gi hX.x.c1.1 rfl, x1.r.n, ri0]
    refine ⟨σ1, σ2, _, rfl, ?_, RR_now hX hM ok x1 m2 oC dC⟩
    rw [ev_X7_back, en_gi hM.mo.o rfl, hM1.ik, hI, show g_k (some C) = 1 from rfl, if_neg (by decide), en_gr hM.mo.o rfl, en_gr hM.mo.o rfl, r2, c0s, en_gr hM.mo.o rfl, m_rd m2 (k := 1) (w := 1) (by decide) rfl, m2.r.n, ri0]
theorem isMo.te (hM : isMo S) : S[111]? = some (.inr (.inl (0, 60))) := hM 21 _ rfl
theorem isMo.tp (hM : isMo S) : S[95]? = some (.inr (.inl (0, 96))) := hM 5 _ rfl
theorem t_tell (a1 : Int32) : St xs 121 212 [.int a1] := by
  intro S σ G hX hM ok
  have hw := ok.wc
  rw [ev_X6_tell, en_gi hX.x.o rfl, hX.wc]
  by_cases e : G.wc < 60
  · rw [if_pos (by exact nI_lt (b := 60) e (by decide)), en_gr hX.x.o rfl, en_gi hX.x.o rfl, hX.wc, en_asN hX.x.wa e (by decide), en_gi hX.x.o rfl, en_up_a (by decide), hX.wc, nI_1, en_pt hX.x.o rfl, en_gi hX.x.o rfl, en_up_s, ri0]
    have oA : ∀ b, b ≠ 0 → ¬ b = 61 → en_up (en_up σ 61 G.wc a1) 0 11 (nI (G.wc + 1)) b = σ b := fun b h0 h1 => by
      funext k
      rw [en_up_a h0, en_up_a h1]
    have xg := hX.g_wait ok (σ' := en_up (en_up σ 61 G.wc a1) 0 11 (nI (G.wc + 1))) (G.wc + 1) (upd G.wt G.wc a1) (fun k hk => by rw [en_up_k hk, en_up_a (by decide)]) oA en_up_s (fun k hk => by
      rw [en_up_a (by decide), en_up_i]
      unfold upd
      by_cases ek : k = G.wc
      · rw [if_pos ⟨rfl, ek⟩, if_pos ek]
      · rw [if_neg (fun x => ek x.2), if_neg ek]
        exact hX.wt k (by omega))
    have og := ok.g_wait (G.wc + 1) (upd G.wt G.wc a1) (by omega)
    have hM1 : MR S (en_up (en_up σ 61 G.wc a1) 0 11 (nI (G.wc + 1))) G := hM.after (fun b h1 h2 => oA b (by omega) (by omega))
    generalize en_up (en_up σ 61 G.wc a1) 0 11 (nI (G.wc + 1)) = τ at *
    have oB : ∀ b, b ≠ 90 → b ≠ 111 → en_up (en_up τ 111 G.wc a1) 90 32 (nI (G.wc + 1)) b = τ b := fun b h0 h1 => by
      funext k
      rw [en_up_a h0, en_up_a h1]
    refine ⟨τ, en_up (en_up τ 111 G.wc a1) 90 32 (nI (G.wc + 1)), _, rfl, ?_, ⟨_, xg.fr og (fun b hb => oB b (fun e => hb (by unfold scr; omega)) (fun e => hb (by unfold scr; omega))), ?_, og⟩⟩
    · rw [ev_X7_tell, en_gi hM.mo.o rfl, hM1.wc, if_neg (fun x => by have := (nI_eq (b := 60) (by omega) (by decide)).mp x; omega), en_gr hM.mo.o rfl, en_gi hM.mo.o rfl, hM1.wc, en_asN hM.mo.te e (by decide), en_gi hM.mo.o rfl, en_up_a (by decide), hM1.wc, nI_1, en_pt hM.mo.o rfl, en_gi hM.mo.o rfl, en_up_s, ri0]
    · refine hM1.g_wait _ _ (fun k hk => by rw [en_up_k hk, en_up_a (by decide)]) (fun b h1 h2 h3 h4 => oB b (by omega) (by omega)) en_up_s (fun k hk => ?_)
      rw [en_up_a (by decide), en_up_i]
      unfold upd
      by_cases ek : k = G.wc
      · rw [if_pos ⟨rfl, ek⟩, if_pos ek]
      · rw [if_neg (fun x => ek x.2), if_neg ek]
        exact hM1.wt k (by omega)
  · rw [if_neg (by exact nI_nlt (b := 60) (by omega) (by omega)), ri0]
    refine ⟨σ, σ, _, rfl, ?_, RR_same hX hM ok⟩
    rw [ev_X7_tell, en_gi hM.mo.o rfl, hM.wc, if_pos (by rw [show G.wc = 60 by omega]; rfl), ri0]
theorem t_trim (a1 : Int32) : St xs 108 183 [.int a1] := by
  intro S σ G hX hM ok
  have ht := ok.tl
  rw [ev_X6_trim, en_gi hX.x.o rfl, hX.tl, x_within, c1s]
  rcases q_w_c a1 (h := G.tl) (z := nI G.tl) rfl (by omega) with e1 | ⟨j, hj, rfl, e1⟩
  · rw [e1, if_pos rfl, ri0]
    refine ⟨σ, σ, _, rfl, ?_, RR_same hX hM ok⟩
    rw [ev_X7_trim, en_gi hM.mo.o rfl, hM.tl, m_in', c1s, e1, if_pos rfl, ri0]
  · rw [e1, if_neg (by decide), en_pt hX.x.o rfl, ri0]
    have oA : ∀ b, b ≠ 0 → en_up σ 0 6 (nI j) b = σ b := fun b h0 => by
      funext k
      rw [en_up_a h0]
    have xg := hX.g_tape ok (σ' := en_up σ 0 6 (nI j)) j G.tp (fun k hk => by rw [en_up_k hk]) (fun b h0 _ => oA b h0) en_up_s (fun k hk => by rw [en_up_a (by decide)]; exact hX.tp k (by omega))
    have og := ok.g_tape j G.tp (by omega) (fun k hk => ok.tp k (by omega))
    have hM1 : MR S (en_up σ 0 6 (nI j)) G := hM.after (fun b h1 h2 => oA b (by omega))
    generalize en_up σ 0 6 (nI j) = τ at *
    have oB : ∀ b, b ≠ 90 → en_up τ 90 6 (nI j) b = τ b := fun b h0 => by
      funext k
      rw [en_up_a h0]
    refine ⟨τ, en_up τ 90 6 (nI j), _, rfl, ?_, ⟨_, xg.fr og (fun b hb => oB b (fun e => hb (by unfold scr; omega))), ?_, og⟩⟩
    · rw [ev_X7_trim, en_gi hM.mo.o rfl, hM1.tl, m_in', c1s, e1, if_neg (by decide), en_pt hM.mo.o rfl, ri0]
    · exact hM1.g_tape _ _ (fun k hk => by rw [en_up_k hk]) (fun b h1 h2 h3 h4 => oB b (by omega)) en_up_s (fun k hk => by rw [en_up_a (by decide)]; exact hM1.tp k (by omega))
end O4
