/-! ===== told, as, turns, set, irons, rule, seed ===== -/
section O2
variable {S : List en_S} {σ0 σ σ1 σ2 : Nat → Nat → Int32} {cb d : Nat} {xs : List Int32} {C D : q_C} {G : q_G}
theorem m_worthOf (h : MC S σ0 σ C) (ok : q_ok C) {i : Nat} (hi : i < C.n) : mx_ev xs mx_P (d + 2) 146 [.ref 90, .int (nI i)] (en S σ) = some (some (.int (nI (q_worth (C.L i)))), en S σ) := by
  have h10 := ok.n
  obtain ⟨l0, l1, l2, l3, l4, l5⟩ := ok.L i hi
  have e1 : (99 : Int32) - nI (C.L i 4) = nI (99 - C.L i 4) := by rw [show (99 : Int32) = nI 99 from rfl, pk_sub l4]
  have e2 : nI (99 - C.L i 4) / 2 = nI ((99 - C.L i 4) / 2) := pk_div (d := 2) (by omega) (by decide) (by decide)
  have o0 := fun (dd : Nat) => m_of' (xs := xs) (d := dd) h (w := 0) (j := 0) hi h10 (by decide) rfl
  have o2 := fun (dd : Nat) => m_of' (xs := xs) (d := dd) h (w := 2) (j := 2) hi h10 (by decide) rfl
  have o3 := fun (dd : Nat) => m_of' (xs := xs) (d := dd) h (w := 3) (j := 3) hi h10 (by decide) rfl
  have o4 := fun (dd : Nat) => m_of' (xs := xs) (d := dd) h (w := 4) (j := 4) hi h10 (by decide) rfl
  have o5 := fun (dd : Nat) => m_of' (xs := xs) (d := dd) h (w := 5) (j := 5) hi h10 (by decide) rfl
  rw [ev_X7_worthOf, en_cl h.mo.o, o2, c1s, en_cl h.mo.o, o3, c1s, m_within0 xs d (a := C.L i 2) (b := C.L i 3) _ rfl l2 (by omega), c1s, en_cl h.mo.o, o0, c1s]
  unfold q_worth
  rcases (show C.L i 0 = 0 ∨ C.L i 0 = 1 ∨ C.L i 0 = 2 ∨ C.L i 0 = 3 ∨ C.L i 0 = 4 ∨ C.L i 0 = 5 by omega) with e | e | e | e | e | e <;> rw [e]
  · rfl
  · rw [if_pos (by decide), en_cl h.mo.o, o5, c1s, nI_add]
    rfl
  · rw [if_neg (by decide), if_pos (by decide), en_cl h.mo.o, o4, c1s, e1]
    rfl
  · rw [if_neg (by decide), if_neg (by decide), if_pos (by decide), en_cl h.mo.o, o5, c1s, nI_add, show (2 : Int32) = nI 2 from rfl, pk_mul]
    rfl
  · rw [if_neg (by decide), if_neg (by decide), if_neg (by decide), if_pos (by decide), en_cl h.mo.o, o4, c1s, if_neg (by decide), e1, e2]
    rfl
  · rw [if_neg (by decide), if_neg (by decide), if_neg (by decide), if_neg (by decide), if_pos (by decide), en_cl h.mo.o, o4, c1s]
    rfl
theorem x_takenBy (h : XC S σ0 σ cb C) (ok : q_ok C) {i : Nat} (hi : i < C.n) : ∃ σ', mx_ev xs mx_P (d + 4) 31 [.ref cb, .ref (cb + 7 + i)] (en S σ) = some (some (.int (nI (q_takes (C.L i) (q_plain C.K (C.ru 3) (C.L i))))), en S σ') ∧ XC S σ0 σ' cb C := by
  have h10 := ok.n
  have hl := h.lt
  obtain ⟨σ', r1, r2⟩ := cl_takenBy (xs := xs) (d := d) h.cl (by omega) h.r.K ok.K (h.leg (i := i) (by omega)) (by omega) (by omega) (h.r.L i hi) (ok.L i hi) (h.r.ru 3 (by decide)) ok.r3
  refine ⟨σ', r1, (h.legs (σ' := σ') (L := C.L) (fun a ha j hj => ?_) (fun b _ h5 h6 => r2 b h5 h6)).cg (by simp only [mk_n, mk_L, mk_ru, mk_K, mk_p, mk_t, mk_s, mk_day, mk_z, q_pt_n, q_pt_L, q_pt_ru, q_pt_K, q_pt_p, q_pt_t, q_pt_s, q_pt_day, q_pt_z, q_wearC_n, q_wearC_L, q_wearC_ru, q_wearC_K, q_wearC_p, q_wearC_t, q_wearC_s, q_wearC_day, q_wearC_z, q_drawC_n, q_drawC_L, q_drawC_ru, q_drawC_K, q_drawC_p, q_drawC_t, q_drawC_s, q_drawC_day, q_drawC_z, q_soakC_n, q_soakC_L, q_soakC_ru, q_soakC_K, q_soakC_p, q_soakC_t, q_soakC_s, q_soakC_day, q_soakC_z, q_pressC_n, q_pressC_L, q_pressC_ru, q_pressC_K, q_pressC_p, q_pressC_t, q_pressC_s, q_pressC_day, q_pressC_z, q_tick_n, q_tick_L, q_tick_ru, q_tick_K, q_tick_p, q_tick_t, q_tick_s, q_tick_day, q_tick_z, q_wL_n, q_wL_L, q_wL_ru, q_wL_K, q_wL_p, q_wL_t, q_wL_s, q_wL_day, q_wL_z, q_wp_n, q_wp_L, q_wp_ru, q_wp_K, q_wp_p, q_wp_t, q_wp_s, q_wp_day, q_wp_z, q_wt_n, q_wt_L, q_wt_ru, q_wt_K, q_wt_p, q_wt_t, q_wt_s, q_wt_day, q_wt_z, q_ws_n, q_ws_L, q_ws_ru, q_ws_K, q_ws_p, q_ws_t, q_ws_s, q_ws_day, q_ws_z, q_wz_n, q_wz_L, q_wz_ru, q_wz_K, q_wz_p, q_wz_t, q_wz_s, q_wz_day, q_wz_z, q_wd_n, q_wd_L, q_wd_ru, q_wd_K, q_wd_p, q_wd_t, q_wd_s, q_wd_day, q_wd_z, q_wr_n, q_wr_L, q_wr_ru, q_wr_K, q_wr_p, q_wr_t, q_wr_s, q_wr_day, q_wr_z, q_add_n, q_add_L, q_add_ru, q_add_K, q_add_p, q_add_t, q_add_s, q_add_day, q_add_z]) (fun a ha b hb => by simp only [mk_n, mk_L, mk_ru, mk_K, mk_p, mk_t, mk_s, mk_day, mk_z, q_pt_n, q_pt_L, q_pt_ru, q_pt_K, q_pt_p, q_pt_t, q_pt_s, q_pt_day, q_pt_z, q_wearC_n, q_wearC_L, q_wearC_ru, q_wearC_K, q_wearC_p, q_wearC_t, q_wearC_s, q_wearC_day, q_wearC_z, q_drawC_n, q_drawC_L, q_drawC_ru, q_drawC_K, q_drawC_p, q_drawC_t, q_drawC_s, q_drawC_day, q_drawC_z, q_soakC_n, q_soakC_L, q_soakC_ru, q_soakC_K, q_soakC_p, q_soakC_t, q_soakC_s, q_soakC_day, q_soakC_z, q_pressC_n, q_pressC_L, q_pressC_ru, q_pressC_K, q_pressC_p, q_pressC_t, q_pressC_s, q_pressC_day, q_pressC_z, q_tick_n, q_tick_L, q_tick_ru, q_tick_K, q_tick_p, q_tick_t, q_tick_s, q_tick_day, q_tick_z, q_wL_n, q_wL_L, q_wL_ru, q_wL_K, q_wL_p, q_wL_t, q_wL_s, q_wL_day, q_wL_z, q_wp_n, q_wp_L, q_wp_ru, q_wp_K, q_wp_p, q_wp_t, q_wp_s, q_wp_day, q_wp_z, q_wt_n, q_wt_L, q_wt_ru, q_wt_K, q_wt_p, q_wt_t, q_wt_s, q_wt_day, q_wt_z, q_ws_n, q_ws_L, q_ws_ru, q_ws_K, q_ws_p, q_ws_t, q_ws_s, q_ws_day, q_ws_z, q_wz_n, q_wz_L, q_wz_ru, q_wz_K, q_wz_p, q_wz_t, q_wz_s, q_wz_day, q_wz_z, q_wd_n, q_wd_L, q_wd_ru, q_wd_K, q_wd_p, q_wd_t, q_wd_s, q_wd_day, q_wd_z, q_wr_n, q_wr_L, q_wr_ru, q_wr_K, q_wr_p, q_wr_t, q_wr_s, q_wr_day, q_wr_z, q_add_n, q_add_L, q_add_ru, q_add_K, q_add_p, q_add_t, q_add_s, q_add_day, q_add_z]) (by simp only [mk_n, mk_L, mk_ru, mk_K, mk_p, mk_t, mk_s, mk_day, mk_z, q_pt_n, q_pt_L, q_pt_ru, q_pt_K, q_pt_p, q_pt_t, q_pt_s, q_pt_day, q_pt_z, q_wearC_n, q_wearC_L, q_wearC_ru, q_wearC_K, q_wearC_p, q_wearC_t, q_wearC_s, q_wearC_day, q_wearC_z, q_drawC_n, q_drawC_L, q_drawC_ru, q_drawC_K, q_drawC_p, q_drawC_t, q_drawC_s, q_drawC_day, q_drawC_z, q_soakC_n, q_soakC_L, q_soakC_ru, q_soakC_K, q_soakC_p, q_soakC_t, q_soakC_s, q_soakC_day, q_soakC_z, q_pressC_n, q_pressC_L, q_pressC_ru, q_pressC_K, q_pressC_p, q_pressC_t, q_pressC_s, q_pressC_day, q_pressC_z, q_tick_n, q_tick_L, q_tick_ru, q_tick_K, q_tick_p, q_tick_t, q_tick_s, q_tick_day, q_tick_z, q_wL_n, q_wL_L, q_wL_ru, q_wL_K, q_wL_p, q_wL_t, q_wL_s, q_wL_day, q_wL_z, q_wp_n, q_wp_L, q_wp_ru, q_wp_K, q_wp_p, q_wp_t, q_wp_s, q_wp_day, q_wp_z, q_wt_n, q_wt_L, q_wt_ru, q_wt_K, q_wt_p, q_wt_t, q_wt_s, q_wt_day, q_wt_z, q_ws_n, q_ws_L, q_ws_ru, q_ws_K, q_ws_p, q_ws_t, q_ws_s, q_ws_day, q_ws_z, q_wz_n, q_wz_L, q_wz_ru, q_wz_K, q_wz_p, q_wz_t, q_wz_s, q_wz_day, q_wz_z, q_wd_n, q_wd_L, q_wd_ru, q_wd_K, q_wd_p, q_wd_t, q_wd_s, q_wd_day, q_wd_z, q_wr_n, q_wr_L, q_wr_ru, q_wr_K, q_wr_p, q_wr_t, q_wr_s, q_wr_day, q_wr_z, q_add_n, q_add_L, q_add_ru, q_add_K, q_add_p, q_add_t, q_add_s, q_add_day, q_add_z]) (by simp only [mk_n, mk_L, mk_ru, mk_K, mk_p, mk_t, mk_s, mk_day, mk_z, q_pt_n, q_pt_L, q_pt_ru, q_pt_K, q_pt_p, q_pt_t, q_pt_s, q_pt_day, q_pt_z, q_wearC_n, q_wearC_L, q_wearC_ru, q_wearC_K, q_wearC_p, q_wearC_t, q_wearC_s, q_wearC_day, q_wearC_z, q_drawC_n, q_drawC_L, q_drawC_ru, q_drawC_K, q_drawC_p, q_drawC_t, q_drawC_s, q_drawC_day, q_drawC_z, q_soakC_n, q_soakC_L, q_soakC_ru, q_soakC_K, q_soakC_p, q_soakC_t, q_soakC_s, q_soakC_day, q_soakC_z, q_pressC_n, q_pressC_L, q_pressC_ru, q_pressC_K, q_pressC_p, q_pressC_t, q_pressC_s, q_pressC_day, q_pressC_z, q_tick_n, q_tick_L, q_tick_ru, q_tick_K, q_tick_p, q_tick_t, q_tick_s, q_tick_day, q_tick_z, q_wL_n, q_wL_L, q_wL_ru, q_wL_K, q_wL_p, q_wL_t, q_wL_s, q_wL_day, q_wL_z, q_wp_n, q_wp_L, q_wp_ru, q_wp_K, q_wp_p, q_wp_t, q_wp_s, q_wp_day, q_wp_z, q_wt_n, q_wt_L, q_wt_ru, q_wt_K, q_wt_p, q_wt_t, q_wt_s, q_wt_day, q_wt_z, q_ws_n, q_ws_L, q_ws_ru, q_ws_K, q_ws_p, q_ws_t, q_ws_s, q_ws_day, q_ws_z, q_wz_n, q_wz_L, q_wz_ru, q_wz_K, q_wz_p, q_wz_t, q_wz_s, q_wz_day, q_wz_z, q_wd_n, q_wd_L, q_wd_ru, q_wd_K, q_wd_p, q_wd_t, q_wd_s, q_wd_day, q_wd_z, q_wr_n, q_wr_L, q_wr_ru, q_wr_K, q_wr_p, q_wr_t, q_wr_s, q_wr_day, q_wr_z, q_add_n, q_add_L, q_add_ru, q_add_K, q_add_p, q_add_t, q_add_s, q_add_day, q_add_z]) (by simp only [mk_n, mk_L, mk_ru, mk_K, mk_p, mk_t, mk_s, mk_day, mk_z, q_pt_n, q_pt_L, q_pt_ru, q_pt_K, q_pt_p, q_pt_t, q_pt_s, q_pt_day, q_pt_z, q_wearC_n, q_wearC_L, q_wearC_ru, q_wearC_K, q_wearC_p, q_wearC_t, q_wearC_s, q_wearC_day, q_wearC_z, q_drawC_n, q_drawC_L, q_drawC_ru, q_drawC_K, q_drawC_p, q_drawC_t, q_drawC_s, q_drawC_day, q_drawC_z, q_soakC_n, q_soakC_L, q_soakC_ru, q_soakC_K, q_soakC_p, q_soakC_t, q_soakC_s, q_soakC_day, q_soakC_z, q_pressC_n, q_pressC_L, q_pressC_ru, q_pressC_K, q_pressC_p, q_pressC_t, q_pressC_s, q_pressC_day, q_pressC_z, q_tick_n, q_tick_L, q_tick_ru, q_tick_K, q_tick_p, q_tick_t, q_tick_s, q_tick_day, q_tick_z, q_wL_n, q_wL_L, q_wL_ru, q_wL_K, q_wL_p, q_wL_t, q_wL_s, q_wL_day, q_wL_z, q_wp_n, q_wp_L, q_wp_ru, q_wp_K, q_wp_p, q_wp_t, q_wp_s, q_wp_day, q_wp_z, q_wt_n, q_wt_L, q_wt_ru, q_wt_K, q_wt_p, q_wt_t, q_wt_s, q_wt_day, q_wt_z, q_ws_n, q_ws_L, q_ws_ru, q_ws_K, q_ws_p, q_ws_t, q_ws_s, q_ws_day, q_ws_z, q_wz_n, q_wz_L, q_wz_ru, q_wz_K, q_wz_p, q_wz_t, q_wz_s, q_wz_day, q_wz_z, q_wd_n, q_wd_L, q_wd_ru, q_wd_K, q_wd_p, q_wd_t, q_wd_s, q_wd_day, q_wd_z, q_wr_n, q_wr_L, q_wr_ru, q_wr_K, q_wr_p, q_wr_t, q_wr_s, q_wr_day, q_wr_z, q_add_n, q_add_L, q_add_ru, q_add_K, q_add_p, q_add_t, q_add_s, q_add_day, q_add_z]) (by simp only [mk_n, mk_L, mk_ru, mk_K, mk_p, mk_t, mk_s, mk_day, mk_z, q_pt_n, q_pt_L, q_pt_ru, q_pt_K, q_pt_p, q_pt_t, q_pt_s, q_pt_day, q_pt_z, q_wearC_n, q_wearC_L, q_wearC_ru, q_wearC_K, q_wearC_p, q_wearC_t, q_wearC_s, q_wearC_day, q_wearC_z, q_drawC_n, q_drawC_L, q_drawC_ru, q_drawC_K, q_drawC_p, q_drawC_t, q_drawC_s, q_drawC_day, q_drawC_z, q_soakC_n, q_soakC_L, q_soakC_ru, q_soakC_K, q_soakC_p, q_soakC_t, q_soakC_s, q_soakC_day, q_soakC_z, q_pressC_n, q_pressC_L, q_pressC_ru, q_pressC_K, q_pressC_p, q_pressC_t, q_pressC_s, q_pressC_day, q_pressC_z, q_tick_n, q_tick_L, q_tick_ru, q_tick_K, q_tick_p, q_tick_t, q_tick_s, q_tick_day, q_tick_z, q_wL_n, q_wL_L, q_wL_ru, q_wL_K, q_wL_p, q_wL_t, q_wL_s, q_wL_day, q_wL_z, q_wp_n, q_wp_L, q_wp_ru, q_wp_K, q_wp_p, q_wp_t, q_wp_s, q_wp_day, q_wp_z, q_wt_n, q_wt_L, q_wt_ru, q_wt_K, q_wt_p, q_wt_t, q_wt_s, q_wt_day, q_wt_z, q_ws_n, q_ws_L, q_ws_ru, q_ws_K, q_ws_p, q_ws_t, q_ws_s, q_ws_day, q_ws_z, q_wz_n, q_wz_L, q_wz_ru, q_wz_K, q_wz_p, q_wz_t, q_wz_s, q_wz_day, q_wz_z, q_wd_n, q_wd_L, q_wd_ru, q_wd_K, q_wd_p, q_wd_t, q_wd_s, q_wd_day, q_wd_z, q_wr_n, q_wr_L, q_wr_ru, q_wr_K, q_wr_p, q_wr_t, q_wr_s, q_wr_day, q_wr_z, q_add_n, q_add_L, q_add_ru, q_add_K, q_add_p, q_add_t, q_add_s, q_add_day, q_add_z]) (by simp only [mk_n, mk_L, mk_ru, mk_K, mk_p, mk_t, mk_s, mk_day, mk_z, q_pt_n, q_pt_L, q_pt_ru, q_pt_K, q_pt_p, q_pt_t, q_pt_s, q_pt_day, q_pt_z, q_wearC_n, q_wearC_L, q_wearC_ru, q_wearC_K, q_wearC_p, q_wearC_t, q_wearC_s, q_wearC_day, q_wearC_z, q_drawC_n, q_drawC_L, q_drawC_ru, q_drawC_K, q_drawC_p, q_drawC_t, q_drawC_s, q_drawC_day, q_drawC_z, q_soakC_n, q_soakC_L, q_soakC_ru, q_soakC_K, q_soakC_p, q_soakC_t, q_soakC_s, q_soakC_day, q_soakC_z, q_pressC_n, q_pressC_L, q_pressC_ru, q_pressC_K, q_pressC_p, q_pressC_t, q_pressC_s, q_pressC_day, q_pressC_z, q_tick_n, q_tick_L, q_tick_ru, q_tick_K, q_tick_p, q_tick_t, q_tick_s, q_tick_day, q_tick_z, q_wL_n, q_wL_L, q_wL_ru, q_wL_K, q_wL_p, q_wL_t, q_wL_s, q_wL_day, q_wL_z, q_wp_n, q_wp_L, q_wp_ru, q_wp_K, q_wp_p, q_wp_t, q_wp_s, q_wp_day, q_wp_z, q_wt_n, q_wt_L, q_wt_ru, q_wt_K, q_wt_p, q_wt_t, q_wt_s, q_wt_day, q_wt_z, q_ws_n, q_ws_L, q_ws_ru, q_ws_K, q_ws_p, q_ws_t, q_ws_s, q_ws_day, q_ws_z, q_wz_n, q_wz_L, q_wz_ru, q_wz_K, q_wz_p, q_wz_t, q_wz_s, q_wz_day, q_wz_z, q_wd_n, q_wd_L, q_wd_ru, q_wd_K, q_wd_p, q_wd_t, q_wd_s, q_wd_day, q_wd_z, q_wr_n, q_wr_L, q_wr_ru, q_wr_K, q_wr_p, q_wr_t, q_wr_s, q_wr_day, q_wr_z, q_add_n, q_add_L, q_add_ru, q_add_K, q_add_p, q_add_t, q_add_s, q_add_day, q_add_z]) (by simp only [mk_n, mk_L, mk_ru, mk_K, mk_p, mk_t, mk_s, mk_day, mk_z, q_pt_n, q_pt_L, q_pt_ru, q_pt_K, q_pt_p, q_pt_t, q_pt_s, q_pt_day, q_pt_z, q_wearC_n, q_wearC_L, q_wearC_ru, q_wearC_K, q_wearC_p, q_wearC_t, q_wearC_s, q_wearC_day, q_wearC_z, q_drawC_n, q_drawC_L, q_drawC_ru, q_drawC_K, q_drawC_p, q_drawC_t, q_drawC_s, q_drawC_day, q_drawC_z, q_soakC_n, q_soakC_L, q_soakC_ru, q_soakC_K, q_soakC_p, q_soakC_t, q_soakC_s, q_soakC_day, q_soakC_z, q_pressC_n, q_pressC_L, q_pressC_ru, q_pressC_K, q_pressC_p, q_pressC_t, q_pressC_s, q_pressC_day, q_pressC_z, q_tick_n, q_tick_L, q_tick_ru, q_tick_K, q_tick_p, q_tick_t, q_tick_s, q_tick_day, q_tick_z, q_wL_n, q_wL_L, q_wL_ru, q_wL_K, q_wL_p, q_wL_t, q_wL_s, q_wL_day, q_wL_z, q_wp_n, q_wp_L, q_wp_ru, q_wp_K, q_wp_p, q_wp_t, q_wp_s, q_wp_day, q_wp_z, q_wt_n, q_wt_L, q_wt_ru, q_wt_K, q_wt_p, q_wt_t, q_wt_s, q_wt_day, q_wt_z, q_ws_n, q_ws_L, q_ws_ru, q_ws_K, q_ws_p, q_ws_t, q_ws_s, q_ws_day, q_ws_z, q_wz_n, q_wz_L, q_wz_ru, q_wz_K, q_wz_p, q_wz_t, q_wz_s, q_wz_day, q_wz_z, q_wd_n, q_wd_L, q_wd_ru, q_wd_K, q_wd_p, q_wd_t, q_wd_s, q_wd_day, q_wd_z, q_wr_n, q_wr_L, q_wr_ru, q_wr_K, q_wr_p, q_wr_t, q_wr_s, q_wr_day, q_wr_z, q_add_n, q_add_L, q_add_ru, q_add_K, q_add_p, q_add_t, q_add_s, q_add_day, q_add_z]) (by simp only [mk_n, mk_L, mk_ru, mk_K, mk_p, mk_t, mk_s, mk_day, mk_z, q_pt_n, q_pt_L, q_pt_ru, q_pt_K, q_pt_p, q_pt_t, q_pt_s, q_pt_day, q_pt_z, q_wearC_n, q_wearC_L, q_wearC_ru, q_wearC_K, q_wearC_p, q_wearC_t, q_wearC_s, q_wearC_day, q_wearC_z, q_drawC_n, q_drawC_L, q_drawC_ru, q_drawC_K, q_drawC_p, q_drawC_t, q_drawC_s, q_drawC_day, q_drawC_z, q_soakC_n, q_soakC_L, q_soakC_ru, q_soakC_K, q_soakC_p, q_soakC_t, q_soakC_s, q_soakC_day, q_soakC_z, q_pressC_n, q_pressC_L, q_pressC_ru, q_pressC_K, q_pressC_p, q_pressC_t, q_pressC_s, q_pressC_day, q_pressC_z, q_tick_n, q_tick_L, q_tick_ru, q_tick_K, q_tick_p, q_tick_t, q_tick_s, q_tick_day, q_tick_z, q_wL_n, q_wL_L, q_wL_ru, q_wL_K, q_wL_p, q_wL_t, q_wL_s, q_wL_day, q_wL_z, q_wp_n, q_wp_L, q_wp_ru, q_wp_K, q_wp_p, q_wp_t, q_wp_s, q_wp_day, q_wp_z, q_wt_n, q_wt_L, q_wt_ru, q_wt_K, q_wt_p, q_wt_t, q_wt_s, q_wt_day, q_wt_z, q_ws_n, q_ws_L, q_ws_ru, q_ws_K, q_ws_p, q_ws_t, q_ws_s, q_ws_day, q_ws_z, q_wz_n, q_wz_L, q_wz_ru, q_wz_K, q_wz_p, q_wz_t, q_wz_s, q_wz_day, q_wz_z, q_wd_n, q_wd_L, q_wd_ru, q_wd_K, q_wd_p, q_wd_t, q_wd_s, q_wd_day, q_wd_z, q_wr_n, q_wr_L, q_wr_ru, q_wr_K, q_wr_p, q_wr_t, q_wr_s, q_wr_day, q_wr_z, q_add_n, q_add_L, q_add_ru, q_add_K, q_add_p, q_add_t, q_add_s, q_add_day, q_add_z])⟩
  rw [r2 _ (by omega) (by omega)]
  exact h.r.L a ha j hj
theorem x_told (h : XR S σ G) (ok : GO G) {i j : Nat} (hi : i < G.now.n) (hj : j ≤ 9) : ∃ σ1 v, mx_ev xs mx_P (d + 6) 84 [.ref 0, .int (nI i), .int (nI j)] (en S σ) = some (some (.int v), en S σ1) ∧ XC S σ σ1 1 G.now ∧ (j < 6 → v = nI (G.now.L i j) ∧ σ1 = σ) ∧ (j = 6 → v = nI (q_takes (G.now.L i) (q_plain G.now.K (G.now.ru 3) (G.now.L i)))) ∧ (j = 7 → v = nI (q_loses (G.now.L i))) ∧ (j = 8 → v = nI (q_bags (G.now.L i))) ∧ (j = 9 → v = nI (q_worth (G.now.L i))) := by
  have h10 := ok.now.n
  have x := h.xc
  have hl : S[1 + 7 + i]? = some en_leg := x.leg (i := i) (by omega)
  have hq : q_at (σ (1 + 7 + i)) (G.now.L i) := x.r.L i hi
  have e1 : q_hl (nI i) G.now.n = 1 := by unfold q_hl; rw [if_neg (nI_pos (by omega)), if_neg (nI_ge hi (by omega))]
  rw [ev_X6_told, en_gr h.x.o rfl, en_cl h.x.c1.1, x_has x h10, c1s, e1, if_neg (by decide), en_gr h.x.o rfl, en_gr h.x.c1.1 rfl, cl_aa h.x.c1 (by omega)]
  rcases (show j = 0 ∨ j = 1 ∨ j = 2 ∨ j = 3 ∨ j = 4 ∨ j = 5 ∨ j = 6 ∨ j = 7 ∨ j = 8 ∨ j = 9 by omega) with rfl | rfl | rfl | rfl | rfl | rfl | rfl | rfl | rfl | rfl
  · rw [if_pos (by decide), en_gi hl rfl, ri0]
    exact ⟨σ, _, rfl, x, fun _ => ⟨hq 0 (by decide), rfl⟩, by omega, by omega, by omega, by omega⟩
  · rw [if_neg (by decide), if_pos (by decide), en_gi hl rfl, ri0]
    exact ⟨σ, _, rfl, x, fun _ => ⟨hq 1 (by decide), rfl⟩, by omega, by omega, by omega, by omega⟩
  · rw [if_neg (by decide), if_neg (by decide), if_pos (by decide), en_gi hl rfl, ri0]
    exact ⟨σ, _, rfl, x, fun _ => ⟨hq 2 (by decide), rfl⟩, by omega, by omega, by omega, by omega⟩
  · rw [if_neg (by decide), if_neg (by decide), if_neg (by decide), if_pos (by decide), en_gi hl rfl, ri0]
    exact ⟨σ, _, rfl, x, fun _ => ⟨hq 3 (by decide), rfl⟩, by omega, by omega, by omega, by omega⟩
  · rw [if_neg (by decide), if_neg (by decide), if_neg (by decide), if_neg (by decide), if_pos (by decide), en_gi hl rfl, ri0]
    exact ⟨σ, _, rfl, x, fun _ => ⟨hq 4 (by decide), rfl⟩, by omega, by omega, by omega, by omega⟩
  · rw [if_neg (by decide), if_neg (by decide), if_neg (by decide), if_neg (by decide), if_neg (by decide), if_pos (by decide), en_gi hl rfl, ri0]
    exact ⟨σ, _, rfl, x, fun _ => ⟨hq 5 (by decide), rfl⟩, by omega, by omega, by omega, by omega⟩
  · obtain ⟨σ1, r1, r2⟩ := x_takenBy (xs := xs) (d := d + 1) x ok.now hi
    rw [if_neg (by decide), if_neg (by decide), if_neg (by decide), if_neg (by decide), if_neg (by decide), if_neg (by decide), if_pos (by decide), en_gr h.x.o rfl, en_cl h.x.c1.1, r1, c1s, ri0]
    exact ⟨σ1, _, rfl, r2, by omega, fun _ => rfl, by omega, by omega, by omega⟩
  · rw [if_neg (by decide), if_neg (by decide), if_neg (by decide), if_neg (by decide), if_neg (by decide), if_neg (by decide), if_neg (by decide), if_pos (by decide), en_cl hl, lg_loses (d := d + 4) hl hq (ok.now.L i hi), c1s, ri0]
    exact ⟨σ, _, rfl, x, by omega, by omega, fun _ => rfl, by omega, by omega⟩
  · rw [if_neg (by decide), if_neg (by decide), if_neg (by decide), if_neg (by decide), if_neg (by decide), if_neg (by decide), if_neg (by decide), if_neg (by decide), if_pos (by decide), en_cl hl, lg_bags (d := d + 4) hl hq (ok.now.L i hi), c1s, ri0]
    exact ⟨σ, _, rfl, x, by omega, by omega, by omega, fun _ => rfl, by omega⟩
  · rw [if_neg (by decide), if_neg (by decide), if_neg (by decide), if_neg (by decide), if_neg (by decide), if_neg (by decide), if_neg (by decide), if_neg (by decide), if_neg (by decide), if_pos (by decide), en_cl hl, lg_worth (d := d + 3) hl hq (ok.now.L i hi), c1s, ri0]
    exact ⟨σ, _, rfl, x, by omega, by omega, by omega, by omega, fun _ => rfl⟩
theorem m_told (h : MR S σ G) (ok : GO G) {i j : Nat} (hi : i < G.now.n) (hj : j ≤ 9) : ∃ σ1 v, mx_ev xs mx_P (d + 6) 149 [.ref 90, .int (nI i), .int (nI j)] (en S σ) = some (some (.int v), en S σ1) ∧ MC S σ σ1 G.now ∧ (j < 6 → v = nI (G.now.L i j)) ∧ (j = 6 → v = nI (q_takes (G.now.L i) (q_plain G.now.K (G.now.ru 3) (G.now.L i)))) ∧ (j = 7 → v = nI (q_loses (G.now.L i))) ∧ (j = 8 → v = nI (q_bags (G.now.L i))) ∧ (j = 9 → v = nI (q_worth (G.now.L i))) := by
  have h10 := ok.now.n
  have m := h.mc
  have e1 : q_hl (nI i) G.now.n = 1 := by unfold q_hl; rw [if_neg (nI_pos (by omega)), if_neg (nI_ge hi (by omega))]
  have e2 : q_w (nI j) 0 9 = 1 := by unfold q_w; rw [if_neg (nI_pos (by omega)), if_neg (by exact nI_nlt (a := 9) hj (by decide))]
  rw [ev_X7_told, en_cl h.mo.o, m_isLeg m h10, c1s, e1, if_neg (by decide), m_in', c1s, e2, if_neg (by decide)]
  rcases (show j = 6 ∨ j = 7 ∨ j = 8 ∨ j = 9 ∨ j < 6 by omega) with rfl | rfl | rfl | rfl | hj6
  · obtain ⟨σ1, r1, r2⟩ := m_takesBy (xs := xs) (d := d + 1) m ok.now hi
    rw [if_pos (by decide), en_cl h.mo.o, r1, c1s, ri0]
    exact ⟨σ1, _, rfl, r2, by omega, fun _ => rfl, by omega, by omega, by omega⟩
  · rw [if_neg (by decide), if_pos (by decide), en_cl h.mo.o, m_losesOf h.mo hi h10 h.now.L (ok.now.L i hi), c1s, ri0]
    exact ⟨σ, _, rfl, m, by omega, by omega, fun _ => rfl, by omega, by omega⟩
  · rw [if_neg (by decide), if_neg (by decide), if_pos (by decide), en_cl h.mo.o, m_bagsOf h.mo hi h10 h.now.L (ok.now.L i hi), c1s, ri0]
    exact ⟨σ, _, rfl, m, by omega, by omega, by omega, fun _ => rfl, by omega⟩
  · rw [if_neg (by decide), if_neg (by decide), if_neg (by decide), if_pos (by decide), en_cl h.mo.o, m_worthOf m ok.now hi, c1s, ri0]
    exact ⟨σ, _, rfl, m, by omega, by omega, by omega, by omega, fun _ => rfl⟩
  · rw [if_neg (fun e => by have := (nI_eq (b := 6) (by omega) (by decide)).mp e; omega), if_neg (fun e => by have := (nI_eq (b := 7) (by omega) (by decide)).mp e; omega), if_neg (fun e => by have := (nI_eq (b := 8) (by omega) (by decide)).mp e; omega), if_neg (fun e => by have := (nI_eq (b := 9) (by omega) (by decide)).mp e; omega), en_cl h.mo.o, m_of' m hi h10 hj6 rfl, c1s, ri0]
    exact ⟨σ, _, rfl, m, fun _ => rfl, by omega, by omega, by omega, by omega⟩
theorem t_told (a1 a2 : Int32) : St xs 84 149 [.int a1, .int a2] := by
  intro S σ G hX hM ok
  have h10 := ok.now.n
  rcases q_hl_c a1 (n := G.now.n) (by omega) with e1 | ⟨i, hi, rfl, e1⟩
  · rw [ev_X6_told, en_gr hX.x.o rfl, en_cl hX.x.c1.1, x_has hX.xc h10, c1s, e1, if_pos rfl, ri0]
    refine ⟨σ, σ, _, rfl, ?_, RR_same hX hM ok⟩
    rw [ev_X7_told, en_cl hM.mo.o, m_isLeg hM.mc h10, c1s, e1, if_pos rfl, ri0]
  rcases q_w_c a2 (h := 9) (z := 9) rfl (by decide) with e2 | ⟨j, hj, rfl, e2⟩
  · have ne : ∀ k : Int32, q_w k 0 9 = 1 → ¬ a2 = k := fun k hk e => by rw [e, hk] at e2; revert e2; decide
    rw [ev_X6_told, en_gr hX.x.o rfl, en_cl hX.x.c1.1, x_has hX.xc h10, c1s, e1, if_neg (by decide), en_gr hX.x.o rfl, en_gr hX.x.c1.1 rfl, cl_aa hX.x.c1 (by omega), if_neg (ne 0 (by decide)), if_neg (ne 1 (by decide)), if_neg (ne 2 (by decide)), if_neg (ne 3 (by decide)), if_neg (ne 4 (by decide)), if_neg (ne 5 (by decide)), if_neg (ne 6 (by decide)), if_neg (ne 7 (by decide)), if_neg (ne 8 (by decide)), if_neg (ne 9 (by decide)), ri0]
    refine ⟨σ, σ, _, rfl, ?_, RR_same hX hM ok⟩
    rw [ev_X7_told, en_cl hM.mo.o, m_isLeg hM.mc h10, c1s, e1, if_neg (by decide), m_in', c1s, e2, if_pos rfl, ri0]
  · obtain ⟨σ1, v, r1, x1, v1, v2, v3, v4, v5⟩ := x_told (xs := xs) (d := 6) hX ok hi hj
    obtain ⟨σ2, w, r2, m2, w1, w2, w3, w4, w5⟩ := m_told (xs := xs) (d := 6) (hM.aft x1) ok hi hj
    have e : w = v := by
      rcases (show j < 6 ∨ j = 6 ∨ j = 7 ∨ j = 8 ∨ j = 9 by omega) with h | h | h | h | h
      · rw [w1 h, (v1 h).1]
      · rw [w2 h, v2 h]
      · rw [w3 h, v3 h]
      · rw [w4 h, v4 h]
      · rw [w5 h, v5 h]
    subst e
    exact ⟨σ1, σ2, w, r1, r2, RR_now hX hM ok x1 m2 ok.now ok.day⟩
/-- whether a kind stands under another -/
def q_un (k w : Nat) : Int32 := if w = 0 ∨ k = w ∨ (w = 1 ∧ k = 3) ∨ (w = 2 ∧ k = 4) then 1 else 0
def q_abv : Nat → Int32
  | 0 => -1
  | 1 => 0
  | 2 => 0
  | 3 => 1
  | 4 => 2
  | _ => 0
theorem isOf_s (call : Nat → List Value → mx_H → mx_R) (n : Nat) {k s : Nat} (hk : k ≤ 5) (hs : s ≤ 5) (w : Int32) (h : mx_H) : mx_rn xs call kk_X1_isOf (n + 1) 7 [(1, .int w), (2, .int (nI k)), (3, .int (nI s))] [] h = if nI k = w then some (some (.int 1), h) else mx_rn xs call kk_X1_isOf n 7 [(1, .int w), (2, .int (q_abv k)), (3, .int (nI (s + 1)))] [] h := by
  rw [rn_X1_isOf_7, if_neg (by exact nI_ge (b := 6) (by omega) (by decide)), if_neg (nI_pos (by omega)), nI_1]
  split
  · rfl
  · rcases (show k = 0 ∨ k = 1 ∨ k = 2 ∨ k = 3 ∨ k = 4 ∨ k = 5 by omega) with rfl | rfl | rfl | rfl | rfl | rfl <;> rfl
theorem isOf_n (call : Nat → List Value → mx_H → mx_R) (n : Nat) {s : Nat} (hs : s ≤ 5) (w : Int32) (h : mx_H) : mx_rn xs call kk_X1_isOf (n + 1) 7 [(1, .int w), (2, .int (-1)), (3, .int (nI s))] [] h = some (some (.int 0), h) := by
  rw [rn_X1_isOf_7, if_neg (by exact nI_ge (b := 6) (by omega) (by decide)), if_pos (by decide)]
  rfl
theorem lg_isOf {a : Nat} {l : Nat → Nat} (hS : S[a]? = some en_leg) (hl : q_at (σ a) l) (hk : l 0 ≤ 5) {w : Nat} (hw : w ≤ 5) : mx_ev xs mx_P (d + 1) 44 [.ref a, .int (nI w)] (en S σ) = some (some (.int (q_un (l 0) w)), en S σ) := by
  rw [ev_X1_isOf, en_gi hS rfl, hl 0 (by decide)]
  have z0 : ∀ n s, s ≤ 4 → mx_rn xs (mx_ev xs mx_P d) kk_X1_isOf (n + 2) 7 [(1, .int (nI w)), (2, .int (nI 0)), (3, .int (nI s))] [] (en S σ) = some (some (.int (if w = 0 then 1 else 0)), en S σ) := fun n s hs => by
    rw [isOf_s _ _ (by decide) (by omega)]
    by_cases e : w = 0
    · subst e; rfl
    · rw [if_neg (fun x => e ((nI_eq (by decide) (by omega)).mp x).symm), if_neg e]
      exact isOf_n _ _ (by omega) _ _
  have z1 : ∀ n s k p, s ≤ 3 → k ≤ 5 → p ≤ 5 → q_abv k = nI p → ∀ v, mx_rn xs (mx_ev xs mx_P d) kk_X1_isOf n 7 [(1, .int (nI w)), (2, .int (nI p)), (3, .int (nI (s + 1)))] [] (en S σ) = some (some (.int v), en S σ) → mx_rn xs (mx_ev xs mx_P d) kk_X1_isOf (n + 1) 7 [(1, .int (nI w)), (2, .int (nI k)), (3, .int (nI s))] [] (en S σ) = some (some (.int (if k = w then 1 else v)), en S σ) := fun n s k p hs hk hp hv v hr => by
    rw [isOf_s _ _ hk (by omega)]
    by_cases e : k = w
    · rw [if_pos (by rw [e]), if_pos e]
    · rw [if_neg (fun x => e ((nI_eq (by omega) (by omega)).mp x)), if_neg e, hv]
      exact hr
  unfold q_un
  rcases (show l 0 = 0 ∨ l 0 = 1 ∨ l 0 = 2 ∨ l 0 = 3 ∨ l 0 = 4 ∨ l 0 = 5 by omega) with e | e | e | e | e | e <;> rw [e]
  · refine (z0 99997 0 (by decide)).trans ?_
    congr 3
    split <;> split <;> first | rfl | omega
  · refine (z1 99998 0 1 0 (by decide) (by decide) (by decide) rfl _ (z0 99996 1 (by decide))).trans ?_
    congr 3
    (repeat' split) <;> first | rfl | omega
  · refine (z1 99998 0 2 0 (by decide) (by decide) (by decide) rfl _ (z0 99996 1 (by decide))).trans ?_
    congr 3
    (repeat' split) <;> first | rfl | omega
  · refine (z1 99998 0 3 1 (by decide) (by decide) (by decide) rfl _ (z1 99997 1 1 0 (by decide) (by decide) (by decide) rfl _ (z0 99995 2 (by decide)))).trans ?_
    congr 3
    (repeat' split) <;> first | rfl | omega
  · refine (z1 99998 0 4 2 (by decide) (by decide) (by decide) rfl _ (z1 99997 1 2 0 (by decide) (by decide) (by decide) rfl _ (z0 99995 2 (by decide)))).trans ?_
    congr 3
    (repeat' split) <;> first | rfl | omega
  · refine (z1 99998 0 5 0 (by decide) (by decide) (by decide) rfl _ (z0 99996 1 (by decide))).trans ?_
    congr 3
    (repeat' split) <;> first | rfl | omega
theorem m_isUnder {k w : Nat} (hk : k ≤ 5) (hw : w ≤ 5) (h : mx_H) : mx_ev xs mx_P (d + 1) 150 [.int (nI k), .int (nI w)] h = some (some (.int (q_un k w)), h) := by
  rw [ev_X7_isUnder]
  rcases (show k = 0 ∨ k = 1 ∨ k = 2 ∨ k = 3 ∨ k = 4 ∨ k = 5 by omega) with rfl | rfl | rfl | rfl | rfl | rfl <;> rcases (show w = 0 ∨ w = 1 ∨ w = 2 ∨ w = 3 ∨ w = 4 ∨ w = 5 by omega) with rfl | rfl | rfl | rfl | rfl | rfl <;> rfl
theorem q_un_c (k w : Nat) : q_un k w = 0 ∨ q_un k w = 1 := by
  unfold q_un
  split
  · exact Or.inr rfl
  · exact Or.inl rfl
theorem t_as (a1 a2 : Int32) : St xs 85 151 [.int a1, .int a2] := by
  intro S σ G hX hM ok
  have h10 := ok.now.n
  rw [ev_X6_as, en_gr hX.x.o rfl, en_cl hX.x.c1.1, x_has hX.xc h10, c1s]
  rcases q_hl_c a1 (n := G.now.n) (by omega) with e1 | ⟨i, hi, rfl, e1⟩
  · rw [e1, if_pos rfl, ri0]
    refine ⟨σ, σ, _, rfl, ?_, RR_same hX hM ok⟩
    rw [ev_X7_as, en_cl hM.mo.o, m_isLeg hM.mc h10, c1s, e1, if_pos rfl, ri0]
  rw [e1, if_neg (by decide), x_isKind, c1s]
  rcases q_w_c a2 (h := 5) (z := 5) rfl (by decide) with e2 | ⟨j, hj, rfl, e2⟩
  · rw [e2, if_pos rfl, ri0]
    refine ⟨σ, σ, _, rfl, ?_, RR_same hX hM ok⟩
    rw [ev_X7_as, en_cl hM.mo.o, m_isLeg hM.mc h10, c1s, e1, if_neg (by decide), m_in', c1s, e2, if_pos rfl, ri0]
  have hl := hX.xc.leg (i := i) (by omega)
  have hq := hX.now.L i hi
  have k0 := (ok.now.L i hi).1
  rw [e2, if_neg (by decide), en_gr hX.x.o rfl, en_gr hX.x.c1.1 rfl, cl_aa hX.x.c1 (by omega), en_cl hl, lg_isOf (d := 10) hl hq k0 hj, c1s]
  have mm : mx_ev xs mx_P 12 151 [.ref 90, .int (nI i), .int (nI j)] (en S σ) = some (some (.int (if q_un (G.now.L i 0) j = 0 then -1000000012 else nI (G.now.L i 1))), en S σ) := by
    rw [ev_X7_as, en_cl hM.mo.o, m_isLeg hM.mc h10, c1s, e1, if_neg (by decide), m_in', c1s, e2, if_neg (by decide), en_cl hM.mo.o, m_of' hM.mc (w := 0) (j := 0) hi h10 (by decide) rfl, c1s, m_isUnder k0 hj, c1s]
    rcases q_un_c (G.now.L i 0) j with e | e
    · rw [e, if_pos rfl, ri0, if_pos rfl]
    · rw [e, if_neg (by decide), en_cl hM.mo.o, m_of' hM.mc (w := 1) (j := 1) hi h10 (by decide) rfl, c1s, ri0, if_neg (by decide)]
  rcases q_un_c (G.now.L i 0) j with e | e
  · rw [e, if_pos rfl, ri0]
    rw [e, if_pos rfl] at mm
    exact ⟨σ, σ, _, rfl, mm, RR_same hX hM ok⟩
  · rw [e, if_neg (by decide), en_gr hX.x.o rfl, en_gr hX.x.c1.1 rfl, cl_aa hX.x.c1 (by omega), en_gi hl rfl, hq 1 (by decide), ri0]
    rw [e, if_neg (by decide)] at mm
    exact ⟨σ, σ, _, rfl, mm, RR_same hX hM ok⟩
theorem m_swaps (h : MC S σ0 σ C) {k : Nat} {w v : Int32} (hw : w = nI k) (hk : k < 1443) : mx_ev xs mx_P (d + 1) 140 [.ref 90, .int w, .int v] (en S σ) = some (some (.int (σ 91 k)), en S (en_up σ 91 k v)) := by
  subst hw
  rw [ev_X7_swaps, en_gr h.mo.o rfl, en_aiN h.mo.w hk (by decide), en_gr h.mo.o rfl, en_asN h.mo.w hk (by decide), ri0]
theorem t_turns (a1 a2 : Int32) : St xs 86 152 [.int a1, .int a2] := by
  intro S σ G hX hM ok
  have h10 := ok.now.n
  rw [ev_X6_turns, en_gr hX.x.o rfl, en_cl hX.x.c1.1, x_has hX.xc h10, c1s]
  rcases q_hl_c a1 (n := G.now.n) (by omega) with e1 | ⟨i, hi, rfl, e1⟩
  · rw [e1, if_pos rfl, ri0]
    refine ⟨σ, σ, _, rfl, ?_, RR_same hX hM ok⟩
    rw [ev_X7_turns, en_cl hM.mo.o, m_isLeg hM.mc h10, c1s, e1, if_pos rfl, ri0]
  rw [e1, if_neg (by decide), x_isKind, c1s]
  rcases q_w_c a2 (h := 5) (z := 5) rfl (by decide) with e2 | ⟨j, hj, rfl, e2⟩
  · rw [e2, if_pos rfl, ri0]
    refine ⟨σ, σ, _, rfl, ?_, RR_same hX hM ok⟩
    rw [ev_X7_turns, en_cl hM.mo.o, m_isLeg hM.mc h10, c1s, e1, if_neg (by decide), m_in', c1s, e2, if_pos rfl, ri0]
  have hl := hX.xc.leg (i := i) (by omega)
  have hq := hX.now.L i hi
  have x1 := hX.xc.put (i := i) (j := 0) (v := j) (by omega)
  have mm := (hM.aft x1).mc
  have m2 := mm.put (i := i) (j := 0) (v := j) (by omega) (by decide)
  have ei : (11 : Int32) + 6 * nI i = nI (11 + 6 * i + 0) := by rw [show (11 : Int32) = nI 11 from rfl, show (6 : Int32) = nI 6 from rfl, pk_mul, nI_add]; rfl
  rw [e2, if_neg (by decide), en_gr hX.x.o rfl, en_gr hX.x.c1.1 rfl, cl_aa hX.x.c1 (by omega), en_gi hl rfl, hq 0 (by decide), en_gr hX.x.o rfl, en_gr hX.x.c1.1 rfl, cl_aa hX.x.c1 (by omega), en_pt hl rfl, ri0]
  refine ⟨_, _, _, rfl, ?_, RR_now hX hM ok x1 m2 (q_ok_pt ok.now (by omega)) (by rw [q_pt_day]; exact ok.day)⟩
  rw [ev_X7_turns, en_cl hM.mo.o, m_isLeg mm h10, c1s, e1, if_neg (by decide), m_in', c1s, e2, if_neg (by decide), en_cl hM.mo.o, m_swaps mm ei (by omega), c1s, ri0, mm.r.L i hi 0 (by decide)]
theorem t_irons (a1 a2 : Int32) : St xs 89 155 [.int a1, .int a2] := by
  intro S σ G hX hM ok
  have h10 := ok.now.n
  rw [ev_X6_irons, en_gr hX.x.o rfl, en_cl hX.x.c1.1, x_has hX.xc h10, c1s]
  rcases q_hl_c a1 (n := G.now.n) (by omega) with e1 | ⟨i, hi, rfl, e1⟩
  · rw [e1, if_pos rfl, ri0]
    refine ⟨σ, σ, _, rfl, ?_, RR_same hX hM ok⟩
    rw [ev_X7_irons, en_cl hM.mo.o, m_isLeg hM.mc h10, c1s, e1, if_pos rfl, ri0]
  rw [e1, if_neg (by decide), x_within, c1s]
  have c : q_w a2 (-3) 3 = 0 ∨ ∃ u, u ≤ 6 ∧ a2 = nI u - 3 ∧ q_w a2 (-3) 3 = 1 := by
    rcases q_w_c (a2 + 3) (h := 6) (z := 6) rfl (by decide) with e | ⟨u, hu, e, _⟩
    · left
      unfold q_w at e ⊢
      by_cases h0 : a2 < -3
      · rw [if_pos h0]
      · rw [if_neg h0]
        by_cases h3 : 3 < a2
        · rw [if_pos h3]
        · exfalso
          rw [Int32.lt_iff_toInt_lt] at h0 h3
          have e3 : (a2 + 3).toInt = a2.toInt + 3 := by
            rw [Int32.toInt_add]
            have b1 : (-3 : Int32).toInt = -3 := by decide
            have b2 : (3 : Int32).toInt = 3 := by decide
            rw [b1] at h0
            rw [b2] at h3 ⊢
            rw [Int.bmod_def]
            omega
          have b1 : (-3 : Int32).toInt = -3 := by decide
          have b2 : (3 : Int32).toInt = 3 := by decide
          rw [b1] at h0
          rw [b2] at h3
          rw [if_neg (by rw [Int32.lt_iff_toInt_lt, e3]; show ¬ a2.toInt + 3 < 0; omega), if_neg (by rw [Int32.lt_iff_toInt_lt, e3]; show ¬ 6 < a2.toInt + 3; omega)] at e
          revert e
          decide
    · right
      refine ⟨u, hu, ?_, ?_⟩
      · rw [← e, Int32.add_sub_cancel]
      · have : a2 = nI u - 3 := by rw [← e, Int32.add_sub_cancel]
        subst this
        rcases (show u = 0 ∨ u = 1 ∨ u = 2 ∨ u = 3 ∨ u = 4 ∨ u = 5 ∨ u = 6 by omega) with rfl | rfl | rfl | rfl | rfl | rfl | rfl <;> decide
  rcases c with e2 | ⟨u, hu, rfl, e2⟩
  · rw [e2, if_pos rfl, ri0]
    refine ⟨σ, σ, _, rfl, ?_, RR_same hX hM ok⟩
    rw [ev_X7_irons, en_cl hM.mo.o, m_isLeg hM.mc h10, c1s, e1, if_neg (by decide), m_in', c1s, e2, if_pos rfl, ri0]
  obtain ⟨σ1, r1, x1⟩ := x_press (xs := xs) (d := 6) hX.xc ok.now hi hu rfl
  have mm := (hM.aft x1).mc
  obtain ⟨σ2, r2, m2⟩ := m_presses (xs := xs) (d := 6) mm ok.now hi hu rfl
  rw [e2, if_neg (by decide), en_gr hX.x.o rfl, en_gr hX.x.o rfl, en_gr hX.x.c1.1 rfl, cl_aa hX.x.c1 (by omega), en_cl hX.x.c1.1, r1, c1s]
  have fin : mx_ev xs mx_P 12 155 [.ref 90, .int (nI i), .int (nI u - 3)] (en S σ1) = some (some (.int (if q_ab u ≤ G.now.ru 1 then 1 else 0)), en S σ2) := by
    rw [ev_X7_irons, en_cl hM.mo.o, m_isLeg mm h10, c1s, e1, if_neg (by decide), m_in', c1s, e2, if_neg (by decide), en_cl hM.mo.o, r2, c1s, ri0]
  have rr := RR_now hX hM ok x1 m2 (q_ok_press ok.now) (by rw [q_pressC_day]; exact ok.day)
  by_cases e : q_ab u ≤ G.now.ru 1
  · rw [if_pos e] at fin ⊢
    exact ⟨σ1, σ2, _, rfl, fin, rr⟩
  · rw [if_neg e] at fin ⊢
    exact ⟨σ1, σ2, _, rfl, fin, rr⟩
theorem t_seed (a1 : Int32) : St xs 92 159 [.int a1] := by
  intro S σ G hX hM ok
  have x1 := hX.xc.pz a1
  have mm := (hM.aft x1).mc
  have m2 := m_wz mm a1
  rw [ev_X6_seed, en_gr hX.x.o rfl, en_gi hX.x.c1.1 rfl, hX.now.z, en_gr hX.x.o rfl, en_pt hX.x.c1.1 rfl, ri0]
  refine ⟨_, _, _, rfl, ?_, RR_now hX hM ok x1 m2 (q_ok_wz ok.now) (by rw [q_wz_day]; exact ok.day)⟩
  rw [ev_X7_seed, en_cl hM.mo.o, m_swaps mm (k := 0) (w := 0) rfl (by decide), c1s, ri0, mm.r.z]
end O2
