/-! ===== pour, copy ===== -/
def q_pv (C : q_C) (c : Nat → Int32) (k : Nat) : Nat := if c k = -1000000005 then C.L k 2 else q_cl (c k)
def q_pour (C : q_C) (c : Nat → Int32) : Nat → q_C
  | 0 => C
  | k + 1 => q_pt (q_pour C c k) k 2 (q_pv C c k)
def q_pn (C : q_C) (c : Nat → Int32) : Nat → Nat
  | 0 => 0
  | k + 1 => q_pn C c k + (if q_pv C c k = C.L k 2 then 0 else 1)
theorem q_pour_s (C : q_C) (c : Nat → Int32) (k : Nat) : q_pour C c (k + 1) = q_pt (q_pour C c k) k 2 (q_pv C c k) := rfl
theorem q_pn_s (C : q_C) (c : Nat → Int32) (k : Nat) : q_pn C c (k + 1) = q_pn C c k + (if q_pv C c k = C.L k 2 then 0 else 1) := rfl
theorem q_pn_le (C : q_C) (c : Nat → Int32) : ∀ k, q_pn C c k ≤ k
  | 0 => Nat.le_refl _
  | k + 1 => by
    have := q_pn_le C c k
    rw [q_pn_s]
    split <;> omega
theorem q_pour_n (C : q_C) (c : Nat → Int32) : ∀ k, (q_pour C c k).n = C.n
  | 0 => rfl
  | k + 1 => by rw [q_pour_s, q_pt_n, q_pour_n C c k]
theorem q_pour_day (C : q_C) (c : Nat → Int32) : ∀ k, (q_pour C c k).day = C.day
  | 0 => rfl
  | k + 1 => by rw [q_pour_s, q_pt_day, q_pour_day C c k]
theorem q_pour_L (C : q_C) (c : Nat → Int32) : ∀ k i j, k ≤ i → (q_pour C c k).L i j = C.L i j
  | 0, _, _, _ => rfl
  | k + 1, i, j, h => by
    rw [q_pour_s, q_pt_L]
    show (if i = k ∧ j = 2 then _ else _) = _
    rw [if_neg (by omega), q_pour_L C c k i j (by omega)]
section PO
variable {S : List en_S} {σ0 σ σ1 σ2 : Nat → Nat → Int32} {cb d : Nat} {xs : List Int32} {C D : q_C} {G : q_G}
theorem q_pv_le (ok : q_ok C) (c : Nat → Int32) {k : Nat} (hk : k < C.n) : q_pv C c k ≤ 99 := by
  unfold q_pv
  split
  · exact (ok.L k hk).2.2.1
  · exact q_cl_le _
theorem q_ok_pour (ok : q_ok C) (c : Nat → Int32) : ∀ k, k ≤ C.n → q_ok (q_pour C c k)
  | 0, _ => ok
  | k + 1, h => q_ok_pt (q_ok_pour ok c k (by omega)) (by have := q_pv_le ok c (show k < C.n by omega); omega)
theorem XC.keep (h : XC S σ0 σ cb C) {i v : Nat} (hv : v = C.L i 2) : XC S σ0 σ cb (q_pt C i 2 v) :=
  h.cg (by simp only [mk_n, mk_L, mk_ru, mk_K, mk_p, mk_t, mk_s, mk_day, mk_z, q_pt_n, q_pt_L, q_pt_ru, q_pt_K, q_pt_p, q_pt_t, q_pt_s, q_pt_day, q_pt_z, q_wearC_n, q_wearC_L, q_wearC_ru, q_wearC_K, q_wearC_p, q_wearC_t, q_wearC_s, q_wearC_day, q_wearC_z, q_drawC_n, q_drawC_L, q_drawC_ru, q_drawC_K, q_drawC_p, q_drawC_t, q_drawC_s, q_drawC_day, q_drawC_z, q_soakC_n, q_soakC_L, q_soakC_ru, q_soakC_K, q_soakC_p, q_soakC_t, q_soakC_s, q_soakC_day, q_soakC_z, q_pressC_n, q_pressC_L, q_pressC_ru, q_pressC_K, q_pressC_p, q_pressC_t, q_pressC_s, q_pressC_day, q_pressC_z, q_tick_n, q_tick_L, q_tick_ru, q_tick_K, q_tick_p, q_tick_t, q_tick_s, q_tick_day, q_tick_z, q_wL_n, q_wL_L, q_wL_ru, q_wL_K, q_wL_p, q_wL_t, q_wL_s, q_wL_day, q_wL_z, q_wp_n, q_wp_L, q_wp_ru, q_wp_K, q_wp_p, q_wp_t, q_wp_s, q_wp_day, q_wp_z, q_wt_n, q_wt_L, q_wt_ru, q_wt_K, q_wt_p, q_wt_t, q_wt_s, q_wt_day, q_wt_z, q_ws_n, q_ws_L, q_ws_ru, q_ws_K, q_ws_p, q_ws_t, q_ws_s, q_ws_day, q_ws_z, q_wz_n, q_wz_L, q_wz_ru, q_wz_K, q_wz_p, q_wz_t, q_wz_s, q_wz_day, q_wz_z, q_wd_n, q_wd_L, q_wd_ru, q_wd_K, q_wd_p, q_wd_t, q_wd_s, q_wd_day, q_wd_z, q_wr_n, q_wr_L, q_wr_ru, q_wr_K, q_wr_p, q_wr_t, q_wr_s, q_wr_day, q_wr_z, q_add_n, q_add_L, q_add_ru, q_add_K, q_add_p, q_add_t, q_add_s, q_add_day, q_add_z]) (fun a ha j hj => by
    rw [q_pt_L]
    show _ = if a = i ∧ j = 2 then v else C.L a j
    split
    · rename_i e; rw [hv, e.1, e.2]
    · rfl) (by simp only [mk_n, mk_L, mk_ru, mk_K, mk_p, mk_t, mk_s, mk_day, mk_z, q_pt_n, q_pt_L, q_pt_ru, q_pt_K, q_pt_p, q_pt_t, q_pt_s, q_pt_day, q_pt_z, q_wearC_n, q_wearC_L, q_wearC_ru, q_wearC_K, q_wearC_p, q_wearC_t, q_wearC_s, q_wearC_day, q_wearC_z, q_drawC_n, q_drawC_L, q_drawC_ru, q_drawC_K, q_drawC_p, q_drawC_t, q_drawC_s, q_drawC_day, q_drawC_z, q_soakC_n, q_soakC_L, q_soakC_ru, q_soakC_K, q_soakC_p, q_soakC_t, q_soakC_s, q_soakC_day, q_soakC_z, q_pressC_n, q_pressC_L, q_pressC_ru, q_pressC_K, q_pressC_p, q_pressC_t, q_pressC_s, q_pressC_day, q_pressC_z, q_tick_n, q_tick_L, q_tick_ru, q_tick_K, q_tick_p, q_tick_t, q_tick_s, q_tick_day, q_tick_z, q_wL_n, q_wL_L, q_wL_ru, q_wL_K, q_wL_p, q_wL_t, q_wL_s, q_wL_day, q_wL_z, q_wp_n, q_wp_L, q_wp_ru, q_wp_K, q_wp_p, q_wp_t, q_wp_s, q_wp_day, q_wp_z, q_wt_n, q_wt_L, q_wt_ru, q_wt_K, q_wt_p, q_wt_t, q_wt_s, q_wt_day, q_wt_z, q_ws_n, q_ws_L, q_ws_ru, q_ws_K, q_ws_p, q_ws_t, q_ws_s, q_ws_day, q_ws_z, q_wz_n, q_wz_L, q_wz_ru, q_wz_K, q_wz_p, q_wz_t, q_wz_s, q_wz_day, q_wz_z, q_wd_n, q_wd_L, q_wd_ru, q_wd_K, q_wd_p, q_wd_t, q_wd_s, q_wd_day, q_wd_z, q_wr_n, q_wr_L, q_wr_ru, q_wr_K, q_wr_p, q_wr_t, q_wr_s, q_wr_day, q_wr_z, q_add_n, q_add_L, q_add_ru, q_add_K, q_add_p, q_add_t, q_add_s, q_add_day, q_add_z]) (by simp only [mk_n, mk_L, mk_ru, mk_K, mk_p, mk_t, mk_s, mk_day, mk_z, q_pt_n, q_pt_L, q_pt_ru, q_pt_K, q_pt_p, q_pt_t, q_pt_s, q_pt_day, q_pt_z, q_wearC_n, q_wearC_L, q_wearC_ru, q_wearC_K, q_wearC_p, q_wearC_t, q_wearC_s, q_wearC_day, q_wearC_z, q_drawC_n, q_drawC_L, q_drawC_ru, q_drawC_K, q_drawC_p, q_drawC_t, q_drawC_s, q_drawC_day, q_drawC_z, q_soakC_n, q_soakC_L, q_soakC_ru, q_soakC_K, q_soakC_p, q_soakC_t, q_soakC_s, q_soakC_day, q_soakC_z, q_pressC_n, q_pressC_L, q_pressC_ru, q_pressC_K, q_pressC_p, q_pressC_t, q_pressC_s, q_pressC_day, q_pressC_z, q_tick_n, q_tick_L, q_tick_ru, q_tick_K, q_tick_p, q_tick_t, q_tick_s, q_tick_day, q_tick_z, q_wL_n, q_wL_L, q_wL_ru, q_wL_K, q_wL_p, q_wL_t, q_wL_s, q_wL_day, q_wL_z, q_wp_n, q_wp_L, q_wp_ru, q_wp_K, q_wp_p, q_wp_t, q_wp_s, q_wp_day, q_wp_z, q_wt_n, q_wt_L, q_wt_ru, q_wt_K, q_wt_p, q_wt_t, q_wt_s, q_wt_day, q_wt_z, q_ws_n, q_ws_L, q_ws_ru, q_ws_K, q_ws_p, q_ws_t, q_ws_s, q_ws_day, q_ws_z, q_wz_n, q_wz_L, q_wz_ru, q_wz_K, q_wz_p, q_wz_t, q_wz_s, q_wz_day, q_wz_z, q_wd_n, q_wd_L, q_wd_ru, q_wd_K, q_wd_p, q_wd_t, q_wd_s, q_wd_day, q_wd_z, q_wr_n, q_wr_L, q_wr_ru, q_wr_K, q_wr_p, q_wr_t, q_wr_s, q_wr_day, q_wr_z, q_add_n, q_add_L, q_add_ru, q_add_K, q_add_p, q_add_t, q_add_s, q_add_day, q_add_z]) (by simp only [mk_n, mk_L, mk_ru, mk_K, mk_p, mk_t, mk_s, mk_day, mk_z, q_pt_n, q_pt_L, q_pt_ru, q_pt_K, q_pt_p, q_pt_t, q_pt_s, q_pt_day, q_pt_z, q_wearC_n, q_wearC_L, q_wearC_ru, q_wearC_K, q_wearC_p, q_wearC_t, q_wearC_s, q_wearC_day, q_wearC_z, q_drawC_n, q_drawC_L, q_drawC_ru, q_drawC_K, q_drawC_p, q_drawC_t, q_drawC_s, q_drawC_day, q_drawC_z, q_soakC_n, q_soakC_L, q_soakC_ru, q_soakC_K, q_soakC_p, q_soakC_t, q_soakC_s, q_soakC_day, q_soakC_z, q_pressC_n, q_pressC_L, q_pressC_ru, q_pressC_K, q_pressC_p, q_pressC_t, q_pressC_s, q_pressC_day, q_pressC_z, q_tick_n, q_tick_L, q_tick_ru, q_tick_K, q_tick_p, q_tick_t, q_tick_s, q_tick_day, q_tick_z, q_wL_n, q_wL_L, q_wL_ru, q_wL_K, q_wL_p, q_wL_t, q_wL_s, q_wL_day, q_wL_z, q_wp_n, q_wp_L, q_wp_ru, q_wp_K, q_wp_p, q_wp_t, q_wp_s, q_wp_day, q_wp_z, q_wt_n, q_wt_L, q_wt_ru, q_wt_K, q_wt_p, q_wt_t, q_wt_s, q_wt_day, q_wt_z, q_ws_n, q_ws_L, q_ws_ru, q_ws_K, q_ws_p, q_ws_t, q_ws_s, q_ws_day, q_ws_z, q_wz_n, q_wz_L, q_wz_ru, q_wz_K, q_wz_p, q_wz_t, q_wz_s, q_wz_day, q_wz_z, q_wd_n, q_wd_L, q_wd_ru, q_wd_K, q_wd_p, q_wd_t, q_wd_s, q_wd_day, q_wd_z, q_wr_n, q_wr_L, q_wr_ru, q_wr_K, q_wr_p, q_wr_t, q_wr_s, q_wr_day, q_wr_z, q_add_n, q_add_L, q_add_ru, q_add_K, q_add_p, q_add_t, q_add_s, q_add_day, q_add_z]) (by simp only [mk_n, mk_L, mk_ru, mk_K, mk_p, mk_t, mk_s, mk_day, mk_z, q_pt_n, q_pt_L, q_pt_ru, q_pt_K, q_pt_p, q_pt_t, q_pt_s, q_pt_day, q_pt_z, q_wearC_n, q_wearC_L, q_wearC_ru, q_wearC_K, q_wearC_p, q_wearC_t, q_wearC_s, q_wearC_day, q_wearC_z, q_drawC_n, q_drawC_L, q_drawC_ru, q_drawC_K, q_drawC_p, q_drawC_t, q_drawC_s, q_drawC_day, q_drawC_z, q_soakC_n, q_soakC_L, q_soakC_ru, q_soakC_K, q_soakC_p, q_soakC_t, q_soakC_s, q_soakC_day, q_soakC_z, q_pressC_n, q_pressC_L, q_pressC_ru, q_pressC_K, q_pressC_p, q_pressC_t, q_pressC_s, q_pressC_day, q_pressC_z, q_tick_n, q_tick_L, q_tick_ru, q_tick_K, q_tick_p, q_tick_t, q_tick_s, q_tick_day, q_tick_z, q_wL_n, q_wL_L, q_wL_ru, q_wL_K, q_wL_p, q_wL_t, q_wL_s, q_wL_day, q_wL_z, q_wp_n, q_wp_L, q_wp_ru, q_wp_K, q_wp_p, q_wp_t, q_wp_s, q_wp_day, q_wp_z, q_wt_n, q_wt_L, q_wt_ru, q_wt_K, q_wt_p, q_wt_t, q_wt_s, q_wt_day, q_wt_z, q_ws_n, q_ws_L, q_ws_ru, q_ws_K, q_ws_p, q_ws_t, q_ws_s, q_ws_day, q_ws_z, q_wz_n, q_wz_L, q_wz_ru, q_wz_K, q_wz_p, q_wz_t, q_wz_s, q_wz_day, q_wz_z, q_wd_n, q_wd_L, q_wd_ru, q_wd_K, q_wd_p, q_wd_t, q_wd_s, q_wd_day, q_wd_z, q_wr_n, q_wr_L, q_wr_ru, q_wr_K, q_wr_p, q_wr_t, q_wr_s, q_wr_day, q_wr_z, q_add_n, q_add_L, q_add_ru, q_add_K, q_add_p, q_add_t, q_add_s, q_add_day, q_add_z]) (by simp only [mk_n, mk_L, mk_ru, mk_K, mk_p, mk_t, mk_s, mk_day, mk_z, q_pt_n, q_pt_L, q_pt_ru, q_pt_K, q_pt_p, q_pt_t, q_pt_s, q_pt_day, q_pt_z, q_wearC_n, q_wearC_L, q_wearC_ru, q_wearC_K, q_wearC_p, q_wearC_t, q_wearC_s, q_wearC_day, q_wearC_z, q_drawC_n, q_drawC_L, q_drawC_ru, q_drawC_K, q_drawC_p, q_drawC_t, q_drawC_s, q_drawC_day, q_drawC_z, q_soakC_n, q_soakC_L, q_soakC_ru, q_soakC_K, q_soakC_p, q_soakC_t, q_soakC_s, q_soakC_day, q_soakC_z, q_pressC_n, q_pressC_L, q_pressC_ru, q_pressC_K, q_pressC_p, q_pressC_t, q_pressC_s, q_pressC_day, q_pressC_z, q_tick_n, q_tick_L, q_tick_ru, q_tick_K, q_tick_p, q_tick_t, q_tick_s, q_tick_day, q_tick_z, q_wL_n, q_wL_L, q_wL_ru, q_wL_K, q_wL_p, q_wL_t, q_wL_s, q_wL_day, q_wL_z, q_wp_n, q_wp_L, q_wp_ru, q_wp_K, q_wp_p, q_wp_t, q_wp_s, q_wp_day, q_wp_z, q_wt_n, q_wt_L, q_wt_ru, q_wt_K, q_wt_p, q_wt_t, q_wt_s, q_wt_day, q_wt_z, q_ws_n, q_ws_L, q_ws_ru, q_ws_K, q_ws_p, q_ws_t, q_ws_s, q_ws_day, q_ws_z, q_wz_n, q_wz_L, q_wz_ru, q_wz_K, q_wz_p, q_wz_t, q_wz_s, q_wz_day, q_wz_z, q_wd_n, q_wd_L, q_wd_ru, q_wd_K, q_wd_p, q_wd_t, q_wd_s, q_wd_day, q_wd_z, q_wr_n, q_wr_L, q_wr_ru, q_wr_K, q_wr_p, q_wr_t, q_wr_s, q_wr_day, q_wr_z, q_add_n, q_add_L, q_add_ru, q_add_K, q_add_p, q_add_t, q_add_s, q_add_day, q_add_z]) (by simp only [mk_n, mk_L, mk_ru, mk_K, mk_p, mk_t, mk_s, mk_day, mk_z, q_pt_n, q_pt_L, q_pt_ru, q_pt_K, q_pt_p, q_pt_t, q_pt_s, q_pt_day, q_pt_z, q_wearC_n, q_wearC_L, q_wearC_ru, q_wearC_K, q_wearC_p, q_wearC_t, q_wearC_s, q_wearC_day, q_wearC_z, q_drawC_n, q_drawC_L, q_drawC_ru, q_drawC_K, q_drawC_p, q_drawC_t, q_drawC_s, q_drawC_day, q_drawC_z, q_soakC_n, q_soakC_L, q_soakC_ru, q_soakC_K, q_soakC_p, q_soakC_t, q_soakC_s, q_soakC_day, q_soakC_z, q_pressC_n, q_pressC_L, q_pressC_ru, q_pressC_K, q_pressC_p, q_pressC_t, q_pressC_s, q_pressC_day, q_pressC_z, q_tick_n, q_tick_L, q_tick_ru, q_tick_K, q_tick_p, q_tick_t, q_tick_s, q_tick_day, q_tick_z, q_wL_n, q_wL_L, q_wL_ru, q_wL_K, q_wL_p, q_wL_t, q_wL_s, q_wL_day, q_wL_z, q_wp_n, q_wp_L, q_wp_ru, q_wp_K, q_wp_p, q_wp_t, q_wp_s, q_wp_day, q_wp_z, q_wt_n, q_wt_L, q_wt_ru, q_wt_K, q_wt_p, q_wt_t, q_wt_s, q_wt_day, q_wt_z, q_ws_n, q_ws_L, q_ws_ru, q_ws_K, q_ws_p, q_ws_t, q_ws_s, q_ws_day, q_ws_z, q_wz_n, q_wz_L, q_wz_ru, q_wz_K, q_wz_p, q_wz_t, q_wz_s, q_wz_day, q_wz_z, q_wd_n, q_wd_L, q_wd_ru, q_wd_K, q_wd_p, q_wd_t, q_wd_s, q_wd_day, q_wd_z, q_wr_n, q_wr_L, q_wr_ru, q_wr_K, q_wr_p, q_wr_t, q_wr_s, q_wr_day, q_wr_z, q_add_n, q_add_L, q_add_ru, q_add_K, q_add_p, q_add_t, q_add_s, q_add_day, q_add_z]) (by simp only [mk_n, mk_L, mk_ru, mk_K, mk_p, mk_t, mk_s, mk_day, mk_z, q_pt_n, q_pt_L, q_pt_ru, q_pt_K, q_pt_p, q_pt_t, q_pt_s, q_pt_day, q_pt_z, q_wearC_n, q_wearC_L, q_wearC_ru, q_wearC_K, q_wearC_p, q_wearC_t, q_wearC_s, q_wearC_day, q_wearC_z, q_drawC_n, q_drawC_L, q_drawC_ru, q_drawC_K, q_drawC_p, q_drawC_t, q_drawC_s, q_drawC_day, q_drawC_z, q_soakC_n, q_soakC_L, q_soakC_ru, q_soakC_K, q_soakC_p, q_soakC_t, q_soakC_s, q_soakC_day, q_soakC_z, q_pressC_n, q_pressC_L, q_pressC_ru, q_pressC_K, q_pressC_p, q_pressC_t, q_pressC_s, q_pressC_day, q_pressC_z, q_tick_n, q_tick_L, q_tick_ru, q_tick_K, q_tick_p, q_tick_t, q_tick_s, q_tick_day, q_tick_z, q_wL_n, q_wL_L, q_wL_ru, q_wL_K, q_wL_p, q_wL_t, q_wL_s, q_wL_day, q_wL_z, q_wp_n, q_wp_L, q_wp_ru, q_wp_K, q_wp_p, q_wp_t, q_wp_s, q_wp_day, q_wp_z, q_wt_n, q_wt_L, q_wt_ru, q_wt_K, q_wt_p, q_wt_t, q_wt_s, q_wt_day, q_wt_z, q_ws_n, q_ws_L, q_ws_ru, q_ws_K, q_ws_p, q_ws_t, q_ws_s, q_ws_day, q_ws_z, q_wz_n, q_wz_L, q_wz_ru, q_wz_K, q_wz_p, q_wz_t, q_wz_s, q_wz_day, q_wz_z, q_wd_n, q_wd_L, q_wd_ru, q_wd_K, q_wd_p, q_wd_t, q_wd_s, q_wd_day, q_wd_z, q_wr_n, q_wr_L, q_wr_ru, q_wr_K, q_wr_p, q_wr_t, q_wr_s, q_wr_day, q_wr_z, q_add_n, q_add_L, q_add_ru, q_add_K, q_add_p, q_add_t, q_add_s, q_add_day, q_add_z])
theorem x_pour_loop (hX : XR S σ G) (ok : GO G) {i : Nat} (hi : i < 4) : ∀ (m k N : Nat) (τ : Nat → Nat → Int32), k + m = min G.now.n (G.sz i) → m < N → XC S σ τ 1 (q_pour G.now (G.ce i) k) → ∃ σ', mx_rn xs (mx_ev xs mx_P (d + 2)) kk_X6_pour N 32 [(0, .ref 0), (2, .ref (62 + 2 * i)), (3, .int (nI (q_pn G.now (G.ce i) k))), (4, .int (nI k))] [] (en S τ) = some (some (.int (nI (q_pn G.now (G.ce i) (min G.now.n (G.sz i))))), en S σ') ∧ XC S σ σ' 1 (q_pour G.now (G.ce i) (min G.now.n (G.sz i)))
  | m, k, 0, τ, _, h2, _ => absurd h2 (by omega)
  | 0, k, N + 1, τ, h1, _, h => by
    have h10 := ok.now.n
    have h24 := ok.sz i hi
    have e : k = min G.now.n (G.sz i) := by omega
    have z1 : τ (62 + 2 * i) 1 = nI (G.sz i) := by rw [h.fr _ (by omega)]; exact hX.sz i hi
    rw [rn_X6_pour_32, en_gr hX.x.o rfl, en_gi hX.x.c1.1 rfl, h.r.n, q_pour_n]
    by_cases c : G.now.n ≤ k
    · rw [if_pos ((nI_leI (by omega) (by omega)).mpr c), ← e]
      exact ⟨τ, rfl, h⟩
    · rw [if_neg (fun x => c ((nI_leI (by omega) (by omega)).mp x)), en_gi (hX.x.so i hi) rfl, z1, if_pos ((nI_leI (by omega) (by omega)).mpr (by omega)), ← e]
      exact ⟨τ, rfl, h⟩
  | m + 1, k, N + 1, τ, h1, h2, h => by
    have h10 := ok.now.n
    have h24 := ok.sz i hi
    have hso := hX.x.so i hi
    have hsp := hX.x.sp i hi
    have hk : k < G.now.n := by omega
    have hl := h.leg (i := k) (by omega)
    have hq := h.r.L k (by rw [q_pour_n]; exact hk)
    have z1 : τ (62 + 2 * i) 1 = nI (G.sz i) := by rw [h.fr _ (by omega)]; exact hX.sz i hi
    have zc : τ (63 + 2 * i) k = G.ce i k := by rw [h.fr _ (by omega)]; exact hX.ce i hi k (by omega)
    have v2 : τ (1 + 7 + k) 2 = nI (G.now.L k 2) := by rw [hq 2 (by decide), q_pour_L _ _ _ _ _ (Nat.le_refl _)]
    have k2 := (ok.now.L k hk).2.2.1
    have nx : ∀ τ', XC S σ τ' 1 (q_pour G.now (G.ce i) (k + 1)) → ∀ w : Int32, w = nI (q_pn G.now (G.ce i) (k + 1)) → ∃ σ', mx_rn xs (mx_ev xs mx_P (d + 2)) kk_X6_pour N 32 [(0, .ref 0), (2, .ref (62 + 2 * i)), (3, .int w), (4, .int (nI k + 1))] [] (en S τ') = some (some (.int (nI (q_pn G.now (G.ce i) (min G.now.n (G.sz i))))), en S σ') ∧ XC S σ σ' 1 (q_pour G.now (G.ce i) (min G.now.n (G.sz i))) := fun τ' h' w hw => by
      rw [hw, nI_1]
      exact x_pour_loop hX ok hi m (k + 1) N τ' (by omega) (by omega) h'
    rw [rn_X6_pour_32, en_gr hX.x.o rfl, en_gi hX.x.c1.1 rfl, h.r.n, q_pour_n, if_neg (nI_ge hk (by omega)), en_gi hso rfl, z1, if_neg (nI_ge (by omega) (by omega)), en_gr hX.x.o rfl, en_gr hX.x.c1.1 rfl, cl_aa hX.x.c1 (by omega), en_cl hso, x_number hso hsp z1 h24 (show k < G.sz i by omega), c1s, zc]
    by_cases cn : G.ce i k = -1000000005
    · have pv : q_pv G.now (G.ce i) k = G.now.L k 2 := by unfold q_pv; rw [if_pos cn]
      rw [if_pos cn, if_pos rfl, en_gi hl rfl, en_gi hl rfl, if_pos rfl]
      exact nx τ (by rw [q_pour_s]; exact h.keep (by rw [pv, q_pour_L _ _ _ _ _ (Nat.le_refl _)])) _ (by rw [q_pn_s, if_pos pv]; rfl)
    · have pv : q_pv G.now (G.ce i) k = q_cl (G.ce i k) := by unfold q_pv; rw [if_neg cn]
      have cl := q_cl_le (G.ce i k)
      rw [if_neg cn, if_neg (by decide), en_gr hso rfl, en_aiN hsp (by omega) (by decide), zc, q_held xs d, c1s, en_gi hl rfl, v2]
      by_cases ce : q_cl (G.ce i k) = G.now.L k 2
      · rw [if_pos (by rw [ce])]
        exact nx τ (by rw [q_pour_s]; exact h.keep (by rw [pv, ce, q_pour_L _ _ _ _ _ (Nat.le_refl _)])) _ (by rw [q_pn_s, if_pos (by rw [pv, ce])]; rfl)
      · rw [if_neg (fun x => ce ((nI_eq (by omega) (by omega)).mp x)), en_pt hl rfl]
        exact nx _ (by rw [q_pour_s, pv]; exact h.put (by omega)) _ (by rw [q_pn_s, if_neg (by rw [pv]; exact ce), nI_1])
theorem m_pour_loop (hM : MR S σ G) (ok : GO G) {i : Nat} (hi : i < 4) : ∀ (m k N : Nat) (τ : Nat → Nat → Int32), k + m = min G.now.n (G.sz i) → m < N → MC S σ τ (q_pour G.now (G.ce i) k) → ∃ σ', mx_rn xs (mx_ev xs mx_P (d + 2)) kk_X7_pour N 26 [(0, .ref 90), (1, .int (nI i)), (2, .int (nI (q_pn G.now (G.ce i) k))), (3, .int (nI k))] [] (en S τ) = some (some (.int (nI (q_pn G.now (G.ce i) (min G.now.n (G.sz i))))), en S σ') ∧ MC S σ σ' (q_pour G.now (G.ce i) (min G.now.n (G.sz i)))
  | m, k, 0, τ, _, h2, _ => absurd h2 (by omega)
  | 0, k, N + 1, τ, h1, _, h => by
    have h10 := ok.now.n
    have h24 := ok.sz i hi
    have e : k = min G.now.n (G.sz i) := by omega
    have z1 : τ 104 i = nI (G.sz i) := by rw [h.fr 104 (by decide) (by decide) (by decide)]; exact hM.sz i hi
    rw [rn_X7_pour_26, en_gr h.mo.o rfl, en_aiN h.mo.sz hi (by decide), z1]
    by_cases c : G.sz i ≤ k
    · rw [if_pos ((nI_leI (by omega) (by omega)).mpr c), ← e]
      exact ⟨τ, rfl, h⟩
    · rw [if_neg (fun x => c ((nI_leI (by omega) (by omega)).mp x)), en_gr h.mo.o rfl, m_rd h (k := 1) (w := 1) (by decide) rfl, h.r.n, q_pour_n, if_pos ((nI_leI (by omega) (by omega)).mpr (by omega)), ← e]
      exact ⟨τ, rfl, h⟩
  | m + 1, k, N + 1, τ, h1, h2, h => by
    have h10 := ok.now.n
    have h24 := ok.sz i hi
    have hk : k < G.now.n := by omega
    have hkp : k < (q_pour G.now (G.ce i) k).n := by rw [q_pour_n]; exact hk
    have hn10 : (q_pour G.now (G.ce i) k).n ≤ 10 := by rw [q_pour_n]; exact h10
    have z1 : τ 104 i = nI (G.sz i) := by rw [h.fr 104 (by decide) (by decide) (by decide)]; exact hM.sz i hi
    have zc : τ 105 (24 * i + k) = G.ce i k := by rw [h.fr 105 (by decide) (by decide) (by decide)]; exact hM.ce i hi k (by omega)
    have v2 : τ 91 (11 + 6 * k + 2) = nI (G.now.L k 2) := by rw [h.r.L k hkp 2 (by decide), q_pour_L _ _ _ _ _ (Nat.le_refl _)]
    have k2 := (ok.now.L k hk).2.2.1
    have ei : (24 : Int32) * nI i + nI k = nI (24 * i + k) := by rw [show (24 : Int32) = nI 24 from rfl, pk_mul, nI_add]
    have ej : ((11 : Int32) + 6 * nI k) + 2 = nI (11 + 6 * k + 2) := m_ix (w := 2) (j := 2) rfl
    have cl := q_pv_le ok.now (G.ce i) hk
    have nx : ∀ w : Int32, w = nI (q_pn G.now (G.ce i) (k + 1)) → ∃ σ', mx_rn xs (mx_ev xs mx_P (d + 2)) kk_X7_pour N 26 [(0, .ref 90), (1, .int (nI i)), (2, .int w), (3, .int (nI k + 1))] [] (en S (en_up τ 91 (11 + 6 * k + 2) (nI (q_pv G.now (G.ce i) k)))) = some (some (.int (nI (q_pn G.now (G.ce i) (min G.now.n (G.sz i))))), en S σ') ∧ MC S σ σ' (q_pour G.now (G.ce i) (min G.now.n (G.sz i))) := fun w hw => by
      rw [hw, nI_1]
      exact m_pour_loop hM ok hi m (k + 1) N _ (by omega) (by omega) (by rw [q_pour_s]; exact h.put (by omega) (by decide))
    rw [rn_X7_pour_26, en_gr h.mo.o rfl, en_aiN h.mo.sz hi (by decide), z1, if_neg (nI_ge (by omega) (by omega)), en_gr h.mo.o rfl, m_rd h (k := 1) (w := 1) (by decide) rfl, h.r.n, q_pour_n, if_neg (nI_ge hk (by omega)), en_gr h.mo.o rfl, ei, en_aiN h.mo.ce (by omega) (by decide), zc]
    by_cases cn : G.ce i k = -1000000005
    · have pv : q_pv G.now (G.ce i) k = G.now.L k 2 := by unfold q_pv; rw [if_pos cn]
      rw [pv] at nx
      rw [if_pos cn, en_cl h.mo.o, m_of' h (w := 2) (j := 2) hkp hn10 (by decide) rfl, c1s, q_pour_L _ _ _ _ _ (Nat.le_refl _), en_cl h.mo.o, m_swaps h ej (by omega), c1s, v2, if_pos rfl]
      exact nx _ (by rw [q_pn_s, if_pos pv, Int32.add_zero]; rfl)
    · have pv : q_pv G.now (G.ce i) k = q_cl (G.ce i k) := by unfold q_pv; rw [if_neg cn]
      rw [pv] at nx cl
      rw [if_neg cn, m_held xs (d + 1), c1s, en_cl h.mo.o, m_swaps h ej (by omega), c1s, v2]
      by_cases ce : q_cl (G.ce i k) = G.now.L k 2
      · rw [if_pos (by rw [ce])]
        exact nx _ (by rw [q_pn_s, if_pos (by rw [pv, ce]), Int32.add_zero]; rfl)
      · rw [if_neg (fun x => ce ((nI_eq (by omega) (by omega)).mp x).symm)]
        exact nx _ (by rw [q_pn_s, if_neg (by rw [pv]; exact ce), nI_1])
theorem t_pour (a1 : Int32) : St xs 114 205 [.int a1] := by
  intro S σ G hX hM ok
  rw [ev_X6_pour, x_isSheet, c1s]
  rcases q_w_c a1 (h := 3) (z := 3) rfl (by decide) with e1 | ⟨i, hi, rfl, e1⟩
  · rw [e1, if_pos rfl, ri0]
    refine ⟨σ, σ, _, rfl, ?_, RR_same hX hM ok⟩
    rw [ev_X7_pour, m_isSheet, c1s, e1, if_pos rfl, ri0]
  have hi4 : i < 4 := by omega
  have hso := hX.x.so i hi4
  have h10 := ok.now.n
  rw [e1, if_neg (by decide), en_gr hX.x.o rfl, x_sh hX.x hi4, en_cl hso, x_miss hso, c1s, hX.so i hi4]
  rcases so_c ok hi4 with em | ⟨em, e0, e0'⟩
  · rw [em, if_pos rfl, if_neg (by decide), ri0]
    refine ⟨σ, σ, _, rfl, ?_, RR_same hX hM ok⟩
    rw [ev_X7_pour, m_isSheet, c1s, e1, if_neg (by decide), en_gr hM.mo.o rfl, en_aiN hM.mo.so hi4 (by decide), hM.so i hi4, em, if_neg (by decide), ri0]
  rw [if_neg em, if_pos rfl]
  obtain ⟨σ1, r1, x1⟩ := x_pour_loop (xs := xs) (d := 9) hX ok hi4 (min G.now.n (G.sz i)) 0 99999 σ (by omega) (by omega) hX.xc
  have hM1 := hM.aft x1
  obtain ⟨σ2, r2, m2⟩ := m_pour_loop (xs := xs) (d := 9) hM1 ok hi4 (min G.now.n (G.sz i)) 0 99999 σ1 (by omega) (by omega) hM1.mc
  refine ⟨σ1, σ2, _, r1, ?_, RR_now hX hM ok x1 m2 (q_ok_pour ok.now _ _ (by omega)) (by rw [q_pour_day]; exact ok.day)⟩
  rw [ev_X7_pour, m_isSheet, c1s, e1, if_neg (by decide), en_gr hM.mo.o rfl, en_aiN hM.mo.so hi4 (by decide), hM1.so i hi4, if_pos e0]
  exact r2
end PO
