/-! ===== what the calls share ===== -/
def q_w (a lo hi : Int32) : Int32 := if a < lo then 0 else if hi < a then 0 else 1
def q_hl (x : Int32) (n : Nat) : Int32 := if x < 0 then 0 else if nI n ≤ x then 0 else 1
theorem q_w_c (a : Int32) {h : Nat} {z : Int32} (hz : z = nI h) (hh : h < 2 ^ 31) : q_w a 0 z = 0 ∨ ∃ j, j ≤ h ∧ a = nI j ∧ q_w a 0 z = 1 := by
  subst hz
  unfold q_w
  by_cases h0 : a < 0
  · rw [if_pos h0]; exact Or.inl rfl
  · obtain ⟨j, hj, rfl⟩ := nI_of h0
    rw [if_neg h0]
    by_cases h1 : h < j
    · rw [if_pos ((nI_ltI hh hj).mpr h1)]; exact Or.inl rfl
    · rw [if_neg (fun e => h1 ((nI_ltI hh hj).mp e))]; exact Or.inr ⟨j, by omega, rfl, rfl⟩
theorem q_w_1 (a : Int32) {h : Nat} {z : Int32} (hz : z = nI h) (hh : h < 2 ^ 31) : q_w a 1 z = 0 ∨ ∃ j, 1 ≤ j ∧ j ≤ h ∧ a = nI j ∧ q_w a 1 z = 1 := by
  subst hz
  unfold q_w
  by_cases h0 : a < 1
  · rw [if_pos h0]; exact Or.inl rfl
  · have h00 : ¬ a < 0 := fun e => h0 (Int32.lt_trans e (by decide))
    obtain ⟨j, hj, rfl⟩ := nI_of h00
    have j1 : 1 ≤ j := by
      have : ¬ nI j < nI 1 := h0
      rw [nI_ltI hj (by decide)] at this
      omega
    rw [if_neg h0]
    by_cases h1 : h < j
    · rw [if_pos ((nI_ltI hh hj).mpr h1)]; exact Or.inl rfl
    · rw [if_neg (fun e => h1 ((nI_ltI hh hj).mp e))]; exact Or.inr ⟨j, j1, by omega, rfl, rfl⟩
theorem q_hl_c (x : Int32) {n : Nat} (hn : n < 2 ^ 31) : q_hl x n = 0 ∨ ∃ j, j < n ∧ x = nI j ∧ q_hl x n = 1 := by
  unfold q_hl
  by_cases h0 : x < 0
  · rw [if_pos h0]; exact Or.inl rfl
  · obtain ⟨j, hj, rfl⟩ := nI_of h0
    rw [if_neg h0]
    by_cases h1 : n ≤ j
    · rw [if_pos ((nI_leI hn hj).mpr h1)]; exact Or.inl rfl
    · rw [if_neg (fun e => h1 ((nI_leI hn hj).mp e))]; exact Or.inr ⟨j, by omega, rfl, rfl⟩
theorem q_w_hl (x : Int32) {n : Nat} (hn : n < 2 ^ 31) : q_w x 0 (nI n - 1) = q_hl x n := by
  unfold q_w q_hl
  by_cases h0 : x < 0
  · rw [if_pos h0, if_pos h0]
  · obtain ⟨j, hj, rfl⟩ := nI_of h0
    rw [if_neg h0, if_neg h0]
    by_cases hn0 : n = 0
    · subst hn0
      rw [if_pos ((nI_leI (by decide) hj).mpr (by omega)), if_pos (Int32.lt_of_lt_of_le (by decide) (nI_pos' hj))]
    · have e : nI n - 1 = nI (n - 1) := by rw [show (1 : Int32) = nI 1 from rfl, pk_sub (by omega)]
      rw [e]
      by_cases h1 : n ≤ j
      · rw [if_pos ((nI_leI (by omega) hj).mpr h1), if_pos ((nI_ltI (by omega) hj).mpr (by omega))]
      · rw [if_neg (fun e => h1 ((nI_leI (by omega) hj).mp e)), if_neg (fun e => by have := (nI_ltI (by omega) hj).mp e; omega)]
theorem x_within (xs : List Int32) (d : Nat) (a lo hi : Int32) (h : mx_H) : mx_ev xs mx_P (d + 1) 127 [.int a, .int lo, .int hi] h = some (some (.int (q_w a lo hi)), h) := by
  rw [ev_X6_isWithin]
  unfold q_w
  split
  · rfl
  · split <;> rfl
theorem m_in' (xs : List Int32) (d : Nat) (a lo hi : Int32) (h : mx_H) : mx_ev xs mx_P (d + 1) 133 [.int a, .int lo, .int hi] h = some (some (.int (q_w a lo hi)), h) := m_in xs d a lo hi h
theorem ri1_w (a lo hi : Int32) (h : mx_H) : mx_ri 1 [.int (q_w a lo hi)] h = some (some (.int (q_w a lo hi)), h) := by
  unfold q_w
  split
  · rfl
  · split <;> rfl
theorem x_isKind (xs : List Int32) (d : Nat) (a : Int32) (h : mx_H) : mx_ev xs mx_P (d + 2) 128 [.int a] h = some (some (.int (q_w a 0 5)), h) := by
  rw [ev_X6_isKind, x_within, c1s, ri1_w]
theorem x_isSheet (xs : List Int32) (d : Nat) (a : Int32) (h : mx_H) : mx_ev xs mx_P (d + 2) 129 [.int a] h = some (some (.int (q_w a 0 3)), h) := by
  rw [ev_X6_isSheet, x_within, c1s, ri1_w]
theorem x_isSlot (xs : List Int32) (d : Nat) (a : Int32) (h : mx_H) : mx_ev xs mx_P (d + 2) 130 [.int a] h = some (some (.int (q_w a 0 4)), h) := by
  rw [ev_X6_isSlot, x_within, c1s, ri1_w]
theorem m_isSheet (xs : List Int32) (d : Nat) (a : Int32) (h : mx_H) : mx_ev xs mx_P (d + 2) 201 [.int a] h = some (some (.int (q_w a 0 3)), h) := by
  rw [ev_X7_isSheet, m_in', c1s, ri1_w]
theorem m_isSlot (xs : List Int32) (d : Nat) (a : Int32) (h : mx_H) : mx_ev xs mx_P (d + 2) 202 [.int a] h = some (some (.int (q_w a 0 4)), h) := by
  rw [ev_X7_isSlot, m_in', c1s, ri1_w]
noncomputable def g_now (G : q_G) (C : q_C) : q_G := g_mk (C) G.img G.tl G.tp G.so G.sz G.ce G.th G.lg G.rs G.rc G.nu G.wc G.wt
theorem g_now_now (G : q_G) (C : q_C) : (g_now G C).now = (C) := gk_now _ _ _ _ _ _ _ _ _ _ _ _ _ _
theorem g_now_img (G : q_G) (C : q_C) : (g_now G C).img = G.img := gk_img _ _ _ _ _ _ _ _ _ _ _ _ _ _
theorem g_now_tl (G : q_G) (C : q_C) : (g_now G C).tl = G.tl := gk_tl _ _ _ _ _ _ _ _ _ _ _ _ _ _
theorem g_now_tp (G : q_G) (C : q_C) : (g_now G C).tp = G.tp := gk_tp _ _ _ _ _ _ _ _ _ _ _ _ _ _
theorem g_now_so (G : q_G) (C : q_C) : (g_now G C).so = G.so := gk_so _ _ _ _ _ _ _ _ _ _ _ _ _ _
theorem g_now_sz (G : q_G) (C : q_C) : (g_now G C).sz = G.sz := gk_sz _ _ _ _ _ _ _ _ _ _ _ _ _ _
theorem g_now_ce (G : q_G) (C : q_C) : (g_now G C).ce = G.ce := gk_ce _ _ _ _ _ _ _ _ _ _ _ _ _ _
theorem g_now_th (G : q_G) (C : q_C) : (g_now G C).th = G.th := gk_th _ _ _ _ _ _ _ _ _ _ _ _ _ _
theorem g_now_lg (G : q_G) (C : q_C) : (g_now G C).lg = G.lg := gk_lg _ _ _ _ _ _ _ _ _ _ _ _ _ _
theorem g_now_rs (G : q_G) (C : q_C) : (g_now G C).rs = G.rs := gk_rs _ _ _ _ _ _ _ _ _ _ _ _ _ _
theorem g_now_rc (G : q_G) (C : q_C) : (g_now G C).rc = G.rc := gk_rc _ _ _ _ _ _ _ _ _ _ _ _ _ _
theorem g_now_nu (G : q_G) (C : q_C) : (g_now G C).nu = G.nu := gk_nu _ _ _ _ _ _ _ _ _ _ _ _ _ _
theorem g_now_wc (G : q_G) (C : q_C) : (g_now G C).wc = G.wc := gk_wc _ _ _ _ _ _ _ _ _ _ _ _ _ _
theorem g_now_wt (G : q_G) (C : q_C) : (g_now G C).wt = G.wt := gk_wt _ _ _ _ _ _ _ _ _ _ _ _ _ _
section BA
variable {S : List en_S} {σ0 σ σ1 σ2 : Nat → Nat → Int32} {cb d : Nat} {xs : List Int32} {C D : q_C} {G : q_G}
theorem x_has (h : XC S σ0 σ cb C) (h10 : C.n ≤ 10) (x : Int32) : mx_ev xs mx_P (d + 1) 21 [.ref cb, .int x] (en S σ) = some (some (.int (q_hl x C.n)), en S σ) := by
  rw [ev_X0_hasLeg]
  unfold q_hl
  by_cases h0 : x < 0
  · rw [if_pos h0, if_pos h0]; rfl
  · rw [if_neg h0, if_neg h0, en_gi h.cl.1 rfl, h.r.n]
    split <;> rfl
theorem m_isLeg (h : MC S σ0 σ C) (h10 : C.n ≤ 10) (x : Int32) : mx_ev xs mx_P (d + 2) 137 [.ref 90, .int x] (en S σ) = some (some (.int (q_hl x C.n)), en S σ) := by
  rw [ev_X7_isLeg, en_gr h.mo.o rfl, m_rd h (k := 1) (w := 1) (by decide) rfl, h.r.n, m_in', c1s, q_w_hl x (by omega)]
  unfold q_hl
  split
  · rfl
  · split <;> rfl
theorem XR.xc (h : XR S σ G) : XC S σ σ 1 G.now := XC.refl h.x.c1 (by decide) h.now
theorem MR.mc (h : MR S σ G) : MC S σ σ G.now := ⟨h.mo, h.now, fun _ _ _ _ => rfl⟩
/-- the reference's side after the class has gone -/
theorem MR.after (h : MR S σ G) (e : ∀ b, 90 ≤ b → b < 112 → σ1 b = σ b) : MR S σ1 G := h.fr (fun b h1 h2 _ => e b h1 h2)
theorem MR.aft (h : MR S σ G) (x : XC S σ σ1 cb C) : MR S σ1 G := h.after (fun b h1 h2 => x.fr b (by have := x.lt; omega))
theorem XR.set (h : XR S σ G) (ok : GO G) (x : XC S σ σ1 1 C) : XR S σ1 (g_now G C) := by
  have e : ∀ b, ¬ (1 ≤ b ∧ b < 18) → σ1 b = σ b := fun b hb => x.fr b (by omega)
  refine ⟨h.x, by rw [g_now_now]; exact x.r, ?_, fun D hD => ?_, ?_, ?_, ?_, ?_, ?_, ?_, ?_, ?_, ?_, ?_, ?_, ?_⟩
  · rw [g_now_img, e 0 (by omega)]; exact h.ik
  · rw [g_now_img] at hD
    exact (h.img D hD).fr (ok.img D hD).1.n (e _ (by omega)) (e _ (by omega)) (e _ (by omega)) (e _ (by omega)) (fun i hi => e _ (by omega)) (fun b hb => e _ (by omega))
  · rw [g_now_tl, e 0 (by omega)]; exact h.tl
  · rw [g_now_tl, g_now_tp, e 53 (by omega)]; exact h.tp
  · rw [g_now_so]; intro i hi; rw [e _ (by omega)]; exact h.so i hi
  · rw [g_now_sz]; intro i hi; rw [e _ (by omega)]; exact h.sz i hi
  · rw [g_now_ce]; intro i hi; rw [e _ (by omega)]; exact h.ce i hi
  · rw [g_now_th]; intro i hi; rw [e _ (by omega)]; exact h.th i hi
  · rw [g_now_th, g_now_lg]; intro i hi; rw [e _ (by omega)]; exact h.lg i hi
  · rw [g_now_th, g_now_rs]; intro i hi; rw [e _ (by omega)]; exact h.rs i hi
  · rw [g_now_th, g_now_rc]; intro i hi; rw [e _ (by omega)]; exact h.rc i hi
  · rw [g_now_th, g_now_nu]; intro i hi; rw [e _ (by omega)]; exact h.nu i hi
  · rw [g_now_wc, e 0 (by omega)]; exact h.wc
  · rw [g_now_wc, g_now_wt, e 61 (by omega)]; exact h.wt
theorem MR.set (h : MR S σ G) (m : MC S σ σ1 C) : MR S σ1 (g_now G C) := by
  have e : ∀ b, b ≠ 91 → b ≠ 101 → b ≠ 102 → σ1 b = σ b := m.fr
  refine ⟨h.mo, by rw [g_now_now]; exact m.r, ?_, ?_, ?_, ?_, ?_, ?_, ?_, ?_, ?_, ?_, ?_, ?_, ?_, ?_, ?_⟩
  · rw [g_now_img, e 90 (by omega) (by omega) (by omega)]; exact h.ik
  · rw [g_now_img, e 92 (by omega) (by omega) (by omega)]; exact h.img
  · rw [g_now_tl, e 90 (by omega) (by omega) (by omega)]; exact h.tl
  · rw [g_now_tl, g_now_tp, e 95 (by omega) (by omega) (by omega)]; exact h.tp
  · rw [e 96 (by omega) (by omega) (by omega)]; exact h.ks
  · rw [e 97 (by omega) (by omega) (by omega)]; exact h.ka
  · rw [g_now_so, e 103 (by omega) (by omega) (by omega)]; exact h.so
  · rw [g_now_sz, e 104 (by omega) (by omega) (by omega)]; exact h.sz
  · rw [g_now_ce, e 105 (by omega) (by omega) (by omega)]; exact h.ce
  · rw [g_now_th, e 106 (by omega) (by omega) (by omega)]; exact h.th
  · rw [g_now_th, g_now_lg, e 107 (by omega) (by omega) (by omega), e 108 (by omega) (by omega) (by omega)]; exact h.h1
  · rw [g_now_th, g_now_rs, g_now_rc, e 107 (by omega) (by omega) (by omega), e 109 (by omega) (by omega) (by omega)]; exact h.h2
  · rw [g_now_th, g_now_nu, e 107 (by omega) (by omega) (by omega)]; exact h.h3
  · rw [g_now_wc, e 90 (by omega) (by omega) (by omega)]; exact h.wc
  · rw [g_now_wc, g_now_wt, e 111 (by omega) (by omega) (by omega)]; exact h.wt
theorem GO.set (ok : GO G) (o : q_ok C) (hd : C.day ≤ 9999) : GO (g_now G C) := by
  refine ⟨by rw [g_now_now]; exact o, by rw [g_now_now]; exact hd, by rw [g_now_img]; exact ok.img, by rw [g_now_tl]; exact ok.tl, by rw [g_now_tl, g_now_tp]; exact ok.tp, by rw [g_now_so]; exact ok.so, by rw [g_now_sz]; exact ok.sz, by rw [g_now_th]; exact ok.th, by rw [g_now_th, g_now_lg]; exact ok.lg, by rw [g_now_th, g_now_rs]; exact ok.rs, by rw [g_now_wc]; exact ok.wc⟩
/-- the class may have gone through a closet, the reference through its row: together -/
theorem RR_now (hX : XR S σ G) (hM : MR S σ G) (ok : GO G) (x : XC S σ σ1 1 C) (m : MC S σ1 σ2 C) (o : q_ok C) (hd : C.day ≤ 9999) : RR S σ2 :=
  ⟨g_now G C, (hX.set ok x).fr (ok.set o hd) (fun b hb => m.fr b (fun e => hb (by unfold scr; omega)) (fun e => hb (by unfold scr; omega)) (fun e => hb (by unfold scr; omega))), (hM.aft x).set m, ok.set o hd⟩
theorem RR_scr (hX : XR S σ G) (hM : MR S σ G) (ok : GO G) (e1 : ∀ b, ¬ scr b → σ1 b = σ b) (e2 : ∀ b, 90 ≤ b → b < 112 → ¬ scm b → σ1 b = σ b) : RR S σ1 :=
  ⟨G, hX.fr ok e1, hM.fr e2, ok⟩
theorem RR_same (hX : XR S σ G) (hM : MR S σ G) (ok : GO G) : RR S σ := ⟨G, hX, hM, ok⟩
theorem XC.put (h : XC S σ0 σ cb C) {i j v : Nat} (hi : i < 10) : XC S σ0 (en_up σ (cb + 7 + i) j (nI v)) cb (q_pt C i j v) := by
  refine (h.legs (L := fun a b => if a = i ∧ b = j then v else C.L a b) (fun a ha b hb => ?_) (fun b hb _ _ => ?_)).cg (by simp only [mk_n, mk_L, mk_ru, mk_K, mk_p, mk_t, mk_s, mk_day, mk_z, q_pt_n, q_pt_L, q_pt_ru, q_pt_K, q_pt_p, q_pt_t, q_pt_s, q_pt_day, q_pt_z, q_wearC_n, q_wearC_L, q_wearC_ru, q_wearC_K, q_wearC_p, q_wearC_t, q_wearC_s, q_wearC_day, q_wearC_z, q_drawC_n, q_drawC_L, q_drawC_ru, q_drawC_K, q_drawC_p, q_drawC_t, q_drawC_s, q_drawC_day, q_drawC_z, q_soakC_n, q_soakC_L, q_soakC_ru, q_soakC_K, q_soakC_p, q_soakC_t, q_soakC_s, q_soakC_day, q_soakC_z, q_pressC_n, q_pressC_L, q_pressC_ru, q_pressC_K, q_pressC_p, q_pressC_t, q_pressC_s, q_pressC_day, q_pressC_z, q_tick_n, q_tick_L, q_tick_ru, q_tick_K, q_tick_p, q_tick_t, q_tick_s, q_tick_day, q_tick_z, q_wL_n, q_wL_L, q_wL_ru, q_wL_K, q_wL_p, q_wL_t, q_wL_s, q_wL_day, q_wL_z, q_wp_n, q_wp_L, q_wp_ru, q_wp_K, q_wp_p, q_wp_t, q_wp_s, q_wp_day, q_wp_z, q_wt_n, q_wt_L, q_wt_ru, q_wt_K, q_wt_p, q_wt_t, q_wt_s, q_wt_day, q_wt_z, q_ws_n, q_ws_L, q_ws_ru, q_ws_K, q_ws_p, q_ws_t, q_ws_s, q_ws_day, q_ws_z, q_wz_n, q_wz_L, q_wz_ru, q_wz_K, q_wz_p, q_wz_t, q_wz_s, q_wz_day, q_wz_z, q_wd_n, q_wd_L, q_wd_ru, q_wd_K, q_wd_p, q_wd_t, q_wd_s, q_wd_day, q_wd_z, q_wr_n, q_wr_L, q_wr_ru, q_wr_K, q_wr_p, q_wr_t, q_wr_s, q_wr_day, q_wr_z]) (fun a ha b hb => by simp only [mk_n, mk_L, mk_ru, mk_K, mk_p, mk_t, mk_s, mk_day, mk_z, q_pt_n, q_pt_L, q_pt_ru, q_pt_K, q_pt_p, q_pt_t, q_pt_s, q_pt_day, q_pt_z, q_wearC_n, q_wearC_L, q_wearC_ru, q_wearC_K, q_wearC_p, q_wearC_t, q_wearC_s, q_wearC_day, q_wearC_z, q_drawC_n, q_drawC_L, q_drawC_ru, q_drawC_K, q_drawC_p, q_drawC_t, q_drawC_s, q_drawC_day, q_drawC_z, q_soakC_n, q_soakC_L, q_soakC_ru, q_soakC_K, q_soakC_p, q_soakC_t, q_soakC_s, q_soakC_day, q_soakC_z, q_pressC_n, q_pressC_L, q_pressC_ru, q_pressC_K, q_pressC_p, q_pressC_t, q_pressC_s, q_pressC_day, q_pressC_z, q_tick_n, q_tick_L, q_tick_ru, q_tick_K, q_tick_p, q_tick_t, q_tick_s, q_tick_day, q_tick_z, q_wL_n, q_wL_L, q_wL_ru, q_wL_K, q_wL_p, q_wL_t, q_wL_s, q_wL_day, q_wL_z, q_wp_n, q_wp_L, q_wp_ru, q_wp_K, q_wp_p, q_wp_t, q_wp_s, q_wp_day, q_wp_z, q_wt_n, q_wt_L, q_wt_ru, q_wt_K, q_wt_p, q_wt_t, q_wt_s, q_wt_day, q_wt_z, q_ws_n, q_ws_L, q_ws_ru, q_ws_K, q_ws_p, q_ws_t, q_ws_s, q_ws_day, q_ws_z, q_wz_n, q_wz_L, q_wz_ru, q_wz_K, q_wz_p, q_wz_t, q_wz_s, q_wz_day, q_wz_z, q_wd_n, q_wd_L, q_wd_ru, q_wd_K, q_wd_p, q_wd_t, q_wd_s, q_wd_day, q_wd_z, q_wr_n, q_wr_L, q_wr_ru, q_wr_K, q_wr_p, q_wr_t, q_wr_s, q_wr_day, q_wr_z]) (by simp only [mk_n, mk_L, mk_ru, mk_K, mk_p, mk_t, mk_s, mk_day, mk_z, q_pt_n, q_pt_L, q_pt_ru, q_pt_K, q_pt_p, q_pt_t, q_pt_s, q_pt_day, q_pt_z, q_wearC_n, q_wearC_L, q_wearC_ru, q_wearC_K, q_wearC_p, q_wearC_t, q_wearC_s, q_wearC_day, q_wearC_z, q_drawC_n, q_drawC_L, q_drawC_ru, q_drawC_K, q_drawC_p, q_drawC_t, q_drawC_s, q_drawC_day, q_drawC_z, q_soakC_n, q_soakC_L, q_soakC_ru, q_soakC_K, q_soakC_p, q_soakC_t, q_soakC_s, q_soakC_day, q_soakC_z, q_pressC_n, q_pressC_L, q_pressC_ru, q_pressC_K, q_pressC_p, q_pressC_t, q_pressC_s, q_pressC_day, q_pressC_z, q_tick_n, q_tick_L, q_tick_ru, q_tick_K, q_tick_p, q_tick_t, q_tick_s, q_tick_day, q_tick_z, q_wL_n, q_wL_L, q_wL_ru, q_wL_K, q_wL_p, q_wL_t, q_wL_s, q_wL_day, q_wL_z, q_wp_n, q_wp_L, q_wp_ru, q_wp_K, q_wp_p, q_wp_t, q_wp_s, q_wp_day, q_wp_z, q_wt_n, q_wt_L, q_wt_ru, q_wt_K, q_wt_p, q_wt_t, q_wt_s, q_wt_day, q_wt_z, q_ws_n, q_ws_L, q_ws_ru, q_ws_K, q_ws_p, q_ws_t, q_ws_s, q_ws_day, q_ws_z, q_wz_n, q_wz_L, q_wz_ru, q_wz_K, q_wz_p, q_wz_t, q_wz_s, q_wz_day, q_wz_z, q_wd_n, q_wd_L, q_wd_ru, q_wd_K, q_wd_p, q_wd_t, q_wd_s, q_wd_day, q_wd_z, q_wr_n, q_wr_L, q_wr_ru, q_wr_K, q_wr_p, q_wr_t, q_wr_s, q_wr_day, q_wr_z]) (by simp only [mk_n, mk_L, mk_ru, mk_K, mk_p, mk_t, mk_s, mk_day, mk_z, q_pt_n, q_pt_L, q_pt_ru, q_pt_K, q_pt_p, q_pt_t, q_pt_s, q_pt_day, q_pt_z, q_wearC_n, q_wearC_L, q_wearC_ru, q_wearC_K, q_wearC_p, q_wearC_t, q_wearC_s, q_wearC_day, q_wearC_z, q_drawC_n, q_drawC_L, q_drawC_ru, q_drawC_K, q_drawC_p, q_drawC_t, q_drawC_s, q_drawC_day, q_drawC_z, q_soakC_n, q_soakC_L, q_soakC_ru, q_soakC_K, q_soakC_p, q_soakC_t, q_soakC_s, q_soakC_day, q_soakC_z, q_pressC_n, q_pressC_L, q_pressC_ru, q_pressC_K, q_pressC_p, q_pressC_t, q_pressC_s, q_pressC_day, q_pressC_z, q_tick_n, q_tick_L, q_tick_ru, q_tick_K, q_tick_p, q_tick_t, q_tick_s, q_tick_day, q_tick_z, q_wL_n, q_wL_L, q_wL_ru, q_wL_K, q_wL_p, q_wL_t, q_wL_s, q_wL_day, q_wL_z, q_wp_n, q_wp_L, q_wp_ru, q_wp_K, q_wp_p, q_wp_t, q_wp_s, q_wp_day, q_wp_z, q_wt_n, q_wt_L, q_wt_ru, q_wt_K, q_wt_p, q_wt_t, q_wt_s, q_wt_day, q_wt_z, q_ws_n, q_ws_L, q_ws_ru, q_ws_K, q_ws_p, q_ws_t, q_ws_s, q_ws_day, q_ws_z, q_wz_n, q_wz_L, q_wz_ru, q_wz_K, q_wz_p, q_wz_t, q_wz_s, q_wz_day, q_wz_z, q_wd_n, q_wd_L, q_wd_ru, q_wd_K, q_wd_p, q_wd_t, q_wd_s, q_wd_day, q_wd_z, q_wr_n, q_wr_L, q_wr_ru, q_wr_K, q_wr_p, q_wr_t, q_wr_s, q_wr_day, q_wr_z]) (by simp only [mk_n, mk_L, mk_ru, mk_K, mk_p, mk_t, mk_s, mk_day, mk_z, q_pt_n, q_pt_L, q_pt_ru, q_pt_K, q_pt_p, q_pt_t, q_pt_s, q_pt_day, q_pt_z, q_wearC_n, q_wearC_L, q_wearC_ru, q_wearC_K, q_wearC_p, q_wearC_t, q_wearC_s, q_wearC_day, q_wearC_z, q_drawC_n, q_drawC_L, q_drawC_ru, q_drawC_K, q_drawC_p, q_drawC_t, q_drawC_s, q_drawC_day, q_drawC_z, q_soakC_n, q_soakC_L, q_soakC_ru, q_soakC_K, q_soakC_p, q_soakC_t, q_soakC_s, q_soakC_day, q_soakC_z, q_pressC_n, q_pressC_L, q_pressC_ru, q_pressC_K, q_pressC_p, q_pressC_t, q_pressC_s, q_pressC_day, q_pressC_z, q_tick_n, q_tick_L, q_tick_ru, q_tick_K, q_tick_p, q_tick_t, q_tick_s, q_tick_day, q_tick_z, q_wL_n, q_wL_L, q_wL_ru, q_wL_K, q_wL_p, q_wL_t, q_wL_s, q_wL_day, q_wL_z, q_wp_n, q_wp_L, q_wp_ru, q_wp_K, q_wp_p, q_wp_t, q_wp_s, q_wp_day, q_wp_z, q_wt_n, q_wt_L, q_wt_ru, q_wt_K, q_wt_p, q_wt_t, q_wt_s, q_wt_day, q_wt_z, q_ws_n, q_ws_L, q_ws_ru, q_ws_K, q_ws_p, q_ws_t, q_ws_s, q_ws_day, q_ws_z, q_wz_n, q_wz_L, q_wz_ru, q_wz_K, q_wz_p, q_wz_t, q_wz_s, q_wz_day, q_wz_z, q_wd_n, q_wd_L, q_wd_ru, q_wd_K, q_wd_p, q_wd_t, q_wd_s, q_wd_day, q_wd_z, q_wr_n, q_wr_L, q_wr_ru, q_wr_K, q_wr_p, q_wr_t, q_wr_s, q_wr_day, q_wr_z]) (by simp only [mk_n, mk_L, mk_ru, mk_K, mk_p, mk_t, mk_s, mk_day, mk_z, q_pt_n, q_pt_L, q_pt_ru, q_pt_K, q_pt_p, q_pt_t, q_pt_s, q_pt_day, q_pt_z, q_wearC_n, q_wearC_L, q_wearC_ru, q_wearC_K, q_wearC_p, q_wearC_t, q_wearC_s, q_wearC_day, q_wearC_z, q_drawC_n, q_drawC_L, q_drawC_ru, q_drawC_K, q_drawC_p, q_drawC_t, q_drawC_s, q_drawC_day, q_drawC_z, q_soakC_n, q_soakC_L, q_soakC_ru, q_soakC_K, q_soakC_p, q_soakC_t, q_soakC_s, q_soakC_day, q_soakC_z, q_pressC_n, q_pressC_L, q_pressC_ru, q_pressC_K, q_pressC_p, q_pressC_t, q_pressC_s, q_pressC_day, q_pressC_z, q_tick_n, q_tick_L, q_tick_ru, q_tick_K, q_tick_p, q_tick_t, q_tick_s, q_tick_day, q_tick_z, q_wL_n, q_wL_L, q_wL_ru, q_wL_K, q_wL_p, q_wL_t, q_wL_s, q_wL_day, q_wL_z, q_wp_n, q_wp_L, q_wp_ru, q_wp_K, q_wp_p, q_wp_t, q_wp_s, q_wp_day, q_wp_z, q_wt_n, q_wt_L, q_wt_ru, q_wt_K, q_wt_p, q_wt_t, q_wt_s, q_wt_day, q_wt_z, q_ws_n, q_ws_L, q_ws_ru, q_ws_K, q_ws_p, q_ws_t, q_ws_s, q_ws_day, q_ws_z, q_wz_n, q_wz_L, q_wz_ru, q_wz_K, q_wz_p, q_wz_t, q_wz_s, q_wz_day, q_wz_z, q_wd_n, q_wd_L, q_wd_ru, q_wd_K, q_wd_p, q_wd_t, q_wd_s, q_wd_day, q_wd_z, q_wr_n, q_wr_L, q_wr_ru, q_wr_K, q_wr_p, q_wr_t, q_wr_s, q_wr_day, q_wr_z]) (by simp only [mk_n, mk_L, mk_ru, mk_K, mk_p, mk_t, mk_s, mk_day, mk_z, q_pt_n, q_pt_L, q_pt_ru, q_pt_K, q_pt_p, q_pt_t, q_pt_s, q_pt_day, q_pt_z, q_wearC_n, q_wearC_L, q_wearC_ru, q_wearC_K, q_wearC_p, q_wearC_t, q_wearC_s, q_wearC_day, q_wearC_z, q_drawC_n, q_drawC_L, q_drawC_ru, q_drawC_K, q_drawC_p, q_drawC_t, q_drawC_s, q_drawC_day, q_drawC_z, q_soakC_n, q_soakC_L, q_soakC_ru, q_soakC_K, q_soakC_p, q_soakC_t, q_soakC_s, q_soakC_day, q_soakC_z, q_pressC_n, q_pressC_L, q_pressC_ru, q_pressC_K, q_pressC_p, q_pressC_t, q_pressC_s, q_pressC_day, q_pressC_z, q_tick_n, q_tick_L, q_tick_ru, q_tick_K, q_tick_p, q_tick_t, q_tick_s, q_tick_day, q_tick_z, q_wL_n, q_wL_L, q_wL_ru, q_wL_K, q_wL_p, q_wL_t, q_wL_s, q_wL_day, q_wL_z, q_wp_n, q_wp_L, q_wp_ru, q_wp_K, q_wp_p, q_wp_t, q_wp_s, q_wp_day, q_wp_z, q_wt_n, q_wt_L, q_wt_ru, q_wt_K, q_wt_p, q_wt_t, q_wt_s, q_wt_day, q_wt_z, q_ws_n, q_ws_L, q_ws_ru, q_ws_K, q_ws_p, q_ws_t, q_ws_s, q_ws_day, q_ws_z, q_wz_n, q_wz_L, q_wz_ru, q_wz_K, q_wz_p, q_wz_t, q_wz_s, q_wz_day, q_wz_z, q_wd_n, q_wd_L, q_wd_ru, q_wd_K, q_wd_p, q_wd_t, q_wd_s, q_wd_day, q_wd_z, q_wr_n, q_wr_L, q_wr_ru, q_wr_K, q_wr_p, q_wr_t, q_wr_s, q_wr_day, q_wr_z]) (by simp only [mk_n, mk_L, mk_ru, mk_K, mk_p, mk_t, mk_s, mk_day, mk_z, q_pt_n, q_pt_L, q_pt_ru, q_pt_K, q_pt_p, q_pt_t, q_pt_s, q_pt_day, q_pt_z, q_wearC_n, q_wearC_L, q_wearC_ru, q_wearC_K, q_wearC_p, q_wearC_t, q_wearC_s, q_wearC_day, q_wearC_z, q_drawC_n, q_drawC_L, q_drawC_ru, q_drawC_K, q_drawC_p, q_drawC_t, q_drawC_s, q_drawC_day, q_drawC_z, q_soakC_n, q_soakC_L, q_soakC_ru, q_soakC_K, q_soakC_p, q_soakC_t, q_soakC_s, q_soakC_day, q_soakC_z, q_pressC_n, q_pressC_L, q_pressC_ru, q_pressC_K, q_pressC_p, q_pressC_t, q_pressC_s, q_pressC_day, q_pressC_z, q_tick_n, q_tick_L, q_tick_ru, q_tick_K, q_tick_p, q_tick_t, q_tick_s, q_tick_day, q_tick_z, q_wL_n, q_wL_L, q_wL_ru, q_wL_K, q_wL_p, q_wL_t, q_wL_s, q_wL_day, q_wL_z, q_wp_n, q_wp_L, q_wp_ru, q_wp_K, q_wp_p, q_wp_t, q_wp_s, q_wp_day, q_wp_z, q_wt_n, q_wt_L, q_wt_ru, q_wt_K, q_wt_p, q_wt_t, q_wt_s, q_wt_day, q_wt_z, q_ws_n, q_ws_L, q_ws_ru, q_ws_K, q_ws_p, q_ws_t, q_ws_s, q_ws_day, q_ws_z, q_wz_n, q_wz_L, q_wz_ru, q_wz_K, q_wz_p, q_wz_t, q_wz_s, q_wz_day, q_wz_z, q_wd_n, q_wd_L, q_wd_ru, q_wd_K, q_wd_p, q_wd_t, q_wd_s, q_wd_day, q_wd_z, q_wr_n, q_wr_L, q_wr_ru, q_wr_K, q_wr_p, q_wr_t, q_wr_s, q_wr_day, q_wr_z]) (by simp only [mk_n, mk_L, mk_ru, mk_K, mk_p, mk_t, mk_s, mk_day, mk_z, q_pt_n, q_pt_L, q_pt_ru, q_pt_K, q_pt_p, q_pt_t, q_pt_s, q_pt_day, q_pt_z, q_wearC_n, q_wearC_L, q_wearC_ru, q_wearC_K, q_wearC_p, q_wearC_t, q_wearC_s, q_wearC_day, q_wearC_z, q_drawC_n, q_drawC_L, q_drawC_ru, q_drawC_K, q_drawC_p, q_drawC_t, q_drawC_s, q_drawC_day, q_drawC_z, q_soakC_n, q_soakC_L, q_soakC_ru, q_soakC_K, q_soakC_p, q_soakC_t, q_soakC_s, q_soakC_day, q_soakC_z, q_pressC_n, q_pressC_L, q_pressC_ru, q_pressC_K, q_pressC_p, q_pressC_t, q_pressC_s, q_pressC_day, q_pressC_z, q_tick_n, q_tick_L, q_tick_ru, q_tick_K, q_tick_p, q_tick_t, q_tick_s, q_tick_day, q_tick_z, q_wL_n, q_wL_L, q_wL_ru, q_wL_K, q_wL_p, q_wL_t, q_wL_s, q_wL_day, q_wL_z, q_wp_n, q_wp_L, q_wp_ru, q_wp_K, q_wp_p, q_wp_t, q_wp_s, q_wp_day, q_wp_z, q_wt_n, q_wt_L, q_wt_ru, q_wt_K, q_wt_p, q_wt_t, q_wt_s, q_wt_day, q_wt_z, q_ws_n, q_ws_L, q_ws_ru, q_ws_K, q_ws_p, q_ws_t, q_ws_s, q_ws_day, q_ws_z, q_wz_n, q_wz_L, q_wz_ru, q_wz_K, q_wz_p, q_wz_t, q_wz_s, q_wz_day, q_wz_z, q_wd_n, q_wd_L, q_wd_ru, q_wd_K, q_wd_p, q_wd_t, q_wd_s, q_wd_day, q_wd_z, q_wr_n, q_wr_L, q_wr_ru, q_wr_K, q_wr_p, q_wr_t, q_wr_s, q_wr_day, q_wr_z])
  · rw [en_up_i, h.r.L a ha b hb]
    by_cases e : a = i ∧ b = j
    · obtain ⟨rfl, rfl⟩ := e
      simp
    · rw [if_neg (by omega)]
      simp [e]
  · unfold en_up
    rw [if_neg (hb i hi)]
theorem XC.pru (h : XC S σ0 σ cb C) {k v : Nat} : XC S σ0 (en_up σ (cb + 2) k (nI v)) cb (q_wr C k v) := by
  have hr := h.r
  have hl := h.lt
  have e : ∀ b, b ≠ cb + 2 → en_up σ (cb + 2) k (nI v) b = σ b := fun b hb => by unfold en_up; rw [if_neg hb]
  refine ⟨h.cl, h.lt, ⟨by rw [e _ (by omega), q_wr_n]; exact hr.n, fun i hi => by rw [q_wr_n] at hi; rw [e _ (by omega), q_wr_L]; exact hr.L i hi, fun j hj => ?_, by rw [q_wr_K]; exact hr.K.fr (by rw [e _ (by omega)]) (e _ (by omega)) (e _ (by omega)) (fun b hb => e b (by omega)), by rw [e _ (by omega), q_wr_p]; exact hr.p, by rw [e _ (by omega), q_wr_t]; exact hr.t, by rw [e _ (by omega), q_wr_s]; exact hr.s, by rw [e _ (by omega), q_wr_day]; exact hr.day, by rw [e _ (by omega), q_wr_z]; exact hr.z⟩, fun b hb => by rw [e b (by omega)]; exact h.fr b hb⟩
  rw [q_wr_ru, en_up_i, hr.ru j hj]
  by_cases ej : j = k
  · rw [if_pos ⟨rfl, ej⟩]
    simp [ej]
  · rw [if_neg (fun x => ej x.2)]
    simp [ej]
theorem XC.pz (h : XC S σ0 σ cb C) (v : Int32) : XC S σ0 (en_up σ cb 10 v) cb (q_wz C v) := h.own (by simp only [mk_n, mk_L, mk_ru, mk_K, mk_p, mk_t, mk_s, mk_day, mk_z, q_pt_n, q_pt_L, q_pt_ru, q_pt_K, q_pt_p, q_pt_t, q_pt_s, q_pt_day, q_pt_z, q_wearC_n, q_wearC_L, q_wearC_ru, q_wearC_K, q_wearC_p, q_wearC_t, q_wearC_s, q_wearC_day, q_wearC_z, q_drawC_n, q_drawC_L, q_drawC_ru, q_drawC_K, q_drawC_p, q_drawC_t, q_drawC_s, q_drawC_day, q_drawC_z, q_soakC_n, q_soakC_L, q_soakC_ru, q_soakC_K, q_soakC_p, q_soakC_t, q_soakC_s, q_soakC_day, q_soakC_z, q_pressC_n, q_pressC_L, q_pressC_ru, q_pressC_K, q_pressC_p, q_pressC_t, q_pressC_s, q_pressC_day, q_pressC_z, q_tick_n, q_tick_L, q_tick_ru, q_tick_K, q_tick_p, q_tick_t, q_tick_s, q_tick_day, q_tick_z, q_wL_n, q_wL_L, q_wL_ru, q_wL_K, q_wL_p, q_wL_t, q_wL_s, q_wL_day, q_wL_z, q_wp_n, q_wp_L, q_wp_ru, q_wp_K, q_wp_p, q_wp_t, q_wp_s, q_wp_day, q_wp_z, q_wt_n, q_wt_L, q_wt_ru, q_wt_K, q_wt_p, q_wt_t, q_wt_s, q_wt_day, q_wt_z, q_ws_n, q_ws_L, q_ws_ru, q_ws_K, q_ws_p, q_ws_t, q_ws_s, q_ws_day, q_ws_z, q_wz_n, q_wz_L, q_wz_ru, q_wz_K, q_wz_p, q_wz_t, q_wz_s, q_wz_day, q_wz_z, q_wd_n, q_wd_L, q_wd_ru, q_wd_K, q_wd_p, q_wd_t, q_wd_s, q_wd_day, q_wd_z, q_wr_n, q_wr_L, q_wr_ru, q_wr_K, q_wr_p, q_wr_t, q_wr_s, q_wr_day, q_wr_z]) (by simp only [mk_n, mk_L, mk_ru, mk_K, mk_p, mk_t, mk_s, mk_day, mk_z, q_pt_n, q_pt_L, q_pt_ru, q_pt_K, q_pt_p, q_pt_t, q_pt_s, q_pt_day, q_pt_z, q_wearC_n, q_wearC_L, q_wearC_ru, q_wearC_K, q_wearC_p, q_wearC_t, q_wearC_s, q_wearC_day, q_wearC_z, q_drawC_n, q_drawC_L, q_drawC_ru, q_drawC_K, q_drawC_p, q_drawC_t, q_drawC_s, q_drawC_day, q_drawC_z, q_soakC_n, q_soakC_L, q_soakC_ru, q_soakC_K, q_soakC_p, q_soakC_t, q_soakC_s, q_soakC_day, q_soakC_z, q_pressC_n, q_pressC_L, q_pressC_ru, q_pressC_K, q_pressC_p, q_pressC_t, q_pressC_s, q_pressC_day, q_pressC_z, q_tick_n, q_tick_L, q_tick_ru, q_tick_K, q_tick_p, q_tick_t, q_tick_s, q_tick_day, q_tick_z, q_wL_n, q_wL_L, q_wL_ru, q_wL_K, q_wL_p, q_wL_t, q_wL_s, q_wL_day, q_wL_z, q_wp_n, q_wp_L, q_wp_ru, q_wp_K, q_wp_p, q_wp_t, q_wp_s, q_wp_day, q_wp_z, q_wt_n, q_wt_L, q_wt_ru, q_wt_K, q_wt_p, q_wt_t, q_wt_s, q_wt_day, q_wt_z, q_ws_n, q_ws_L, q_ws_ru, q_ws_K, q_ws_p, q_ws_t, q_ws_s, q_ws_day, q_ws_z, q_wz_n, q_wz_L, q_wz_ru, q_wz_K, q_wz_p, q_wz_t, q_wz_s, q_wz_day, q_wz_z, q_wd_n, q_wd_L, q_wd_ru, q_wd_K, q_wd_p, q_wd_t, q_wd_s, q_wd_day, q_wd_z, q_wr_n, q_wr_L, q_wr_ru, q_wr_K, q_wr_p, q_wr_t, q_wr_s, q_wr_day, q_wr_z]) (by simp only [mk_n, mk_L, mk_ru, mk_K, mk_p, mk_t, mk_s, mk_day, mk_z, q_pt_n, q_pt_L, q_pt_ru, q_pt_K, q_pt_p, q_pt_t, q_pt_s, q_pt_day, q_pt_z, q_wearC_n, q_wearC_L, q_wearC_ru, q_wearC_K, q_wearC_p, q_wearC_t, q_wearC_s, q_wearC_day, q_wearC_z, q_drawC_n, q_drawC_L, q_drawC_ru, q_drawC_K, q_drawC_p, q_drawC_t, q_drawC_s, q_drawC_day, q_drawC_z, q_soakC_n, q_soakC_L, q_soakC_ru, q_soakC_K, q_soakC_p, q_soakC_t, q_soakC_s, q_soakC_day, q_soakC_z, q_pressC_n, q_pressC_L, q_pressC_ru, q_pressC_K, q_pressC_p, q_pressC_t, q_pressC_s, q_pressC_day, q_pressC_z, q_tick_n, q_tick_L, q_tick_ru, q_tick_K, q_tick_p, q_tick_t, q_tick_s, q_tick_day, q_tick_z, q_wL_n, q_wL_L, q_wL_ru, q_wL_K, q_wL_p, q_wL_t, q_wL_s, q_wL_day, q_wL_z, q_wp_n, q_wp_L, q_wp_ru, q_wp_K, q_wp_p, q_wp_t, q_wp_s, q_wp_day, q_wp_z, q_wt_n, q_wt_L, q_wt_ru, q_wt_K, q_wt_p, q_wt_t, q_wt_s, q_wt_day, q_wt_z, q_ws_n, q_ws_L, q_ws_ru, q_ws_K, q_ws_p, q_ws_t, q_ws_s, q_ws_day, q_ws_z, q_wz_n, q_wz_L, q_wz_ru, q_wz_K, q_wz_p, q_wz_t, q_wz_s, q_wz_day, q_wz_z, q_wd_n, q_wd_L, q_wd_ru, q_wd_K, q_wd_p, q_wd_t, q_wd_s, q_wd_day, q_wd_z, q_wr_n, q_wr_L, q_wr_ru, q_wr_K, q_wr_p, q_wr_t, q_wr_s, q_wr_day, q_wr_z]) (by simp only [mk_n, mk_L, mk_ru, mk_K, mk_p, mk_t, mk_s, mk_day, mk_z, q_pt_n, q_pt_L, q_pt_ru, q_pt_K, q_pt_p, q_pt_t, q_pt_s, q_pt_day, q_pt_z, q_wearC_n, q_wearC_L, q_wearC_ru, q_wearC_K, q_wearC_p, q_wearC_t, q_wearC_s, q_wearC_day, q_wearC_z, q_drawC_n, q_drawC_L, q_drawC_ru, q_drawC_K, q_drawC_p, q_drawC_t, q_drawC_s, q_drawC_day, q_drawC_z, q_soakC_n, q_soakC_L, q_soakC_ru, q_soakC_K, q_soakC_p, q_soakC_t, q_soakC_s, q_soakC_day, q_soakC_z, q_pressC_n, q_pressC_L, q_pressC_ru, q_pressC_K, q_pressC_p, q_pressC_t, q_pressC_s, q_pressC_day, q_pressC_z, q_tick_n, q_tick_L, q_tick_ru, q_tick_K, q_tick_p, q_tick_t, q_tick_s, q_tick_day, q_tick_z, q_wL_n, q_wL_L, q_wL_ru, q_wL_K, q_wL_p, q_wL_t, q_wL_s, q_wL_day, q_wL_z, q_wp_n, q_wp_L, q_wp_ru, q_wp_K, q_wp_p, q_wp_t, q_wp_s, q_wp_day, q_wp_z, q_wt_n, q_wt_L, q_wt_ru, q_wt_K, q_wt_p, q_wt_t, q_wt_s, q_wt_day, q_wt_z, q_ws_n, q_ws_L, q_ws_ru, q_ws_K, q_ws_p, q_ws_t, q_ws_s, q_ws_day, q_ws_z, q_wz_n, q_wz_L, q_wz_ru, q_wz_K, q_wz_p, q_wz_t, q_wz_s, q_wz_day, q_wz_z, q_wd_n, q_wd_L, q_wd_ru, q_wd_K, q_wd_p, q_wd_t, q_wd_s, q_wd_day, q_wd_z, q_wr_n, q_wr_L, q_wr_ru, q_wr_K, q_wr_p, q_wr_t, q_wr_s, q_wr_day, q_wr_z]) (by decide) (by decide) (by simp [mk_n, mk_L, mk_ru, mk_K, mk_p, mk_t, mk_s, mk_day, mk_z, q_pt_n, q_pt_L, q_pt_ru, q_pt_K, q_pt_p, q_pt_t, q_pt_s, q_pt_day, q_pt_z, q_wearC_n, q_wearC_L, q_wearC_ru, q_wearC_K, q_wearC_p, q_wearC_t, q_wearC_s, q_wearC_day, q_wearC_z, q_drawC_n, q_drawC_L, q_drawC_ru, q_drawC_K, q_drawC_p, q_drawC_t, q_drawC_s, q_drawC_day, q_drawC_z, q_soakC_n, q_soakC_L, q_soakC_ru, q_soakC_K, q_soakC_p, q_soakC_t, q_soakC_s, q_soakC_day, q_soakC_z, q_pressC_n, q_pressC_L, q_pressC_ru, q_pressC_K, q_pressC_p, q_pressC_t, q_pressC_s, q_pressC_day, q_pressC_z, q_tick_n, q_tick_L, q_tick_ru, q_tick_K, q_tick_p, q_tick_t, q_tick_s, q_tick_day, q_tick_z, q_wL_n, q_wL_L, q_wL_ru, q_wL_K, q_wL_p, q_wL_t, q_wL_s, q_wL_day, q_wL_z, q_wp_n, q_wp_L, q_wp_ru, q_wp_K, q_wp_p, q_wp_t, q_wp_s, q_wp_day, q_wp_z, q_wt_n, q_wt_L, q_wt_ru, q_wt_K, q_wt_p, q_wt_t, q_wt_s, q_wt_day, q_wt_z, q_ws_n, q_ws_L, q_ws_ru, q_ws_K, q_ws_p, q_ws_t, q_ws_s, q_ws_day, q_ws_z, q_wz_n, q_wz_L, q_wz_ru, q_wz_K, q_wz_p, q_wz_t, q_wz_s, q_wz_day, q_wz_z, q_wd_n, q_wd_L, q_wd_ru, q_wd_K, q_wd_p, q_wd_t, q_wd_s, q_wd_day, q_wd_z, q_wr_n, q_wr_L, q_wr_ru, q_wr_K, q_wr_p, q_wr_t, q_wr_s, q_wr_day, q_wr_z]) (by simp [mk_n, mk_L, mk_ru, mk_K, mk_p, mk_t, mk_s, mk_day, mk_z, q_pt_n, q_pt_L, q_pt_ru, q_pt_K, q_pt_p, q_pt_t, q_pt_s, q_pt_day, q_pt_z, q_wearC_n, q_wearC_L, q_wearC_ru, q_wearC_K, q_wearC_p, q_wearC_t, q_wearC_s, q_wearC_day, q_wearC_z, q_drawC_n, q_drawC_L, q_drawC_ru, q_drawC_K, q_drawC_p, q_drawC_t, q_drawC_s, q_drawC_day, q_drawC_z, q_soakC_n, q_soakC_L, q_soakC_ru, q_soakC_K, q_soakC_p, q_soakC_t, q_soakC_s, q_soakC_day, q_soakC_z, q_pressC_n, q_pressC_L, q_pressC_ru, q_pressC_K, q_pressC_p, q_pressC_t, q_pressC_s, q_pressC_day, q_pressC_z, q_tick_n, q_tick_L, q_tick_ru, q_tick_K, q_tick_p, q_tick_t, q_tick_s, q_tick_day, q_tick_z, q_wL_n, q_wL_L, q_wL_ru, q_wL_K, q_wL_p, q_wL_t, q_wL_s, q_wL_day, q_wL_z, q_wp_n, q_wp_L, q_wp_ru, q_wp_K, q_wp_p, q_wp_t, q_wp_s, q_wp_day, q_wp_z, q_wt_n, q_wt_L, q_wt_ru, q_wt_K, q_wt_p, q_wt_t, q_wt_s, q_wt_day, q_wt_z, q_ws_n, q_ws_L, q_ws_ru, q_ws_K, q_ws_p, q_ws_t, q_ws_s, q_ws_day, q_ws_z, q_wz_n, q_wz_L, q_wz_ru, q_wz_K, q_wz_p, q_wz_t, q_wz_s, q_wz_day, q_wz_z, q_wd_n, q_wd_L, q_wd_ru, q_wd_K, q_wd_p, q_wd_t, q_wd_s, q_wd_day, q_wd_z, q_wr_n, q_wr_L, q_wr_ru, q_wr_K, q_wr_p, q_wr_t, q_wr_s, q_wr_day, q_wr_z]) (by simp [mk_n, mk_L, mk_ru, mk_K, mk_p, mk_t, mk_s, mk_day, mk_z, q_pt_n, q_pt_L, q_pt_ru, q_pt_K, q_pt_p, q_pt_t, q_pt_s, q_pt_day, q_pt_z, q_wearC_n, q_wearC_L, q_wearC_ru, q_wearC_K, q_wearC_p, q_wearC_t, q_wearC_s, q_wearC_day, q_wearC_z, q_drawC_n, q_drawC_L, q_drawC_ru, q_drawC_K, q_drawC_p, q_drawC_t, q_drawC_s, q_drawC_day, q_drawC_z, q_soakC_n, q_soakC_L, q_soakC_ru, q_soakC_K, q_soakC_p, q_soakC_t, q_soakC_s, q_soakC_day, q_soakC_z, q_pressC_n, q_pressC_L, q_pressC_ru, q_pressC_K, q_pressC_p, q_pressC_t, q_pressC_s, q_pressC_day, q_pressC_z, q_tick_n, q_tick_L, q_tick_ru, q_tick_K, q_tick_p, q_tick_t, q_tick_s, q_tick_day, q_tick_z, q_wL_n, q_wL_L, q_wL_ru, q_wL_K, q_wL_p, q_wL_t, q_wL_s, q_wL_day, q_wL_z, q_wp_n, q_wp_L, q_wp_ru, q_wp_K, q_wp_p, q_wp_t, q_wp_s, q_wp_day, q_wp_z, q_wt_n, q_wt_L, q_wt_ru, q_wt_K, q_wt_p, q_wt_t, q_wt_s, q_wt_day, q_wt_z, q_ws_n, q_ws_L, q_ws_ru, q_ws_K, q_ws_p, q_ws_t, q_ws_s, q_ws_day, q_ws_z, q_wz_n, q_wz_L, q_wz_ru, q_wz_K, q_wz_p, q_wz_t, q_wz_s, q_wz_day, q_wz_z, q_wd_n, q_wd_L, q_wd_ru, q_wd_K, q_wd_p, q_wd_t, q_wd_s, q_wd_day, q_wd_z, q_wr_n, q_wr_L, q_wr_ru, q_wr_K, q_wr_p, q_wr_t, q_wr_s, q_wr_day, q_wr_z]) (by simp [mk_n, mk_L, mk_ru, mk_K, mk_p, mk_t, mk_s, mk_day, mk_z, q_pt_n, q_pt_L, q_pt_ru, q_pt_K, q_pt_p, q_pt_t, q_pt_s, q_pt_day, q_pt_z, q_wearC_n, q_wearC_L, q_wearC_ru, q_wearC_K, q_wearC_p, q_wearC_t, q_wearC_s, q_wearC_day, q_wearC_z, q_drawC_n, q_drawC_L, q_drawC_ru, q_drawC_K, q_drawC_p, q_drawC_t, q_drawC_s, q_drawC_day, q_drawC_z, q_soakC_n, q_soakC_L, q_soakC_ru, q_soakC_K, q_soakC_p, q_soakC_t, q_soakC_s, q_soakC_day, q_soakC_z, q_pressC_n, q_pressC_L, q_pressC_ru, q_pressC_K, q_pressC_p, q_pressC_t, q_pressC_s, q_pressC_day, q_pressC_z, q_tick_n, q_tick_L, q_tick_ru, q_tick_K, q_tick_p, q_tick_t, q_tick_s, q_tick_day, q_tick_z, q_wL_n, q_wL_L, q_wL_ru, q_wL_K, q_wL_p, q_wL_t, q_wL_s, q_wL_day, q_wL_z, q_wp_n, q_wp_L, q_wp_ru, q_wp_K, q_wp_p, q_wp_t, q_wp_s, q_wp_day, q_wp_z, q_wt_n, q_wt_L, q_wt_ru, q_wt_K, q_wt_p, q_wt_t, q_wt_s, q_wt_day, q_wt_z, q_ws_n, q_ws_L, q_ws_ru, q_ws_K, q_ws_p, q_ws_t, q_ws_s, q_ws_day, q_ws_z, q_wz_n, q_wz_L, q_wz_ru, q_wz_K, q_wz_p, q_wz_t, q_wz_s, q_wz_day, q_wz_z, q_wd_n, q_wd_L, q_wd_ru, q_wd_K, q_wd_p, q_wd_t, q_wd_s, q_wd_day, q_wd_z, q_wr_n, q_wr_L, q_wr_ru, q_wr_K, q_wr_p, q_wr_t, q_wr_s, q_wr_day, q_wr_z]) (by simp [mk_n, mk_L, mk_ru, mk_K, mk_p, mk_t, mk_s, mk_day, mk_z, q_pt_n, q_pt_L, q_pt_ru, q_pt_K, q_pt_p, q_pt_t, q_pt_s, q_pt_day, q_pt_z, q_wearC_n, q_wearC_L, q_wearC_ru, q_wearC_K, q_wearC_p, q_wearC_t, q_wearC_s, q_wearC_day, q_wearC_z, q_drawC_n, q_drawC_L, q_drawC_ru, q_drawC_K, q_drawC_p, q_drawC_t, q_drawC_s, q_drawC_day, q_drawC_z, q_soakC_n, q_soakC_L, q_soakC_ru, q_soakC_K, q_soakC_p, q_soakC_t, q_soakC_s, q_soakC_day, q_soakC_z, q_pressC_n, q_pressC_L, q_pressC_ru, q_pressC_K, q_pressC_p, q_pressC_t, q_pressC_s, q_pressC_day, q_pressC_z, q_tick_n, q_tick_L, q_tick_ru, q_tick_K, q_tick_p, q_tick_t, q_tick_s, q_tick_day, q_tick_z, q_wL_n, q_wL_L, q_wL_ru, q_wL_K, q_wL_p, q_wL_t, q_wL_s, q_wL_day, q_wL_z, q_wp_n, q_wp_L, q_wp_ru, q_wp_K, q_wp_p, q_wp_t, q_wp_s, q_wp_day, q_wp_z, q_wt_n, q_wt_L, q_wt_ru, q_wt_K, q_wt_p, q_wt_t, q_wt_s, q_wt_day, q_wt_z, q_ws_n, q_ws_L, q_ws_ru, q_ws_K, q_ws_p, q_ws_t, q_ws_s, q_ws_day, q_ws_z, q_wz_n, q_wz_L, q_wz_ru, q_wz_K, q_wz_p, q_wz_t, q_wz_s, q_wz_day, q_wz_z, q_wd_n, q_wd_L, q_wd_ru, q_wd_K, q_wd_p, q_wd_t, q_wd_s, q_wd_day, q_wd_z, q_wr_n, q_wr_L, q_wr_ru, q_wr_K, q_wr_p, q_wr_t, q_wr_s, q_wr_day, q_wr_z])
theorem q_ok_pt (ok : q_ok C) {i j v : Nat} (hv : (j = 0 → v ≤ 5) ∧ (j = 1 → v ≤ 59) ∧ (j = 2 → v ≤ 99) ∧ (j = 3 → v ≤ 99) ∧ (j = 4 → v ≤ 99) ∧ (j = 5 → v ≤ 9)) : q_ok (q_pt C i j v) := by
  refine q_ok_of ok (q_pt_n C i j v) (fun a ha => ?_) (q_pt_ru C i j v) (q_pt_K C i j v)
  rw [q_pt_L]
  obtain ⟨h0, h1, h2, h3, h4, h5⟩ := ok.L a ha
  obtain ⟨v0, v1, v2, v3, v4, v5⟩ := hv
  refine ⟨?_, ?_, ?_, ?_, ?_, ?_⟩ <;> show (if a = i ∧ _ = j then v else C.L a _) ≤ _ <;> split <;> omega
theorem q_ok_wr (ok : q_ok C) {k v : Nat} (hv : (k = 0 → v ≤ 100) ∧ (k = 1 → v ≤ 3) ∧ (k = 2 → v ≤ 99) ∧ (k = 3 → v ≤ 99)) : q_ok (q_wr C k v) := by
  obtain ⟨v0, v1, v2, v3⟩ := hv
  have h0 := ok.r0
  have h1 := ok.r1
  have h2 := ok.r2
  have h3 := ok.r3
  refine ⟨by rw [q_wr_n]; exact ok.n, by rw [q_wr_n, q_wr_L]; exact ok.L, ?_, ?_, ?_, ?_, by rw [q_wr_K]; exact ok.K⟩ <;> rw [q_wr_ru] <;> show (if _ = k then v else C.ru _) ≤ _ <;> split <;> omega
theorem q_ok_wz (ok : q_ok C) {v : Int32} : q_ok (q_wz C v) := q_ok_of ok (q_wz_n C v) (fun i hi => by rw [q_wz_L]; exact ok.L i hi) (q_wz_ru C v) (q_wz_K C v)
end BA
