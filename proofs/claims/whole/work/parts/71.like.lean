/-! ===== like ===== -/
def q_ad (x : Int32) : Int32 := if 0 ≤ x then x else -x
noncomputable def q_lk (C : q_C) (c : Nat → Int32) : Nat → Nat → Int32
  | 0, _ => 0
  | k + 1, l => if c k = -1000000005 then q_lk C c k l else q_lk C c k l + q_ad (nI ((q_days C k).L l 1) - c k)
theorem q_lk_s (C : q_C) (c : Nat → Int32) (k l : Nat) : q_lk C c (k + 1) l = if c k = -1000000005 then q_lk C c k l else q_lk C c k l + q_ad (nI ((q_days C k).L l 1) - c k) := rfl
def q_mi (u : Nat → Int32) : Nat → Nat
  | 0 => 0
  | k + 1 => if u (q_mi u k) ≤ u (k + 1) then q_mi u k else k + 1
theorem q_mi_s (u : Nat → Int32) (k : Nat) : q_mi u (k + 1) = if u (q_mi u k) ≤ u (k + 1) then q_mi u k else k + 1 := rfl
theorem q_mi_le (u : Nat → Int32) : ∀ k, q_mi u k ≤ k
  | 0 => Nat.le_refl _
  | k + 1 => by
    have := q_mi_le u k
    unfold q_mi
    split <;> omega
theorem q_ad_n (x y : Int32) : q_ad (x - y) = q_ad (y - x) := by
  have e : y - x = -(x - y) := (Int32.neg_sub).symm
  rw [e]
  generalize x - y = z
  have hz1 := z.le_toInt
  have hz2 := z.toInt_lt
  have hn : (-z).toInt = (-z.toInt).bmod (2 ^ 32) := Int32.toInt_neg z
  have hnn : (-(-z)) = z := Int32.neg_neg
  have h0 : (0 : Int32).toInt = 0 := rfl
  unfold q_ad
  rw [hnn]
  by_cases c1 : 0 ≤ z
  · rw [if_pos c1]
    rw [Int32.le_iff_toInt_le, h0] at c1
    by_cases c2 : 0 ≤ -z
    · rw [if_pos c2]
      rw [Int32.le_iff_toInt_le, h0] at c2
      apply Int32.toInt_inj.mp
      rw [hn] at c2 ⊢
      rw [Int.bmod_def] at c2 ⊢
      split at c2 <;> omega
    · rw [if_neg c2]
  · rw [if_neg c1]
    rw [Int32.le_iff_toInt_le, h0] at c1
    by_cases c2 : 0 ≤ -z
    · rw [if_pos c2]
    · rw [if_neg c2]
      rw [Int32.le_iff_toInt_le, h0] at c2
      apply Int32.toInt_inj.mp
      rw [hn] at c2 ⊢
      rw [Int.bmod_def] at c2 ⊢
      split at c2 <;> omega
section LK
variable {S : List en_S} {σ0 σ σ1 σ2 τ τ' : Nat → Nat → Int32} {cb d : Nat} {xs : List Int32} {C D : q_C} {G : q_G}
theorem isMo.ul (hM : isMo S) : S[94]? = some (.inr (.inl (0, 10))) := hM 4 _ rfl
theorem j_abs (x : Int32) (h : mx_H) : mx_ev xs mx_P (d + 1) 1 [.int x] h = some (some (.int (q_ad x)), h) := by
  rw [ev_J9_abs_0f7a4]
  unfold q_ad
  split <;> rfl
theorem m_offq (x : Int32) (h : mx_H) : mx_ev xs mx_P (d + 1) 141 [.int x] h = some (some (.int (q_ad x)), h) := by
  rw [ev_X7_off]
  unfold q_ad
  split <;> rfl
/-- the class's closet of thoughts, as it stands -/
theorem XC.at52 (h : XC S τ τ 35 D) (h10 : D.n ≤ 10) {l : Nat} {v : Int32} : XC S (en_up τ 52 l v) (en_up τ 52 l v) 35 D := by
  have e : ∀ b, b ≠ 52 → en_up τ 52 l v b = τ b := fun b hb => by unfold en_up; rw [if_neg hb]
  exact ⟨h.cl, h.lt, h.r.fr h10 (e _ (by omega)) (e _ (by omega)) (e _ (by omega)) (e _ (by omega)) (fun i hi => e _ (by omega)) (fun b hb => e b (by omega)), fun _ _ => rfl⟩
theorem XC.here (h : XC S σ0 τ 35 D) : XC S τ τ 35 D := ⟨h.cl, h.lt, h.r, fun _ _ => rfl⟩
/-- a row's end: a day goes by -/
theorem x_sum_end (hX : XR S σ G) {i k : Nat} (hi : i < 4) (ok : q_ok C) (hday : C.day ≤ 9999) (hk : k < 100) (u : Nat → Int32) (x : XC S τ τ 35 (q_days C k)) (t : thX σ τ) (hu : ∀ l, l < C.n → τ 52 l = u l) (N : Nat) : ∃ τ2, mx_cl (en S τ) 35 0 (mx_c0 (mx_ev xs mx_P (d + 6) 27 [.ref 35] (en S τ)) (fun h2 => mx_rn xs (mx_ev xs mx_P (d + 6)) kk_X6_sumDifferences N 15 [(0, .ref 0), (1, .ref (62 + 2 * i)), (2, .ref 35), (3, .int (nI k + 1))] [] h2)) = mx_rn xs (mx_ev xs mx_P (d + 6)) kk_X6_sumDifferences N 15 [(0, .ref 0), (1, .ref (62 + 2 * i)), (2, .ref 35), (3, .int (nI (k + 1)))] [] (en S τ2) ∧ XC S τ2 τ2 35 (q_days C (k + 1)) ∧ thX σ τ2 ∧ ∀ l, l < C.n → τ2 52 l = u l := by
  obtain ⟨τ2, r2, x2⟩ := x_passDay (xs := xs) (d := d) x (q_ok_days ok k) (by rw [q_days_day]; omega)
  refine ⟨τ2, ?_, x2.here, t.go x2, fun l hl => by rw [x2.fr 52 (by omega)]; exact hu l hl⟩
  rw [en_cl x.cl.1, r2, c0s, nI_1]
theorem x_sum_in (hX : XR S σ G) (okG : GO G) {i k : Nat} (hi : i < 4) (ok : q_ok C) (hday : C.day ≤ 9999) (hk : k < G.sz i) (hc : ¬ G.ce i k = -1000000005) (u : Nat → Int32) : ∀ (m l N : Nat) (τ : Nat → Nat → Int32), l + m = C.n → XC S τ τ 35 (q_days C k) → thX σ τ → (∀ j, j < C.n → τ 52 j = if j < l then u j + q_ad (nI ((q_days C k).L j 1) - G.ce i k) else u j) → ∃ τ2, mx_rn xs (mx_ev xs mx_P (d + 6)) kk_X6_sumDifferences (N + m + 1) 26 [(0, .ref 0), (1, .ref (62 + 2 * i)), (2, .ref 35), (3, .int (nI k)), (4, .int (nI l))] [] (en S τ) = mx_rn xs (mx_ev xs mx_P (d + 6)) kk_X6_sumDifferences N 15 [(0, .ref 0), (1, .ref (62 + 2 * i)), (2, .ref 35), (3, .int (nI (k + 1)))] [] (en S τ2) ∧ XC S τ2 τ2 35 (q_days C (k + 1)) ∧ thX σ τ2 ∧ ∀ j, j < C.n → τ2 52 j = u j + q_ad (nI ((q_days C k).L j 1) - G.ce i k)
  | 0, l, N, τ, h1, x, t, hu => by
    have h10 := ok.n
    have h24 := okG.sz i hi
    have hn : (q_days C k).n = C.n := q_days_n C k
    rw [rn_X6_sumDifferences_26, en_gi x.cl.1 rfl, x.r.n, hn, if_pos (nI_le (by omega) (by omega))]
    exact x_sum_end hX hi ok hday (by omega) _ x t (fun j hj => by rw [hu j hj, if_pos (by omega)]) N
  | m + 1, l, N, τ, h1, x, t, hu => by
    have h10 := ok.n
    have h24 := okG.sz i hi
    have hn : (q_days C k).n = C.n := q_days_n C k
    have hl : l < C.n := by omega
    have hso := hX.x.so i hi
    have hsp := hX.x.sp i hi
    have s1 : τ (62 + 2 * i) 1 = nI (G.sz i) := by rw [t _ (by omega)]; exact hX.sz i hi
    have s2 : τ (63 + 2 * i) k = G.ce i k := by rw [t _ (by omega)]; exact hX.ce i hi k (by omega)
    have hul := hu l hl
    rw [if_neg (by omega)] at hul
    rw [show N + (m + 1) + 1 = (N + m + 1) + 1 by omega, rn_X6_sumDifferences_26, en_gi x.cl.1 rfl, x.r.n, hn, if_neg (nI_ge hl (by omega)), en_cl hso, x_number hso hsp s1 h24 hk, c1s, s2, if_neg hc, if_neg (by decide), en_gr hX.x.o rfl, en_aiN hX.x.df (by omega) (by decide), hul, en_gr x.cl.1 rfl, cl_aa x.cl (by omega), en_gi (x.leg (by omega)) rfl, x.r.L l (by omega) 1 (by decide), en_gr hso rfl, en_aiN hsp (by omega) (by decide), s2, j_abs, c1s, en_asN hX.x.df (by omega) (by decide), nI_1]
    refine x_sum_in hX okG hi ok hday hk hc u m (l + 1) N _ (by omega) (x.at52 (by omega)) (fun b hb => by rw [show en_up τ 52 l _ b = τ b by unfold en_up; rw [if_neg (by omega)]]; exact t b hb) (fun j hj => ?_)
    rw [en_up_i]
    by_cases e : j = l
    · subst e
      rw [if_pos ⟨rfl, rfl⟩, if_pos (by omega)]
    · rw [if_neg (fun h => e h.2), hu j hj]
      by_cases e2 : j < l
      · rw [if_pos e2, if_pos (by omega)]
      · rw [if_neg e2, if_neg (by omega)]
theorem x_sum_loop (hX : XR S σ G) (okG : GO G) {i : Nat} (hi : i < 4) (ok : q_ok C) (hday : C.day ≤ 9999) (hn0 : 0 < C.n) : ∀ (m k N : Nat) (τ : Nat → Nat → Int32), k + m = G.sz i → 14 * m < N → XC S τ τ 35 (q_days C k) → thX σ τ → (∀ j, j < C.n → τ 52 j = q_lk C (G.ce i) k j) → ∃ τ2, mx_rn xs (mx_ev xs mx_P (d + 6)) kk_X6_sumDifferences N 15 [(0, .ref 0), (1, .ref (62 + 2 * i)), (2, .ref 35), (3, .int (nI k))] [] (en S τ) = some (none, en S τ2) ∧ thX σ τ2 ∧ ∀ j, j < C.n → τ2 52 j = q_lk C (G.ce i) (G.sz i) j
  | m, k, 0, _, _, h2, _, _, _ => absurd h2 (by omega)
  | 0, k, N + 1, τ, h1, _, x, t, hu => by
    have h24 := okG.sz i hi
    have hso := hX.x.so i hi
    have s1 : τ (62 + 2 * i) 1 = nI (G.sz i) := by rw [t _ (by omega)]; exact hX.sz i hi
    rw [rn_X6_sumDifferences_15, en_gi hso rfl, s1, if_pos (nI_le (by omega) (by omega))]
    exact ⟨τ, rfl, t, fun j hj => by rw [hu j hj, show k = G.sz i by omega]⟩
  | m + 1, k, N + 1, τ, h1, h2, x, t, hu => by
    have h10 := ok.n
    have h24 := okG.sz i hi
    have hso := hX.x.so i hi
    have hsp := hX.x.sp i hi
    have hn : (q_days C k).n = C.n := q_days_n C k
    have s1 : τ (62 + 2 * i) 1 = nI (G.sz i) := by rw [t _ (by omega)]; exact hX.sz i hi
    have s2 : τ (63 + 2 * i) k = G.ce i k := by rw [t _ (by omega)]; exact hX.ce i hi k (by omega)
    rw [rn_X6_sumDifferences_15, en_gi hso rfl, s1, if_neg (nI_ge (by omega) (by omega))]
    by_cases hc : G.ce i k = -1000000005
    · obtain ⟨N', rfl⟩ : ∃ n, N = n + 1 := ⟨N - 1, by omega⟩
      obtain ⟨τ2, r2, x2, t2, u2⟩ := x_sum_end (xs := xs) (d := d) hX hi ok hday (by omega) _ x t hu N'
      rw [rn_X6_sumDifferences_26, en_gi x.cl.1 rfl, x.r.n, hn, if_neg (by exact nI_ge (a := 0) hn0 (by omega)), en_cl hso, x_number hso hsp s1 h24 (by omega), c1s, s2, if_pos hc, if_pos rfl, r2]
      exact x_sum_loop hX okG hi ok hday hn0 m (k + 1) N' τ2 (by omega) (by omega) x2 t2 (fun j hj => by rw [u2 j hj, q_lk_s, if_pos hc])
    · obtain ⟨N', rfl⟩ : ∃ n, N = n + C.n + 1 := ⟨N - C.n - 1, by omega⟩
      obtain ⟨τ2, r2, x2, t2, u2⟩ := x_sum_in (xs := xs) (d := d) hX okG hi ok hday (k := k) (by omega) hc (q_lk C (G.ce i) k) C.n 0 N' τ (by omega) x t (fun j hj => by rw [hu j hj, if_neg (by omega)])
      have r2' : mx_rn xs (mx_ev xs mx_P (d + 6)) kk_X6_sumDifferences (N' + C.n + 1) 26 [(0, .ref 0), (1, .ref (62 + 2 * i)), (2, .ref 35), (3, .int (nI k)), (4, .int 0)] [] (en S τ) = _ := r2
      rw [r2']
      exact x_sum_loop hX okG hi ok hday hn0 m (k + 1) N' τ2 (by omega) (by omega) x2 t2 (fun j hj => by rw [u2 j hj, q_lk_s, if_neg hc])
theorem x_like_loop (hX : XR S σ G) (okG : GO G) {w : Int32} (hn0 : 0 < G.now.n) (u : Nat → Int32) (t : thX σ τ) (hu : ∀ j, j < G.now.n → τ 52 j = u j) : ∀ (m k N : Nat), k + 1 + m = G.now.n → m < N → mx_rn xs (mx_ev xs mx_P d) kk_X6_like N 62 [(0, .ref 0), (2, .int w), (3, .int (nI (q_mi u k))), (4, .int (nI (k + 1)))] [] (en S τ) = some (some (.int (if w = 0 then nI (q_mi u (G.now.n - 1)) else u (q_mi u (G.now.n - 1)))), en S τ)
  | m, k, 0, _, h2 => absurd h2 (by omega)
  | 0, k, N + 1, h1, _ => by
    have h10 := okG.now.n
    have hk := q_mi_le u k
    have c := t.now hX okG
    rw [rn_X6_like_62, en_gr hX.x.o rfl, en_gi hX.x.c1.1 rfl, c.n, if_pos (nI_le (by omega) (by omega)), show G.now.n - 1 = k by omega]
    by_cases e : w = 0
    · rw [if_pos e, if_pos e, ri0]
    · rw [if_neg e, if_neg e, en_gr hX.x.o rfl, en_aiN hX.x.df (by omega) (by decide), hu _ (by omega), ri0]
  | m + 1, k, N + 1, h1, h2 => by
    have h10 := okG.now.n
    have hk := q_mi_le u k
    have c := t.now hX okG
    have ih := x_like_loop hX okG (w := w) hn0 u t hu m (k + 1) N (by omega) (by omega)
    rw [rn_X6_like_62, en_gr hX.x.o rfl, en_gi hX.x.c1.1 rfl, c.n, if_neg (nI_ge (by omega) (by omega)), en_gr hX.x.o rfl, en_aiN hX.x.df (by omega) (by decide), hu _ (by omega), en_gr hX.x.o rfl, en_aiN hX.x.df (by omega) (by decide), hu _ (by omega), nI_1]
    by_cases e : u (q_mi u k) ≤ u (k + 1)
    · rw [if_pos e, ← ih, show q_mi u (k + 1) = q_mi u k by rw [q_mi_s, if_pos e]]
    · rw [if_neg e, ← ih, show q_mi u (k + 1) = k + 1 by rw [q_mi_s, if_neg e]]
/-! the reference's side -/
theorem MC.here (h : MC S σ0 τ D) : MC S τ τ D := ⟨h.mo, h.r, fun _ _ _ _ => rfl⟩
theorem MC.at94 (h : MC S τ τ D) {l : Nat} {v : Int32} : MC S (en_up τ 94 l v) (en_up τ 94 l v) D := ⟨h.mo, by rw [show en_up τ 94 l v 91 = τ 91 by unfold en_up; rw [if_neg (by decide)]]; exact h.r, fun _ _ _ _ => rfl⟩
theorem thN.at94 (h : thN σ τ) {l : Nat} {v : Int32} : thN σ (en_up τ 94 l v) := ⟨fun k hk => by rw [en_up_a (by decide)]; exact h.1 k hk, fun b h1 h2 h3 h4 h5 => by rw [show en_up τ 94 l v b = τ b by unfold en_up; rw [if_neg h3]]; exact h.2 b h1 h2 h3 h4 h5⟩
theorem m_like_end {i k n : Nat} {w v : Int32} (ok : q_ok C) (hday : C.day ≤ 9999) (hk : k < 100) (u : Nat → Int32) (x : MC S τ τ (q_days C k)) (t : thN σ τ) (hu : ∀ l, l < C.n → τ 94 l = u l) (N : Nat) : ∃ τ2, mx_cl (en S τ) 90 7 (mx_c0 (mx_ev xs mx_P (d + 6) 162 [.ref 90] (en S τ)) (fun h2 => mx_rn xs (mx_ev xs mx_P (d + 6)) kk_X7_like N 68 [(0, .ref 90), (1, .int (nI i)), (2, .int w), (3, .int (nI n)), (4, .int (nI k + 1))] [] h2)) = mx_rn xs (mx_ev xs mx_P (d + 6)) kk_X7_like N 68 [(0, .ref 90), (1, .int (nI i)), (2, .int w), (3, .int (nI n)), (4, .int (nI (k + 1)))] [] (en S τ2) ∧ MC S τ2 τ2 (q_days C (k + 1)) ∧ thN σ τ2 ∧ ∀ l, l < C.n → τ2 94 l = u l := by
  obtain ⟨τ2, r2, x2⟩ := m_day (xs := xs) (d := d) x (q_ok_days ok k) (by rw [q_days_day]; omega)
  refine ⟨τ2, ?_, x2.here, t.go x2, fun l hl => by rw [x2.fr 94 (by decide) (by decide) (by decide)]; exact hu l hl⟩
  rw [en_cl x.mo.o, r2, c0s, nI_1]
theorem m_like_in {i k : Nat} {w v : Int32} (ok : q_ok C) (hday : C.day ≤ 9999) (hk : k < 100) (hc : ¬ v = -1000000005) (u : Nat → Int32) : ∀ (m l N : Nat) (τ : Nat → Nat → Int32), l + m = C.n → MC S τ τ (q_days C k) → thN σ τ → (∀ j, j < C.n → τ 94 j = if j < l then u j + q_ad (nI ((q_days C k).L j 1) - v) else u j) → ∃ τ2, mx_rn xs (mx_ev xs mx_P (d + 6)) kk_X7_like (N + m + 1) 96 [(0, .ref 90), (1, .int (nI i)), (2, .int w), (3, .int (nI C.n)), (4, .int (nI k)), (5, .int v), (6, .int (nI l))] [] (en S τ) = mx_rn xs (mx_ev xs mx_P (d + 6)) kk_X7_like N 68 [(0, .ref 90), (1, .int (nI i)), (2, .int w), (3, .int (nI C.n)), (4, .int (nI (k + 1)))] [] (en S τ2) ∧ MC S τ2 τ2 (q_days C (k + 1)) ∧ thN σ τ2 ∧ ∀ j, j < C.n → τ2 94 j = u j + q_ad (nI ((q_days C k).L j 1) - v)
  | 0, l, N, τ, h1, x, t, hu => by
    have h10 := ok.n
    rw [rn_X7_like_96, if_pos (nI_le (by omega) (by omega))]
    exact m_like_end (v := v) ok hday hk _ x t (fun j hj => by rw [hu j hj, if_pos (by omega)]) N
  | m + 1, l, N, τ, h1, x, t, hu => by
    have h10 := ok.n
    have hn : (q_days C k).n = C.n := q_days_n C k
    have hl : l < C.n := by omega
    have hul := hu l hl
    rw [if_neg (by omega)] at hul
    rw [show N + (m + 1) + 1 = (N + m + 1) + 1 by omega, rn_X7_like_96, if_neg (nI_ge hl (by omega)), if_neg hc, en_gr x.mo.o rfl, en_aiN x.mo.ul (by omega) (by decide), hul, en_cl x.mo.o, m_of' x (w := 1) (j := 1) (by omega) (by omega) (by decide) rfl, c1s, m_offq, c1s, q_ad_n v, en_asN x.mo.ul (by omega) (by decide), nI_1]
    refine m_like_in ok hday hk hc u m (l + 1) N _ (by omega) x.at94 t.at94 (fun j hj => ?_)
    rw [en_up_i]
    by_cases e : j = l
    · subst e
      rw [if_pos ⟨rfl, rfl⟩, if_pos (by omega)]
    · rw [if_neg (fun h => e h.2), hu j hj]
      by_cases e2 : j < l
      · rw [if_pos e2, if_pos (by omega)]
      · rw [if_neg e2, if_neg (by omega)]
theorem m_like_best {n : Nat} {w : Int32} (mo : isMo S) (h10 : n ≤ 10) (hn0 : 0 < n) (u : Nat → Int32) (hu : ∀ j, j < n → τ 94 j = u j) : ∀ (m k N : Nat), k + 1 + m = n → m < N → mx_rn xs (mx_ev xs mx_P d) kk_X7_like N 158 [(0, .ref 90), (2, .int w), (3, .int (nI n)), (4, .int (nI (q_mi u k))), (5, .int (nI (k + 1)))] [] (en S τ) = some (some (.int (if w = 0 then nI (q_mi u (n - 1)) else u (q_mi u (n - 1)))), en S τ)
  | m, k, 0, _, h2 => absurd h2 (by omega)
  | 0, k, N + 1, h1, _ => by
    have hk := q_mi_le u k
    rw [rn_X7_like_158, if_pos (nI_le (by omega) (by omega)), if_neg (q_nz hn0 (by omega)), show n - 1 = k by omega]
    by_cases e : w = 0
    · rw [if_pos e, if_pos e, ri0]
    · rw [if_neg e, if_neg e, en_gr mo.o rfl, en_aiN mo.ul (by omega) (by decide), hu _ (by omega), ri0]
  | m + 1, k, N + 1, h1, h2 => by
    have hk := q_mi_le u k
    have ih := m_like_best (w := w) mo h10 hn0 u hu m (k + 1) N (by omega) (by omega)
    rw [rn_X7_like_158, if_neg (nI_ge (by omega) (by omega)), en_gr mo.o rfl, en_aiN mo.ul (by omega) (by decide), hu _ (by omega), en_gr mo.o rfl, en_aiN mo.ul (by omega) (by decide), hu _ (by omega), nI_1]
    by_cases e : u (q_mi u k) ≤ u (k + 1)
    · rw [if_pos e, ← ih, show q_mi u (k + 1) = q_mi u k by rw [q_mi_s, if_pos e]]
    · rw [if_neg e, ← ih, show q_mi u (k + 1) = k + 1 by rw [q_mi_s, if_neg e]]
noncomputable def q_lkv (C : q_C) (c : Nat → Int32) (s : Nat) (w : Int32) : Int32 := if C.n = 0 then -1000000005 else if w = 0 then nI (q_mi (q_lk C c s) (C.n - 1)) else q_lk C c s (q_mi (q_lk C c s) (C.n - 1))
theorem m_like_loop (hM : MR S σ G) (okG : GO G) {i : Nat} {w : Int32} (hi : i < 4) : ∀ (m k N : Nat) (τ : Nat → Nat → Int32), k + m = G.sz i → 14 * m + 14 < N → MC S τ τ (q_days G.now k) → thN σ τ → (∀ j, j < G.now.n → τ 94 j = q_lk G.now (G.ce i) k j) → ∃ τ2, mx_rn xs (mx_ev xs mx_P (d + 6)) kk_X7_like N 68 [(0, .ref 90), (1, .int (nI i)), (2, .int w), (3, .int (nI G.now.n)), (4, .int (nI k))] [] (en S τ) = some (some (.int (q_lkv G.now (G.ce i) (G.sz i) w)), en S τ2) ∧ thM σ τ2
  | m, k, 0, _, _, h2, _, _, _ => absurd h2 (by omega)
  | 0, k, N + 1, τ, h1, h2, x, t, hu => by
    have h10 := okG.now.n
    have h24 := okG.sz i hi
    have s1 : τ 104 i = nI (G.sz i) := by rw [t.2 104 (by decide) (by decide) (by decide) (by decide) (by decide)]; exact hM.sz i hi
    obtain ⟨τ2, r2, t2, e94⟩ := m_bk (xs := xs) (d := d + 4) hM.mo t
    rw [rn_X7_like_68, en_gr hM.mo.o rfl, en_aiN hM.mo.sz hi (by decide), s1, if_pos (nI_le (by omega) (by omega)), en_cl hM.mo.o, r2, c0s]
    unfold q_lkv
    by_cases n0 : G.now.n = 0
    · obtain ⟨N', rfl⟩ : ∃ n, N = n + 1 := ⟨N - 1, by omega⟩
      rw [n0, rn_X7_like_158, if_pos (by decide), if_pos (by decide), if_pos rfl, ri0]
      exact ⟨τ2, rfl, t2⟩
    · have r3 := m_like_best (xs := xs) (d := d + 6) (w := w) (τ := τ2) hM.mo h10 (by omega) (q_lk G.now (G.ce i) (G.sz i)) (fun j hj => by rw [e94, hu j hj, show k = G.sz i by omega]) (G.now.n - 1) 0 N (by omega) (by omega)
      rw [if_neg n0]
      exact ⟨τ2, r3, t2⟩
  | m + 1, k, N + 1, τ, h1, h2, x, t, hu => by
    have h10 := okG.now.n
    have h24 := okG.sz i hi
    have s1 : τ 104 i = nI (G.sz i) := by rw [t.2 104 (by decide) (by decide) (by decide) (by decide) (by decide)]; exact hM.sz i hi
    have s2 : τ 105 (24 * i + k) = G.ce i k := by rw [t.2 105 (by decide) (by decide) (by decide) (by decide) (by decide)]; exact hM.ce i hi k (by omega)
    have ei : (24 : Int32) * nI i + nI k = nI (24 * i + k) := by rw [show (24 : Int32) = nI 24 from rfl, pk_mul, nI_add]
    rw [rn_X7_like_68, en_gr hM.mo.o rfl, en_aiN hM.mo.sz hi (by decide), s1, if_neg (nI_ge (by omega) (by omega)), en_gr hM.mo.o rfl, ei, en_aiN hM.mo.ce (by omega) (by decide), s2]
    by_cases hc : G.ce i k = -1000000005
    · obtain ⟨N', rfl⟩ : ∃ n, N = n + 1 := ⟨N - 1, by omega⟩
      obtain ⟨τ2, r2, x2, t2, u2⟩ := m_like_end (xs := xs) (d := d) (i := i) (n := G.now.n) (w := w) (v := 0) okG.now okG.day (by omega) _ x t hu N'
      have q : mx_rn xs (mx_ev xs mx_P (d + 6)) kk_X7_like (N' + 1) 96 [(0, .ref 90), (1, .int (nI i)), (2, .int w), (3, .int (nI G.now.n)), (4, .int (nI k)), (5, .int (G.ce i k)), (6, .int 0)] [] (en S τ) = mx_rn xs (mx_ev xs mx_P (d + 6)) kk_X7_like N' 68 [(0, .ref 90), (1, .int (nI i)), (2, .int w), (3, .int (nI G.now.n)), (4, .int (nI (k + 1)))] [] (en S τ2) := by
        rw [rn_X7_like_96, if_pos hc, r2]
        split <;> rfl
      rw [q]
      exact m_like_loop hM okG hi m (k + 1) N' τ2 (by omega) (by omega) x2 t2 (fun j hj => by rw [u2 j hj, q_lk_s, if_pos hc])
    · obtain ⟨N', rfl⟩ : ∃ n, N = n + G.now.n + 1 := ⟨N - G.now.n - 1, by omega⟩
      obtain ⟨τ2, r2, x2, t2, u2⟩ := m_like_in (xs := xs) (d := d) (i := i) (w := w) (v := G.ce i k) okG.now okG.day (k := k) (by omega) hc (q_lk G.now (G.ce i) k) G.now.n 0 N' τ (by omega) x t (fun j hj => by rw [hu j hj, if_neg (by omega)])
      have r2' : mx_rn xs (mx_ev xs mx_P (d + 6)) kk_X7_like (N' + G.now.n + 1) 96 [(0, .ref 90), (1, .int (nI i)), (2, .int w), (3, .int (nI G.now.n)), (4, .int (nI k)), (5, .int (G.ce i k)), (6, .int 0)] [] (en S τ) = _ := r2
      rw [r2']
      exact m_like_loop hM okG hi m (k + 1) N' τ2 (by omega) (by omega) x2 t2 (fun j hj => by rw [u2 j hj, q_lk_s, if_neg hc])
theorem m_like_zero (hM : MR S σ G) (okG : GO G) {i : Nat} {w : Int32} (hi : i < 4) : ∀ (m l N : Nat) (τ : Nat → Nat → Int32), l + m = G.now.n → 1000 < N → m < 20 → MC S τ τ G.now → thN σ τ → (∀ j, j < l → τ 94 j = 0) → ∃ τ2, mx_rn xs (mx_ev xs mx_P (d + 6)) kk_X7_like (N + m) 45 [(0, .ref 90), (1, .int (nI i)), (2, .int w), (3, .int (nI G.now.n)), (4, .int (nI l))] [] (en S τ) = some (some (.int (q_lkv G.now (G.ce i) (G.sz i) w)), en S τ2) ∧ thM σ τ2
  | 0, l, N, τ, h1, h2, h3, x, t, hu => by
    have h10 := okG.now.n
    have h24 := okG.sz i hi
    obtain ⟨N', rfl⟩ : ∃ n, N = n + 1 := ⟨N - 1, by omega⟩
    rw [Nat.add_zero, rn_X7_like_45, if_pos (nI_le (by omega) (by omega))]
    exact m_like_loop hM okG hi (G.sz i) 0 N' τ (by omega) (by omega) x t (fun j hj => hu j (by omega))
  | m + 1, l, N, τ, h1, h2, h3, x, t, hu => by
    have h10 := okG.now.n
    rw [show N + (m + 1) = (N + m) + 1 by omega, rn_X7_like_45, if_neg (nI_ge (by omega) (by omega)), en_gr hM.mo.o rfl, en_asN hM.mo.ul (by omega) (by decide), nI_1]
    refine m_like_zero hM okG hi m (l + 1) N _ (by omega) h2 (by omega) x.at94 t.at94 (fun j hj => ?_)
    rw [en_up_i]
    by_cases e : j = l
    · rw [if_pos ⟨rfl, e⟩]
    · rw [if_neg (fun h => e h.2)]
      exact hu j (by omega)
theorem t_like (a1 a2 : Int32) : St xs 102 179 [.int a1, .int a2] := by
  intro S σ G hX hM ok
  have h10 := ok.now.n
  rw [ev_X6_like, x_isSheet, c1s]
  rcases q_w_c a1 (h := 3) (z := 3) rfl (by decide) with e1 | ⟨i, hi, rfl, e1⟩
  · rw [e1, if_pos rfl, ri0]
    refine ⟨σ, σ, _, rfl, ?_, RR_same hX hM ok⟩
    rw [ev_X7_like, m_isSheet, c1s, e1, if_pos rfl, ri0]
  have hi4 : i < 4 := by omega
  have hso := hX.x.so i hi4
  rw [e1, if_neg (by decide), x_within, c1s]
  rcases q_w_c a2 (h := 1) (z := 1) rfl (by decide) with e2 | ⟨w, hw, rfl, e2⟩
  · rw [e2, if_pos rfl, ri0]
    refine ⟨σ, σ, _, rfl, ?_, RR_same hX hM ok⟩
    rw [ev_X7_like, m_isSheet, c1s, e1, if_neg (by decide), m_in', c1s, e2, if_pos rfl, ri0]
  rw [e2, if_neg (by decide), en_gr hX.x.o rfl, x_sh hX.x hi4, en_cl hso, x_miss hso, c1s, hX.so i hi4]
  rcases so_c ok hi4 with em | ⟨em, e0, e0'⟩
  · rw [em, if_pos rfl, if_neg (by decide), ri0]
    refine ⟨σ, σ, _, rfl, ?_, RR_same hX hM ok⟩
    rw [ev_X7_like, m_isSheet, c1s, e1, if_neg (by decide), m_in', c1s, e2, if_neg (by decide), en_gr hM.mo.o rfl, en_aiN hM.mo.so hi4 (by decide), hM.so i hi4, em, if_neg (by decide), ri0]
  have MM : ∀ υ, MR S υ G → ∃ υ2, mx_ev xs mx_P 12 179 [.ref 90, .int (nI i), .int (nI w)] (en S υ) = some (some (.int (q_lkv G.now (G.ce i) (G.sz i) (nI w))), en S υ2) ∧ thM υ υ2 := fun υ hυ => by
    obtain ⟨υ1, s1, t1⟩ := m_th (xs := xs) (d := 9) hυ
    have mc := t1.mc hυ ok
    obtain ⟨υ2, s2, t2⟩ := m_like_zero (xs := xs) (d := 5) (w := nI w) hυ ok hi4 G.now.n 0 (99999 - G.now.n) υ1 (by omega) (by omega) (by omega) mc t1.2 (fun j hj => absurd hj (by omega))
    rw [show 99999 - G.now.n + G.now.n = 99999 by omega] at s2
    refine ⟨υ2, ?_, t2⟩
    rw [ev_X7_like, m_isSheet, c1s, e1, if_neg (by decide), m_in', c1s, e2, if_neg (by decide), en_gr hM.mo.o rfl, en_aiN hM.mo.so hi4 (by decide), hυ.so i hi4, if_pos e0, en_cl hM.mo.o, s1, c0s, en_gr hM.mo.o rfl, m_rd mc (k := 1) (w := 1) (by decide) rfl, mc.r.n]
    exact s2
  rw [if_neg em, if_pos rfl, en_gr hX.x.o rfl, en_gi hX.x.c1.1 rfl, hX.now.n]
  by_cases n0 : G.now.n = 0
  · rw [n0, if_pos (by decide), ri0]
    obtain ⟨υ2, s2, t2⟩ := MM σ hM
    refine ⟨σ, υ2, _, rfl, ?_, RR_th hX hM ok thX.r t2⟩
    rw [s2]
    unfold q_lkv
    rw [if_pos n0]
  · obtain ⟨τ, r1, x1⟩ := x_th (xs := xs) (d := 7) hX ok thX.r
    obtain ⟨τ1, r2, f1, f2⟩ := j_fill (xs := xs) (d := 9) (σ := τ) (v := 0) hX.x.df (by decide)
    have x2 : XC S τ1 τ1 35 G.now := ⟨x1.cl, x1.lt, x1.r.fr h10 (f2 _ (by omega)) (f2 _ (by omega)) (f2 _ (by omega)) (f2 _ (by omega)) (fun i hi => f2 _ (by omega)) (fun b hb => f2 b (by omega)), fun _ _ => rfl⟩
    have t1 : thX σ τ1 := fun b hb => by rw [f2 b (by omega)]; exact thX.r.go x1 b hb
    obtain ⟨τ2, r3, t2, u2⟩ := x_sum_loop (xs := xs) (d := 4) hX ok hi4 ok.now ok.day (by omega) (G.sz i) 0 99999 τ1 (by omega) (by have := ok.sz i hi4; omega) x2 t1 (fun j hj => f1 j (by omega))
    have r4 := x_like_loop (xs := xs) (d := 11) hX ok (w := nI w) (by omega) (q_lk G.now (G.ce i) (G.sz i)) t2 u2 (G.now.n - 1) 0 99999 (by omega) (by omega)
    have r3' : mx_ev xs mx_P 11 103 [.ref 0, .ref (62 + 2 * i)] (en S σ) = some (none, en S τ2) := by
      rw [ev_X6_sumDifferences, en_cl hX.x.o, r1, c2s, en_gr hX.x.o rfl, r2, c0s]
      exact r3
    rw [if_neg (q_nz (by omega) (by omega)), en_gr hX.x.o rfl, x_sh hX.x hi4, en_cl hX.x.o, r3', c0s]
    have hM1 := t2.m hM
    obtain ⟨υ2, s2, tm⟩ := MM τ2 hM1
    refine ⟨τ2, υ2, _, r4, ?_, RR_th hX hM ok t2 tm⟩
    rw [s2]
    unfold q_lkv
    rw [if_neg n0]
end LK
