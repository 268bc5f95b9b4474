/-! ===== check ===== -/
noncomputable def q_ck2 (C : q_C) (wt : Nat → Int32) (D many : Nat) : Nat → Nat → Int32
  | 0, k => if 2 * D = many then 0 else nI (1 + 2 * k)
  | m + 1, k => if many ≤ 2 * k then nI (1 + 2 * k) else if wt (2 * k) = (q_days C (k + 1)).p then (if many ≤ 2 * k + 1 then nI (1 + (2 * k + 1)) else if wt (2 * k + 1) = nI (q_sd C (k + 1)) then q_ck2 C wt D many m (k + 1) else nI (1 + (2 * k + 1))) else nI (1 + 2 * k)
theorem q_ck2_s (C : q_C) (wt : Nat → Int32) (D many m k : Nat) : q_ck2 C wt D many (m + 1) k = if many ≤ 2 * k then nI (1 + 2 * k) else if wt (2 * k) = (q_days C (k + 1)).p then (if many ≤ 2 * k + 1 then nI (1 + (2 * k + 1)) else if wt (2 * k + 1) = nI (q_sd C (k + 1)) then q_ck2 C wt D many m (k + 1) else nI (1 + (2 * k + 1))) else nI (1 + 2 * k) := rfl
section CK
variable {S : List en_S} {σ0 σ σ1 σ2 τ τ' : Nat → Nat → Int32} {cb d : Nat} {xs : List Int32} {C : q_C} {G : q_G} {D many : Nat} {wt : Nat → Int32}
theorem q_1a (x : Nat) : (1 : Int32) + nI x = nI (1 + x) := nI_add 1 x
theorem x_check_loop (hX : XS S) (ok : q_ok C) (hday : C.day ≤ 9999) (hD : D ≤ 30) (hm : many ≤ 60) (hw : ∀ k, k < many → τ 61 k = wt k) : ∀ (m k N : Nat) (τ' : Nat → Nat → Int32), k + m = D → 2 * m < N → XC S τ τ' 35 (q_days C k) → ∃ σ', mx_rn xs (mx_ev xs mx_P (d + 6)) kk_X6_check N 59 [(0, .ref 0), (2, .int (nI many)), (3, .int (nI (2 * D))), (4, .int (nI (2 * k)))] [] (en S τ') = some (some (.int (q_ck2 C wt D many m k)), en S σ') ∧ ∃ E, XC S τ σ' 35 E
  | m, k, 0, _, _, h2, _ => absurd h2 (by omega)
  | 0, k, N + 1, τ', h1, _, h => by
    rw [rn_X6_check_59, if_pos (nI_le (by omega) (by omega)), q_1a]
    show ∃ σ', _ = some (some (Value.int (if 2 * D = many then 0 else nI (1 + 2 * k))), _) ∧ _
    by_cases c : 2 * D = many
    · rw [if_pos (by rw [c]), if_pos c, ri0]
      exact ⟨τ', rfl, _, h⟩
    · rw [if_neg (fun e => c ((nI_eq (by omega) (by omega)).mp e)), if_neg c, ri0]
      exact ⟨τ', rfl, _, h⟩
  | m + 1, k, N + 1, τ', h1, h2, h => by
    obtain ⟨N, rfl⟩ : ∃ n, N = n + 1 := ⟨N - 1, by omega⟩
    have okk := q_ok_days ok k
    rw [rn_X6_check_59, if_neg (nI_ge (by omega) (by omega)), q_1a, q_ck2_s]
    by_cases c1 : many ≤ 2 * k
    · rw [if_pos (nI_le c1 (by omega)), if_neg (fun e => by have := (nI_eq (by omega) (by omega)).mp e; omega), ri0, if_pos c1]
      exact ⟨τ', rfl, _, h⟩
    obtain ⟨τ2, r2, x2⟩ := x_passDay (xs := xs) (d := d) h okk (by rw [q_days_day]; omega)
    have hw2 : ∀ j, j < many → τ2 61 j = wt j := fun j hj => by rw [x2.fr 61 (by omega)]; exact hw j hj
    rw [if_neg (nI_ge (by omega) (by omega)), if_neg (by decide), q_rm (b := 2) (y := 2) (a := 2 * k) (by omega) (by decide) (by decide) rfl, show 2 * k % 2 = 0 by omega, if_pos (by decide), en_gr hX.o rfl, en_cl hX.c3.1, r2, c0s, if_neg (by decide), if_pos (by decide), en_gr hX.o rfl, en_gi hX.c3.1 rfl, x2.r.p, en_gr hX.o rfl, en_aiN hX.wa (by omega) (by decide), hw2 _ (by omega), if_neg c1, nI_1]
    by_cases c2 : wt (2 * k) = (q_day (q_days C k)).p
    · rw [if_pos c2, if_pos (by rw [q_days_s]; exact c2), rn_X6_check_59, if_neg (nI_ge (by omega) (by omega)), q_1a]
      by_cases c3 : many ≤ 2 * k + 1
      · rw [if_pos (nI_le c3 (by omega)), if_neg (fun e => by have := (nI_eq (by omega) (by omega)).mp e; omega), ri0, if_pos c3]
        exact ⟨τ2, rfl, _, x2⟩
      have hs : mx_ev xs mx_P (d + 6) 36 [.ref 35] (en S τ2) = some (some (.int (nI (q_sd C (k + 1)))), en S τ2) := cl_sharpOfAll (d := d + 5) x2.cl (q_ok_days ok (k + 1)).n x2.r.n x2.r.L
      rw [if_neg (nI_ge (by omega) (by omega)), if_neg (by decide), q_rm (b := 2) (y := 2) (a := 2 * k + 1) (by omega) (by decide) (by decide) rfl, show (2 * k + 1) % 2 = 1 by omega, if_neg (by decide), if_neg (by decide), if_neg (by decide), en_gr hX.o rfl, en_cl hX.c3.1, hs, c1s, en_gr hX.o rfl, en_aiN hX.wa (by omega) (by decide), hw2 _ (by omega), if_neg c3, nI_1]
      by_cases c4 : wt (2 * k + 1) = nI (q_sd C (k + 1))
      · rw [if_pos c4, if_pos c4, show 2 * k + 1 + 1 = 2 * (k + 1) by omega]
        exact x_check_loop hX ok hday hD hm hw m (k + 1) N τ2 (by omega) (by omega) x2
      · rw [if_neg c4, if_neg c4, ri0]
        exact ⟨τ2, rfl, _, x2⟩
    · rw [if_neg c2, if_neg (by rw [q_days_s]; exact c2), ri0]
      exact ⟨τ2, rfl, _, x2⟩
theorem m_back (mo : isMo S) (h : thN σ τ) : ∃ τ2, mx_ev xs mx_P (d + 1) 135 [.ref 93, .ref 91] (en S τ) = some (none, en S τ2) ∧ thM σ τ2 := by
  obtain ⟨τ2, r1, r2, r3⟩ := m_copyAll (xs := xs) (d := d) (σ := τ) mo.as mo.w (by decide)
  exact ⟨τ2, r1, ⟨fun k hk => by rw [r2 k hk]; exact h.1 k hk, fun k hk => by rw [r3 93 (by decide)]; exact h.1 k hk, fun b h1 h2 h3 h4 h5 => by rw [r3 b h1]; exact h.2 b h1 h2 h3 h4 h5⟩⟩
/-- the reference has come to a wrong row -/
theorem m_check_out (mo : isMo S) (hD : D ≤ 30) (hm : many ≤ 60) (h : thN σ τ') {k r : Nat} (hk : k ≤ 40) (hr : r < 2 * D) (hne : r ≠ 2 * k) (N : Nat) : ∃ σ', mx_rn xs (mx_ev xs mx_P (d + 6)) kk_X7_check (N + 1) 80 [(0, .ref 90), (2, .int (nI many)), (3, .int (nI (2 * D))), (4, .int (nI r)), (5, .int (nI k))] [] (en S τ') = some (some (.int (nI (1 + r))), en S σ') ∧ thM σ σ' := by
  obtain ⟨τ2, s2, t2⟩ := m_back (xs := xs) (d := d + 5) mo h
  have e2k : (2 : Int32) * nI k = nI (2 * k) := pk_mul 2 k
  have hne2 : ¬ nI r = nI (2 * D) := fun e => by have := (nI_eq (by omega) (by omega)).mp e; omega
  rw [rn_X7_check_80, e2k, if_neg (show ¬ nI r = nI (2 * k) from fun e => hne ((nI_eq (by omega) (by omega)).mp e)), en_gr mo.o rfl, en_gr mo.o rfl, s2, c0s, if_neg hne2, q_1a]
  refine ⟨τ2, ?_, t2⟩
  split
  · split <;> rfl
  · split <;> rfl
theorem m_check_loop (ok : q_ok C) (hday : C.day ≤ 9999) (hD : D ≤ 30) (hm : many ≤ 60) (t : thN σ τ) (hw : ∀ k, k < many → τ 111 k = wt k) : ∀ (m k N : Nat) (τ' : Nat → Nat → Int32), k + m = D → m + 2 < N → MC S τ τ' (q_days C k) → ∃ σ', mx_rn xs (mx_ev xs mx_P (d + 6)) kk_X7_check N 80 [(0, .ref 90), (2, .int (nI many)), (3, .int (nI (2 * D))), (4, .int (nI (2 * k))), (5, .int (nI k))] [] (en S τ') = some (some (.int (q_ck2 C wt D many m k)), en S σ') ∧ thM σ σ'
  | m, k, 0, _, _, h2, _ => absurd h2 (by omega)
  | 0, k, N + 1, τ', h1, _, h => by
    obtain ⟨τ2, s2, t2⟩ := m_back (xs := xs) (d := d + 5) h.mo (t.go h)
    have e2k : (2 : Int32) * nI k = nI (2 * k) := pk_mul 2 k
    rw [rn_X7_check_80, e2k, if_pos (nI_le (by omega) (by omega)), en_gr h.mo.o rfl, en_gr h.mo.o rfl, s2, c0s, q_1a]
    show ∃ σ', _ = some (some (Value.int (if 2 * D = many then 0 else nI (1 + 2 * k))), _) ∧ _
    by_cases c : 2 * D = many
    · rw [if_pos (by rw [← c, show k = D by omega]), if_pos (by rw [show k = D by omega]), if_pos c, ri0]
      exact ⟨τ2, rfl, t2⟩
    · rw [if_neg (fun e => c (by have := (nI_eq (by omega) (by omega)).mp e; omega)), if_neg c, ri0]
      exact ⟨τ2, rfl, t2⟩
  | m + 1, k, N + 1, τ', h1, h2, h => by
    obtain ⟨N, rfl⟩ : ∃ n, N = n + 1 := ⟨N - 1, by omega⟩
    have mo := h.mo
    have okk := q_ok_days ok k
    obtain ⟨τ2, r2, x2⟩ := m_day (xs := xs) (d := d) h okk (by rw [q_days_day]; omega)
    have t2 := t.go x2
    have hw2 : ∀ j, j < many → τ2 111 j = wt j := fun j hj => by rw [x2.fr 111 (by omega) (by omega) (by omega)]; exact hw j hj
    have e2k : (2 : Int32) * nI k = nI (2 * k) := pk_mul 2 k
    have o0 := m_check_out (xs := xs) (d := d) (k := k + 1) (r := 2 * k) mo hD hm t2 (by omega) (by omega) (by omega) N
    have o1 := m_check_out (xs := xs) (d := d) (k := k + 1) (r := 2 * k + 1) mo hD hm t2 (by omega) (by omega) (by omega) N
    have ne : ¬ nI (2 * k) = nI (2 * k + 1) := fun e => by have := (nI_eq (by omega) (by omega)).mp e; omega
    rw [rn_X7_check_80, e2k, if_neg (nI_ge (by omega) (by omega)), if_pos rfl, en_cl mo.o, r2, c0s, q_ck2_s]
    simp only [Int32.add_zero, nI_1]
    by_cases c1 : many ≤ 2 * k
    · rw [if_pos (nI_le c1 (by omega)), if_neg ne, if_pos c1]
      exact o0
    rw [if_neg (nI_ge (by omega) (by omega)), if_neg c1, en_gr mo.o rfl, en_aiN mo.te (by omega) (by decide), hw2 _ (by omega), en_gr mo.o rfl, m_rd x2 (k := 7) (w := 7) (by decide) rfl, x2.r.p]
    by_cases c2 : wt (2 * k) = (q_day (q_days C k)).p
    · rw [if_pos c2, if_pos trivial, if_pos (show wt (2 * k) = (q_days C (k + 1)).p by rw [q_days_s]; exact c2)]
      by_cases c3 : many ≤ 2 * k + 1
      · rw [if_pos (nI_le c3 (by omega)), if_pos c3]
        exact o1
      have hs : mx_ev xs mx_P (d + 6) 165 [.ref 90] (en S τ2) = some (some (.int (nI (q_sd C (k + 1)))), en S τ2) := m_allSharp (d := d + 4) mo (q_ok_days ok (k + 1)).n x2.r.n x2.r.L
      rw [if_neg (nI_ge (by omega) (by omega)), if_neg c3, en_gr mo.o rfl, en_aiN mo.te (by omega) (by decide), hw2 _ (by omega), en_cl mo.o, hs, c1s]
      by_cases c4 : wt (2 * k + 1) = nI (q_sd C (k + 1))
      · rw [if_pos c4, if_pos c4, show 2 * k + 1 + 1 = 2 * (k + 1) by omega]
        exact m_check_loop ok hday hD hm t hw m (k + 1) (N + 1) τ2 (by omega) (by omega) x2
      · rw [if_neg c4, if_neg c4]
        exact o1
    · rw [if_neg c2, if_neg ne, if_neg (show ¬ wt (2 * k) = (q_days C (k + 1)).p by rw [q_days_s]; exact c2)]
      exact o0
end CK
