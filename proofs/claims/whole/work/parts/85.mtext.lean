/-! ===== the reference's text, whole ===== -/
theorem q_kk : ∀ w, w < 3 → ∀ k, k < (q_ww w).length → q_keys.getD (q_keyAt.getD w 0 + k) 0 = (q_ww w).getD k 0 ∧ q_keyAt.getD w 0 + k < 12 := by decide
theorem q_kl : ∀ w, w < 3 → q_keyAt.getD (w + 1) 0 = q_keyAt.getD w 0 + (q_ww w).length := by decide
section MK2
variable {S : List en_S} {d n key na B : Nat} {xs : List Int32} {tp : Nat → Nat} {σ0 σ σ1 : Nat → Nat → Int32} {st cd : List Nat} {cm : Nat → Bool} {t : Nat × Nat × Nat} {G : q_G}
theorem m_k55_0 {w l N : Nat} (hl : 0 < l) (hl6 : l < 6) : mx_rn xs (mx_ev xs mx_P d) kk_X7_takesKey (N + 1) 55 [(0, .ref 90), (1, .int (nI w)), (2, .int (nI l)), (3, .int 0), (4, .int 0)] [] (en S σ) = mx_rn xs (mx_ev xs mx_P d) kk_X7_takesKey N 12 [(0, .ref 90), (1, .int (nI (w + 1)))] [] (en S σ) := by
  rw [rn_X7_takesKey_55, if_neg (by exact nI_ge (a := 0) hl (by omega)), if_pos rfl, if_pos rfl, nI_1]
theorem m_k55 (hM : isMo S) (hb : ∀ k, k < n → tp k < 256) (hn : n ≤ 96) (hks : ∀ k, k < 12 → σ 96 k = nI (q_keys.getD k 0)) (hka : ∀ k, k < 4 → σ 97 k = nI (q_keyAt.getD k 0)) {w s : Nat} (hw : w < 3) (hs : s + (q_ww w).length ≤ n) (ht : ∀ k, k < n → σ 95 k = nI (tp k)) (h8 : σ 90 8 = nI s) : ∀ (m k N : Nat), k + m = (q_ww w).length → (q_ew tp s (q_ww w) m k = true → mx_rn xs (mx_ev xs mx_P d) kk_X7_takesKey (N + m + 2) 55 [(0, .ref 90), (1, .int (nI w)), (2, .int (nI (q_ww w).length)), (3, .int 1), (4, .int (nI k))] [] (en S σ) = mx_pt (en S σ) 90 7 12 (.int (nI w)) (fun h1 => mx_cl h1 90 7 (mx_c0 (mx_ev xs mx_P d 186 [.ref 90] h1) (fun h2 => mx_ri 1 [.int 1] h2)))) ∧ (q_ew tp s (q_ww w) m k = false → ∃ N', N ≤ N' ∧ mx_rn xs (mx_ev xs mx_P d) kk_X7_takesKey (N + m + 2) 55 [(0, .ref 90), (1, .int (nI w)), (2, .int (nI (q_ww w).length)), (3, .int 1), (4, .int (nI k))] [] (en S σ) = mx_rn xs (mx_ev xs mx_P d) kk_X7_takesKey N' 12 [(0, .ref 90), (1, .int (nI (w + 1)))] [] (en S σ))
  | 0, k, N, h1 => by
    have hl := q_ww_l (a := w) (by omega)
    refine ⟨fun _ => ?_, fun h => by cases h⟩
    rw [rn_X7_takesKey_55, if_pos (nI_le (by omega) (by omega)), if_neg (by decide)]
  | m + 1, k, N, h1 => by
    have hl := q_ww_l (a := w) (by omega)
    obtain ⟨q1, q2⟩ := q_kk w hw k (by omega)
    have hbk := hb (s + k) (by omega)
    have hq : (q_ww w).getD k 0 < 128 := q_ww_b
    obtain ⟨i1, i2⟩ := m_k55 hM hb hn hks hka hw hs ht h8 m (k + 1) N (by omega)
    have e : mx_rn xs (mx_ev xs mx_P d) kk_X7_takesKey (N + (m + 1) + 2) 55 [(0, .ref 90), (1, .int (nI w)), (2, .int (nI (q_ww w).length)), (3, .int 1), (4, .int (nI k))] [] (en S σ) = if nI (tp (s + k)) = nI ((q_ww w).getD k 0) then mx_rn xs (mx_ev xs mx_P d) kk_X7_takesKey (N + m + 2) 55 [(0, .ref 90), (1, .int (nI w)), (2, .int (nI (q_ww w).length)), (3, .int 1), (4, .int (nI (k + 1)))] [] (en S σ) else mx_rn xs (mx_ev xs mx_P d) kk_X7_takesKey (N + m + 2) 55 [(0, .ref 90), (1, .int (nI w)), (2, .int (nI (q_ww w).length)), (3, .int 0), (4, .int (nI (k + 1)))] [] (en S σ) := by
      rw [show N + (m + 1) + 2 = (N + m + 2) + 1 by omega, rn_X7_takesKey_55, if_neg (nI_ge (by omega) (by omega)), if_neg (by decide), mor5 hM, mog8 hM, h8, nI_add, moa95 hM (by omega), ht _ (by omega), mor13 hM, mor14 hM, moa97 hM (by omega), hka w (by omega), nI_add, moa96 hM q2, hks _ q2, q1, nI_1]
    rw [q_ew_s]
    by_cases c : tp (s + k) = (q_ww w).getD k 0
    · rw [e, if_pos (by rw [c]), decide_eq_true c, Bool.true_and]
      exact ⟨i1, i2⟩
    · rw [decide_eq_false c, Bool.false_and]
      refine ⟨fun h => (by cases h), fun _ => ⟨N + m + 1, by omega, ?_⟩⟩
      rw [e, if_neg (fun x => c ((nI_eq (by omega) (by omega)).mp x)), rn_X7_takesKey_55]
      by_cases c2 : (q_ww w).length ≤ k + 1
      · rw [if_pos (nI_le c2 (by omega)), if_pos rfl, nI_1]
      · rw [if_neg (nI_ge (by omega) (by omega)), if_pos rfl, if_pos rfl, nI_1]
theorem m_k12 (hM : isMo S) (hb : ∀ k, k < n → tp k < 256) (hn : n ≤ 96) (hks : ∀ k, k < 12 → σ 96 k = nI (q_keys.getD k 0)) (hka : ∀ k, k < 4 → σ 97 k = nI (q_keyAt.getD k 0)) (tk : q_tok tp n t) (t1 : t.1 = 1) (ht : ∀ k, k < n → σ 95 k = nI (tp k)) (h7 : σ 90 7 = nI t.2.2) (h8 : σ 90 8 = nI t.2.1) {w : Nat} (hw : w < 3) (N : Nat) (hN : 20 < N) : (q_iw tp t w = true → mx_rn xs (mx_ev xs mx_P d) kk_X7_takesKey N 12 [(0, .ref 90), (1, .int (nI w))] [] (en S σ) = mx_pt (en S σ) 90 7 12 (.int (nI w)) (fun h1 => mx_cl h1 90 7 (mx_c0 (mx_ev xs mx_P d 186 [.ref 90] h1) (fun h2 => mx_ri 1 [.int 1] h2)))) ∧ (q_iw tp t w = false → ∃ N', N ≤ N' + 20 ∧ mx_rn xs (mx_ev xs mx_P d) kk_X7_takesKey N 12 [(0, .ref 90), (1, .int (nI w))] [] (en S σ) = mx_rn xs (mx_ev xs mx_P d) kk_X7_takesKey N' 12 [(0, .ref 90), (1, .int (nI (w + 1)))] [] (en S σ)) := by
  have hl := q_ww_l (a := w) (by omega)
  have k1 := tk.1
  have k2 := tk.2.1
  have es : nI t.2.2 - nI t.2.1 = nI (t.2.2 - t.2.1) := pk_sub k1
  have ew : nI (q_keyAt.getD (w + 1) 0) - nI (q_keyAt.getD w 0) = nI (q_ww w).length := by
    rw [q_kl w hw, pk_sub (by omega), Nat.add_sub_cancel_left]
  have e : mx_rn xs (mx_ev xs mx_P d) kk_X7_takesKey N 12 [(0, .ref 90), (1, .int (nI w))] [] (en S σ) = if nI (q_ww w).length = nI (t.2.2 - t.2.1) then mx_rn xs (mx_ev xs mx_P d) kk_X7_takesKey (N - 1) 55 [(0, .ref 90), (1, .int (nI w)), (2, .int (nI (q_ww w).length)), (3, .int 1), (4, .int 0)] [] (en S σ) else mx_rn xs (mx_ev xs mx_P d) kk_X7_takesKey (N - 1) 55 [(0, .ref 90), (1, .int (nI w)), (2, .int (nI (q_ww w).length)), (3, .int 0), (4, .int 0)] [] (en S σ) := by
    obtain ⟨N', rfl⟩ : ∃ n, N = n + 1 := ⟨N - 1, by omega⟩
    rw [rn_X7_takesKey_12, if_neg (by exact nI_ge (b := 3) hw (by decide)), mor14 hM, nI_1, moa97 hM (by omega), hka (w + 1) (by omega), mor14 hM, moa97 hM (by omega), hka w (by omega), mog7 hM, mog8 hM, h7, h8, es, ew, Nat.add_sub_cancel]
  unfold q_iw
  rw [decide_eq_true t1, Bool.true_and]
  by_cases c : t.2.2 - t.2.1 = (q_ww w).length
  · rw [decide_eq_true c, Bool.true_and, e, if_pos (by rw [c])]
    obtain ⟨i1, i2⟩ := m_k55 (d := d) (xs := xs) hM hb hn hks hka hw (s := t.2.1) (by omega) ht h8 (q_ww w).length 0 (N - 1 - (q_ww w).length - 2) (by omega)
    rw [show N - 1 - (q_ww w).length - 2 + (q_ww w).length + 2 = N - 1 by omega] at i1 i2
    refine ⟨i1, fun h => ?_⟩
    obtain ⟨N', a, b⟩ := i2 h
    exact ⟨N', by omega, b⟩
  · rw [decide_eq_false c, Bool.false_and, e, if_neg (fun x => c ((nI_eq (by omega) (by omega)).mp x).symm)]
    refine ⟨fun h => (by cases h), fun _ => ⟨N - 2, by omega, ?_⟩⟩
    obtain ⟨N', rfl⟩ : ∃ n, N = n + 2 := ⟨N - 2, by omega⟩
    exact m_k55_0 hl.2 hl.1
theorem m_tKey (hM : isMo S) (hb : ∀ k, k < n → tp k < 256) (hn : n ≤ 96) (hks : ∀ k, k < 12 → σ 96 k = nI (q_keys.getD k 0)) (hka : ∀ k, k < 4 → σ 97 k = nI (q_keyAt.getD k 0)) (tk : q_tok tp n t) (ht : ∀ k, k < n → σ 95 k = nI (tp k)) (h7 : σ 90 7 = nI t.2.2) (h8 : σ 90 8 = nI t.2.1) (h9 : σ 90 9 = nI (q_mt t)) : mx_ev xs mx_P (d + 1) 187 [.ref 90] (en S σ) = if q_ky tp t = 3 then some (some (.int 0), en S σ) else mx_pt (en S σ) 90 7 12 (.int (nI (q_ky tp t))) (fun h1 => mx_cl h1 90 7 (mx_c0 (mx_ev xs mx_P d 186 [.ref 90] h1) (fun h2 => mx_ri 1 [.int 1] h2))) := by
  have k4 := tk.2.2.1
  have m1 : q_mt t = 1 ↔ t.1 = 1 := by
    unfold q_mt
    by_cases x : t.1 = 2 ∧ 4 < t.2.2 - t.2.1
    · rw [if_pos x]; omega
    · rw [if_neg x]
  have m4 : q_mt t ≤ 4 := by
    unfold q_mt
    split <;> omega
  rw [ev_X7_takesKey, mog9 hM, h9]
  by_cases c : t.1 = 1
  · rw [if_pos (show nI (q_mt t) = 1 by rw [m1.mpr c]; rfl)]
    obtain ⟨a0, b0⟩ := m_k12 (d := d) (xs := xs) hM hb hn hks hka tk c ht h7 h8 (w := 0) (by omega) 99999 (by omega)
    unfold q_ky
    cases e0 : q_iw tp t 0 with
    | true =>
      rw [if_pos rfl, if_neg (by decide)]
      exact a0 e0
    | false =>
      obtain ⟨N1, g1, r1⟩ := b0 e0
      have r1' : mx_rn xs (mx_ev xs mx_P d) kk_X7_takesKey 99999 12 [(0, .ref 90), (1, .int 0)] [] (en S σ) = _ := r1
      rw [r1']
      obtain ⟨a1, b1⟩ := m_k12 (d := d) (xs := xs) hM hb hn hks hka tk c ht h7 h8 (w := 1) (by omega) N1 (by omega)
      cases e1 : q_iw tp t 1 with
      | true =>
        have := a1 e1
        rw [this]
        rfl
      | false =>
        obtain ⟨N2, g2, r2⟩ := b1 e1
        rw [r2]
        obtain ⟨a2, b2⟩ := m_k12 (d := d) (xs := xs) hM hb hn hks hka tk c ht h7 h8 (w := 2) (by omega) N2 (by omega)
        cases e2 : q_iw tp t 2 with
        | true =>
          have := a2 e2
          rw [this]
          rfl
        | false =>
          obtain ⟨N3, g3, r3⟩ := b2 e2
          rw [r3]
          obtain ⟨N4, rfl⟩ : ∃ n, N3 = n + 1 := ⟨N3 - 1, by omega⟩
          rw [rn_X7_takesKey_12, if_pos (by decide), ri1_0]
          rfl
  · have e : q_ky tp t = 3 := by
      rcases q_ky_c tp t with x | x
      · exact x
      · exact absurd x.2.1 c
    rw [if_neg (nI_nel (y := 1) (b := 1) rfl (by omega) (by decide) (fun x => c (m1.mp x))), e, if_pos rfl, ri1_0]
/-- the reference's text up to its end: the fault's place, or the code -/
theorem m_reads (hM : isMo S) (hb : ∀ k, k < n → tp k < 256) (hn : n ≤ 96) (hks : ∀ k, k < 12 → σ 96 k = nI (q_keys.getD k 0)) (hka : ∀ k, k < 4 → σ 97 k = nI (q_keyAt.getD k 0)) (hl : σ 90 6 = nI n) (ht : ∀ k, k < n → σ 95 k = nI (tp k)) : ∃ σ1, mx_ev xs mx_P (d + 7) 186 [.ref 90] (en S (en_up (en_up σ 90 7 0) 90 11 (-1))) = some (none, en S σ1) ∧ (q_ky tp (q_t1 tp n) = 3 → mx_ev xs mx_P (d + 7) 187 [.ref 90] (en S σ1) = some (some (.int 0), en S σ1) ∧ σ1 90 8 = nI (q_t1 tp n).2.1 ∧ (∀ k, k < 7 ∨ 11 < k → σ1 90 k = σ 90 k) ∧ ∀ b, b ≠ 90 → σ1 b = σ b) ∧ (q_ky tp (q_t1 tp n) ≠ 3 → ∃ σ2, mx_ev xs mx_P (d + 7) 187 [.ref 90] (en S σ1) = some (some (.int 1), en S σ2) ∧ ME S (q_ky tp (q_t1 tp n)) σ (mx_ev xs mx_P (d + 7) 193 [.ref 90] (en S σ2)) (q_p1 tp n)) := by
  obtain ⟨σ1, r1, m1⟩ := m_go (d := d + 5) (xs := xs) hM hn hb (e := 0) (g := false) (by omega) (σ := en_up (en_up σ 90 7 0) 90 11 (-1)) (by rw [en_up_k (by decide), en_up_k (by decide)]; exact hl) (fun k hk => by rw [en_90 (by decide), en_90 (by decide)]; exact ht k hk) (by rw [en_up_k (by decide), en_up_s]; rfl) (fun s _ hs => by
    rw [en_up_s]
    refine ⟨fun x => ?_, fun x => absurd x.1 (by decide)⟩
    have h1 : nI s < 0 := by rw [← x]; decide
    exact absurd h1 (nI_pos (by omega)))
  have m1 : MX tp n (en_up (en_up σ 90 7 0) 90 11 (-1)) σ1 (q_t1 tp n) := m1
  have o1 : ∀ k, k < 7 ∨ 11 < k → σ1 90 k = σ 90 k := fun k hk => by rw [m1.o k hk, en_up_k (by omega), en_up_k (by omega)]
  have f1 : ∀ b, b ≠ 90 → σ1 b = σ b := fun b hb => by rw [m1.f b hb, en_90 hb, en_90 hb]
  have tk := q_t1_ok (tp := tp) (n := n)
  have ht1 : ∀ k, k < n → σ1 95 k = nI (tp k) := fun k hk => by rw [f1 95 (by decide)]; exact ht k hk
  have hkey := m_tKey (d := d + 6) (xs := xs) (σ := σ1) hM hb hn (fun k hk => by rw [f1 96 (by decide)]; exact hks k hk) (fun k hk => by rw [f1 97 (by decide)]; exact hka k hk) tk ht1 m1.e m1.s m1.k
  refine ⟨σ1, r1, fun hk => ⟨by rw [hkey, if_pos hk], m1.s, o1, f1⟩, fun hk => ?_⟩
  rcases q_ky_c tp (q_t1 tp n) with e | ⟨e, e1, e2⟩
  · exact absurd e hk
  rw [if_neg hk] at hkey
  -- the second token
  obtain ⟨σ2, r2, m2⟩ := m_go (d := d + 4) (xs := xs) hM hn hb (e := (q_t1 tp n).2.2) (g := q_wdt (q_t1 tp n)) tk.2.1 (σ := en_up σ1 90 12 (nI (q_ky tp (q_t1 tp n)))) (by rw [en_up_k (by decide), o1 6 (by omega)]; exact hl) (fun k hk => by rw [en_90 (by decide)]; exact ht1 k hk) (by rw [en_up_k (by decide)]; exact m1.e) (fun s a b => by rw [en_up_k (by decide)]; exact m1.en (Or.inl e1) s a b)
  have m2 : MX tp n (en_up σ1 90 12 (nI (q_ky tp (q_t1 tp n)))) σ2 (q_nx tp n (q_t1 tp n)) := m2
  have pi := q_p1_pi (B := q_B (q_ky tp (q_t1 tp n))) hn hk
  refine ⟨σ2, by rw [hkey, mop12 hM, mocl hM, r2, c0s, ri1_1], ?_⟩
  have e0 : mx_as (en S (en_up (en_up (en_up σ2 90 16 0) 90 17 0) 90 19 0)) 100 1 0 (vp_nar .boolean 0) = fun f => f (en S (en_up (en_up (en_up (en_up σ2 90 16 0) 90 17 0) 90 19 0) 100 0 0)) := by
    funext f
    exact mos100 hM (j := 0) (by decide)
  rw [ev_X7_takesE, mop16 hM, mop17 hM, mop19 hM, mor20 hM, e0]
  have o2 : ∀ k, k ≠ 12 → k < 7 ∨ 11 < k → σ2 90 k = σ 90 k := fun k k12 hk => by rw [m2.o k hk, en_up_k k12, o1 k hk]
  have f2 : ∀ b, b ≠ 90 → σ2 b = σ b := fun b hb => by rw [m2.f b hb, en_90 hb, f1 b hb]
  have p : MP tp n (q_ky tp (q_t1 tp n)) σ (en_up (en_up (en_up (en_up σ2 90 16 0) 90 17 0) 90 19 0) 100 0 0) [] [] 0 (fun _ => false) (q_nx tp n (q_t1 tp n)) := by
    have g : ∀ k, k ≠ 16 → k ≠ 17 → k ≠ 19 → en_up (en_up (en_up (en_up σ2 90 16 0) 90 17 0) 90 19 0) 100 0 0 90 k = σ2 90 k := fun k a b c => by rw [en_up_a (by decide), en_up_k c, en_up_k b, en_up_k a]
    refine ⟨by rw [g 6 (by decide) (by decide) (by decide), o2 6 (by decide) (by omega)]; exact hl, fun k hk => by rw [en_up_a (by decide), en_up_a (by decide), en_up_a (by decide), en_up_a (by decide), f2 95 (by decide)]; exact ht k hk, by rw [g 7 (by decide) (by decide) (by decide)]; exact m2.e, by rw [g 8 (by decide) (by decide) (by decide)]; exact m2.s, by rw [g 9 (by decide) (by decide) (by decide)]; exact m2.k, fun x => by rw [g 10 (by decide) (by decide) (by decide)]; exact m2.v1 x, fun x y => by rw [g 10 (by decide) (by decide) (by decide)]; exact m2.v2 x y, fun x s a b => by rw [g 11 (by decide) (by decide) (by decide)]; exact m2.en x s a b, by rw [g 12 (by decide) (by decide) (by decide), m2.o 12 (by omega), en_up_s], ⟨by rw [en_up_a (by decide), en_up_k (by decide), en_up_k (by decide), en_up_s]; rfl, by rw [en_up_a (by decide), en_up_s]; rfl, trivial, trivial, fun _ _ _ => rfl, fun _ _ _ _ => rfl⟩, by rw [en_up_a (by decide), en_up_k (by decide), en_up_s]; rfl, fun i hi => ?_, fun k hk => by rw [g k (by omega) (by omega) (by omega), o2 k (by omega) (by omega)], fun b b1 b2 b3 b4 => by rw [show en_up (en_up (en_up (en_up σ2 90 16 0) 90 17 0) 90 19 0) 100 0 0 b = σ2 b by funext k; rw [en_up_a b4, en_up_a b1, en_up_a b1, en_up_a b1]]; exact f2 b b1⟩
    have hi : i ≤ 0 := hi
    rw [show i = 0 by omega, en_up_s]
    rfl
  have h3 := pi.ln
  exact m_fl (d := d) (xs := xs) hM hb e (n + 1) 99999 _ true [] [] 0 (fun _ => false) _ pi p (by omega) (by omega)
end MK2
