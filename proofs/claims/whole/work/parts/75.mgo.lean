section ML2
variable {S : List en_S} {d n : Nat} {xs : List Int32} {tp : Nat → Nat}
/-- what stands behind the blanks -/
theorem m_tok (hM : isMo S) (hn : n ≤ 96) (hb : ∀ k, k < n → tp k < 256) {e s : Nat} {g : Bool} (hs : s < n) (hes : e ≤ s) {N a1 : Nat} (hN : 200 < N) (ha : a1 < 2) {σ : Nat → Nat → Int32} (hl : σ 90 6 = nI n) (ht : ∀ k, k < n → σ 95 k = nI (tp k)) (h7 : σ 90 7 = nI s) (h8 : σ 90 8 = nI s) (hE : ∀ s, e ≤ s → s ≤ n → (σ 90 11 = nI s ↔ (g = true ∧ s = e))) (hg : a1 = 1 ↔ (g = true ∧ s = e)) : ∃ σ', mx_gi (en S σ) 90 7 8 (fun x50 => mx_gi (en S σ) 90 7 6 (fun x51 => if x50 = x51 then mx_pt (en S σ) 90 7 9 (.int 0) (fun h52 => mx_rv [] h52) else mx_gi (en S σ) 90 7 8 (fun x53 => mx_cl (en S σ) 90 7 (mx_c1 (mx_ev xs mx_P (d + 1) 184 [.ref 90, .int x53] (en S σ)) (fun x55 h54 => if x55 = 0 then mx_gi h54 90 7 8 (fun x56 => mx_cl h54 90 7 (mx_c1 (mx_ev xs mx_P (d + 1) 185 [.ref 90, .int x56] h54) (fun x58 h57 => if x58 = 0 then mx_pt h57 90 7 9 (.int 3) (fun h59 => mx_gr h59 90 7 5 (fun r60 => mx_gi h59 90 7 8 (fun x61 => mx_ai h59 r60 0 x61 (fun x62 => mx_pt h59 90 7 10 (.int x62) (fun h63 => mx_gi h63 90 7 7 (fun x64 => mx_pt h63 90 7 7 (.int (x64 + 1)) (fun h65 => mx_rv [] h65))))))) else mx_pt h57 90 7 10 (.int 0) (fun h66 => mx_rn xs (mx_ev xs mx_P (d + 1)) kk_X7_go N 170 [(0, .ref 90), (1, .int (nI a1))] [] h66)))) else mx_rn xs (mx_ev xs mx_P (d + 1)) kk_X7_go N 93 [(0, .ref 90), (1, .int (nI a1))] [] h54))))) = some (none, en S σ') ∧ MX tp n σ σ' (q_ta tp n g e s) := by
  have hgg : (if g = true ∧ s = e then (4 : Nat) else q_so (tp s)) = if a1 = 0 then q_so (tp s) else 4 := by
    by_cases x : g = true ∧ s = e
    · rw [if_pos x, if_neg (by have := hg.mpr x; omega)]
    · rw [if_neg x, if_pos (by have := mt hg.mp x; omega)]
  rw [mog8 hM, mog6 hM, h8, hl, if_neg (fun x => by have := (nI_eq (by omega) (by omega)).mp x; omega), mog8 hM, h8, mocl hM, m_letter hM hn hb hl ht (by omega), c1s]
  unfold q_ta
  rw [if_neg (show ¬ n ≤ s by omega)]
  rcases q_so_c (tp s) with ⟨c, l1, l2⟩ | ⟨c, l1, l2⟩ | ⟨c, l1, l2⟩
  · rw [if_neg (show ¬ (if s < n ∧ q_so (tp s) = 1 then (1 : Int32) else 0) = 0 by rw [if_pos ⟨hs, c⟩]; decide), hgg, c, if_neg (show ¬ (1 : Nat) = 3 by decide)]
    obtain ⟨σ', r1, r2, r3, r4, r5, r6, r7, r8⟩ := m_gol (d := d) (xs := xs) hM hn hb (a1 := a1) (s := s) ha hs (n - s) s N σ (by omega) (by omega) hl ht h7 h8
    rw [q_x_y (p := q_sm tp 1) hs (decide_eq_true c)] at r2 r6
    refine ⟨σ', r1, r2, r3, ?_, fun _ => r5, ?_, ?_, r7, r8⟩
    · rw [r4]
      show nI _ = nI (if (if a1 = 0 then 1 else 4) = 2 ∧ _ then 4 else (if a1 = 0 then 1 else 4))
      congr 1
      by_cases a0 : a1 = 0
      · rw [if_pos a0, if_neg (fun x => by have := x.1; omega)]
      · rw [if_neg a0, if_neg (fun x => by have := x.1; omega)]
    · intro x
      have x : (if a1 = 0 then 1 else 4) = 2 := x
      split at x <;> omega
    · intro x k k1 k2
      have x : (if a1 = 0 then 1 else 4) = 1 ∨ (if a1 = 0 then 1 else 4) = 2 ∨ (if a1 = 0 then 1 else 4) = 3 := x
      have a0 : a1 = 0 := by
        by_cases a0 : a1 = 0
        · exact a0
        · rw [if_neg a0] at x; omega
      have hw : q_wdt (if a1 = 0 then 1 else 4, s, q_x (q_sm tp 1) n (s + 1)) = true := by rw [if_pos a0]; rfl
      rw [hw, r6]
      show _ ↔ _ ∧ k = q_x (q_sm tp 1) n (s + 1)
      have k1 : q_x (q_sm tp 1) n (s + 1) ≤ k := k1
      rw [nI_eq (by omega) (by omega)]
      exact ⟨fun x => ⟨rfl, x.symm⟩, fun x => x.2.symm⟩
  · rw [if_pos (show (if s < n ∧ q_so (tp s) = 1 then (1 : Int32) else 0) = 0 by rw [if_neg (fun x => by have := x.2; omega)]), mog8 hM, h8, mocl hM, m_figure hM hn hb hl ht (by omega), c1s, if_neg (show ¬ (if s < n ∧ q_so (tp s) = 2 then (1 : Int32) else 0) = 0 by rw [if_pos ⟨hs, c⟩]; decide), mop10 hM, hgg, c, if_neg (show ¬ (2 : Nat) = 3 by decide)]
    obtain ⟨σ', r1, r2, r3, r4, r5, r6, r7, r8⟩ := m_gof (d := d) (xs := xs) hM hn hb (a1 := a1) (s := s) ha hs (n - s) s N (en_up σ 90 10 0) (by omega) (by omega) (by omega) (by rw [en_up_k (by decide)]; exact hl) (fun k hk => by rw [en_90 (by decide)]; exact ht k hk) (by rw [en_up_k (by decide)]; exact h7) (by rw [en_up_k (by decide)]; exact h8) (by rw [en_up_s, Nat.sub_self]; rfl)
    rw [q_x_y (p := q_sm tp 2) hs (decide_eq_true c)] at r2 r4 r5 r6
    refine ⟨σ', r1, r2, r3, ?_, ?_, ?_, ?_, fun k hk => by rw [r7 k hk, en_up_k (by omega)], fun b hb => by rw [r8 b hb, en_90 hb]⟩
    · rw [r4]
      show nI _ = nI (if (if a1 = 0 then 2 else 4) = 2 ∧ 4 < q_x (q_sm tp 2) n (s + 1) - s then 4 else (if a1 = 0 then 2 else 4))
      congr 1
      by_cases a0 : a1 = 0
      · rw [if_pos a0]
        by_cases c4 : q_x (q_sm tp 2) n (s + 1) - s ≤ 4
        · rw [if_pos ⟨a0, c4⟩, if_neg (fun x => by have := x.2; omega)]
        · rw [if_neg (fun x => c4 x.2), if_pos ⟨rfl, by omega⟩]
      · rw [if_neg (fun x => a0 x.1), if_neg a0, if_neg (fun x => by have := x.1; omega)]
    · intro x
      have x : (if a1 = 0 then 2 else 4) = 1 ∨ (if a1 = 0 then 2 else 4) = 3 := x
      split at x <;> omega
    · intro _ x
      have x : q_x (q_sm tp 2) n (s + 1) - s ≤ 4 := x
      rw [r5, Nat.min_eq_right x]
    · intro x k k1 k2
      have x : (if a1 = 0 then 2 else 4) = 1 ∨ (if a1 = 0 then 2 else 4) = 2 ∨ (if a1 = 0 then 2 else 4) = 3 := x
      have a0 : a1 = 0 := by
        by_cases a0 : a1 = 0
        · exact a0
        · rw [if_neg a0] at x; omega
      have hw : q_wdt (if a1 = 0 then 2 else 4, s, q_x (q_sm tp 2) n (s + 1)) = true := by rw [if_pos a0]; rfl
      rw [hw, r6]
      show _ ↔ _ ∧ k = q_x (q_sm tp 2) n (s + 1)
      have k1 : q_x (q_sm tp 2) n (s + 1) ≤ k := k1
      rw [nI_eq (by omega) (by omega)]
      exact ⟨fun x => ⟨rfl, x.symm⟩, fun x => x.2.symm⟩
  · rw [if_pos (show (if s < n ∧ q_so (tp s) = 1 then (1 : Int32) else 0) = 0 by rw [if_neg (fun x => by have := x.2; omega)]), mog8 hM, h8, mocl hM, m_figure hM hn hb hl ht (by omega), c1s, if_pos (show (if s < n ∧ q_so (tp s) = 2 then (1 : Int32) else 0) = 0 by rw [if_neg (fun x => by have := x.2; omega)]), mop9 hM, mor5 hM, mog8 hM, en_up_k (by decide), h8, moa95 hM (by omega), en_90 (by decide), ht s hs, mop10 hM, mog7 hM, en_up_k (by decide), en_up_k (by decide), h7, nI_1, mop7 hM, rv0, if_pos c]
    refine ⟨_, rfl, en_up_s, by rw [en_up_k (by decide), en_up_k (by decide), en_up_k (by decide)]; exact h8, by rw [en_up_k (by decide), en_up_k (by decide), en_up_s]; rfl, fun _ => by rw [en_up_k (by decide), en_up_s], fun x => absurd (show (3 : Nat) = 2 from x) (by decide), fun _ k k1 k2 => ?_, fun k hk => by rw [en_up_k (by omega), en_up_k (by omega), en_up_k (by omega)], fun b hb => by rw [en_90 hb, en_90 hb, en_90 hb]⟩
    have k1 : s + 1 ≤ k := k1
    rw [en_up_k (by decide), en_up_k (by decide), en_up_k (by decide), hE k (by omega) k2]
    refine ⟨fun x => by have := x.2; omega, fun x => ?_⟩
    exact absurd (show (false : Bool) = true from x.1) (by decide)
theorem m_go_loop (hM : isMo S) (hn : n ≤ 96) (hb : ∀ k, k < n → tp k < 256) {e : Nat} {g : Bool} : ∀ (m s N : Nat) (σ : Nat → Nat → Int32), s + m = n → m + 300 < N → e ≤ s → σ 90 6 = nI n → (∀ k, k < n → σ 95 k = nI (tp k)) → σ 90 7 = nI s → (∀ s, e ≤ s → s ≤ n → (σ 90 11 = nI s ↔ (g = true ∧ s = e))) → ∃ σ', mx_rn xs (mx_ev xs mx_P (d + 1)) kk_X7_go N 0 [(0, .ref 90)] [] (en S σ) = some (none, en S σ') ∧ MX tp n σ σ' (q_ta tp n g e (q_x (q_bk tp) n s))
  | m, s, 0, _, _, h2, _, _, _, _, _ => absurd h2 (by omega)
  | 0, s, N + 1, σ, h1, _, hes, hl, ht, h7, hE => by
    rw [q_x_n (fun c => by omega), rn_X7_go_0, mog7 hM, mog6 hM, h7, hl, if_pos (nI_le (by omega) (by omega)), mog7 hM, h7, mop8 hM, mog8 hM, en_up_s, mog11 hM, en_up_k (by decide)]
    have e6 : en_up σ 90 8 (nI s) 90 6 = nI n := by rw [en_up_k (by decide)]; exact hl
    have sn : nI s = nI n := by rw [show s = n by omega]
    have fin : ∃ σ', mx_pt (en S (en_up σ 90 8 (nI s))) 90 7 9 (.int 0) (fun h9 => mx_rv [] h9) = some (none, en S σ') ∧ MX tp n σ σ' (0, s, s) := by
      rw [mop9 hM, rv0]
      refine ⟨_, rfl, by rw [en_up_k (by decide), en_up_k (by decide)]; exact h7, by rw [en_up_k (by decide), en_up_s], by rw [en_up_s]; rfl, fun x => ?_, fun x => absurd (show (0 : Nat) = 2 from x) (by decide), fun x => ?_, fun k hk => by rw [en_up_k (by omega), en_up_k (by omega)], fun b hb => by rw [en_90 hb, en_90 hb]⟩
      · have x : (0 : Nat) = 1 ∨ (0 : Nat) = 3 := x
        omega
      · have x : (0 : Nat) = 1 ∨ (0 : Nat) = 2 ∨ (0 : Nat) = 3 := x
        omega
    unfold q_ta
    rw [if_pos (show n ≤ s by omega)]
    by_cases c : nI s = σ 90 11
    · rw [if_pos c, mog8 hM, en_up_s, mog6 hM, e6, if_pos sn]
      exact fin
    · rw [if_neg c, mog8 hM, en_up_s, mog6 hM, e6, if_pos sn]
      exact fin
  | m + 1, s, N + 1, σ, h1, h2, hes, hl, ht, h7, hE => by
    have hts := hb s (by omega)
    rw [rn_X7_go_0, mog7 hM, mog6 hM, h7, hl, if_neg (nI_ge (by omega) (by omega)), mor5 hM, mog7 hM, h7, moa95 hM (by omega), ht s (by omega)]
    by_cases c : tp s = 32
    · rw [if_pos (show nI (tp s) = 32 by rw [c]; rfl), mog7 hM, h7, nI_1, mop7 hM, q_x_y (p := q_bk tp) (by omega) (decide_eq_true c)]
      obtain ⟨σ', r1, r2⟩ := m_go_loop hM hn hb (e := e) (g := g) m (s + 1) N (en_up σ 90 7 (nI (s + 1))) (by omega) (by omega) (by omega) (by rw [en_up_k (by decide)]; exact hl) (fun k hk => by rw [en_90 (by decide)]; exact ht k hk) en_up_s (fun j j1 j2 => by rw [en_up_k (by decide)]; exact hE j j1 j2)
      exact ⟨σ', r1, r2.pre (fun k hk => en_up_k (by omega)) (fun b hb => en_90 hb)⟩
    · rw [if_neg (nI_nel (y := 32) (b := 32) rfl (by omega) (by decide) c), mog7 hM, h7, mop8 hM, mog8 hM, en_up_s, mog11 hM, en_up_k (by decide), q_x_n (p := q_bk tp) (fun x => c (of_decide_eq_true x.2))]
      have hl' : en_up σ 90 8 (nI s) 90 6 = nI n := by rw [en_up_k (by decide)]; exact hl
      have ht' : ∀ k, k < n → en_up σ 90 8 (nI s) 95 k = nI (tp k) := fun k hk => by rw [en_90 (by decide)]; exact ht k hk
      have h7' : en_up σ 90 8 (nI s) 90 7 = nI s := by rw [en_up_k (by decide)]; exact h7
      have hE' : ∀ j, e ≤ j → j ≤ n → (en_up σ 90 8 (nI s) 90 11 = nI j ↔ (g = true ∧ j = e)) := fun j j1 j2 => by rw [en_up_k (by decide)]; exact hE j j1 j2
      have hs := hE s hes (by omega)
      by_cases c2 : nI s = σ 90 11
      · rw [if_pos c2]
        obtain ⟨σ', r1, r2⟩ := m_tok (d := d) (xs := xs) hM hn hb (e := e) (s := s) (g := g) (N := N) (a1 := 1) (by omega) hes (by omega) (by omega) hl' ht' h7' en_up_s hE' ⟨fun _ => hs.mp c2.symm, fun _ => rfl⟩
        exact ⟨σ', r1, r2.pre (fun k hk => en_up_k (by omega)) (fun b hb => en_90 hb)⟩
      · rw [if_neg c2]
        obtain ⟨σ', r1, r2⟩ := m_tok (d := d) (xs := xs) hM hn hb (e := e) (s := s) (g := g) (N := N) (a1 := 0) (by omega) hes (by omega) (by omega) hl' ht' h7' en_up_s hE' ⟨fun x => absurd x (by decide), fun x => absurd (hs.mpr x).symm c2⟩
        exact ⟨σ', r1, r2.pre (fun k hk => en_up_k (by omega)) (fun b hb => en_90 hb)⟩
theorem m_go (hM : isMo S) (hn : n ≤ 96) (hb : ∀ k, k < n → tp k < 256) {e : Nat} {g : Bool} (he : e ≤ n) {σ : Nat → Nat → Int32} (hl : σ 90 6 = nI n) (ht : ∀ k, k < n → σ 95 k = nI (tp k)) (h7 : σ 90 7 = nI e) (hE : ∀ s, e ≤ s → s ≤ n → (σ 90 11 = nI s ↔ (g = true ∧ s = e))) : ∃ σ', mx_ev xs mx_P (d + 2) 186 [.ref 90] (en S σ) = some (none, en S σ') ∧ MX tp n σ σ' (q_tk tp n g e) := by
  rw [ev_go pp_X7_go rfl rfl]
  exact m_go_loop hM hn hb (n - e) e mx_N σ (by omega) (by show n - e + 300 < 100000; omega) (Nat.le_refl _) hl ht h7 hE
end ML2
