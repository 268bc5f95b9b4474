/-! ===== the reference's lexer ===== -/
def q_nv (tp : Nat → Nat) (s : Nat) : Nat → Nat
  | 0 => 0
  | k + 1 => 10 * q_nv tp s k + (tp (s + k) - 48)
theorem q_nv_s (tp : Nat → Nat) (s k : Nat) : q_nv tp s (k + 1) = 10 * q_nv tp s k + (tp (s + k) - 48) := rfl
theorem q_nv_lt {tp : Nat → Nat} {s k : Nat} (h : ∀ j, s ≤ j → j < s + k → tp j ≤ 57) (hk : k ≤ 4) : q_nv tp s k < 10000 := by
  have h0 := fun (p : 0 < k) => h s (by omega) (by omega)
  have h1 := fun (p : 1 < k) => h (s + 1) (by omega) (by omega)
  have h2 := fun (p : 2 < k) => h (s + 2) (by omega) (by omega)
  have h3 := fun (p : 3 < k) => h (s + 3) (by omega) (by omega)
  rcases (show k = 0 ∨ k = 1 ∨ k = 2 ∨ k = 3 ∨ k = 4 by omega) with rfl | rfl | rfl | rfl | rfl
  · show 0 < 10000; omega
  · have := h0 (by omega)
    show 10 * 0 + (tp (s + 0) - 48) < 10000
    rw [Nat.add_zero]; omega
  · have := h0 (by omega); have := h1 (by omega)
    show 10 * (10 * 0 + (tp (s + 0) - 48)) + (tp (s + 1) - 48) < 10000
    rw [Nat.add_zero]; omega
  · have := h0 (by omega); have := h1 (by omega); have := h2 (by omega)
    show 10 * (10 * (10 * 0 + (tp (s + 0) - 48)) + (tp (s + 1) - 48)) + (tp (s + 2) - 48) < 10000
    rw [Nat.add_zero]; omega
  · have := h0 (by omega); have := h1 (by omega); have := h2 (by omega); have := h3 (by omega)
    show 10 * (10 * (10 * (10 * 0 + (tp (s + 0) - 48)) + (tp (s + 1) - 48)) + (tp (s + 2) - 48)) + (tp (s + 3) - 48) < 10000
    rw [Nat.add_zero]; omega
def q_mt (t : Nat × Nat × Nat) : Nat := if t.1 = 2 ∧ 4 < t.2.2 - t.2.1 then 4 else t.1
def MX (tp : Nat → Nat) (n : Nat) (σ σ' : Nat → Nat → Int32) (t : Nat × Nat × Nat) : Prop := (σ' 90 7 = nI t.2.2) ∧ (σ' 90 8 = nI t.2.1) ∧ (σ' 90 9 = nI (q_mt t)) ∧ (t.1 = 1 ∨ t.1 = 3 → σ' 90 10 = nI (tp t.2.1)) ∧ (t.1 = 2 → t.2.2 - t.2.1 ≤ 4 → σ' 90 10 = nI (q_nv tp t.2.1 (t.2.2 - t.2.1))) ∧ (t.1 = 1 ∨ t.1 = 2 ∨ t.1 = 3 → ∀ s, t.2.2 ≤ s → s ≤ n → (σ' 90 11 = nI s ↔ (q_wdt t = true ∧ s = t.2.2))) ∧ (∀ k, k < 7 ∨ 11 < k → σ' 90 k = σ 90 k) ∧ (∀ b, b ≠ 90 → σ' b = σ b)
theorem MX.e {tp : Nat → Nat} {n : Nat} {σ σ' : Nat → Nat → Int32} {t : Nat × Nat × Nat} (h : MX tp n σ σ' t) : σ' 90 7 = nI t.2.2 := h.1
theorem MX.s {tp : Nat → Nat} {n : Nat} {σ σ' : Nat → Nat → Int32} {t : Nat × Nat × Nat} (h : MX tp n σ σ' t) : σ' 90 8 = nI t.2.1 := h.2.1
theorem MX.k {tp : Nat → Nat} {n : Nat} {σ σ' : Nat → Nat → Int32} {t : Nat × Nat × Nat} (h : MX tp n σ σ' t) : σ' 90 9 = nI (q_mt t) := h.2.2.1
theorem MX.v1 {tp : Nat → Nat} {n : Nat} {σ σ' : Nat → Nat → Int32} {t : Nat × Nat × Nat} (h : MX tp n σ σ' t) : t.1 = 1 ∨ t.1 = 3 → σ' 90 10 = nI (tp t.2.1) := h.2.2.2.1
theorem MX.v2 {tp : Nat → Nat} {n : Nat} {σ σ' : Nat → Nat → Int32} {t : Nat × Nat × Nat} (h : MX tp n σ σ' t) : t.1 = 2 → t.2.2 - t.2.1 ≤ 4 → σ' 90 10 = nI (q_nv tp t.2.1 (t.2.2 - t.2.1)) := h.2.2.2.2.1
theorem MX.en {tp : Nat → Nat} {n : Nat} {σ σ' : Nat → Nat → Int32} {t : Nat × Nat × Nat} (h : MX tp n σ σ' t) : t.1 = 1 ∨ t.1 = 2 ∨ t.1 = 3 → ∀ s, t.2.2 ≤ s → s ≤ n → (σ' 90 11 = nI s ↔ (q_wdt t = true ∧ s = t.2.2)) := h.2.2.2.2.2.1
theorem MX.o {tp : Nat → Nat} {n : Nat} {σ σ' : Nat → Nat → Int32} {t : Nat × Nat × Nat} (h : MX tp n σ σ' t) : ∀ k, k < 7 ∨ 11 < k → σ' 90 k = σ 90 k := h.2.2.2.2.2.2.1
theorem MX.f {tp : Nat → Nat} {n : Nat} {σ σ' : Nat → Nat → Int32} {t : Nat × Nat × Nat} (h : MX tp n σ σ' t) : ∀ b, b ≠ 90 → σ' b = σ b := h.2.2.2.2.2.2.2
theorem MX.pre {tp : Nat → Nat} {n : Nat} {σ σ1 σ' : Nat → Nat → Int32} {t : Nat × Nat × Nat} (h : MX tp n σ1 σ' t) (h1 : ∀ k, k < 7 ∨ 11 < k → σ1 90 k = σ 90 k) (h2 : ∀ b, b ≠ 90 → σ1 b = σ b) : MX tp n σ σ' t :=
  ⟨h.e, h.s, h.k, h.v1, h.v2, h.en, fun k hk => (h.o k hk).trans (h1 k hk), fun b hb => (h.f b hb).trans (h2 b hb)⟩
section ML1
variable {S : List en_S} {d n : Nat} {xs : List Int32} {tp : Nat → Nat}
theorem m_letter (hM : isMo S) (hn : n ≤ 96) (hb : ∀ k, k < n → tp k < 256) {σ : Nat → Nat → Int32} (hl : σ 90 6 = nI n) (ht : ∀ k, k < n → σ 95 k = nI (tp k)) {k : Nat} (hk : k ≤ n) : mx_ev xs mx_P (d + 1) 184 [.ref 90, .int (nI k)] (en S σ) = some (some (.int (if k < n ∧ q_so (tp k) = 1 then 1 else 0)), en S σ) := by
  rw [ev_X7_isLetter, mog6 hM, hl]
  by_cases c : k < n
  · have hbk := hb k c
    rw [if_neg (nI_ge c (by omega)), mor5 hM, moa95 hM (by omega), ht k c]
    by_cases c1 : tp k < 97
    · rw [if_pos (by exact nI_lt (b := 97) c1 (by decide)), ri1_0, if_neg]
      intro x
      rcases q_so_c (tp k) with ⟨e, a, b⟩ | ⟨e, a, b⟩ | ⟨e, a, b⟩ <;> omega
    · rw [if_neg (by exact nI_nlt (b := 97) (by omega) (by omega)), mor5 hM, moa95 hM (by omega), ht k c]
      by_cases c2 : 122 < tp k
      · rw [if_pos (by exact nI_lt (a := 122) c2 (by omega)), ri1_0, if_neg]
        intro x
        rcases q_so_c (tp k) with ⟨e, a, b⟩ | ⟨e, a, b⟩ | ⟨e, a, b⟩ <;> omega
      · rw [if_neg (by exact nI_nlt (a := 122) (by omega) (by decide)), ri1_1, if_pos]
        refine ⟨c, ?_⟩
        rcases q_so_c (tp k) with ⟨e, a, b⟩ | ⟨e, a, b⟩ | ⟨e, a, b⟩ <;> omega
  · rw [if_pos (nI_le (by omega) (by omega)), ri1_0, if_neg (fun x => c x.1)]
theorem m_figure (hM : isMo S) (hn : n ≤ 96) (hb : ∀ k, k < n → tp k < 256) {σ : Nat → Nat → Int32} (hl : σ 90 6 = nI n) (ht : ∀ k, k < n → σ 95 k = nI (tp k)) {k : Nat} (hk : k ≤ n) : mx_ev xs mx_P (d + 1) 185 [.ref 90, .int (nI k)] (en S σ) = some (some (.int (if k < n ∧ q_so (tp k) = 2 then 1 else 0)), en S σ) := by
  rw [ev_X7_isFigure, mog6 hM, hl]
  by_cases c : k < n
  · have hbk := hb k c
    rw [if_neg (nI_ge c (by omega)), mor5 hM, moa95 hM (by omega), ht k c]
    by_cases c1 : tp k < 48
    · rw [if_pos (by exact nI_lt (b := 48) c1 (by decide)), ri1_0, if_neg]
      intro x
      rcases q_so_c (tp k) with ⟨e, a, b⟩ | ⟨e, a, b⟩ | ⟨e, a, b⟩ <;> omega
    · rw [if_neg (by exact nI_nlt (b := 48) (by omega) (by omega)), mor5 hM, moa95 hM (by omega), ht k c]
      by_cases c2 : 57 < tp k
      · rw [if_pos (by exact nI_lt (a := 57) c2 (by omega)), ri1_0, if_neg]
        intro x
        rcases q_so_c (tp k) with ⟨e, a, b⟩ | ⟨e, a, b⟩ | ⟨e, a, b⟩ <;> omega
      · rw [if_neg (by exact nI_nlt (a := 57) (by omega) (by decide)), ri1_1, if_pos]
        refine ⟨c, ?_⟩
        rcases q_so_c (tp k) with ⟨e, a, b⟩ | ⟨e, a, b⟩ | ⟨e, a, b⟩ <;> omega
  · rw [if_pos (nI_le (by omega) (by omega)), ri1_0, if_neg (fun x => c x.1)]
theorem en_90 {σ : Nat → Nat → Int32} {j : Nat} {v : Int32} {b : Nat} (h : b ≠ 90) : en_up σ 90 j v b = σ b := by unfold en_up; rw [if_neg h]
theorem m_gol (hM : isMo S) (hn : n ≤ 96) (hb : ∀ k, k < n → tp k < 256) {a1 s : Nat} (ha : a1 < 2) (hs : s < n) : ∀ (m e N : Nat) (σ : Nat → Nat → Int32), e + m = n → m < N → σ 90 6 = nI n → (∀ k, k < n → σ 95 k = nI (tp k)) → σ 90 7 = nI e → σ 90 8 = nI s → ∃ σ', mx_rn xs (mx_ev xs mx_P (d + 1)) kk_X7_go N 93 [(0, .ref 90), (1, .int (nI a1))] [] (en S σ) = some (none, en S σ') ∧ σ' 90 7 = nI (q_x (q_sm tp 1) n e) ∧ σ' 90 8 = nI s ∧ σ' 90 9 = nI (if a1 = 0 then 1 else 4) ∧ σ' 90 10 = nI (tp s) ∧ σ' 90 11 = nI (q_x (q_sm tp 1) n e) ∧ (∀ k, k < 7 ∨ 11 < k → σ' 90 k = σ 90 k) ∧ ∀ b, b ≠ 90 → σ' b = σ b
  | m, e, 0, _, _, h2, _, _, _, _ => absurd h2 (by omega)
  | m, e, N + 1, σ, h1, h2, hl, ht, h7, h8 => by
    rw [rn_X7_go_93, mog7 hM, h7, mocl hM, m_letter hM hn hb hl ht (by omega), c1s]
    by_cases c : e < n ∧ q_so (tp e) = 1
    · obtain ⟨m, rfl⟩ : ∃ m', m = m' + 1 := ⟨m - 1, by omega⟩
      rw [if_neg (show ¬ (if e < n ∧ q_so (tp e) = 1 then (1 : Int32) else 0) = 0 by rw [if_pos c]; decide), mog7 hM, h7, nI_1, mop7 hM, q_x_y (p := q_sm tp 1) c.1 (decide_eq_true c.2)]
      obtain ⟨σ', r1, r2, r3, r4, r5, r6, r7, r8⟩ := m_gol hM hn hb ha hs m (e + 1) N (en_up σ 90 7 (nI (e + 1))) (by omega) (by omega) (by rw [en_up_k (by decide)]; exact hl) (fun k hk => by rw [en_90 (by decide)]; exact ht k hk) en_up_s (by rw [en_up_k (by decide)]; exact h8)
      exact ⟨σ', r1, r2, r3, r4, r5, r6, fun k hk => by rw [r7 k hk, en_up_k (by omega)], fun b hb => by rw [r8 b hb, en_90 hb]⟩
    · rw [if_pos (show (if e < n ∧ q_so (tp e) = 1 then (1 : Int32) else 0) = 0 by rw [if_neg c]), q_x_n (p := q_sm tp 1) (fun x => c ⟨x.1, of_decide_eq_true x.2⟩)]
      by_cases a0 : a1 = 0
      · subst a0
        rw [if_pos (by rfl), mop9 hM, mor5 hM, mog8 hM, en_up_k (by decide), h8, moa95 hM (by omega), en_90 (by decide), ht s hs, mop10 hM, mog7 hM, en_up_k (by decide), en_up_k (by decide), h7, mop11 hM, rv0]
        exact ⟨_, rfl, by rw [en_up_k (by decide), en_up_k (by decide), en_up_k (by decide)]; exact h7, by rw [en_up_k (by decide), en_up_k (by decide), en_up_k (by decide)]; exact h8, by rw [en_up_k (by decide), en_up_k (by decide), en_up_s]; rfl, by rw [en_up_k (by decide), en_up_s], en_up_s, fun k hk => by rw [en_up_k (by omega), en_up_k (by omega), en_up_k (by omega)], fun b hb => by rw [en_90 hb, en_90 hb, en_90 hb]⟩
      · rw [if_neg (q_nz (by omega) (by omega)), mop9 hM, mor5 hM, mog8 hM, en_up_k (by decide), h8, moa95 hM (by omega), en_90 (by decide), ht s hs, mop10 hM, mog7 hM, en_up_k (by decide), en_up_k (by decide), h7, mop11 hM, rv0, if_neg a0]
        exact ⟨_, rfl, by rw [en_up_k (by decide), en_up_k (by decide), en_up_k (by decide)]; exact h7, by rw [en_up_k (by decide), en_up_k (by decide), en_up_k (by decide)]; exact h8, by rw [en_up_k (by decide), en_up_k (by decide), en_up_s]; rfl, by rw [en_up_k (by decide), en_up_s], en_up_s, fun k hk => by rw [en_up_k (by omega), en_up_k (by omega), en_up_k (by omega)], fun b hb => by rw [en_90 hb, en_90 hb, en_90 hb]⟩
theorem m_gof (hM : isMo S) (hn : n ≤ 96) (hb : ∀ k, k < n → tp k < 256) {a1 s : Nat} (ha : a1 < 2) (hs : s < n) : ∀ (m e N : Nat) (σ : Nat → Nat → Int32), e + m = n → m < N → s ≤ e → σ 90 6 = nI n → (∀ k, k < n → σ 95 k = nI (tp k)) → σ 90 7 = nI e → σ 90 8 = nI s → σ 90 10 = nI (q_nv tp s (min 4 (e - s))) → ∃ σ', mx_rn xs (mx_ev xs mx_P (d + 1)) kk_X7_go N 170 [(0, .ref 90), (1, .int (nI a1))] [] (en S σ) = some (none, en S σ') ∧ σ' 90 7 = nI (q_x (q_sm tp 2) n e) ∧ σ' 90 8 = nI s ∧ σ' 90 9 = nI (if a1 = 0 ∧ q_x (q_sm tp 2) n e - s ≤ 4 then 2 else 4) ∧ σ' 90 10 = nI (q_nv tp s (min 4 (q_x (q_sm tp 2) n e - s))) ∧ σ' 90 11 = nI (q_x (q_sm tp 2) n e) ∧ (∀ k, k < 7 ∨ 11 < k → σ' 90 k = σ 90 k) ∧ ∀ b, b ≠ 90 → σ' b = σ b
  | m, e, 0, _, _, h2, _, _, _, _, _, _ => absurd h2 (by omega)
  | m, e, N + 1, σ, h1, h2, hse, hl, ht, h7, h8, h10 => by
    have es : nI e - nI s = nI (e - s) := pk_sub hse
    rw [rn_X7_go_170, mog7 hM, h7, mocl hM, m_figure hM hn hb hl ht (by omega), c1s]
    by_cases c : e < n ∧ q_so (tp e) = 2
    · obtain ⟨m, rfl⟩ : ∃ m', m = m' + 1 := ⟨m - 1, by omega⟩
      have hd : 48 ≤ tp e := by rcases q_so_c (tp e) with ⟨e, a, b⟩ | ⟨e, a, b⟩ | ⟨e, a, b⟩ <;> omega
      rw [if_neg (show ¬ (if e < n ∧ q_so (tp e) = 2 then (1 : Int32) else 0) = 0 by rw [if_pos c]; decide), mog7 hM, mog8 hM, h7, h8, es, q_x_y (p := q_sm tp 2) c.1 (decide_eq_true c.2)]
      by_cases c4 : 4 ≤ e - s
      · rw [if_pos (by exact nI_le (a := 4) c4 (by omega)), mog10 hM, h10, mop10 hM, mog7 hM, en_up_k (by decide), h7, nI_1, mop7 hM]
        obtain ⟨σ', r1, r2, r3, r4, r5, r6, r7, r8⟩ := m_gof hM hn hb ha hs m (e + 1) N (en_up (en_up σ 90 10 (nI (q_nv tp s (min 4 (e - s))))) 90 7 (nI (e + 1))) (by omega) (by omega) (by omega) (by rw [en_up_k (by decide), en_up_k (by decide)]; exact hl) (fun k hk => by rw [en_90 (by decide), en_90 (by decide)]; exact ht k hk) en_up_s (by rw [en_up_k (by decide), en_up_k (by decide)]; exact h8) (by rw [en_up_k (by decide), en_up_s, show min 4 (e + 1 - s) = min 4 (e - s) by omega])
        exact ⟨σ', r1, r2, r3, r4, r5, r6, fun k hk => by rw [r7 k hk, en_up_k (by omega), en_up_k (by omega)], fun b hb => by rw [r8 b hb, en_90 hb, en_90 hb]⟩
      · have e10 : (10 : Int32) * nI (q_nv tp s (min 4 (e - s))) + nI (tp e) - 48 = nI (q_nv tp s (min 4 (e + 1 - s))) := by
          rw [show min 4 (e + 1 - s) = min 4 (e - s) + 1 by omega, q_nv_s, show s + min 4 (e - s) = e by omega, show (10 : Int32) = nI 10 from rfl, show (48 : Int32) = nI 48 from rfl, pk_mul, nI_add, pk_sub (by omega)]
          congr 1
          omega
        rw [if_neg (by exact nI_ge (b := 4) (by omega) (by decide)), mog10 hM, h10, mor5 hM, mog7 hM, h7, moa95 hM (by omega), ht e c.1, e10, mop10 hM, mog7 hM, en_up_k (by decide), h7, nI_1, mop7 hM]
        obtain ⟨σ', r1, r2, r3, r4, r5, r6, r7, r8⟩ := m_gof hM hn hb ha hs m (e + 1) N (en_up (en_up σ 90 10 (nI (q_nv tp s (min 4 (e + 1 - s))))) 90 7 (nI (e + 1))) (by omega) (by omega) (by omega) (by rw [en_up_k (by decide), en_up_k (by decide)]; exact hl) (fun k hk => by rw [en_90 (by decide), en_90 (by decide)]; exact ht k hk) en_up_s (by rw [en_up_k (by decide), en_up_k (by decide)]; exact h8) (by rw [en_up_k (by decide), en_up_s])
        exact ⟨σ', r1, r2, r3, r4, r5, r6, fun k hk => by rw [r7 k hk, en_up_k (by omega), en_up_k (by omega)], fun b hb => by rw [r8 b hb, en_90 hb, en_90 hb]⟩
    · rw [if_pos (show (if e < n ∧ q_so (tp e) = 2 then (1 : Int32) else 0) = 0 by rw [if_neg c]), q_x_n (p := q_sm tp 2) (fun x => c ⟨x.1, of_decide_eq_true x.2⟩)]
      have fin : ∀ v, ∃ σ', mx_pt (en S σ) 90 7 9 (.int (nI v)) (fun h6 => mx_gi h6 90 7 7 (fun x7 => mx_pt h6 90 7 11 (.int x7) (fun h8 => mx_rv [] h8))) = some (none, en S σ') ∧ σ' 90 7 = nI e ∧ σ' 90 8 = nI s ∧ σ' 90 9 = nI v ∧ σ' 90 10 = nI (q_nv tp s (min 4 (e - s))) ∧ σ' 90 11 = nI e ∧ (∀ k, k < 7 ∨ 11 < k → σ' 90 k = σ 90 k) ∧ ∀ b, b ≠ 90 → σ' b = σ b := fun v => by
        rw [mop9 hM, mog7 hM, en_up_k (by decide), h7, mop11 hM, rv0]
        exact ⟨_, rfl, by rw [en_up_k (by decide), en_up_k (by decide)]; exact h7, by rw [en_up_k (by decide), en_up_k (by decide)]; exact h8, by rw [en_up_k (by decide), en_up_s], by rw [en_up_k (by decide), en_up_k (by decide)]; exact h10, en_up_s, fun k hk => by rw [en_up_k (by omega), en_up_k (by omega)], fun b hb => by rw [en_90 hb, en_90 hb]⟩
      by_cases a0 : a1 = 0
      · rw [if_pos (show nI a1 = 0 by rw [a0]; rfl), mog7 hM, mog8 hM, h7, h8, es]
        by_cases c4 : e - s ≤ 4
        · rw [if_pos (by exact nI_le (b := 4) c4 (by decide)), if_pos ⟨a0, c4⟩]
          exact fin 2
        · rw [if_neg (by exact nI_ge (a := 4) (by omega) (by omega)), if_neg (fun x => c4 x.2)]
          exact fin 4
      · rw [if_neg (q_nz (by omega) (by omega)), if_neg (fun x => a0 x.1)]
        exact fin 4
end ML1
