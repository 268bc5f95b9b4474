/-! ===== feed ===== -/
def q_by (a : Int32) (j : Nat) : Nat := (mx_us a (nI (24 - 8 * j))).toBitVec.toNat % 2 ^ 8
theorem q_by_lt (a : Int32) (j : Nat) : q_by a j < 256 := Nat.mod_lt _ (by decide)
theorem q_by_x (a : Int32) (j : Nat) : mx_us a (nI (24 - 8 * j)) &&& 255 = nI (q_by a j) := pk_and _ 8 (by decide)
theorem q_by_m (a : Int32) {j : Nat} (hj : j < 4) : (a >>> (nI (24 - 8 * j) &&& 31)) &&& 255 = nI (q_by a j) := by
  rw [← q_by_x]
  refine b_ext (fun i hi => ?_)
  rw [b_and, b_and, b_255]
  by_cases h8 : i < 8
  · rw [b_sshr (24 - 8 * j) (by omega) a hi, if_pos (by omega)]
    have h := b_ushr (24 - 8 * j) (by omega) a i
    unfold mx_us
    rw [h]
  · rw [decide_eq_false h8, Bool.and_false, Bool.and_false]
section FE
variable {S : List en_S} {σ0 σ σ1 σ2 : Nat → Nat → Int32} {cb d : Nat} {xs : List Int32} {C D : q_C} {G : q_G}
theorem x_four_s (hX : XS S) {t j : Nat} {a : Int32} (call : Nat → List Value → mx_H → mx_R) (n : Nat) (ht : t < 96) (h : σ 0 6 = nI t) : mx_rn xs call kk_X6_feedFour (n + 1) 3 [(0, .ref 0), (1, .int a), (2, .int (nI (24 - 8 * j)))] [] (en S σ) = mx_rn xs call kk_X6_feedFour n 3 [(0, .ref 0), (1, .int a), (2, .int (nI (24 - 8 * j) + (-8)))] [] (en S (en_up (en_up σ 53 t (nI (q_by a j))) 0 6 (nI (t + 1)))) := by
  rw [rn_X6_feedFour_3, if_neg (nI_pos (by omega)), en_gi hX.o rfl, h, if_neg (by exact nI_ge (b := 96) ht (by decide)), en_gr hX.o rfl, en_gi hX.o rfl, h, q_by_x, en_asN hX.tp ht (by decide), en_gi hX.o rfl, en_up_a (by decide), h, nI_1, en_pt hX.o rfl]
theorem x_four (hX : XS S) {t : Nat} {a : Int32} (ht : t + 4 ≤ 96) (h : σ 0 6 = nI t) : ∃ σ', mx_ev xs mx_P (d + 1) 107 [.ref 0, .int a] (en S σ) = some (none, en S σ') ∧ σ' 0 6 = nI (t + 4) ∧ (∀ k, k ≠ 6 → σ' 0 k = σ 0 k) ∧ (∀ k, σ' 53 k = if t ≤ k ∧ k < t + 4 then nI (q_by a (k - t)) else σ 53 k) ∧ ∀ b, b ≠ 0 → b ≠ 53 → σ' b = σ b := by
  have e1 : nI (24 - 8 * 0) + (-8) = nI (24 - 8 * 1) := by decide
  have e2 : nI (24 - 8 * 1) + (-8) = nI (24 - 8 * 2) := by decide
  have e3 : nI (24 - 8 * 2) + (-8) = nI (24 - 8 * 3) := by decide
  rw [ev_X6_feedFour]
  have s0 := x_four_s (xs := xs) (S := S) (σ := σ) (t := t) (j := 0) (a := a) hX (mx_ev xs mx_P d) 99998 (by omega) h
  have s1 := x_four_s (xs := xs) (S := S) (σ := en_up (en_up σ 53 t (nI (q_by a 0))) 0 6 (nI (t + 1))) (t := t + 1) (j := 1) (a := a) hX (mx_ev xs mx_P d) 99997 (by omega) en_up_s
  have s2 := x_four_s (xs := xs) (S := S) (σ := en_up (en_up (en_up (en_up σ 53 t (nI (q_by a 0))) 0 6 (nI (t + 1))) 53 (t + 1) (nI (q_by a 1))) 0 6 (nI (t + 1 + 1))) (t := t + 1 + 1) (j := 2) (a := a) hX (mx_ev xs mx_P d) 99996 (by omega) en_up_s
  have s3 := x_four_s (xs := xs) (S := S) (σ := en_up (en_up (en_up (en_up (en_up (en_up σ 53 t (nI (q_by a 0))) 0 6 (nI (t + 1))) 53 (t + 1) (nI (q_by a 1))) 0 6 (nI (t + 1 + 1))) 53 (t + 1 + 1) (nI (q_by a 2))) 0 6 (nI (t + 1 + 1 + 1))) (t := t + 1 + 1 + 1) (j := 3) (a := a) hX (mx_ev xs mx_P d) 99995 (by omega) en_up_s
  rw [e1] at s0
  rw [e2] at s1
  rw [e3] at s2
  have s4 : ∀ τ, mx_rn xs (mx_ev xs mx_P d) kk_X6_feedFour 99995 3 [(0, .ref 0), (1, .int a), (2, .int (nI (24 - 8 * 3) + (-8)))] [] (en S τ) = some (none, en S τ) := fun τ => by
    rw [show (99995 : Nat) = 99994 + 1 from rfl, rn_X6_feedFour_3, if_pos (by decide)]
    rfl
  refine ⟨_, s0.trans (s1.trans (s2.trans (s3.trans (s4 _)))), ?_, ?_, ?_, ?_⟩
  · rw [en_up_s]
  · intro k hk
    rw [en_up_k hk, en_up_a (by decide), en_up_k hk, en_up_a (by decide), en_up_k hk, en_up_a (by decide), en_up_k hk, en_up_a (by decide)]
  · intro k
    rw [en_up_a (by decide), en_up_i, en_up_a (by decide), en_up_i, en_up_a (by decide), en_up_i, en_up_a (by decide), en_up_i]
    by_cases k3 : k = t + 1 + 1 + 1
    · rw [if_pos ⟨rfl, k3⟩, if_pos (by omega), show k - t = 3 by omega]
    rw [if_neg (fun x => k3 x.2)]
    by_cases k2 : k = t + 1 + 1
    · rw [if_pos ⟨rfl, k2⟩, if_pos (by omega), show k - t = 2 by omega]
    rw [if_neg (fun x => k2 x.2)]
    by_cases k1 : k = t + 1
    · rw [if_pos ⟨rfl, k1⟩, if_pos (by omega), show k - t = 1 by omega]
    rw [if_neg (fun x => k1 x.2)]
    by_cases k0 : k = t
    · rw [if_pos ⟨rfl, k0⟩, if_pos (by omega), show k - t = 0 by omega]
    rw [if_neg (fun x => k0 x.2), if_neg (by omega)]
  · intro b h0 h53
    funext k
    rw [en_up_a h0, en_up_a h53, en_up_a h0, en_up_a h53, en_up_a h0, en_up_a h53, en_up_a h0, en_up_a h53]
/-- the twelve bytes -/
def q_b12 (a b c : Int32) (k : Nat) : Nat := if k < 4 then q_by a (k % 4) else if k < 8 then q_by b (k % 4) else q_by c (k % 4)
theorem q_b12_lt (a b c : Int32) (k : Nat) : q_b12 a b c k < 256 := by
  unfold q_b12
  split
  · exact q_by_lt _ _
  · split
    · exact q_by_lt _ _
    · exact q_by_lt _ _
theorem m_feed_loop (hM : isMo S) {t : Nat} {a b c : Int32} (ht : t + 12 ≤ 96) (h : σ 90 6 = nI t) : ∀ (m i N : Nat) (τ : Nat → Nat → Int32), i + m = 12 → m < N → (∀ k, τ 95 k = if t ≤ k ∧ k < t + i then nI (q_b12 a b c (k - t)) else σ 95 k) → (∀ b, b ≠ 95 → τ b = σ b) → ∃ σ', mx_rn xs (mx_ev xs mx_P d) kk_X7_feed N 18 [(0, .ref 90), (1, .int a), (2, .int b), (3, .int c), (4, .int (nI i))] [] (en S τ) = some (some (.int (nI (t + 12))), en S σ') ∧ σ' 90 6 = nI (t + 12) ∧ (∀ k, k ≠ 6 → σ' 90 k = σ 90 k) ∧ (∀ k, σ' 95 k = if t ≤ k ∧ k < t + 12 then nI (q_b12 a b c (k - t)) else σ 95 k) ∧ ∀ b, b ≠ 90 → b ≠ 95 → σ' b = σ b
  | m, i, 0, τ, _, h2, _, _ => absurd h2 (by omega)
  | 0, i, N + 1, τ, h1, _, h3, h4 => by
    have e : i = 12 := by omega
    subst e
    rw [rn_X7_feed_18, if_pos (by decide), en_gi hM.o rfl, h4 90 (by decide), h, show (12 : Int32) = nI 12 from rfl, nI_add, en_pt hM.o rfl, en_gi hM.o rfl, en_up_s, ri0]
    refine ⟨_, rfl, en_up_s, fun k hk => ?_, fun k => ?_, fun b h0 h95 => ?_⟩
    · rw [en_up_k hk, h4 90 (by decide)]
    · rw [en_up_a (by decide)]; exact h3 k
    · rw [← h4 b h95]; unfold en_up; rw [if_neg h0]
  | m + 1, i, N + 1, τ, h1, h2, h3, h4 => by
    have hi : i < 12 := by omega
    have e8 : (24 : Int32) - 8 * mx_rm (nI i) 4 = nI (24 - 8 * (i % 4)) := by
      rw [q_rm (b := 4) (y := 4) (by omega) (by decide) (by decide) rfl, show (8 : Int32) = nI 8 from rfl, pk_mul, show (24 : Int32) = nI 24 from rfl, pk_sub (by omega)]
    have step : ∀ v : Int32, (if i < 4 then a else if i < 8 then b else c) = v → ∃ σ', mx_as (en S τ) 95 0 (nI t + nI i) ((v >>> ((24 - (8 * (mx_rm (nI i) 4))) &&& 31)) &&& 255) (fun h6 => mx_rn xs (mx_ev xs mx_P d) kk_X7_feed N 18 [(0, .ref 90), (1, .int a), (2, .int b), (3, .int c), (4, .int (nI i + 1))] [] h6) = some (some (.int (nI (t + 12))), en S σ') ∧ σ' 90 6 = nI (t + 12) ∧ (∀ k, k ≠ 6 → σ' 90 k = σ 90 k) ∧ (∀ k, σ' 95 k = if t ≤ k ∧ k < t + 12 then nI (q_b12 a b c (k - t)) else σ 95 k) ∧ ∀ b, b ≠ 90 → b ≠ 95 → σ' b = σ b := fun v hv => by
      rw [e8, q_by_m v (by omega), nI_add, en_asN hM.tp (by omega) (by decide), nI_1]
      refine m_feed_loop hM ht h m (i + 1) N _ (by omega) (by omega) (fun k => ?_) (fun b hb => ?_)
      · rw [en_up_i, h3 k]
        by_cases ek : k = t + i
        · rw [if_pos ⟨rfl, ek⟩, if_pos (by omega), show k - t = i by omega]
          unfold q_b12
          congr 1
          subst hv
          (repeat' split) <;> rfl
        · rw [if_neg (fun x => ek x.2)]
          by_cases e2 : t ≤ k ∧ k < t + i
          · rw [if_pos e2, if_pos (by omega)]
          · rw [if_neg e2, if_neg (by omega)]
      · rw [← h4 b hb]; unfold en_up; rw [if_neg hb]
    rw [rn_X7_feed_18, if_neg (by exact nI_ge (b := 12) hi (by decide))]
    by_cases i4 : i < 4
    · rw [if_neg (by exact nI_ge (b := 4) i4 (by decide)), en_gr hM.o rfl, en_gi hM.o rfl, h4 90 (by decide), h, if_neg (by decide)]
      exact step a (by rw [if_pos i4])
    · rw [if_pos (by exact (nI_leI (a := 4) (by decide) (by omega)).mpr (by omega))]
      by_cases i8 : i < 8
      · rw [if_neg (by exact nI_ge (b := 8) i8 (by decide)), en_gr hM.o rfl, en_gi hM.o rfl, h4 90 (by decide), h, if_neg (by decide)]
        exact step b (by rw [if_neg i4, if_pos i8])
      · rw [if_pos (by exact (nI_leI (a := 8) (by decide) (by omega)).mpr (by omega)), en_gr hM.o rfl, en_gi hM.o rfl, h4 90 (by decide), h, if_neg (by decide)]
        exact step c (by rw [if_neg i4, if_neg i8])
theorem t_feed (a b c : Int32) : St xs 106 182 [.int a, .int b, .int c] := by
  intro S σ G hX hM ok
  have ht := ok.tl
  rw [ev_X6_feed, en_gi hX.x.o rfl, hX.tl]
  by_cases e : G.tl ≤ 84
  · rw [if_pos (by exact (nI_leI (b := 84) (by omega) (by decide)).mpr e), en_cl hX.x.o]
    obtain ⟨σa, ra, a1, a2, a3, a4⟩ := x_four (xs := xs) (d := 10) (a := a) hX.x (show G.tl + 4 ≤ 96 by omega) hX.tl
    obtain ⟨σb, rb, b1, b2, b3, b4⟩ := x_four (xs := xs) (d := 10) (a := b) (σ := σa) (t := G.tl + 4) hX.x (by omega) a1
    obtain ⟨σc, rc, c1, c2, c3, c4⟩ := x_four (xs := xs) (d := 10) (a := c) (σ := σb) (t := G.tl + 4 + 4) hX.x (by omega) b1
    rw [ra, c0s, en_cl hX.x.o, rb, c0s, en_cl hX.x.o, rc, c0s, en_gi hX.x.o rfl, c1, ri0]
    have o1 : ∀ b, b ≠ 0 → ¬ b = 53 → σc b = σ b := fun b h0 h1 => by rw [c4 b h0 h1, b4 b h0 h1, a4 b h0 h1]
    have tp : ∀ k, k < G.tl + 12 → σc 53 k = nI (if G.tl ≤ k then q_b12 a b c (k - G.tl) else G.tp k) := fun k hk => by
      rw [c3, b3, a3]
      by_cases k0 : G.tl ≤ k
      · rw [if_pos k0]
        unfold q_b12
        by_cases k1 : k < G.tl + 4
        · rw [if_neg (by omega), if_neg (by omega), if_pos (by omega), if_pos (by omega), show (k - G.tl) % 4 = k - G.tl by omega]
        · by_cases k2 : k < G.tl + 8
          · rw [if_neg (by omega), if_pos (by omega), if_neg (by omega), if_pos (by omega), show (k - G.tl) % 4 = k - (G.tl + 4) by omega]
          · rw [if_pos (by omega), if_neg (by omega), if_neg (by omega), show (k - G.tl) % 4 = k - (G.tl + 4 + 4) by omega]
      · rw [if_neg k0, if_neg (by omega), if_neg (by omega), if_neg (by omega)]
        exact hX.tp k (by omega)
    have xg := hX.g_tape ok (σ' := σc) (G.tl + 12) (fun k => if G.tl ≤ k then q_b12 a b c (k - G.tl) else G.tp k) (fun k hk => by rw [c2 k hk, b2 k hk, a2 k hk]) o1 c1 tp
    have og := ok.g_tape (G.tl + 12) (fun k => if G.tl ≤ k then q_b12 a b c (k - G.tl) else G.tp k) (by omega) (fun k hk => by
      show (if G.tl ≤ k then q_b12 a b c (k - G.tl) else G.tp k) < 256
      split
      · exact q_b12_lt _ _ _ _
      · exact ok.tp k (by omega))
    have hM1 : MR S σc G := hM.after (fun b h1 h2 => o1 b (by omega) (by omega))
    obtain ⟨σ2, r2, d1, d2, d3, d4⟩ := m_feed_loop (xs := xs) (d := 11) (a := a) (b := b) (c := c) hM.mo (show G.tl + 12 ≤ 96 by omega) hM1.tl 12 0 99999 σc (by decide) (by decide) (fun k => by rw [if_neg (by omega)]) (fun b _ => rfl)
    refine ⟨σc, σ2, _, rfl, ?_, ⟨_, xg.fr og (fun b hb => d4 b (fun e => hb (by unfold scr; omega)) (fun e => hb (by unfold scr; omega))), ?_, og⟩⟩
    · rw [ev_X7_feed, en_gi hM.mo.o rfl, hM1.tl, show (12 : Int32) = nI 12 from rfl, nI_add, if_pos (by exact (nI_leI (b := 96) (by omega) (by decide)).mpr (by omega))]
      exact r2
    · refine hM1.g_tape _ _ d2 (fun b h1 h2 h3 h4 => d4 b (by omega) (by omega)) d1 (fun k hk => ?_)
      rw [d3]
      by_cases k0 : G.tl ≤ k
      · rw [if_pos (by omega), if_pos k0]
      · rw [if_neg (by omega), if_neg k0]
        exact hM1.tp k (by omega)
  · rw [if_neg (show ¬ nI G.tl ≤ 84 from fun x => e ((nI_leI (b := 84) (by omega) (by decide)).mp x)), ri0]
    refine ⟨σ, σ, _, rfl, ?_, RR_same hX hM ok⟩
    rw [ev_X7_feed, en_gi hM.mo.o rfl, hM.tl, show (12 : Int32) = nI 12 from rfl, nI_add, if_neg (show ¬ nI (G.tl + 12) ≤ 96 from fun x => by have := (nI_leI (b := 96) (by omega) (by decide)).mp x; omega), ri0]
end FE
