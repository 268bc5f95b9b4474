/-! ===== the reference works a law out ===== -/
section WO
variable {S : List en_S} {d : Nat} {xs : List Int32} {t len B : Nat} {nm : Nat → Int32}
theorem isMo.st (hM : isMo S) : S[101]? = some (.inr (.inl (0, 96))) := hM 11 _ rfl
theorem isMo.fa (hM : isMo S) : S[102]? = some (.inr (.inl (0, 4))) := hM 12 _ rfl
theorem m_val_loop (hM : isMo S) (ht14 : t < 14) (hB4 : B ≤ 4) (hl : len ≤ 96) : ∀ (cs : List Nat) (i : Nat) (s : Nat × (Nat → Int32)) (σ : Nat → Nat → Int32) (N : Nat), i + cs.length = len → cs.length < N → (∀ k c, cs[k]? = some c → σ 91 (99 + 96 * t + (i + k)) = q_em c) → (∀ k, k < B → σ 102 k = nm k) → (∀ k, k < s.1 → σ 101 k = s.2 k) → s.1 ≤ 96 → q_wf B cs s.1 → ∃ σ', mx_rn xs (mx_ev xs mx_P (d + 1)) kk_X7_worksOut N 21 [(0, .ref 90), (1, .int (nI t)), (2, .int (nI s.1)), (3, .int (nI len)), (4, .int (nI i))] [] (en S σ) = some (some (.int ((q_run nm cs s).2 0)), en S σ') ∧ ∀ b, b ≠ 101 → σ' b = σ b
  | cs, i, s, σ, 0, _, h, _, _, _, _, _ => absurd h (by omega)
  | [], i, s, σ, N + 1, hi, _, _, _, hs, _, hw => by
    have hw : 1 ≤ s.1 := hw
    simp only [List.length_nil] at hi
    refine ⟨σ, ?_, fun _ _ => rfl⟩
    rw [rn_X7_worksOut_21, if_pos (by rw [show i = len by omega]; exact Int32.le_refl _), en_gr hM.o rfl, show (0 : Int32) = nI 0 from rfl, en_aiN hM.st (by decide) (by decide), hs 0 (by omega)]
    rfl
  | c :: cs, i, s, σ, N + 1, hi, hN2, hc, hn, hs, ht, hw => by
    simp only [List.length_cons] at hi hN2
    have hc0 : σ 91 (99 + 96 * t + i) = q_em c := hc 0 c rfl
    have hc1 : ∀ k c', cs[k]? = some c' → σ 91 (99 + 96 * t + (i + 1 + k)) = q_em c' := fun k c' h => by
      have := hc (k + 1) c' (by simpa using h)
      rwa [show i + (k + 1) = i + 1 + k by omega] at this
    have step : ∀ (s' : Nat × (Nat → Int32)) (σ1 : Nat → Nat → Int32), s' = q_step nm c s → (∀ b, b ≠ 101 → σ1 b = σ b) → (∀ k, k < s'.1 → σ1 101 k = s'.2 k) → s'.1 ≤ 96 → q_wf B cs s'.1 → ∃ σ', mx_rn xs (mx_ev xs mx_P (d + 1)) kk_X7_worksOut N 21 [(0, .ref 90), (1, .int (nI t)), (2, .int (nI s'.1)), (3, .int (nI len)), (4, .int (nI (i + 1)))] [] (en S σ1) = some (some (.int ((q_run nm (c :: cs) s).2 0)), en S σ') ∧ ∀ b, b ≠ 101 → σ' b = σ b := by
      intro s' σ1 e hb hs1 ht1 hw1
      obtain ⟨σ', r1, r2⟩ := m_val_loop hM ht14 hB4 hl cs (i + 1) s' σ1 N (by omega) (by omega) (fun k c' h => by rw [hb 91 (by decide)]; exact hc1 k c' h) (fun k hk => by rw [hb 102 (by decide)]; exact hn k hk) hs1 ht1 hw1
      refine ⟨σ', ?_, fun b hbb => (r2 b hbb).trans (hb b hbb)⟩
      rw [r1]
      show _ = some (some (Value.int ((q_run nm cs (q_step nm c s)).2 0)), _)
      rw [e]
    have eix : (99 : Int32) + 96 * nI t + nI i = nI (99 + 96 * t + i) := by rw [show (99 : Int32) = nI 99 from rfl, show (96 : Int32) = nI 96 from rfl, pk_mul, nI_add, nI_add]
    rw [rn_X7_worksOut_21, if_neg (nI_ge (by omega) (by omega)), en_gr hM.o rfl, eix, en_aiN hM.w (by omega) (by decide), hc0, nI_1]
    rcases hw with ⟨hcB, hts, hw⟩ | ⟨rfl, hts, hw⟩ | ⟨hcb, hts, hw⟩
    · have e1 : q_em c = nI c := by unfold q_em; rw [if_pos (by omega)]
      rw [e1, if_neg (nI_pos (by omega)), en_gr hM.o rfl, show (10000 : Int32) = nI 10000 from rfl, nI_1]
      by_cases hnum : c < 10000
      · rw [if_neg (nI_ge hnum (by decide)), en_asN hM.st hts (by decide)]
        refine step (s.1 + 1, upd s.2 s.1 (nI c)) _ (by simp [q_step, hnum]) (fun b hb => by unfold en_up; rw [if_neg hb]) (fun k hk => ?_) (by show s.1 + 1 ≤ 96; omega) hw
        rw [en_up_i]
        show _ = upd s.2 s.1 (nI c) k
        unfold upd
        by_cases e : k = s.1
        · rw [if_pos ⟨rfl, e⟩, if_pos e]
        · rw [if_neg (fun h => e h.2), if_neg e]
          exact hs k (by have : k < s.1 + 1 := hk; omega)
      · rw [if_pos (nI_le (by omega) (by omega)), en_gr hM.o rfl, pk_sub (by omega), en_aiN hM.fa (by omega) (by decide), hn _ (by omega), en_asN hM.st hts (by decide)]
        refine step (s.1 + 1, upd s.2 s.1 (nm (c - 10000))) _ (by simp [q_step, hnum, show c < 20000 by omega]) (fun b hb => by unfold en_up; rw [if_neg hb]) (fun k hk => ?_) (by show s.1 + 1 ≤ 96; omega) hw
        rw [en_up_i]
        show _ = upd s.2 s.1 (nm (c - 10000)) k
        unfold upd
        by_cases e : k = s.1
        · rw [if_pos ⟨rfl, e⟩, if_pos e]
        · rw [if_neg (fun h => e h.2), if_neg e]
          exact hs k (by have : k < s.1 + 1 := hk; omega)
    · have e3 : nI s.1 - 1 = nI (s.1 - 1) := by rw [show (1 : Int32) = nI 1 from rfl, pk_sub hts]
      rw [if_pos (by decide), if_pos (by decide), en_gr hM.o rfl, en_gr hM.o rfl, e3, en_aiN hM.st (by omega) (by decide), hs _ (by omega)]
      have fin : ∀ v, v = q_not (s.2 (s.1 - 1)) → ∃ σ', mx_rn xs (mx_ev xs mx_P (d + 1)) kk_X7_worksOut N 21 [(0, .ref 90), (1, .int (nI t)), (2, .int (nI s.1)), (3, .int (nI len)), (4, .int (nI (i + 1)))] [] (en S (en_up σ 101 (s.1 - 1) v)) = some (some (.int ((q_run nm (20010 :: cs) s).2 0)), en S σ') ∧ ∀ b, b ≠ 101 → σ' b = σ b := by
        intro v hv
        refine step (s.1, upd s.2 (s.1 - 1) v) _ (by rw [hv]; simp [q_step]) (fun b hb => by unfold en_up; rw [if_neg hb]) (fun k hk => ?_) ht hw
        rw [en_up_i]
        show _ = upd s.2 (s.1 - 1) v k
        unfold upd
        by_cases e : k = s.1 - 1
        · rw [if_pos ⟨rfl, e⟩, if_pos e]
        · rw [if_neg (fun h => e h.2), if_neg e]
          exact hs k hk
      by_cases ez : s.2 (s.1 - 1) = 0
      · rw [if_pos ez, en_asN hM.st (by omega) (by decide)]
        exact fin 1 (by unfold q_not; rw [if_pos ez])
      · rw [if_neg ez, en_asN hM.st (by omega) (by decide)]
        exact fin 0 (by unfold q_not; rw [if_neg ez])
    · have e5 : nI s.1 + (-1) = nI (s.1 - 1) := sb_m1 (by omega)
      have e4 : nI (s.1 - 1) - 1 = nI (s.1 - 2) := by rw [show (1 : Int32) = nI 1 from rfl, pk_sub (by omega)]; rfl
      have e6 : q_em c < 0 ∧ ¬ q_em c = -10 := by
        obtain ⟨g1, g2⟩ := hcb
        rcases (show c = 20001 ∨ c = 20002 ∨ c = 20003 ∨ c = 20004 ∨ c = 20005 ∨ c = 20006 ∨ c = 20007 ∨ c = 20008 ∨ c = 20009 by omega) with rfl | rfl | rfl | rfl | rfl | rfl | rfl | rfl | rfl <;> decide
      rw [if_pos e6.1, if_neg e6.2, en_gr hM.o rfl, en_gr hM.o rfl, e5, e4, en_aiN hM.st (by omega) (by decide), en_gr hM.o rfl, en_aiN hM.st (by omega) (by decide), hs _ (by omega), hs _ (by omega), q_twom xs d hcb, c1s, en_asN hM.st (by omega) (by decide)]
      refine step (s.1 - 1, upd s.2 (s.1 - 2) (q_two c (s.2 (s.1 - 2)) (s.2 (s.1 - 1)))) _ (by simp only [q_step]; rw [if_neg (by omega), if_neg (by omega), if_neg (by omega)]) (fun b hb => by unfold en_up; rw [if_neg hb]) (fun k hk => ?_) (by show s.1 - 1 ≤ 96; omega) hw
      rw [en_up_i]
      show _ = upd s.2 (s.1 - 2) (q_two c (s.2 (s.1 - 2)) (s.2 (s.1 - 1))) k
      unfold upd
      by_cases e : k = s.1 - 2
      · rw [if_pos ⟨rfl, e⟩, if_pos e]
      · rw [if_neg (fun h => e h.2), if_neg e]
        exact hs k (by have : k < s.1 - 1 := hk; omega)
theorem m_worksOut {cs : List Nat} {key : Nat} {σ : Nat → Nat → Int32} (hM : isMo S) (ht14 : t < 14) (hkey : key < 3) (hB4 : B ≤ 4) (hl : cs.length ≤ 96) (hh : σ 91 (71 + 2 * t) = nI (1000 * key + cs.length)) (hc : ∀ k c, cs[k]? = some c → σ 91 (99 + 96 * t + k) = q_em c) (hn : ∀ k, k < B → σ 102 k = nm k) (hw : q_wf B cs 0) : ∃ σ', mx_ev xs mx_P (d + 2) 200 [.ref 90, .int (nI t)] (en S σ) = some (some (.int (q_val nm cs)), en S σ') ∧ ∀ b, b ≠ 101 → σ' b = σ b := by
  have eix : (71 : Int32) + 2 * nI t = nI (71 + 2 * t) := by rw [show (71 : Int32) = nI 71 from rfl, show (2 : Int32) = nI 2 from rfl, pk_mul, nI_add]
  rw [ev_X7_worksOut, en_gr hM.o rfl, eix, en_aiN hM.w (by omega) (by decide), hh, if_neg (by decide), q_rm (b := 1000) (y := 1000) (by omega) (by decide) (by decide) rfl, show (1000 * key + cs.length) % 1000 = cs.length by omega]
  exact m_val_loop (d := d) (xs := xs) hM ht14 hB4 hl cs 0 (0, fun _ => 0) σ 99999 (by omega) (by omega) (fun k c h => by rw [Nat.zero_add]; exact hc k c h) hn (fun k h => absurd h (by show ¬ k < 0; omega)) (by decide) hw
end WO
