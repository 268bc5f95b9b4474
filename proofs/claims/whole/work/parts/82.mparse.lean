/-! ===== the reference's parser: its piles ===== -/
def q_wm (s : Nat) : Int32 := if s = 20011 then -11 else q_em s
theorem q_wm_e {s : Nat} (h : s ≠ 20011) : q_wm s = q_em s := by unfold q_wm; rw [if_neg h]
def MU (σ0 σ : Nat → Nat → Int32) (st cd : List Nat) : Prop := (σ 90 16 = nI cd.length) ∧ (σ 90 19 = nI st.length) ∧ (q_PR (σ 99) q_wm st) ∧ (q_PR (σ 98) q_em cd) ∧ (∀ k, k ≠ 16 → k ≠ 19 → σ 90 k = σ0 90 k) ∧ (∀ b, b ≠ 90 → b ≠ 98 → b ≠ 99 → σ b = σ0 b)
theorem MU.sc {σ0 σ : Nat → Nat → Int32} {st cd : List Nat} (h : MU σ0 σ st cd) : σ 90 16 = nI cd.length := h.1
theorem MU.ph {σ0 σ : Nat → Nat → Int32} {st cd : List Nat} (h : MU σ0 σ st cd) : σ 90 19 = nI st.length := h.2.1
theorem MU.st {σ0 σ : Nat → Nat → Int32} {st cd : List Nat} (h : MU σ0 σ st cd) : q_PR (σ 99) q_wm st := h.2.2.1
theorem MU.cd {σ0 σ : Nat → Nat → Int32} {st cd : List Nat} (h : MU σ0 σ st cd) : q_PR (σ 98) q_em cd := h.2.2.2.1
theorem MU.o {σ0 σ : Nat → Nat → Int32} {st cd : List Nat} (h : MU σ0 σ st cd) : ∀ k, k ≠ 16 → k ≠ 19 → σ 90 k = σ0 90 k := h.2.2.2.2.1
theorem MU.f {σ0 σ : Nat → Nat → Int32} {st cd : List Nat} (h : MU σ0 σ st cd) : ∀ b, b ≠ 90 → b ≠ 98 → b ≠ 99 → σ b = σ0 b := h.2.2.2.2.2
def MP (tp : Nat → Nat) (n key : Nat) (σ0 σ : Nat → Nat → Int32) (st cd : List Nat) (na : Nat) (cm : Nat → Bool) (t : Nat × Nat × Nat) : Prop := (σ 90 6 = nI n) ∧ (∀ k, k < n → σ 95 k = nI (tp k)) ∧ (σ 90 7 = nI t.2.2) ∧ (σ 90 8 = nI t.2.1) ∧ (σ 90 9 = nI (q_mt t)) ∧ (t.1 = 1 ∨ t.1 = 3 → σ 90 10 = nI (tp t.2.1)) ∧ (t.1 = 2 → t.2.2 - t.2.1 ≤ 4 → σ 90 10 = nI (q_nv tp t.2.1 (t.2.2 - t.2.1))) ∧ (t.1 = 1 ∨ t.1 = 2 ∨ t.1 = 3 → ∀ s, t.2.2 ≤ s → s ≤ n → (σ 90 11 = nI s ↔ (q_wdt t = true ∧ s = t.2.2))) ∧ (σ 90 12 = nI key) ∧ (MU σ σ st cd) ∧ (σ 90 17 = nI na) ∧ (∀ i, i ≤ q_cn 20011 st → σ 100 i = if cm i = true then 1 else 0) ∧ (∀ k, k < 6 ∨ 19 < k → σ 90 k = σ0 90 k) ∧ (∀ b, b ≠ 90 → b ≠ 98 → b ≠ 99 → b ≠ 100 → σ b = σ0 b)
theorem MP.ln {tp : Nat → Nat} {n key : Nat} {σ0 σ : Nat → Nat → Int32} {st cd : List Nat} {na : Nat} {cm : Nat → Bool} {t : Nat × Nat × Nat} (h : MP tp n key σ0 σ st cd na cm t) : σ 90 6 = nI n := h.1
theorem MP.bt {tp : Nat → Nat} {n key : Nat} {σ0 σ : Nat → Nat → Int32} {st cd : List Nat} {na : Nat} {cm : Nat → Bool} {t : Nat × Nat × Nat} (h : MP tp n key σ0 σ st cd na cm t) : ∀ k, k < n → σ 95 k = nI (tp k) := h.2.1
theorem MP.e {tp : Nat → Nat} {n key : Nat} {σ0 σ : Nat → Nat → Int32} {st cd : List Nat} {na : Nat} {cm : Nat → Bool} {t : Nat × Nat × Nat} (h : MP tp n key σ0 σ st cd na cm t) : σ 90 7 = nI t.2.2 := h.2.2.1
theorem MP.s {tp : Nat → Nat} {n key : Nat} {σ0 σ : Nat → Nat → Int32} {st cd : List Nat} {na : Nat} {cm : Nat → Bool} {t : Nat × Nat × Nat} (h : MP tp n key σ0 σ st cd na cm t) : σ 90 8 = nI t.2.1 := h.2.2.2.1
theorem MP.k {tp : Nat → Nat} {n key : Nat} {σ0 σ : Nat → Nat → Int32} {st cd : List Nat} {na : Nat} {cm : Nat → Bool} {t : Nat × Nat × Nat} (h : MP tp n key σ0 σ st cd na cm t) : σ 90 9 = nI (q_mt t) := h.2.2.2.2.1
theorem MP.v1 {tp : Nat → Nat} {n key : Nat} {σ0 σ : Nat → Nat → Int32} {st cd : List Nat} {na : Nat} {cm : Nat → Bool} {t : Nat × Nat × Nat} (h : MP tp n key σ0 σ st cd na cm t) : t.1 = 1 ∨ t.1 = 3 → σ 90 10 = nI (tp t.2.1) := h.2.2.2.2.2.1
theorem MP.v2 {tp : Nat → Nat} {n key : Nat} {σ0 σ : Nat → Nat → Int32} {st cd : List Nat} {na : Nat} {cm : Nat → Bool} {t : Nat × Nat × Nat} (h : MP tp n key σ0 σ st cd na cm t) : t.1 = 2 → t.2.2 - t.2.1 ≤ 4 → σ 90 10 = nI (q_nv tp t.2.1 (t.2.2 - t.2.1)) := h.2.2.2.2.2.2.1
theorem MP.nd {tp : Nat → Nat} {n key : Nat} {σ0 σ : Nat → Nat → Int32} {st cd : List Nat} {na : Nat} {cm : Nat → Bool} {t : Nat × Nat × Nat} (h : MP tp n key σ0 σ st cd na cm t) : t.1 = 1 ∨ t.1 = 2 ∨ t.1 = 3 → ∀ s, t.2.2 ≤ s → s ≤ n → (σ 90 11 = nI s ↔ (q_wdt t = true ∧ s = t.2.2)) := h.2.2.2.2.2.2.2.1
theorem MP.ky {tp : Nat → Nat} {n key : Nat} {σ0 σ : Nat → Nat → Int32} {st cd : List Nat} {na : Nat} {cm : Nat → Bool} {t : Nat × Nat × Nat} (h : MP tp n key σ0 σ st cd na cm t) : σ 90 12 = nI key := h.2.2.2.2.2.2.2.2.1
theorem MP.u {tp : Nat → Nat} {n key : Nat} {σ0 σ : Nat → Nat → Int32} {st cd : List Nat} {na : Nat} {cm : Nat → Bool} {t : Nat × Nat × Nat} (h : MP tp n key σ0 σ st cd na cm t) : MU σ σ st cd := h.2.2.2.2.2.2.2.2.2.1
theorem MP.na {tp : Nat → Nat} {n key : Nat} {σ0 σ : Nat → Nat → Int32} {st cd : List Nat} {na : Nat} {cm : Nat → Bool} {t : Nat × Nat × Nat} (h : MP tp n key σ0 σ st cd na cm t) : σ 90 17 = nI na := h.2.2.2.2.2.2.2.2.2.2.1
theorem MP.cm {tp : Nat → Nat} {n key : Nat} {σ0 σ : Nat → Nat → Int32} {st cd : List Nat} {na : Nat} {cm : Nat → Bool} {t : Nat × Nat × Nat} (h : MP tp n key σ0 σ st cd na cm t) : ∀ i, i ≤ q_cn 20011 st → σ 100 i = if cm i = true then 1 else 0 := h.2.2.2.2.2.2.2.2.2.2.2.1
theorem MP.o {tp : Nat → Nat} {n key : Nat} {σ0 σ : Nat → Nat → Int32} {st cd : List Nat} {na : Nat} {cm : Nat → Bool} {t : Nat × Nat × Nat} (h : MP tp n key σ0 σ st cd na cm t) : ∀ k, k < 6 ∨ 19 < k → σ 90 k = σ0 90 k := h.2.2.2.2.2.2.2.2.2.2.2.2.1
theorem MP.f {tp : Nat → Nat} {n key : Nat} {σ0 σ : Nat → Nat → Int32} {st cd : List Nat} {na : Nat} {cm : Nat → Bool} {t : Nat × Nat × Nat} (h : MP tp n key σ0 σ st cd na cm t) : ∀ b, b ≠ 90 → b ≠ 98 → b ≠ 99 → b ≠ 100 → σ b = σ0 b := h.2.2.2.2.2.2.2.2.2.2.2.2.2
def q_sh (x : Int32) : Int32 := if x = 38 then -2 else if x = 42 then -8 else if x = 43 then -6 else if x = 45 then -7 else if x = 47 then -9 else if x = 60 then -3 else if x = 61 then -4 else if x = 62 then -5 else if x = 124 then -1 else 0
theorem q_sh_b : ∀ b, b < 256 → q_sh (nI b) = if q_sg b = 0 then 0 else q_em (q_sg b) := by decide +kernel
theorem q_em_nz {s : Nat} (h : 20001 ≤ s ∧ s ≤ 20010) : ¬ q_em s = 0 ∧ ¬ q_em s = -11 ∧ (q_em s = -10 ↔ s = 20010) := by
  obtain ⟨h1, h2⟩ := h
  rcases (show s = 20001 ∨ s = 20002 ∨ s = 20003 ∨ s = 20004 ∨ s = 20005 ∨ s = 20006 ∨ s = 20007 ∨ s = 20008 ∨ s = 20009 ∨ s = 20010 by omega) with rfl | rfl | rfl | rfl | rfl | rfl | rfl | rfl | rfl | rfl <;> decide
section MP1
variable {S : List en_S} {d n key na B : Nat} {xs : List Int32} {tp : Nat → Nat} {σ0 σ σ1 : Nat → Nat → Int32} {st cd : List Nat} {cm : Nat → Bool} {t : Nat × Nat × Nat}
theorem m_rank {s : Nat} (hs : 20001 ≤ s ∧ s ≤ 20010) (h : mx_H) : mx_ev xs mx_P (d + 1) 189 [.int (q_em s)] h = some (some (.int (nI (if s = 20010 then 6 else q_str s))), h) := by
  rw [ev_X7_rank]
  obtain ⟨h1, h2⟩ := hs
  rcases (show s = 20001 ∨ s = 20002 ∨ s = 20003 ∨ s = 20004 ∨ s = 20005 ∨ s = 20006 ∨ s = 20007 ∨ s = 20008 ∨ s = 20009 ∨ s = 20010 by omega) with rfl | rfl | rfl | rfl | rfl | rfl | rfl | rfl | rfl | rfl <;> rfl
theorem m_rank' {s : Nat} (hs : 20001 ≤ s ∧ s ≤ 20009) (h : mx_H) : mx_ev xs mx_P (d + 1) 189 [.int (q_em s)] h = some (some (.int (nI (q_str s))), h) := by
  rw [m_rank (by omega), if_neg (by omega)]
/-- a step moves from the pile to the code -/
theorem MU.mv {s : Nat} {r : List Nat} (h : MU σ0 σ (s :: r) cd) (hs : s ≠ 20011) : MU σ0 (en_up (en_up (en_up σ 90 19 (nI r.length)) 98 cd.length (q_em s)) 90 16 (nI (cd.length + 1))) r (s :: cd) := by
  refine ⟨by rw [en_up_s, List.length_cons], by rw [en_up_k (by decide), en_up_a (by decide), en_up_s], ?_, ?_, fun k k1 k2 => by rw [en_up_k k1, en_up_a (by decide), en_up_k k2]; exact h.o k k1 k2, fun b b1 b2 b3 => by rw [show en_up (en_up (en_up σ 90 19 (nI r.length)) 98 cd.length (q_em s)) 90 16 (nI (cd.length + 1)) b = σ b by funext k; rw [en_up_a b1, en_up_a b2, en_up_a b1]]; exact h.f b b1 b2 b3⟩
  · exact q_PR_m h.st.2 (fun i _ => by rw [en_up_a (by decide), en_up_a (by decide), en_up_a (by decide)])
  · refine q_PR_m (q_PR_i (σ := σ) (a := 98) (c := s) rfl h.cd) (fun i _ => ?_)
    rw [en_up_a (by decide), en_up_i, en_up_a (a := 90) (by decide), en_up_i]
theorem MU.pop {s : Nat} {r : List Nat} (h : MU σ0 σ (s :: r) cd) : MU σ0 (en_up σ 90 19 (nI r.length)) r cd := by
  refine ⟨by rw [en_up_k (by decide)]; exact h.sc, en_up_s, q_PR_m h.st.2 (fun i _ => by rw [en_up_a (by decide)]), q_PR_m h.cd (fun i _ => by rw [en_up_a (by decide)]), fun k k1 k2 => by rw [en_up_k k2]; exact h.o k k1 k2, fun b b1 b2 b3 => by rw [show en_up σ 90 19 (nI r.length) b = σ b by funext k; rw [en_up_a b1]]; exact h.f b b1 b2 b3⟩
theorem MU.push (h : MU σ0 σ st cd) (s : Nat) : MU σ0 (en_up (en_up σ 99 st.length (q_wm s)) 90 19 (nI (st.length + 1))) (s :: st) cd := by
  refine ⟨by rw [en_up_k (by decide), en_up_a (by decide)]; exact h.sc, by rw [en_up_s, List.length_cons], ?_, ?_, fun k k1 k2 => by rw [en_up_k k2, en_up_a (by decide)]; exact h.o k k1 k2, fun b b1 b2 b3 => by rw [show en_up (en_up σ 99 st.length (q_wm s)) 90 19 (nI (st.length + 1)) b = σ b by funext k; rw [en_up_a b1, en_up_a b3]]; exact h.f b b1 b2 b3⟩
  · exact q_PR_m (q_PR_i (c := s) rfl h.st) (fun i _ => by rw [en_up_a (by decide)])
  · exact q_PR_m h.cd (fun i _ => by rw [en_up_a (by decide), en_up_a (by decide)])
theorem MU.own (h : MU σ0 σ st cd) {k : Nat} {v : Int32} (h1 : k ≠ 16) (h2 : k ≠ 19) : MU (en_up σ0 90 k v) (en_up σ 90 k v) st cd := by
  refine ⟨by rw [en_up_k (Ne.symm h1)]; exact h.sc, by rw [en_up_k (Ne.symm h2)]; exact h.ph, q_PR_m h.st (fun i _ => by rw [en_up_a (by decide)]), q_PR_m h.cd (fun i _ => by rw [en_up_a (by decide)]), fun j k1 k2 => ?_, fun b b1 b2 b3 => ?_⟩
  · by_cases e : j = k
    · subst e; rw [en_up_s, en_up_s]
    · rw [en_up_k e, en_up_k e]; exact h.o j k1 k2
  · rw [show en_up σ 90 k v b = σ b by funext j; rw [en_up_a b1], show en_up σ0 90 k v b = σ0 b by funext j; rw [en_up_a b1]]
    exact h.f b b1 b2 b3
theorem MU.row (h : MU σ0 σ st cd) {k : Nat} {v : Int32} : MU (en_up σ0 100 k v) (en_up σ 100 k v) st cd := by
  refine ⟨by rw [en_up_a (by decide)]; exact h.sc, by rw [en_up_a (by decide)]; exact h.ph, q_PR_m h.st (fun i _ => by rw [en_up_a (by decide)]), q_PR_m h.cd (fun i _ => by rw [en_up_a (by decide)]), fun j k1 k2 => by rw [en_up_a (by decide), en_up_a (by decide)]; exact h.o j k1 k2, fun b b1 b2 b3 => ?_⟩
  by_cases e : b = 100
  · subst e
    funext j
    rw [en_up_i, en_up_i, h.f 100 b1 b2 b3]
  · rw [show en_up σ 100 k v b = σ b by funext j; rw [en_up_a e], show en_up σ0 100 k v b = σ0 b by funext j; rw [en_up_a e]]
    exact h.f b b1 b2 b3
theorem MU.self (h : MU σ0 σ st cd) : MU σ σ st cd := ⟨h.sc, h.ph, h.st, h.cd, fun _ _ _ => rfl, fun _ _ _ _ => rfl⟩
theorem MU.base (h : MU σ0 σ st cd) (e1 : ∀ k, k ≠ 16 → k ≠ 19 → σ0 90 k = σ1 90 k) (e2 : ∀ b, b ≠ 90 → b ≠ 98 → b ≠ 99 → σ0 b = σ1 b) : MU σ1 σ st cd := ⟨h.sc, h.ph, h.st, h.cd, fun k a b => (h.o k a b).trans (e1 k a b), fun b a c d => (h.f b a c d).trans (e2 b a c d)⟩
/-- one round of settle: its top is taken -/
theorem m_set_1 (hM : isMo S) {s k : Nat} {r : List Nat} (hs : 20001 ≤ s ∧ s ≤ 20010) (hL : r.length + cd.length + 1 ≤ 96) (h : MU σ0 σ (s :: r) cd) (hk : k ≤ (if s = 20010 then 6 else q_str s)) (N : Nat) : mx_rn xs (mx_ev xs mx_P (d + 1)) kk_X7_settle (N + 1) 0 [(0, .ref 90), (1, .int (nI k))] [] (en S σ) = mx_rn xs (mx_ev xs mx_P (d + 1)) kk_X7_settle N 0 [(0, .ref 90), (1, .int (nI k))] [] (en S (en_up (en_up (en_up σ 90 19 (nI r.length)) 98 cd.length (q_em s)) 90 16 (nI (cd.length + 1)))) := by
  have e1 : nI (r.length + 1) - 1 = nI r.length := by rw [show (1 : Int32) = nI 1 from rfl, pk_sub (by omega)]; rfl
  have hp : σ 99 r.length = q_em s := by rw [← q_wm_e (s := s) (by omega)]; exact h.st.1
  have hph : σ 90 19 = nI (r.length + 1) := h.ph
  have hz := q_em_nz hs
  have hc := q_str_c s
  have h6 : (if s = 20010 then 6 else q_str s) ≤ 6 := by split <;> omega
  rw [rn_X7_settle_0, mog19 hM, hph, if_neg (nI_nle (by omega) (by omega)), mor18 hM, mog19 hM, hph, e1, moa99 hM (by omega), hp, if_neg hz.2.1, mor18 hM, mog19 hM, hph, e1, moa99 hM (by omega), hp, m_rank hs, c1s, if_neg (nI_nlt hk (by omega)), mog19 hM, hph, e1, mop19 hM, mor15 hM, mog16 hM, en_up_k (by decide), h.sc, mor18 hM, mog19 hM, en_up_s, moa99 hM (by omega), en_up_a (by decide), hp, mos98 hM (by omega), mog16 hM, en_up_a (by decide), en_up_k (by decide), h.sc, nI_1, mop16 hM]
/-- settle stops -/
theorem m_set_0 (hM : isMo S) {s k : Nat} {r : List Nat} (hs : 20001 ≤ s ∧ s ≤ 20011) (hL : r.length + 1 ≤ 96) (h : MU σ0 σ (s :: r) cd) (hk : s = 20011 ∨ (s ≤ 20010 ∧ (if s = 20010 then 6 else q_str s) < k)) (hk6 : k ≤ 6) (N : Nat) : mx_rn xs (mx_ev xs mx_P (d + 1)) kk_X7_settle (N + 1) 0 [(0, .ref 90), (1, .int (nI k))] [] (en S σ) = some (none, en S σ) := by
  have e1 : nI (r.length + 1) - 1 = nI r.length := by rw [show (1 : Int32) = nI 1 from rfl, pk_sub (by omega)]; rfl
  have hp : σ 99 r.length = q_wm s := h.st.1
  have hph : σ 90 19 = nI (r.length + 1) := h.ph
  rw [rn_X7_settle_0, mog19 hM, hph, if_neg (nI_nle (by omega) (by omega)), mor18 hM, mog19 hM, hph, e1, moa99 hM (by omega), hp]
  by_cases c : s = 20011
  · subst c
    rw [if_pos (by rfl), rv0]
  · have hs' : 20001 ≤ s ∧ s ≤ 20010 := by omega
    rw [q_wm_e c, if_neg (q_em_nz hs').2.1, mor18 hM, mog19 hM, hph, e1, moa99 hM (by omega), hp, q_wm_e c, m_rank hs', c1s, if_pos (nI_lt (by omega) (by omega)), rv0]
theorem m_set_n (hM : isMo S) {k : Nat} (h : MU σ0 σ [] cd) (N : Nat) : mx_rn xs (mx_ev xs mx_P (d + 1)) kk_X7_settle (N + 1) 0 [(0, .ref 90), (1, .int (nI k))] [] (en S σ) = some (none, en S σ) := by
  rw [rn_X7_settle_0, mog19 hM, h.ph, if_pos (by decide), rv0]
theorem m_settle_loop (hM : isMo S) {k : Nat} (hk : k ≤ 5) : ∀ (st cd : List Nat) (N : Nat) (σ : Nat → Nat → Int32), st.length < N → st.length + cd.length ≤ 96 → q_sy st → q_J false st → MU σ0 σ st cd → ∃ σ', mx_rn xs (mx_ev xs mx_P (d + 1)) kk_X7_settle N 0 [(0, .ref 90), (1, .int (nI k))] [] (en S σ) = some (none, en S σ') ∧ MU σ0 σ' (q_ul k st cd).1 (q_ul k st cd).2
  | st, cd, 0, _, h, _, _, _, _ => absurd h (by omega)
  | [], cd, N + 1, σ, _, _, _, _, h => ⟨σ, m_set_n hM h N, h⟩
  | s :: r, cd, N + 1, σ, hN, hL, hy, hj, h => by
    rw [List.length_cons] at hN hL
    obtain ⟨y1, y2⟩ := q_sy_c hy
    by_cases c10 : s = 20010
    · subst c10
      unfold q_J at hj
      rw [if_pos rfl] at hj
      exact absurd hj.1 (by decide)
    · by_cases c : s ≤ 20009 ∧ k ≤ q_str s
      · have e : q_ul k (s :: r) cd = q_ul k r (s :: cd) := by rw [q_ul, if_pos c]
        have j2 : q_J false r := by
          unfold q_J at hj
          rw [if_neg (by omega), if_neg (by omega)] at hj
          exact hj
        rw [e, m_set_1 hM (by omega) (by omega) h (by rw [if_neg c10]; exact c.2)]
        exact m_settle_loop hM hk r (s :: cd) N _ (by omega) (by rw [List.length_cons]; omega) y2 j2 (h.mv (by omega))
      · have e : q_ul k (s :: r) cd = (s :: r, cd) := by rw [q_ul, if_neg c]
        rw [e]
        refine ⟨σ, m_set_0 hM y1 (by omega) h ?_ (by omega) N, h⟩
        by_cases c11 : s = 20011
        · exact Or.inl c11
        · exact Or.inr ⟨by omega, by rw [if_neg c10]; omega⟩
theorem m_settle (hM : isMo S) {k : Nat} (hk : k ≤ 5) (hL : st.length + cd.length ≤ 96) (hy : q_sy st) (hj : q_J false st) (h : MU σ0 σ st cd) : ∃ σ', mx_ev xs mx_P (d + 2) 190 [.ref 90, .int (nI k)] (en S σ) = some (none, en S σ') ∧ MU σ0 σ' (q_ul k st cd).1 (q_ul k st cd).2 := by
  rw [ev_go pp_X7_settle rfl rfl]
  exact m_settle_loop hM hk st cd mx_N σ (by show st.length < 100000; omega) hL hy hj h
theorem m_set6_loop (hM : isMo S) : ∀ (st cd : List Nat) (N : Nat) (σ : Nat → Nat → Int32), st.length < N → st.length + cd.length ≤ 96 → q_sy st → MU σ0 σ st cd → ∃ σ', mx_rn xs (mx_ev xs mx_P (d + 1)) kk_X7_settle N 0 [(0, .ref 90), (1, .int (nI 6))] [] (en S σ) = some (none, en S σ') ∧ MU σ0 σ' (q_nt st cd).1 (q_nt st cd).2
  | st, cd, 0, _, h, _, _, _ => absurd h (by omega)
  | [], cd, N + 1, σ, _, _, _, h => ⟨σ, m_set_n hM h N, h⟩
  | s :: r, cd, N + 1, σ, hN, hL, hy, h => by
    rw [List.length_cons] at hN hL
    obtain ⟨y1, y2⟩ := q_sy_c hy
    by_cases c : s = 20010
    · subst c
      have e : q_nt (20010 :: r) cd = q_nt r (20010 :: cd) := by rw [q_nt, if_pos rfl]
      rw [e, m_set_1 hM (by omega) (by omega) h (by rw [if_pos rfl]; omega)]
      exact m_set6_loop hM r (20010 :: cd) N _ (by omega) (by rw [List.length_cons]; omega) y2 (h.mv (by omega))
    · have e : q_nt (s :: r) cd = (s :: r, cd) := by rw [q_nt, if_neg c]
      rw [e]
      refine ⟨σ, m_set_0 hM y1 (by omega) h ?_ (by omega) N, h⟩
      have hc := q_str_c s
      by_cases c11 : s = 20011
      · exact Or.inl c11
      · exact Or.inr ⟨by omega, by rw [if_neg c]; omega⟩
theorem m_set6 (hM : isMo S) (hL : st.length + cd.length ≤ 96) (hy : q_sy st) (h : MU σ0 σ st cd) : ∃ σ', mx_ev xs mx_P (d + 2) 190 [.ref 90, .int 6] (en S σ) = some (none, en S σ') ∧ MU σ0 σ' (q_nt st cd).1 (q_nt st cd).2 := by
  rw [ev_go pp_X7_settle rfl rfl]
  exact m_set6_loop hM st cd mx_N σ (by show st.length < 100000; omega) hL hy h
theorem q_PR_a {s f : Nat → Int32} : ∀ {a b : List Nat}, q_PR s f (a ++ b) → q_PR s f b
  | [], _, h => h
  | _ :: a, _, h => q_PR_a (a := a) h.2
theorem m_nots_loop (hM : isMo S) (h : MU σ0 σ st cd) (hL : st.length ≤ 96) (hy : q_sy st) : ∀ (l suf : List Nat) (N : Nat), st = l.reverse ++ suf → l.length < N → mx_rn xs (mx_ev xs mx_P d) kk_X7_notsOpen N 4 [(0, .ref 90), (1, .int (nI (q_cn 20010 suf))), (2, .int (nI suf.length))] [] (en S σ) = some (some (.int (nI (q_cn 20010 st))), en S σ)
  | l, suf, 0, _, h2 => absurd h2 (by omega)
  | [], suf, N + 1, e, _ => by
    have e : st = suf := e
    subst e
    rw [rn_X7_notsOpen_4, mog19 hM, h.ph, if_pos (Int32.le_refl _), ri0]
  | x :: l, suf, N + 1, e, h2 => by
    rw [List.length_cons] at h2
    have e2 : st = l.reverse ++ (x :: suf) := by rw [e, List.reverse_cons, List.append_assoc]; rfl
    have hl : st.length = l.length + suf.length + 1 := by rw [e2, List.length_append, List.length_reverse, List.length_cons]; omega
    have hx : σ 99 suf.length = q_wm x := by
      have := h.st
      rw [e2] at this
      exact (q_PR_a this).1
    have hxy := hy x (by rw [e2]; exact List.mem_append_right _ List.mem_cons_self)
    have ih := m_nots_loop hM h hL hy l (x :: suf) N e2 (by omega)
    have ec : q_cn 20010 (x :: suf) = (if x = 20010 then 1 else 0) + q_cn 20010 suf := rfl
    rw [List.length_cons, ec] at ih
    rw [rn_X7_notsOpen_4, mog19 hM, h.ph, if_neg (nI_ge (by omega) (by omega)), mor18 hM, moa99 hM (by omega), hx, nI_1]
    by_cases c : x = 20010
    · rw [if_pos c, Nat.add_comm] at ih
      rw [if_pos (show q_wm x = -10 by rw [c]; rfl), nI_1]
      exact ih
    · rw [if_neg c, Nat.zero_add] at ih
      have hn : ¬ q_wm x = -10 := by
        by_cases c2 : x = 20011
        · rw [c2]; decide
        · rw [q_wm_e c2]
          exact fun y => c ((q_em_nz (by omega)).2.2.mp y)
      rw [if_neg hn, Int32.add_zero, nI_1]
      exact ih
theorem m_nots (hM : isMo S) (h : MU σ0 σ st cd) (hL : st.length ≤ 96) (hy : q_sy st) : mx_ev xs mx_P (d + 1) 194 [.ref 90] (en S σ) = some (some (.int (nI (q_cn 20010 st))), en S σ) := by
  rw [ev_X7_notsOpen]
  exact m_nots_loop hM h hL hy st.reverse [] 99999 (by rw [List.reverse_reverse, List.append_nil]) (by rw [List.length_reverse]; omega)
theorem m_name (hM : isMo S) (hk : key < 3) (h12 : σ 90 12 = nI key) {b : Nat} (hb : b < 256) : mx_ev xs mx_P (d + 1) 188 [.ref 90, .int (nI b)] (en S σ) = some (some (.int (if q_nm key b < 99 then nI (q_nm key b) else -1)), en S σ) := by
  have ne : ∀ c : Nat, c < 256 → b ≠ c → ¬ nI b = nI c := fun c hc h e => h ((nI_eq (by omega) (by omega)).mp e)
  rw [ev_X7_nameOf, mog12 hM, h12]
  rcases (show key = 0 ∨ key = 1 ∨ key = 2 by omega) with rfl | rfl | rfl
  · rw [if_pos (by decide)]
    by_cases c0 : b = 104
    · subst c0; rfl
    by_cases c1 : b = 111
    · subst c1; rfl
    by_cases c2 : b = 107
    · subst c2; rfl
    by_cases c3 : b = 116
    · subst c3; rfl
    have e : q_nm 0 b = 99 := by
      unfold q_nm
      rw [if_pos rfl, if_neg c0, if_neg c1, if_neg c2, if_neg c3]
    rw [if_neg (show ¬ nI b = 104 from ne 104 (by omega) c0), if_neg (show ¬ nI b = 111 from ne 111 (by omega) c1), if_neg (show ¬ nI b = 107 from ne 107 (by omega) c2), if_neg (show ¬ nI b = 116 from ne 116 (by omega) c3), e, if_neg (by decide), ri0]
  · rw [if_neg (by decide), if_pos (by decide)]
    by_cases c0 : b = 112
    · subst c0; rfl
    by_cases c1 : b = 116
    · subst c1; rfl
    have e : q_nm 1 b = 99 := by
      unfold q_nm
      rw [if_neg (by decide), if_pos rfl, if_neg c0, if_neg c1]
    rw [if_neg (show ¬ nI b = 112 from ne 112 (by omega) c0), if_neg (show ¬ nI b = 116 from ne 116 (by omega) c1), e, if_neg (by decide), ri0]
  · rw [if_neg (by decide), if_neg (by decide)]
    by_cases c0 : b = 115
    · subst c0; rfl
    by_cases c1 : b = 107
    · subst c1; rfl
    have e : q_nm 2 b = 99 := by
      unfold q_nm
      rw [if_neg (by decide), if_neg (by decide), if_neg c0, if_neg c1]
    rw [if_neg (show ¬ nI b = 115 from ne 115 (by omega) c0), if_neg (show ¬ nI b = 107 from ne 107 (by omega) c1), e, if_neg (by decide), ri0]
/-- the next token -/
theorem MP.next (hM : isMo S) (hb : ∀ k, k < n → tp k < 256) (h : MP tp n key σ0 σ st cd na cm t) (hn : n ≤ 96) (tk : q_tok tp n t) (ht : t.1 = 1 ∨ t.1 = 2 ∨ t.1 = 3) : ∃ σ', mx_ev xs mx_P (d + 2) 186 [.ref 90] (en S σ) = some (none, en S σ') ∧ MP tp n key σ0 σ' st cd na cm (q_nx tp n t) := by
  obtain ⟨σ', r1, m1⟩ := m_go (d := d) (xs := xs) hM hn hb (e := t.2.2) (g := q_wdt t) tk.2.1 h.ln h.bt h.e (h.nd ht)
  refine ⟨σ', r1, by rw [m1.o 6 (by omega)]; exact h.ln, fun k hk => by rw [m1.f 95 (by decide)]; exact h.bt k hk, m1.e, m1.s, m1.k, m1.v1, m1.v2, m1.en, by rw [m1.o 12 (by omega)]; exact h.ky, ⟨by rw [m1.o 16 (by omega)]; exact h.u.sc, by rw [m1.o 19 (by omega)]; exact h.u.ph, by rw [m1.f 99 (by decide)]; exact h.u.st, by rw [m1.f 98 (by decide)]; exact h.u.cd, fun _ _ _ => rfl, fun _ _ _ _ => rfl⟩, by rw [m1.o 17 (by omega)]; exact h.na, fun i hi => by rw [m1.f 100 (by decide)]; exact h.cm i hi, fun k hk => by rw [m1.o k (by omega)]; exact h.o k hk, fun b b1 b2 b3 b4 => by rw [m1.f b b1]; exact h.f b b1 b2 b3 b4⟩
/-- out of a new pile and code -/
theorem MP.mk (h : MP tp n key σ0 σ st cd na cm t) {σa : Nat → Nat → Int32} {st' cd' : List Nat} {na' : Nat} {cm' : Nat → Bool} (hu : MU σa σ1 st' cd') (ho : ∀ k, k ≠ 17 → σa 90 k = σ 90 k) (hf : ∀ b, b ≠ 90 → b ≠ 100 → σa b = σ b) (h17 : σa 90 17 = nI na') (hc : ∀ i, i ≤ q_cn 20011 st' → σa 100 i = if cm' i = true then 1 else 0) : MP tp n key σ0 σ1 st' cd' na' cm' t := by
  have o : ∀ k, k ≠ 16 → k ≠ 19 → k ≠ 17 → σ1 90 k = σ 90 k := fun k a b c => by rw [hu.o k a b, ho k c]
  refine ⟨by rw [o 6 (by decide) (by decide) (by decide)]; exact h.ln, fun k hk => by rw [hu.f 95 (by decide) (by decide) (by decide), hf 95 (by decide) (by decide)]; exact h.bt k hk, by rw [o 7 (by decide) (by decide) (by decide)]; exact h.e, by rw [o 8 (by decide) (by decide) (by decide)]; exact h.s, by rw [o 9 (by decide) (by decide) (by decide)]; exact h.k, fun x => by rw [o 10 (by decide) (by decide) (by decide)]; exact h.v1 x, fun x y => by rw [o 10 (by decide) (by decide) (by decide)]; exact h.v2 x y, fun x s a b => by rw [o 11 (by decide) (by decide) (by decide)]; exact h.nd x s a b, by rw [o 12 (by decide) (by decide) (by decide)]; exact h.ky, hu.self, by rw [hu.o 17 (by decide) (by decide)]; exact h17, fun i hi => by rw [hu.f 100 (by decide) (by decide) (by decide)]; exact hc i hi, fun k hk => by rw [o k (by omega) (by omega) (by omega)]; exact h.o k hk, fun b b1 b2 b3 b4 => by rw [hu.f b b1 b2 b3, hf b b1 b4]; exact h.f b b1 b2 b3 b4⟩
end MP1
