/-! ===== wax ===== -/
/-- legs below k whose bit is set are waxed -/
def q_wxs (C : q_C) (s : Nat) : Nat → q_C
  | 0 => C
  | k + 1 => if s.testBit k then q_pt (q_wxs C s k) k 0 3 else q_wxs C s k
theorem q_wxs_s (C : q_C) (s k : Nat) : q_wxs C s (k + 1) = if s.testBit k then q_pt (q_wxs C s k) k 0 3 else q_wxs C s k := rfl
theorem q_pt_id {C : q_C} {i j v : Nat} (h : C.L i j = v) : q_pt C i j v = C := by
  have e : (fun a b => if a = i ∧ b = j then v else C.L a b) = C.L := by
    funext a b
    by_cases c : a = i ∧ b = j
    · rw [if_pos c, c.1, c.2, h]
    · rw [if_neg c]
  unfold q_pt
  rw [e]
  rfl
theorem q_wxs_n (C : q_C) (s : Nat) : ∀ k, (q_wxs C s k).n = C.n
  | 0 => rfl
  | k + 1 => by
    rw [q_wxs_s]
    split
    · rw [q_pt_n, q_wxs_n C s k]
    · exact q_wxs_n C s k
theorem q_wxs_day (C : q_C) (s : Nat) : ∀ k, (q_wxs C s k).day = C.day
  | 0 => rfl
  | k + 1 => by
    rw [q_wxs_s]
    split
    · rw [q_pt_day, q_wxs_day C s k]
    · exact q_wxs_day C s k
theorem q_wxs_L (C : q_C) (s : Nat) : ∀ k a b, k ≤ a → (q_wxs C s k).L a b = C.L a b
  | 0, _, _, _ => rfl
  | k + 1, a, b, h => by
    rw [q_wxs_s]
    split
    · rw [q_pt_L]
      show (if a = k ∧ b = 0 then 3 else (q_wxs C s k).L a b) = _
      rw [if_neg (by omega), q_wxs_L C s k a b (by omega)]
    · exact q_wxs_L C s k a b (by omega)
theorem q_ok_wxs {C : q_C} (ok : q_ok C) (s : Nat) : ∀ k, q_ok (q_wxs C s k)
  | 0 => ok
  | k + 1 => by
    rw [q_wxs_s]
    split
    · exact q_ok_pt (q_ok_wxs ok s k) ⟨by omega, by omega, by omega, by omega, by omega, by omega⟩
    · exact q_ok_wxs ok s k
/-- which are waxed already -/
def q_wx (L : Nat → Nat → Nat) : Nat → Nat
  | 0 => 0
  | k + 1 => if L k 0 = 3 then q_wx L k ||| 2 ^ k else q_wx L k
theorem q_wx_s (L : Nat → Nat → Nat) (k : Nat) : q_wx L (k + 1) = if L k 0 = 3 then q_wx L k ||| 2 ^ k else q_wx L k := rfl
theorem q_wx_lt (L : Nat → Nat → Nat) : ∀ k, q_wx L k < 2 ^ k
  | 0 => Nat.one_pos
  | k + 1 => by
    have h := q_wx_lt L k
    have h2 : 2 ^ k < 2 ^ (k + 1) := Nat.pow_lt_pow_right (by decide) (by omega)
    rw [q_wx_s]
    split
    · exact Nat.or_lt_two_pow (by omega) h2
    · omega
theorem q_wx_bit (L : Nat → Nat → Nat) : ∀ k i, (q_wx L k).testBit i = true → i < k ∧ L i 0 = 3
  | 0, i, h => by
    rw [show q_wx L 0 = 0 from rfl, Nat.zero_testBit] at h
    cases h
  | k + 1, i, h => by
    rw [q_wx_s] at h
    split at h
    · rename_i e
      rw [Nat.testBit_or, Bool.or_eq_true] at h
      rcases h with h | h
      · obtain ⟨h1, h2⟩ := q_wx_bit L k i h
        exact ⟨by omega, h2⟩
      · rw [Nat.testBit_two_pow] at h
        have := of_decide_eq_true h
        subst this
        exact ⟨by omega, e⟩
    · obtain ⟨h1, h2⟩ := q_wx_bit L k i h
      exact ⟨by omega, h2⟩
/-- a set without those -/
def q_wo (s w : Nat) : Nat := s &&& (1023 ^^^ w)
theorem q_1023 : ∀ i, i < 10 → (1023 : Nat).testBit i = true := by decide
theorem q_wo_bit {s w i : Nat} (hi : i < 10) : (q_wo s w).testBit i = (s.testBit i && !w.testBit i) := by
  unfold q_wo
  rw [Nat.testBit_and, Nat.testBit_xor, q_1023 i hi]
  cases w.testBit i <;> simp
theorem q_wo_le (s w : Nat) : q_wo s w ≤ s := Nat.and_le_left
theorem q_wxs_wo {C : q_C} {s : Nat} (h10 : C.n ≤ 10) : ∀ k, k ≤ C.n → q_wxs C (q_wo s (q_wx C.L C.n)) k = q_wxs C s k
  | 0, _ => rfl
  | k + 1, h => by
    have ih := q_wxs_wo (C := C) (s := s) h10 k (by omega)
    rw [q_wxs_s, q_wxs_s, q_wo_bit (by omega), ih]
    cases e1 : s.testBit k with
    | false => simp
    | true =>
      cases e2 : (q_wx C.L C.n).testBit k with
      | false => simp
      | true =>
        have e3 := (q_wx_bit C.L C.n k e2).2
        simp only [Bool.not_true, Bool.and_false, Bool.false_eq_true, if_false, if_true]
        exact (q_pt_id (by rw [q_wxs_L C s k k 0 (by omega)]; exact e3)).symm
theorem q_pcs_wo (s w : Nat) : ∀ k, k ≤ 10 → q_pcs (q_wo s w) k ≤ q_pcs s k
  | 0, _ => Nat.le_refl _
  | k + 1, h => by
    have ih := q_pcs_wo s w k (by omega)
    unfold q_pcs
    rw [q_wo_bit (by omega)]
    cases s.testBit k <;> cases w.testBit k <;> simp <;> omega
theorem q_pcs_wo_lt (s w : Nat) {i : Nat} (h1 : s.testBit i = true) (h2 : w.testBit i = true) : ∀ k, k ≤ 10 → i < k → q_pcs (q_wo s w) k < q_pcs s k
  | 0, _, h => absurd h (by omega)
  | k + 1, h, hi => by
    unfold q_pcs
    rw [q_wo_bit (by omega)]
    by_cases e : i = k
    · subst e
      have ih := q_pcs_wo s w i (by omega)
      rw [h1, h2]
      simp
      omega
    · have ih := q_pcs_wo_lt s w h1 h2 k (by omega) (by omega)
      cases s.testBit k <;> cases w.testBit k <;> simp <;> omega
theorem q_pcs_le {s n : Nat} (hs : s < 2 ^ n) : ∀ k, q_pcs s k ≤ n
  | 0 => Nat.zero_le _
  | k + 1 => by
    by_cases e : k < n
    · have h : ∀ k, q_pcs s k ≤ k := fun k => by
        induction k with
        | zero => exact Nat.le_refl _
        | succ k ih =>
          unfold q_pcs
          split <;> omega
      have := h (k + 1)
      omega
    · have h : s.testBit k = false := Nat.testBit_lt_two_pow (Nat.lt_of_lt_of_le hs (Nat.pow_le_pow_right (by decide) (by omega)))
      unfold q_pcs
      rw [h]
      simp
      exact q_pcs_le hs k
theorem q_pc_len {s n : Nat} (hs : s < 2 ^ n) : q_pc s ≤ n := q_pcs_le hs 10
theorem q_sb : ∀ i, i < 10 → ∀ s, s < 1024 → ((nI s >>> (nI i &&& 31)) &&& 1) = if s.testBit i then 1 else 0 := by decide +kernel
theorem q_and (a b : Nat) : nI a &&& nI b = nI (a &&& b) := by
  apply Int32.toBitVec_inj.mp
  rw [Int32.toBitVec_and]
  exact BitVec.ofNat_and.symm
/-- whether none is dull then -/
noncomputable def q_cr (C : q_C) (s n : Nat) : Bool := decide (C.n = 0) || decide ((q_days (q_wxs C s C.n) n).ru 2 ≤ (q_days (q_wxs C s C.n) n).L (q_dull (q_days (q_wxs C s C.n) n).L C.n) 2)
theorem q_cr_wo {C : q_C} (h10 : C.n ≤ 10) (s n : Nat) : q_cr C (q_wo s (q_wx C.L C.n)) n = q_cr C s n := by
  unfold q_cr
  rw [q_wxs_wo h10 C.n (Nat.le_refl _)]
/-- the fewest, the least of these -/
def q_WS (P : Nat → Bool) (m : Nat) (v : Int32) : Prop := (v = -1000000005 ∧ ∀ s, s < m → P s = false) ∨ ∃ s, s < m ∧ v = nI s ∧ P s = true ∧ ∀ r, r < m → P r = true → q_pc s < q_pc r ∨ (q_pc s = q_pc r ∧ s ≤ r)
theorem q_WS_u {P : Nat → Bool} {m : Nat} {v w : Int32} (h1 : q_WS P m v) (h2 : q_WS P m w) : v = w := by
  rcases h1 with ⟨e1, a1⟩ | ⟨s, hs, e1, p1, a1⟩
  · rcases h2 with ⟨e2, a2⟩ | ⟨r, hr, e2, p2, a2⟩
    · rw [e1, e2]
    · rw [a1 r hr] at p2; cases p2
  · rcases h2 with ⟨e2, a2⟩ | ⟨r, hr, e2, p2, a2⟩
    · rw [a2 s hs] at p1; cases p1
    · have h3 := a1 r hr p2
      have h4 := a2 s hs p1
      rw [e1, e2, show s = r by omega]
section WX
variable {S : List en_S} {σ0 σ σ1 σ2 τ τ' : Nat → Nat → Int32} {cb d : Nat} {xs : List Int32} {C D : q_C} {G : q_G}
theorem x_waxed_loop (h : XC S σ0 σ cb C) (ok : q_ok C) : ∀ (m i N : Nat), i + m = C.n → m < N → mx_rn xs (mx_ev xs mx_P d) kk_X0_waxed N 4 [(0, .ref cb), (1, .int (nI (q_wx C.L i))), (2, .int (nI i))] [] (en S σ) = some (some (.int (nI (q_wx C.L C.n))), en S σ)
  | m, i, 0, _, h2 => absurd h2 (by omega)
  | 0, i, N + 1, h1, _ => by
    have h10 := ok.n
    rw [rn_X0_waxed_4, en_gi h.cl.1 rfl, h.r.n, if_pos (nI_le (by omega) (by omega)), ri0, show i = C.n by omega]
  | m + 1, i, N + 1, h1, h2 => by
    have h10 := ok.n
    have ih := x_waxed_loop h ok m (i + 1) N (by omega) (by omega)
    have hk := (ok.L i (by omega)).1
    rw [rn_X0_waxed_4, en_gi h.cl.1 rfl, h.r.n, if_neg (nI_ge (by omega) (by omega)), en_gr h.cl.1 rfl, cl_aa h.cl (by omega), en_gi (h.leg (by omega)) rfl, h.r.L i (by omega) 0 (by decide), nI_1, q_shl1 i (by omega), q_or, ← ih, q_wx_s]
    by_cases e : C.L i 0 = 3
    · rw [if_pos (by rw [e]; rfl), if_pos e]
    · rw [if_neg (show ¬ nI (C.L i 0) = 3 from fun x => e ((nI_eq (b := 3) (by omega) (by decide)).mp x)), if_neg e]
theorem x_waxed (h : XC S σ0 σ cb C) (ok : q_ok C) : mx_ev xs mx_P (d + 1) 38 [.ref cb] (en S σ) = some (some (.int (nI (q_wx C.L C.n))), en S σ) := by
  rw [ev_X0_waxed]
  exact x_waxed_loop h ok C.n 0 99999 (by omega) (by have := ok.n; omega)
theorem x_these_loop (h10 : C.n ≤ 10) {s : Nat} (hs : s < 1024) : ∀ (m i N : Nat) (σ : Nat → Nat → Int32), i + m = C.n → m < N → XC S σ0 σ cb (q_wxs C s i) → ∃ σ', mx_rn xs (mx_ev xs mx_P d) kk_X0_waxThese N 2 [(0, .ref cb), (1, .int (nI s)), (2, .int (nI i))] [] (en S σ) = some (none, en S σ') ∧ XC S σ0 σ' cb (q_wxs C s C.n)
  | m, i, 0, _, _, h2, _ => absurd h2 (by omega)
  | 0, i, N + 1, σ, h1, _, h => by
    have hn := q_wxs_n C s i
    rw [rn_X0_waxThese_2, en_gi h.cl.1 rfl, h.r.n, hn, if_pos (nI_le (by omega) (by omega)), rv0]
    have e : i = C.n := by omega
    subst e
    exact ⟨σ, rfl, h⟩
  | m + 1, i, N + 1, σ, h1, h2, h => by
    have hn := q_wxs_n C s i
    rw [rn_X0_waxThese_2, en_gi h.cl.1 rfl, h.r.n, hn, if_neg (nI_ge (by omega) (by omega)), q_sb i (by omega) s hs, nI_1]
    cases e : s.testBit i with
    | false =>
      rw [if_pos (show (if (false : Bool) = true then (1 : Int32) else 0) = 0 from rfl)]
      exact x_these_loop h10 hs m (i + 1) N σ (by omega) (by omega) (by rw [q_wxs_s, e]; exact h)
    | true =>
      rw [if_neg (show ¬ (if (true : Bool) = true then (1 : Int32) else 0) = 0 by decide), en_gr h.cl.1 rfl, cl_aa h.cl (by omega), en_pt (h.leg (by omega)) rfl]
      exact x_these_loop h10 hs m (i + 1) N _ (by omega) (by omega) (by rw [q_wxs_s, e]; exact h.put (i := i) (j := 0) (v := 3) (by omega))
theorem x_these (h : XC S σ0 σ cb C) (h10 : C.n ≤ 10) {s : Nat} (hs : s < 1024) : ∃ σ', mx_ev xs mx_P (d + 1) 39 [.ref cb, .int (nI s)] (en S σ) = some (none, en S σ') ∧ XC S σ0 σ' cb (q_wxs C s C.n) := by
  rw [ev_X0_waxThese]
  exact x_these_loop h10 hs C.n 0 99999 σ (by omega) (by omega) h
theorem x_hasDull (h : XC S σ0 σ cb C) (ok : q_ok C) : mx_ev xs mx_P (d + 2) 40 [.ref cb] (en S σ) = some (some (.int (if (decide (C.n = 0) || decide (C.ru 2 ≤ C.L (q_dull C.L C.n) 2)) then 0 else 1)), en S σ) := by
  have h10 := ok.n
  have hr := ok.r2
  rw [ev_X0_hasDull, en_gi h.cl.1 rfl, h.r.n]
  by_cases n0 : C.n = 0
  · rw [n0, if_pos (by decide), if_pos (by simp), ri1_0]
  · have hd : q_dull C.L C.n < C.n := q_dull_lt (by omega)
    have l2 := (ok.L _ hd).2.2.1
    rw [if_neg (nI_nle (by omega) (by omega)), en_gr h.cl.1 rfl, en_cl h.cl.1, cl_dullest h.cl (by omega) h10 h.r.n h.r.L ok.L, c1s, cl_aa h.cl (by omega), en_gi (h.leg (by omega)) rfl, h.r.L _ hd 2 (by decide), en_gr h.cl.1 rfl, en_aiW h.cl.2.2.1 (w := 2) (j := 2) rfl (by decide) (by decide), h.r.ru 2 (by decide)]
    by_cases c : C.ru 2 ≤ C.L (q_dull C.L C.n) 2
    · rw [if_pos (nI_le c (by omega)), ri1_0, if_pos (by rw [decide_eq_true c, Bool.or_true])]
    · rw [if_neg (nI_ge (by omega) (by omega)), ri1_1, if_neg (by rw [decide_eq_false c, decide_eq_false n0]; decide)]
/-- a chosen set, thought through -/
theorem x_cared (hX : XR S σ G) (ok : GO G) {n s : Nat} (hn : n ≤ 20) (hs : s < 1024) (t : thX σ τ) : ∃ τ1 τ2 τ3, mx_ev xs mx_P (d + 7) 126 [.ref 0] (en S τ) = some (some (.ref 35), en S τ1) ∧ mx_ev xs mx_P (d + 7) 39 [.ref 35, .int (nI s)] (en S τ1) = some (none, en S τ2) ∧ mx_ev xs mx_P (d + 7) 26 [.ref 35, .int (nI n)] (en S τ2) = some (none, en S τ3) ∧ mx_ev xs mx_P (d + 7) 40 [.ref 35] (en S τ3) = some (some (.int (if q_cr G.now s n then 0 else 1)), en S τ3) ∧ isCl S 35 ∧ thX σ τ3 := by
  have hday := ok.day
  obtain ⟨τ1, r1, x1⟩ := x_th (xs := xs) (d := d + 4) hX ok t
  obtain ⟨τ2, r2, x2⟩ := x_these (xs := xs) (d := d + 6) x1 ok.now.n hs
  have ok2 := q_ok_wxs ok.now s G.now.n
  obtain ⟨τ3, r3, x3⟩ := x_passDays (xs := xs) (d := d) (m := n) x2 ok2 (by omega) (by rw [q_wxs_day]; omega)
  have r4 := x_hasDull (xs := xs) (d := d + 5) x3 (q_ok_days ok2 n)
  rw [q_days_n, q_wxs_n] at r4
  exact ⟨τ1, τ2, τ3, r1, r2, r3, r4, x1.cl, t.go x3⟩
theorem m_cared_loop {n s : Nat} (hn : n ≤ 20) (hs : s < 1024) (ok : q_ok C) (hday : C.day ≤ 9999) (t : thN σ τ) : ∀ (m l N : Nat) (τ' : Nat → Nat → Int32), l + m = C.n → m < N → MC S τ τ' (q_wxs C s l) → ∃ τ2, mx_rn xs (mx_ev xs mx_P (d + 7)) kk_X7_isCaredFor N 2 [(0, .ref 90), (1, .int (nI s)), (2, .int (nI n)), (3, .int (nI l))] [] (en S τ') = some (some (.int (if q_cr C s n then 1 else 0)), en S τ2) ∧ thM σ τ2
  | m, l, 0, _, _, h2, _ => absurd h2 (by omega)
  | 0, l, N + 1, τ', h1, _, h => by
    have h10 := ok.n
    have e : l = C.n := by omega
    subst e
    have ok2 := q_ok_wxs ok s C.n
    obtain ⟨τ2, r2, m2⟩ := m_goesOn (xs := xs) (d := d) (m := n) h ok2 (by omega) (by rw [q_wxs_day]; omega)
    have ok3 := q_ok_days ok2 n
    obtain ⟨τ3, r3, t3, _⟩ := m_bk (xs := xs) (d := d + 5) h.mo (t.go m2)
    have n3 : (q_days (q_wxs C s C.n) n).n = C.n := by rw [q_days_n, q_wxs_n]
    have hr := ok3.r2
    refine ⟨τ3, ?_, t3⟩
    rw [rn_X7_isCaredFor_2, en_gr h.mo.o rfl, m_rd h (k := 1) (w := 1) (by decide) rfl, h.r.n, q_wxs_n, if_pos (Int32.le_refl _), en_cl h.mo.o, r2, c0s, en_cl h.mo.o]
    by_cases n0 : C.n = 0
    · rw [m_dullest0 (d := d + 5) h.mo (by rw [m2.r.n, n3, n0]; rfl), c1s, if_pos (by decide), en_cl h.mo.o, r3, c0s, ri1_1]
      unfold q_cr
      rw [decide_eq_true n0, Bool.true_or, if_pos rfl]
    · have hd : q_dull (q_days (q_wxs C s C.n) n).L C.n < C.n := q_dull_lt (by omega)
      have l2 := (ok3.L _ (by rw [n3]; exact hd)).2.2.1
      have q := m_dullest (xs := xs) (d := d + 5) (L := (q_days (q_wxs C s C.n) n).L) h.mo (n := C.n) (by omega) h10 (by rw [m2.r.n, n3]) (fun i hi j hj => m2.r.L i (by rw [n3]; exact hi) j hj) (fun i hi => ok3.L i (by rw [n3]; exact hi))
      rw [q, c1s, if_neg (nI_pos (by omega)), en_cl h.mo.o, m_of' m2 (w := 2) (j := 2) (by rw [n3]; exact hd) ok3.n (by decide) rfl, c1s, en_gr h.mo.o rfl, m_rd m2 (k := 5) (w := 5) (by decide) rfl, m2.r.ru 2 (by decide)]
      unfold q_cr
      rw [decide_eq_false n0, Bool.false_or]
      by_cases c : (q_days (q_wxs C s C.n) n).ru 2 ≤ (q_days (q_wxs C s C.n) n).L (q_dull (q_days (q_wxs C s C.n) n).L C.n) 2
      · rw [if_neg (nI_nlt c (by omega)), en_cl h.mo.o, r3, c0s, ri1_1, if_pos (decide_eq_true c)]
      · rw [if_pos (nI_lt (by omega) (by omega)), en_cl h.mo.o, r3, c0s, ri1_0, if_neg (by rw [decide_eq_false c]; decide)]
  | m + 1, l, N + 1, τ', h1, h2, h => by
    have h10 := ok.n
    have hn2 := q_wxs_n C s l
    rw [rn_X7_isCaredFor_2, en_gr h.mo.o rfl, m_rd h (k := 1) (w := 1) (by decide) rfl, h.r.n, hn2, if_neg (nI_ge (by omega) (by omega)), q_sb l (by omega) s hs, nI_1]
    cases e : s.testBit l with
    | false =>
      have h3 : MC S τ (en_up τ' 91 (11 + 6 * l + 0) (nI ((q_wxs C s l).L l 0))) (q_wxs C s l) := by
        have := h.put (i := l) (j := 0) (v := (q_wxs C s l).L l 0) (by omega) (by decide)
        rw [q_pt_id rfl] at this
        exact this
      rw [if_neg (show ¬ (if (false : Bool) = true then (1 : Int32) else 0) = 1 by decide), en_cl h.mo.o, m_of' h (w := 0) (j := 0) (by omega) (by omega) (by decide) rfl, c1s, en_cl h.mo.o, m_put' h (w := 0) (j := 0) (by omega) (by omega) (by decide) rfl, c0s]
      exact m_cared_loop hn hs ok hday t m (l + 1) N _ (by omega) (by omega) (by rw [q_wxs_s, e]; exact h3)
    | true =>
      rw [if_pos (show (if (true : Bool) = true then (1 : Int32) else 0) = 1 from rfl), en_cl h.mo.o, m_put' h (w := 0) (j := 0) (by omega) (by omega) (by decide) rfl, c0s]
      exact m_cared_loop hn hs ok hday t m (l + 1) N _ (by omega) (by omega) (by rw [q_wxs_s, e]; exact h.put (i := l) (j := 0) (v := 3) (by omega) (by decide))
theorem m_cared (hM : MR S σ G) (ok : GO G) {n s : Nat} (hn : n ≤ 20) (hs : s < 1024) (t : thM σ τ) : ∃ τ2, mx_ev xs mx_P (d + 8) 173 [.ref 90, .int (nI s), .int (nI n)] (en S τ) = some (some (.int (if q_cr G.now s n then 1 else 0)), en S τ2) ∧ thM σ τ2 := by
  rw [ev_X7_isCaredFor]
  exact m_cared_loop hn hs ok.now ok.day t.2 G.now.n 0 99999 τ (by omega) (by have := ok.now.n; omega) (t.mc hM ok)
theorem m_wax_loop (hM : MR S σ G) (ok : GO G) {n : Nat} (hn : n ≤ 20) : ∀ (m k N : Nat) (τ : Nat → Nat → Int32) (b : Int32), k + m = 2 ^ G.now.n → m < N → thM σ τ → q_WS (fun s => q_cr G.now s n) k b → ∃ v τ2, mx_rn xs (mx_ev xs mx_P (d + 8)) kk_X7_wax N 22 [(0, .ref 90), (1, .int (nI n)), (2, .int b), (3, .int (nI k))] [] (en S τ) = some (some (.int v), en S τ2) ∧ thM σ τ2 ∧ q_WS (fun s => q_cr G.now s n) (2 ^ G.now.n) v
  | m, k, 0, _, _, _, h2, _, _ => absurd h2 (by omega)
  | 0, k, N + 1, τ, b, h1, _, t, hb => by
    have h10 := ok.now.n
    have hp : 2 ^ G.now.n ≤ 1024 := show 2 ^ G.now.n ≤ 2 ^ 10 from Nat.pow_le_pow_right (by decide) h10
    have mc := t.mc hM ok
    rw [rn_X7_wax_22, en_gr hM.mo.o rfl, m_rd mc (k := 1) (w := 1) (by decide) rfl, mc.r.n, q_shl1 _ (by omega), if_pos (nI_le (by omega) (by omega)), ri0]
    refine ⟨b, τ, rfl, t, ?_⟩
    rw [← show k = 2 ^ G.now.n by omega]
    exact hb
  | m + 1, k, N + 1, τ, b, h1, h2, t, hb => by
    have h10 := ok.now.n
    have hp : 2 ^ G.now.n ≤ 1024 := show 2 ^ G.now.n ≤ 2 ^ 10 from Nat.pow_le_pow_right (by decide) h10
    have mc := t.mc hM ok
    obtain ⟨τ2, r2, t2⟩ := m_cared (xs := xs) (d := d) (n := n) (s := k) hM ok hn (by omega) t
    rw [rn_X7_wax_22, en_gr hM.mo.o rfl, m_rd mc (k := 1) (w := 1) (by decide) rfl, mc.r.n, q_shl1 _ (by omega), if_neg (nI_ge (by omega) (by omega)), nI_1]
    rcases hb with ⟨rfl, hb⟩ | ⟨s, hs, rfl, p, hb⟩
    · rw [if_pos rfl, if_neg (by decide), en_cl hM.mo.o, r2, c1s]
      by_cases c : q_cr G.now k n = true
      · rw [if_neg (show ¬ (if q_cr G.now k n = true then (1 : Int32) else 0) = 0 by rw [if_pos c]; decide)]
        refine m_wax_loop hM ok hn m (k + 1) N τ2 _ (by omega) (by omega) t2 (Or.inr ⟨k, by omega, rfl, c, fun r hr pr => ?_⟩)
        by_cases e : r = k
        · subst e; exact Or.inr ⟨rfl, Nat.le_refl _⟩
        · rw [hb r (by omega)] at pr; cases pr
      · rw [if_pos (show (if q_cr G.now k n = true then (1 : Int32) else 0) = 0 by rw [if_neg c])]
        refine m_wax_loop hM ok hn m (k + 1) N τ2 _ (by omega) (by omega) t2 (Or.inl ⟨rfl, fun r hr => ?_⟩)
        by_cases e : r = k
        · subst e; exact Bool.eq_false_iff.mpr c
        · exact hb r (by omega)
    · rw [if_neg (q_nI_ne (by omega) (by decide)), m_bits (by omega), c1s, m_bits (by omega), c1s]
      have b1 := q_pc_le s
      have b2 := q_pc_le k
      by_cases c0 : q_pc s ≤ q_pc k
      · rw [if_pos (nI_le c0 (by omega)), if_pos rfl]
        refine m_wax_loop hM ok hn m (k + 1) N τ _ (by omega) (by omega) t (Or.inr ⟨s, by omega, rfl, p, fun r hr pr => ?_⟩)
        by_cases e : r = k
        · subst e; omega
        · exact hb r (by omega) pr
      · rw [if_neg (nI_ge (by omega) (by omega)), if_neg (by decide), en_cl hM.mo.o, r2, c1s]
        by_cases c : q_cr G.now k n = true
        · rw [if_neg (show ¬ (if q_cr G.now k n = true then (1 : Int32) else 0) = 0 by rw [if_pos c]; decide)]
          refine m_wax_loop hM ok hn m (k + 1) N τ2 _ (by omega) (by omega) t2 (Or.inr ⟨k, by omega, rfl, c, fun r hr pr => ?_⟩)
          by_cases e : r = k
          · subst e; exact Or.inr ⟨rfl, Nat.le_refl _⟩
          · have := hb r (by omega) pr
            omega
        · rw [if_pos (show (if q_cr G.now k n = true then (1 : Int32) else 0) = 0 by rw [if_neg c])]
          refine m_wax_loop hM ok hn m (k + 1) N τ2 _ (by omega) (by omega) t2 (Or.inr ⟨s, by omega, rfl, p, fun r hr pr => ?_⟩)
          by_cases e : r = k
          · subst e; exact absurd pr c
          · exact hb r (by omega) pr
/-- what is known of the sets that the class has passed by -/
def q_gone (C : q_C) (n many k : Nat) : Prop := ∀ r, r < 2 ^ C.n → q_cr C r n = true → r &&& q_wx C.L C.n = 0 → many < q_pc r ∨ (q_pc r = many ∧ k ≤ r)
theorem q_gone_all (h10 : C.n ≤ 10) {n many k : Nat} (h : q_gone C n many k) {r : Nat} (hr : r < 2 ^ C.n) (p : q_cr C r n = true) : many < q_pc r ∨ (q_pc r = many ∧ k ≤ r) := by
  by_cases e : r &&& q_wx C.L C.n = 0
  · exact h r hr p e
  · obtain ⟨i, hi⟩ := Nat.exists_testBit_of_ne_zero e
    rw [Nat.testBit_and, Bool.and_eq_true] at hi
    have hi10 : i < 10 := by have := (q_wx_bit _ _ _ hi.2).1; omega
    have h1 := q_pcs_wo_lt r (q_wx C.L C.n) hi.1 hi.2 10 (by omega) hi10
    have h2 : q_pc (q_wo r (q_wx C.L C.n)) < q_pc r := h1
    have h3 := h (q_wo r (q_wx C.L C.n)) (Nat.lt_of_le_of_lt (q_wo_le _ _) hr) (by rw [q_cr_wo h10]; exact p) (by
      apply Nat.eq_of_testBit_eq
      intro j
      rw [Nat.testBit_and, Nat.zero_testBit]
      by_cases hj : j < 10
      · rw [q_wo_bit hj]
        cases (q_wx C.L C.n).testBit j <;> simp
      · have hw : (q_wx C.L C.n).testBit j = false := Nat.testBit_lt_two_pow (Nat.lt_of_lt_of_le (q_wx_lt C.L C.n) (Nat.pow_le_pow_right (by decide) (by omega)))
        rw [hw, Bool.and_false])
    omega
theorem x_wax_in (hX : XR S σ G) (ok : GO G) {n many : Nat} (hn : n ≤ 20) (hmany : many ≤ G.now.n) : ∀ (m k N : Nat) (τ : Nat → Nat → Int32), k + m = 2 ^ G.now.n → thX σ τ → q_gone G.now n many k → (∃ v τ2, mx_rn xs (mx_ev xs mx_P (d + 7)) kk_X6_wax (N + m + 1) 49 [(0, .ref 0), (1, .int (nI n)), (2, .int (nI (q_wx G.now.L G.now.n))), (3, .int (nI (2 ^ G.now.n))), (4, .int (nI many)), (5, .int (nI k))] [] (en S τ) = some (some (.int v), en S τ2) ∧ thX σ τ2 ∧ q_WS (fun s => q_cr G.now s n) (2 ^ G.now.n) v) ∨ (∃ τ2, mx_rn xs (mx_ev xs mx_P (d + 7)) kk_X6_wax (N + m + 1) 49 [(0, .ref 0), (1, .int (nI n)), (2, .int (nI (q_wx G.now.L G.now.n))), (3, .int (nI (2 ^ G.now.n))), (4, .int (nI many)), (5, .int (nI k))] [] (en S τ) = mx_rn xs (mx_ev xs mx_P (d + 7)) kk_X6_wax N 34 [(0, .ref 0), (1, .int (nI n)), (2, .int (nI (q_wx G.now.L G.now.n))), (3, .int (nI (2 ^ G.now.n))), (4, .int (nI (many + 1)))] [] (en S τ2) ∧ thX σ τ2 ∧ q_gone G.now n (many + 1) 0)
  | 0, k, N, τ, h1, t, g => by
    have h10 := ok.now.n
    have hp : 2 ^ G.now.n ≤ 1024 := show 2 ^ G.now.n ≤ 2 ^ 10 from Nat.pow_le_pow_right (by decide) h10
    rw [rn_X6_wax_49, if_pos (nI_le (by omega) (by omega)), nI_1]
    refine Or.inr ⟨τ, rfl, t, fun r hr p w => ?_⟩
    have := g r hr p w
    omega
  | m + 1, k, N, τ, h1, t, g => by
    have h10 := ok.now.n
    have hp : 2 ^ G.now.n ≤ 1024 := show 2 ^ G.now.n ≤ 2 ^ 10 from Nat.pow_le_pow_right (by decide) h10
    have hk : k < 1024 := by omega
    have hpc := q_pc_le k
    rw [show N + (m + 1) + 1 = (N + m + 1) + 1 by omega, rn_X6_wax_49, if_neg (nI_ge (by omega) (by omega)), j_bits hk, c1s, nI_1, q_and]
    by_cases c1 : q_pc k = many
    · rw [if_pos (by rw [c1])]
      by_cases c2 : k &&& q_wx G.now.L G.now.n = 0
      · obtain ⟨τ1, τ2, τ3, r1, r2, r3, r4, cl, t3⟩ := x_cared (xs := xs) (d := d) (n := n) (s := k) hX ok hn hk t
        rw [if_pos (by rw [c2]; rfl), en_cl hX.x.o, r1, c2s, en_cl cl.1, r2, c0s, en_cl cl.1, r3, c0s, en_cl cl.1, r4, c1s]
        by_cases c : q_cr G.now k n = true
        · rw [if_pos (show (if q_cr G.now k n = true then (0 : Int32) else 1) = 0 by rw [if_pos c]), ri0]
          refine Or.inl ⟨nI k, τ3, rfl, t3, Or.inr ⟨k, by omega, rfl, c, fun r hr p => ?_⟩⟩
          have := q_gone_all h10 g hr p
          omega
        · rw [if_neg (show ¬ (if q_cr G.now k n = true then (0 : Int32) else 1) = 0 by rw [if_neg c]; decide)]
          refine x_wax_in hX ok hn hmany m (k + 1) N τ3 (by omega) t3 (fun r hr p w => ?_)
          have h3 := g r hr p w
          by_cases e : r = k
          · subst e; exact absurd p c
          · omega
      · rw [if_neg (show ¬ nI (k &&& q_wx G.now.L G.now.n) = 0 from fun x => c2 ((nI_eq (b := 0) (Nat.lt_of_le_of_lt Nat.and_le_left (by omega)) (by decide)).mp x))]
        refine x_wax_in hX ok hn hmany m (k + 1) N τ (by omega) t (fun r hr p w => ?_)
        have h3 := g r hr p w
        by_cases e : r = k
        · subst e; exact absurd w c2
        · omega
    · rw [if_neg (fun x => c1 ((nI_eq (by omega) (by omega)).mp x))]
      refine x_wax_in hX ok hn hmany m (k + 1) N τ (by omega) t (fun r hr p w => ?_)
      have h3 := g r hr p w
      by_cases e : r = k
      · subst e; omega
      · omega
theorem x_wax_loop (hX : XR S σ G) (ok : GO G) {n K : Nat} (hK : K = 1026) (hn : n ≤ 20) : ∀ (m many N : Nat) (τ : Nat → Nat → Int32), many + m = G.now.n + 1 → m * K < N → thX σ τ → q_gone G.now n many 0 → ∃ v τ2, mx_rn xs (mx_ev xs mx_P (d + 7)) kk_X6_wax N 34 [(0, .ref 0), (1, .int (nI n)), (2, .int (nI (q_wx G.now.L G.now.n))), (3, .int (nI (2 ^ G.now.n))), (4, .int (nI many))] [] (en S τ) = some (some (.int v), en S τ2) ∧ thX σ τ2 ∧ q_WS (fun s => q_cr G.now s n) (2 ^ G.now.n) v
  | m, many, 0, _, _, h2, _, _ => absurd h2 (by omega)
  | 0, many, N + 1, τ, h1, _, t, g => by
    have h10 := ok.now.n
    have c := t.now hX ok
    rw [rn_X6_wax_34, en_gr hX.x.o rfl, en_gi hX.x.c1.1 rfl, c.n, if_pos (nI_lt (by omega) (by omega)), ri0]
    refine ⟨_, τ, rfl, t, Or.inl ⟨rfl, fun r hr => ?_⟩⟩
    cases e : q_cr G.now r n with
    | false => exact e
    | true =>
      have h3 := q_gone_all h10 g hr e
      have h4 := q_pc_len hr
      omega
  | m + 1, many, N + 1, τ, h1, h2, t, g => by
    have h10 := ok.now.n
    have hp : 2 ^ G.now.n ≤ 1024 := show 2 ^ G.now.n ≤ 2 ^ 10 from Nat.pow_le_pow_right (by decide) h10
    have c := t.now hX ok
    rw [Nat.succ_mul] at h2
    obtain ⟨N', rfl⟩ : ∃ n', N = n' + 2 ^ G.now.n + 1 := ⟨N - 2 ^ G.now.n - 1, by omega⟩
    rw [rn_X6_wax_34, en_gr hX.x.o rfl, en_gi hX.x.c1.1 rfl, c.n, if_neg (nI_nlt (by omega) (by omega))]
    have q := x_wax_in (xs := xs) (d := d) hX ok (n := n) (many := many) hn (by omega) (2 ^ G.now.n) 0 N' τ (by omega) t g
    rcases q with ⟨v, τ2, r2, t2, w2⟩ | ⟨τ2, r2, t2, g2⟩
    · exact ⟨v, τ2, r2, t2, w2⟩
    · have r2' : mx_rn xs (mx_ev xs mx_P (d + 7)) kk_X6_wax (N' + 2 ^ G.now.n + 1) 49 [(0, .ref 0), (1, .int (nI n)), (2, .int (nI (q_wx G.now.L G.now.n))), (3, .int (nI (2 ^ G.now.n))), (4, .int (nI many)), (5, .int 0)] [] (en S τ) = _ := r2
      rw [r2']
      exact x_wax_loop hX ok hK hn m (many + 1) N' τ2 (by omega) (by omega) t2 g2
theorem t_wax (a1 : Int32) : St xs 98 174 [.int a1] := by
  intro S σ G hX hM ok
  have h10 := ok.now.n
  rw [ev_X6_wax, x_within, c1s]
  rcases q_w_c a1 (h := 20) (z := 20) rfl (by decide) with e1 | ⟨n, hn, rfl, e1⟩
  · rw [e1, if_pos rfl, ri0]
    refine ⟨σ, σ, _, rfl, ?_, RR_same hX hM ok⟩
    rw [ev_X7_wax, m_in', c1s, e1, if_pos rfl, ri0]
  obtain ⟨v, τ2, r2, t2, w2⟩ := x_wax_loop (xs := xs) (d := 4) hX ok (K := 1026) rfl hn (G.now.n + 1) 0 99999 σ (by omega) (by omega) thX.r (fun r hr p w => by omega)
  have hM1 := t2.m hM
  obtain ⟨υ, s1, t1⟩ := m_th (xs := xs) (d := 9) hM1
  have hp : 2 ^ G.now.n ≤ 1024 := show 2 ^ G.now.n ≤ 2 ^ 10 from Nat.pow_le_pow_right (by decide) h10
  obtain ⟨v', υ2, s2, t3, w3⟩ := m_wax_loop (xs := xs) (d := 3) hM1 ok hn (2 ^ G.now.n) 0 99999 υ (-1000000005) (by omega) (by omega) t1 (Or.inl ⟨rfl, fun s hs => absurd hs (by omega)⟩)
  rw [q_WS_u w3 w2] at s2
  rw [e1, if_neg (by decide), en_gr hX.x.o rfl, en_cl hX.x.c1.1, x_waxed hX.xc ok.now, c1s, en_gr hX.x.o rfl, en_gi hX.x.c1.1 rfl, hX.now.n, q_shl1 _ (by omega)]
  refine ⟨τ2, υ2, v, r2, ?_, RR_th hX hM ok t2 t3⟩
  rw [ev_X7_wax, m_in', c1s, e1, if_neg (by decide), en_cl hM.mo.o, s1, c0s]
  exact s2
end WX
