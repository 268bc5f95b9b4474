/-! ===== mark, pour, reads, copy ===== -/
section MK
variable {S : List en_S} {σ0 σ σ1 σ2 : Nat → Nat → Int32} {cb d : Nat} {xs : List Int32} {C D : q_C} {G : q_G}
/-- one place of a sheet, on both sides -/
theorem RR_mark (hX : XR S σ G) (hM : MR S σ G) (ok : GO G) {i p : Nat} (v : Int32) (hi : i < 4) (hp : p < 24) : RR S (en_up (en_up σ (63 + 2 * i) p v) 105 (24 * i + p) v) := by
  have xf : ∀ b, b ≠ 62 + 2 * i → b ≠ 63 + 2 * i → en_up σ (63 + 2 * i) p v b = σ b := fun b _ hb => by unfold en_up; rw [if_neg hb]
  refine RR_sheet (σ1 := en_up σ (63 + 2 * i) p v) hX hM ok (c := upd (G.ce i) p v) hi (ok.so i hi) (ok.sz i hi) ?_ ?_ (fun k hk => ?_) xf (fun j hj => ?_) (fun j hj => ?_) (fun j hj k hk => ?_) (fun b h1 h2 h3 _ => ?_)
  · rw [en_up_a (by omega)]; exact hX.so i hi
  · rw [en_up_a (by omega)]; exact hX.sz i hi
  · rw [en_up_i, hX.ce i hi k hk]
    unfold upd
    by_cases e : k = p
    · rw [if_pos ⟨rfl, e⟩, if_pos e]
    · rw [if_neg (fun x => e x.2), if_neg e]
  · rw [en_up_a (by decide), xf 103 (by omega) (by omega)]
    split
    · rename_i e; subst e; exact hM.so j hj
    · rfl
  · rw [en_up_a (by decide), xf 104 (by omega) (by omega)]
    split
    · rename_i e; subst e; exact hM.sz j hj
    · rfl
  · rw [en_up_i, xf 105 (by omega) (by omega)]
    by_cases e : j = i
    · subst e
      rw [if_pos rfl]
      unfold upd
      by_cases e2 : k = p
      · rw [if_pos ⟨rfl, by omega⟩, if_pos e2]
      · rw [if_neg (fun x => e2 (by have := x.2; omega)), if_neg e2]
        exact hM.ce j hj k hk
    · rw [if_neg (by omega), if_neg e]
  · unfold en_up; rw [if_neg h3]
theorem t_mark (a1 a2 a3 : Int32) : St xs 113 204 [.int a1, .int a2, .int a3] := by
  intro S σ G hX hM ok
  rw [ev_X6_mark, x_isSheet, c1s]
  rcases q_w_c a1 (h := 3) (z := 3) rfl (by decide) with e1 | ⟨i, hi, rfl, e1⟩
  · rw [e1, if_pos rfl, ri0]
    refine ⟨σ, σ, _, rfl, ?_, RR_same hX hM ok⟩
    rw [ev_X7_mark, m_isSheet, c1s, e1, if_pos rfl, ri0]
  have hi4 : i < 4 := by omega
  have hso := hX.x.so i hi4
  rw [e1, if_neg (by decide), en_gr hX.x.o rfl, x_sh hX.x hi4, en_cl hso, x_miss hso, c1s, hX.so i hi4]
  rcases so_c ok hi4 with em | ⟨em, e0, e0'⟩
  · rw [em, if_pos rfl, if_neg (by decide), ri0]
    refine ⟨σ, σ, _, rfl, ?_, RR_same hX hM ok⟩
    rw [ev_X7_mark, m_isSheet, c1s, e1, if_neg (by decide), en_gr hM.mo.o rfl, en_aiN hM.mo.so hi4 (by decide), hM.so i hi4, em, if_neg (by decide), ri0]
  have h24 := ok.sz i hi4
  rw [if_neg em, if_pos rfl, en_cl hso, x_place hso (hX.sz i hi4), c1s]
  rcases q_hl_c a2 (n := G.sz i) (by omega) with e2 | ⟨p, hp, rfl, e2⟩
  · rw [e2, if_pos rfl, ri0]
    refine ⟨σ, σ, _, rfl, ?_, RR_same hX hM ok⟩
    rw [ev_X7_mark, m_isSheet, c1s, e1, if_neg (by decide), en_gr hM.mo.o rfl, en_aiN hM.mo.so hi4 (by decide), hM.so i hi4, if_pos e0, en_gr hM.mo.o rfl, en_aiN hM.mo.sz hi4 (by decide), hM.sz i hi4, m_in', c1s, q_w_hl _ (by omega), e2, if_pos rfl, ri0]
  have ei : (24 : Int32) * nI i + nI p = nI (24 * i + p) := by rw [show (24 : Int32) = nI 24 from rfl, pk_mul, nI_add]
  have hsp := hX.x.sp i hi4
  have M0 : ∀ τ : Nat → Nat → Int32, (∀ b, 90 ≤ b → b < 112 → τ b = σ b) → mx_ev xs mx_P 12 204 [.ref 90, .int (nI i), .int (nI p), .int a3] (en S τ) = (if G.so i = 0 then if a3 = -1000000005 then some (some (.int (-1000000012)), en S τ) else some (some (.int 1), en S (en_up τ 105 (24 * i + p) a3.toInt16.toInt32)) else if a3 = -1000000005 then some (some (.int 1), en S (en_up τ 105 (24 * i + p) a3)) else if q_w a3 (-99999) 99999 = 0 then some (some (.int (-1000000001)), en S τ) else some (some (.int 1), en S (en_up τ 105 (24 * i + p) a3))) := fun τ hτ => by
    have s1 : τ 103 i = G.so i := by rw [hτ 103 (by omega) (by omega)]; exact hM.so i hi4
    have s2 : τ 104 i = nI (G.sz i) := by rw [hτ 104 (by omega) (by omega)]; exact hM.sz i hi4
    have q1 : ∀ f : Int32 → mx_R, mx_ai (en S τ) 103 0 (nI i) f = f (G.so i) := fun f => by rw [en_aiN hM.mo.so hi4 (by decide), s1]
    rcases (show G.so i = 0 ∨ G.so i = 1 by rcases ok.so i hi4 with e | e | e; exact absurd e em; exact Or.inl e; exact Or.inr e) with es | es
    · by_cases c : a3 = -1000000005
      · rw [if_pos es, if_pos c]
        rw [ev_X7_mark, m_isSheet, c1s, e1, if_neg (by decide), en_gr hM.mo.o rfl, q1, if_pos e0, en_gr hM.mo.o rfl, en_aiN hM.mo.sz hi4 (by decide), s2, m_in', c1s, q_w_hl _ (by omega), e2, if_neg (by decide), en_gr hM.mo.o rfl, q1]
        rw [es, if_pos rfl, if_pos c, ri0]
      · rw [if_pos es, if_neg c]
        rw [ev_X7_mark, m_isSheet, c1s, e1, if_neg (by decide), en_gr hM.mo.o rfl, q1, if_pos e0, en_gr hM.mo.o rfl, en_aiN hM.mo.sz hi4 (by decide), s2, m_in', c1s, q_w_hl _ (by omega), e2, if_neg (by decide), en_gr hM.mo.o rfl, q1]
        rw [es] at q1 ⊢
        rw [if_pos rfl, if_neg c, en_gr hM.mo.o rfl, q1, if_neg (by decide), en_gr hM.mo.o rfl, en_gr hM.mo.o rfl, q1, if_pos rfl, ei, en_asN hM.mo.ce (by omega) (by decide), ri0]
    · have es0 : ¬ G.so i = 0 := by rw [es]; decide
      by_cases c : a3 = -1000000005
      · rw [if_neg es0, if_pos c]
        rw [ev_X7_mark, m_isSheet, c1s, e1, if_neg (by decide), en_gr hM.mo.o rfl, q1, if_pos e0, en_gr hM.mo.o rfl, en_aiN hM.mo.sz hi4 (by decide), s2, m_in', c1s, q_w_hl _ (by omega), e2, if_neg (by decide), en_gr hM.mo.o rfl, q1]
        rw [es] at q1 ⊢
        rw [if_neg (by decide), en_gr hM.mo.o rfl, q1, if_pos rfl, if_pos c, en_gr hM.mo.o rfl, en_gr hM.mo.o rfl, q1, if_neg (by decide), ei, en_asN hM.mo.ce (by omega) (by decide), ri0]
      · by_cases c2 : q_w a3 (-99999) 99999 = 0
        · rw [if_neg es0, if_neg c, if_pos c2]
          rw [ev_X7_mark, m_isSheet, c1s, e1, if_neg (by decide), en_gr hM.mo.o rfl, q1, if_pos e0, en_gr hM.mo.o rfl, en_aiN hM.mo.sz hi4 (by decide), s2, m_in', c1s, q_w_hl _ (by omega), e2, if_neg (by decide), en_gr hM.mo.o rfl, q1]
          rw [es] at q1 ⊢
          rw [if_neg (by decide), en_gr hM.mo.o rfl, q1, if_pos rfl, if_neg c, m_in', c1s, if_pos c2, ri0]
        · rw [if_neg es0, if_neg c, if_neg c2]
          rw [ev_X7_mark, m_isSheet, c1s, e1, if_neg (by decide), en_gr hM.mo.o rfl, q1, if_pos e0, en_gr hM.mo.o rfl, en_aiN hM.mo.sz hi4 (by decide), s2, m_in', c1s, q_w_hl _ (by omega), e2, if_neg (by decide), en_gr hM.mo.o rfl, q1]
          rw [es] at q1 ⊢
          rw [if_neg (by decide), en_gr hM.mo.o rfl, q1, if_pos rfl, if_neg c, m_in', c1s, if_neg c2, en_gr hM.mo.o rfl, en_gr hM.mo.o rfl, q1, if_neg (by decide), ei, en_asN hM.mo.ce (by omega) (by decide), ri0]
  have hfr : ∀ v b, 90 ≤ b → b < 112 → en_up σ (63 + 2 * i) p v b = σ b := fun v b h1 h2 => by unfold en_up; rw [if_neg (by omega)]
  rw [e2, if_neg (by decide), en_gi hso rfl, hX.so i hi4]
  by_cases es : G.so i = 0
  · rw [if_pos es]
    by_cases c : a3 = -1000000005
    · rw [if_pos c, ri0]
      refine ⟨σ, σ, _, rfl, ?_, RR_same hX hM ok⟩
      rw [M0 σ (fun b _ _ => rfl), if_pos es, if_pos c]
    · rw [if_neg c, en_gr hso rfl, en_asN hsp (by omega) (by decide), ri0]
      refine ⟨_, _, _, rfl, ?_, RR_mark hX hM ok a3.toInt16.toInt32 hi4 (show p < 24 by omega)⟩
      rw [M0 _ (hfr _), if_pos es, if_neg c]
  · rw [if_neg es]
    by_cases c : a3 = -1000000005
    · rw [if_pos c, en_gr hso rfl, en_asN hsp (by omega) (by decide), ri0]
      refine ⟨_, _, _, rfl, ?_, RR_mark hX hM ok a3 hi4 (show p < 24 by omega)⟩
      rw [M0 _ (hfr _), if_neg es, if_pos c]
    · rw [if_neg c, x_within, c1s]
      by_cases c2 : q_w a3 (-99999) 99999 = 0
      · rw [if_pos c2, ri0]
        refine ⟨σ, σ, _, rfl, ?_, RR_same hX hM ok⟩
        rw [M0 σ (fun b _ _ => rfl), if_neg es, if_neg c, if_pos c2]
      · rw [if_neg c2, en_gr hso rfl, en_asN hsp (by omega) (by decide), ri0]
        refine ⟨_, _, _, rfl, ?_, RR_mark hX hM ok a3 hi4 (show p < 24 by omega)⟩
        rw [M0 _ (hfr _), if_neg es, if_neg c, if_neg c2]
theorem t_reads (a1 : Int32) : St xs 115 206 [.int a1] := by
  intro S σ G hX hM ok
  refine ⟨σ, σ, ?_⟩
  rw [ev_X6_reads, ev_X7_reads, x_isSheet, c1s, m_isSheet, c1s]
  rcases q_w_c a1 (h := 3) (z := 3) rfl (by decide) with e1 | ⟨i, hi, rfl, e1⟩
  · rw [e1, if_pos rfl, if_pos rfl]
    exact ⟨_, rfl, rfl, RR_same hX hM ok⟩
  have hi4 : i < 4 := by omega
  have hso := hX.x.so i hi4
  have hsp := hX.x.sp i hi4
  have h24 := ok.sz i hi4
  have h10 := ok.now.n
  rw [e1, if_neg (by decide), if_neg (by decide), en_gr hX.x.o rfl, x_sh hX.x hi4, en_cl hso, x_miss hso, c1s, hX.so i hi4, en_gr hM.mo.o rfl, en_aiN hM.mo.so hi4 (by decide), hM.so i hi4]
  rcases so_c ok hi4 with em | ⟨em, e0, e0'⟩
  · rw [em, if_pos rfl, if_neg (by decide), if_neg (by decide)]
    exact ⟨_, rfl, rfl, RR_same hX hM ok⟩
  rw [if_neg em, if_pos rfl, if_pos e0]
  have loop : ∀ (m k N : Nat), k + m = G.sz i → m < N → ∃ v, mx_rn xs (mx_ev xs mx_P 11) kk_X6_reads N 29 [(0, .ref 0), (2, .ref (62 + 2 * i)), (3, .int (nI k))] [] (en S σ) = some (some (.int v), en S σ) ∧ mx_rn xs (mx_ev xs mx_P 11) kk_X7_reads N 24 [(0, .ref 90), (1, .int (nI i)), (2, .int (nI k))] [] (en S σ) = some (some (.int v), en S σ) := by
    intro m
    induction m with
    | zero =>
      intro k N h1 h2
      obtain ⟨N, rfl⟩ : ∃ n, N = n + 1 := ⟨N - 1, by omega⟩
      have e : k = G.sz i := by omega
      subst e
      rw [rn_X6_reads_29, rn_X7_reads_24, en_gi hso rfl, hX.sz i hi4, if_pos (Int32.le_refl _), en_gr hM.mo.o rfl, en_aiN hM.mo.sz hi4 (by decide), hM.sz i hi4, if_pos (Int32.le_refl _)]
      exact ⟨_, rfl, rfl⟩
    | succ m ih =>
      intro k N h1 h2
      obtain ⟨N, rfl⟩ : ∃ n, N = n + 1 := ⟨N - 1, by omega⟩
      have ih' := ih (k + 1) N (by omega) (by omega)
      have ei : (24 : Int32) * nI i + nI k = nI (24 * i + k) := by rw [show (24 : Int32) = nI 24 from rfl, pk_mul, nI_add]
      rw [rn_X6_reads_29, rn_X7_reads_24, en_gi hso rfl, hX.sz i hi4, if_neg (nI_ge (by omega) (by omega)), en_cl hso, x_number hso hsp (hX.sz i hi4) h24 (show k < G.sz i by omega), c1s, hX.ce i hi4 k (by omega), en_gr hM.mo.o rfl, en_aiN hM.mo.sz hi4 (by decide), hM.sz i hi4]
      by_cases cn : G.ce i k = -1000000005
      · rw [if_pos cn, if_pos rfl, if_neg (nI_ge (by omega) (by omega)), en_gr hM.mo.o rfl, ei, en_aiN hM.mo.ce (by omega) (by decide), hM.ce i hi4 k (by omega), if_pos cn, nI_1]
        exact ih'
      · rw [if_neg cn, if_neg (by decide), en_gr hX.x.o rfl, en_cl hX.x.c1.1, x_has hX.xc h10, c1s]
        rcases q_hl_c (nI k) (n := G.now.n) (by omega) with eh | ⟨k', hk', ek, eh⟩
        · rw [eh, if_pos rfl, if_neg (nI_ge (by omega) (by omega)), en_gr hM.mo.o rfl, ei, en_aiN hM.mo.ce (by omega) (by decide), hM.ce i hi4 k (by omega), if_neg cn, en_cl hM.mo.o, m_isLeg hM.mc h10, c1s, eh, if_pos rfl]
          exact ⟨_, rfl, rfl⟩
        · have hkn : k < G.now.n := by have := (nI_eq (by omega) (by omega)).mp ek; omega
          have hl := hX.xc.leg (i := k) (by omega)
          have hq := hX.now.L k hkn
          rw [eh, if_neg (by decide), en_gr hso rfl, en_aiN hsp (by omega) (by decide), hX.ce i hi4 k (by omega), en_gr hX.x.o rfl, en_gr hX.x.c1.1 rfl, cl_aa hX.x.c1 (by omega), en_gi hl rfl, hq 1 (by decide)]
          by_cases cp : G.ce i k = nI (G.now.L k 1)
          · rw [if_pos cp, if_neg (nI_ge (by omega) (by omega)), en_gr hM.mo.o rfl, ei, en_aiN hM.mo.ce (by omega) (by decide), hM.ce i hi4 k (by omega), if_neg cn, en_cl hM.mo.o, m_isLeg hM.mc h10, c1s, eh, if_neg (by decide), en_cl hM.mo.o, m_of' hM.mc (w := 1) (j := 1) hkn h10 (by decide) rfl, c1s, if_pos cp, nI_1]
            exact ih'
          · rw [if_neg cp, if_neg (nI_ge (by omega) (by omega)), en_gr hM.mo.o rfl, ei, en_aiN hM.mo.ce (by omega) (by decide), hM.ce i hi4 k (by omega), if_neg cn, en_cl hM.mo.o, m_isLeg hM.mc h10, c1s, eh, if_neg (by decide), en_cl hM.mo.o, m_of' hM.mc (w := 1) (j := 1) hkn h10 (by decide) rfl, c1s, if_neg cp]
            exact ⟨_, rfl, rfl⟩
  obtain ⟨v, l1, l2⟩ := loop (G.sz i) 0 99999 (by omega) (by omega)
  exact ⟨v, l1, l2, RR_same hX hM ok⟩
end MK
