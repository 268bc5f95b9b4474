/-! ===== rest, item, ask ===== -/
section SL
variable {S : List en_S} {σ0 σ σ1 σ2 : Nat → Nat → Int32} {cb d : Nat} {xs : List Int32} {C D : q_C} {G : q_G}
theorem q_rm_m1 (x : Int32) : mx_rm x (-1) = 0 := by
  have e : x / (-1) = -x := by
    apply Int32.toInt_inj.mp
    rw [Int32.toInt_div, show (-1 : Int32).toInt = -1 by decide, Int32.toInt_neg, Int.tdiv_neg, Int.tdiv_one]
  unfold mx_rm
  rw [e, Int32.neg_mul, Int32.mul_neg, Int32.mul_one, Int32.neg_neg, Int32.sub_self]
theorem t_rest (a1 a2 : Int32) : St xs 120 211 [.int a1, .int a2] := by
  intro S σ G hX hM ok
  refine ⟨σ, σ, ?_⟩
  rw [ev_X6_rest, ev_X7_rest, x_isSlot, c1s, m_isSlot, c1s]
  rcases q_w_c a1 (h := 4) (z := 4) rfl (by decide) with e1 | ⟨i, hi, rfl, e1⟩
  · rw [e1, if_pos rfl, if_pos rfl]
    exact ⟨_, rfl, rfl, RR_same hX hM ok⟩
  have hi5 : i < 5 := by omega
  have ht := ok.th i hi5
  have hlo := hX.x.lo i hi5
  rw [e1, if_neg (by decide), if_neg (by decide), en_gr hX.x.o rfl, x_sl hX.x hi5, en_gi hlo rfl, en_gi hlo rfl, hX.th i hi5, en_gr hM.mo.o rfl, en_aiN hM.mo.ho hi5 (by decide), en_gr hM.mo.o rfl, en_aiN hM.mo.ho hi5 (by decide), hM.th i hi5]
  rcases (show G.th i = 0 ∨ G.th i = 1 ∨ G.th i = 2 ∨ G.th i = 3 by omega) with e | e | e | e <;> rw [e]
  · rw [if_pos (by decide), if_pos (by decide)]
    exact ⟨_, rfl, rfl, RR_same hX hM ok⟩
  · rw [if_neg (by decide), if_neg (by decide), if_neg (by decide), if_neg (by decide)]
    exact ⟨_, rfl, rfl, RR_same hX hM ok⟩
  · rw [if_neg (by decide), if_neg (by decide), if_neg (by decide), if_neg (by decide)]
    exact ⟨_, rfl, rfl, RR_same hX hM ok⟩
  · by_cases c : a2 = 0
    · rw [if_neg (by decide), if_pos (by decide), if_pos c, if_neg (by decide), if_pos (by decide), if_pos c]
      exact ⟨_, rfl, rfl, RR_same hX hM ok⟩
    · rw [if_neg (by decide), if_pos (by decide), if_neg c, en_gi hlo rfl, if_neg c, hX.nu i hi5 e, if_neg (by decide), if_pos (by decide), if_neg c, en_gr hM.mo.o rfl, en_aiN hM.mo.ha hi5 (by decide), hM.h3 i hi5 e, if_neg c]
      by_cases c1 : a2 = -1
      · rw [if_pos c1, c1, q_rm_m1]
        exact ⟨_, rfl, rfl, RR_same hX hM ok⟩
      · rw [if_neg c1]
        exact ⟨_, rfl, rfl, RR_same hX hM ok⟩
theorem t_item (a1 a2 : Int32) : St xs 119 210 [.int a1, .int a2] := by
  intro S σ G hX hM ok
  refine ⟨σ, σ, ?_⟩
  rw [ev_X6_item, ev_X7_item, x_isSlot, c1s, m_isSlot, c1s]
  rcases q_w_c a1 (h := 4) (z := 4) rfl (by decide) with e1 | ⟨i, hi, rfl, e1⟩
  · rw [e1, if_pos rfl, if_pos rfl]
    exact ⟨_, rfl, rfl, RR_same hX hM ok⟩
  have hi5 : i < 5 := by omega
  have ht := ok.th i hi5
  have hlo := hX.x.lo i hi5
  have hlr := hX.x.lr i hi5
  rw [e1, if_neg (by decide), if_neg (by decide), en_gr hX.x.o rfl, x_sl hX.x hi5, en_gi hlo rfl, en_gi hlo rfl, hX.th i hi5, en_gr hM.mo.o rfl, en_aiN hM.mo.ho hi5 (by decide), en_gr hM.mo.o rfl, en_aiN hM.mo.ho hi5 (by decide), hM.th i hi5]
  rcases (show G.th i = 0 ∨ G.th i = 1 ∨ G.th i = 3 ∨ G.th i = 2 by omega) with e | e | e | e <;> rw [e]
  · rw [if_pos (by decide), if_pos (by decide)]
    exact ⟨_, rfl, rfl, RR_same hX hM ok⟩
  · rw [if_neg (by decide), if_neg (by decide), if_neg (by decide), if_neg (by decide)]
    exact ⟨_, rfl, rfl, RR_same hX hM ok⟩
  · rw [if_neg (by decide), if_neg (by decide), if_neg (by decide), if_neg (by decide)]
    exact ⟨_, rfl, rfl, RR_same hX hM ok⟩
  · have h24 := ok.rs i hi5 e
    rw [if_neg (by decide), if_pos (by decide), if_neg (by decide), if_pos (by decide), en_gr hlo rfl, en_cl hlr, x_place hlr (hX.rs i hi5 e), c1s, en_gr hM.mo.o rfl, en_aiN hM.mo.ha hi5 (by decide), (hM.h2 i hi5 e).1, m_in', c1s, q_w_hl _ (by omega)]
    rcases q_hl_c a2 (n := G.rs i) (by omega) with e2 | ⟨p, hp, rfl, e2⟩
    · rw [e2, if_pos rfl, if_pos rfl]
      exact ⟨_, rfl, rfl, RR_same hX hM ok⟩
    have ei : (24 : Int32) * nI i + nI p = nI (24 * i + p) := by rw [show (24 : Int32) = nI 24 from rfl, pk_mul, nI_add]
    rw [e2, if_neg (by decide), if_neg (by decide), en_gr hlo rfl, en_cl hlr, x_number hlr (hX.x.lp i hi5) (hX.rs i hi5 e) h24 hp, c1s, hX.rc i hi5 e p (by omega), en_gr hM.mo.o rfl, ei, en_aiN hM.mo.hc (by omega) (by decide), (hM.h2 i hi5 e).2 p (by omega)]
    by_cases c : G.rc i p = -1000000005
    · rw [if_pos c, if_pos rfl, if_pos c]
      exact ⟨_, rfl, rfl, RR_same hX hM ok⟩
    · rw [if_neg c, if_neg (by decide), if_neg c, en_gr hlo rfl, en_gr hlr rfl, en_aiN (hX.x.lp i hi5) (by omega) (by decide), hX.rc i hi5 e p (by omega)]
      exact ⟨_, rfl, rfl, RR_same hX hM ok⟩
theorem t_ask (a1 a2 : Int32) : St xs 118 209 [.int a1, .int a2] := by
  intro S σ G hX hM ok
  refine ⟨σ, σ, ?_⟩
  rw [ev_X6_ask, ev_X7_ask, x_isSlot, c1s, m_isSlot, c1s]
  rcases q_w_c a1 (h := 4) (z := 4) rfl (by decide) with e1 | ⟨i, hi, rfl, e1⟩
  · rw [e1, if_pos rfl, if_pos rfl]
    exact ⟨_, rfl, rfl, RR_same hX hM ok⟩
  rw [e1, if_neg (by decide), if_neg (by decide), x_isKind, c1s, m_in', c1s]
  rcases q_w_c a2 (h := 5) (z := 5) rfl (by decide) with e2 | ⟨k, hk, rfl, e2⟩
  · rw [e2, if_pos rfl, if_pos rfl]
    exact ⟨_, rfl, rfl, RR_same hX hM ok⟩
  have hi5 : i < 5 := by omega
  have ht := ok.th i hi5
  have hlo := hX.x.lo i hi5
  have hll := hX.x.ll i hi5
  rw [e2, if_neg (by decide), if_neg (by decide), en_gr hX.x.o rfl, x_sl hX.x hi5, en_gi hlo rfl, en_gi hlo rfl, hX.th i hi5, en_gr hM.mo.o rfl, en_aiN hM.mo.ho hi5 (by decide), en_gr hM.mo.o rfl, en_aiN hM.mo.ho hi5 (by decide), hM.th i hi5]
  rcases (show G.th i = 0 ∨ G.th i = 2 ∨ G.th i = 3 ∨ G.th i = 1 by omega) with e | e | e | e <;> rw [e]
  · rw [if_pos (by decide), if_pos (by decide)]
    exact ⟨_, rfl, rfl, RR_same hX hM ok⟩
  · rw [if_neg (by decide), if_neg (by decide), if_neg (by decide), if_neg (by decide)]
    exact ⟨_, rfl, rfl, RR_same hX hM ok⟩
  · rw [if_neg (by decide), if_neg (by decide), if_neg (by decide), if_neg (by decide)]
    exact ⟨_, rfl, rfl, RR_same hX hM ok⟩
  · have hl := ok.lg i hi5 e
    have hq := hX.lg i hi5 e
    rw [if_neg (by decide), if_pos (by decide), if_neg (by decide), if_pos (by decide), en_gr hlo rfl, en_cl hll, lg_isOf hll hq hl.1 hk, c1s, en_gr hM.mo.o rfl, en_aiN hM.mo.ha hi5 (by decide), (hM.h1 i hi5 e).1, m_isUnder hl.1 hk, c1s]
    rcases q_un_c (G.lg i 0) k with u | u <;> rw [u]
    · rw [if_pos rfl, if_pos rfl]
      exact ⟨_, rfl, rfl, RR_same hX hM ok⟩
    · rw [if_neg (by decide), if_neg (by decide), en_gr hlo rfl, en_cl hll, lg_worth hll hq hl, c1s, en_gr hM.mo.o rfl, en_aiN hM.mo.hb hi5 (by decide), (hM.h1 i hi5 e).2]
      exact ⟨_, rfl, rfl, RR_same hX hM ok⟩
end SL
