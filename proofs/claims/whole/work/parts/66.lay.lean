/-! ===== lay ===== -/
section LA
variable {S : List en_S} {σ0 σ σ1 σ2 : Nat → Nat → Int32} {cb d : Nat} {xs : List Int32} {C D : q_C} {G : q_G}
theorem RR_slot (hX : XR S σ G) (hM : MR S σ G) (ok : GO G) {i t n : Nat} {l : Nat → Nat} {c : Nat → Int32} {v : Int32} (hi : i < 5) (ht : t ≤ 3) (hl : t = 1 → q_leg l) (hn : t = 2 → n ≤ 24) (x0 : σ1 (70 + 4 * i) 0 = nI t) (x1 : t = 1 → q_at (σ1 (71 + 4 * i)) l) (x2 : t = 2 → σ1 (72 + 4 * i) 1 = nI n) (x3 : t = 2 → ∀ k, k < 24 → σ1 (73 + 4 * i) k = c k) (x4 : t = 3 → σ1 (70 + 4 * i) 3 = v) (xf : ∀ b, ¬ (70 + 4 * i ≤ b ∧ b < 74 + 4 * i) → σ1 b = σ b) (m0 : ∀ j, j < 5 → σ2 106 j = if j = i then nI t else σ 106 j) (m1 : ∀ j, j < 5 → j ≠ i → σ2 107 j = σ 107 j ∧ σ2 108 j = σ 108 j ∧ ∀ k, k < 24 → σ2 109 (24 * j + k) = σ 109 (24 * j + k)) (m2 : t = 1 → σ2 107 i = nI (l 0) ∧ σ2 108 i = nI (q_worth l)) (m3 : t = 2 → σ2 107 i = nI n ∧ ∀ k, k < 24 → σ2 109 (24 * i + k) = c k) (m4 : t = 3 → σ2 107 i = v) (mf : ∀ b, b ≠ 106 → b ≠ 107 → b ≠ 108 → b ≠ 109 → σ2 b = σ1 b) : RR S σ2 := by
  have og := ok.g_slot (fun j => if j = i then t else G.th j) (fun j => if j = i then l else G.lg j) (fun j => if j = i then n else G.rs j) (fun j => if j = i then c else G.rc j) (fun j => if j = i then v else G.nu j) (fun j hj => by
    show (if j = i then t else G.th j) ≤ 3
    split
    · exact ht
    · exact ok.th j hj) (fun j hj => by
    show (if j = i then t else G.th j) = 1 → q_leg (if j = i then l else G.lg j)
    split
    · exact hl
    · exact ok.lg j hj) (fun j hj => by
    show (if j = i then t else G.th j) = 2 → (if j = i then n else G.rs j) ≤ 24
    split
    · exact hn
    · exact ok.rs j hj)
  have xg := hX.g_slot ok (σ' := σ1) (fun j => if j = i then t else G.th j) (fun j => if j = i then l else G.lg j) (fun j => if j = i then n else G.rs j) (fun j => if j = i then c else G.rc j) (fun j => if j = i then v else G.nu j) (fun k _ => by rw [xf 0 (by omega)]) (fun b h0 hb => xf b (by omega)) (fun j hj => by
    show σ1 (70 + 4 * j) 0 = nI (if j = i then t else G.th j)
    by_cases e : j = i
    · subst e; rw [if_pos rfl]; exact x0
    · rw [if_neg e, xf _ (by omega)]; exact hX.th j hj) (fun j hj => by
    show (if j = i then t else G.th j) = 1 → q_at (σ1 (71 + 4 * j)) (if j = i then l else G.lg j)
    by_cases e : j = i
    · subst e; rw [if_pos rfl, if_pos rfl]; exact x1
    · rw [if_neg e, if_neg e, xf _ (by omega)]; exact hX.lg j hj) (fun j hj => by
    show (if j = i then t else G.th j) = 2 → σ1 (72 + 4 * j) 1 = nI (if j = i then n else G.rs j)
    by_cases e : j = i
    · subst e; rw [if_pos rfl, if_pos rfl]; exact x2
    · rw [if_neg e, if_neg e, xf _ (by omega)]; exact hX.rs j hj) (fun j hj => by
    show (if j = i then t else G.th j) = 2 → ∀ k, k < 24 → σ1 (73 + 4 * j) k = (if j = i then c else G.rc j) k
    by_cases e : j = i
    · subst e; rw [if_pos rfl, if_pos rfl]; exact x3
    · rw [if_neg e, if_neg e, xf _ (by omega)]; exact hX.rc j hj) (fun j hj => by
    show (if j = i then t else G.th j) = 3 → σ1 (70 + 4 * j) 3 = (if j = i then v else G.nu j)
    by_cases e : j = i
    · subst e; rw [if_pos rfl, if_pos rfl]; exact x4
    · rw [if_neg e, if_neg e, xf _ (by omega)]; exact hX.nu j hj)
  refine ⟨_, xg.fr og (fun b hb => mf b (fun e => hb (by unfold scr; omega)) (fun e => hb (by unfold scr; omega)) (fun e => hb (by unfold scr; omega)) (fun e => hb (by unfold scr; omega))), ?_, og⟩
  refine hM.g_slot _ _ _ _ _ (fun k _ => by rw [mf 90 (by omega) (by omega) (by omega) (by omega), xf 90 (by omega)]) (fun b h1 h2 h3 h4 => by rw [mf b (by omega) (by omega) (by omega) (by omega), xf b (by omega)]) (fun j hj => ?_) (fun j hj => ?_) (fun j hj => ?_) (fun j hj => ?_)
  · rw [m0 j hj]
    show _ = nI (if j = i then t else G.th j)
    split
    · rfl
    · exact hM.th j hj
  · show (if j = i then t else G.th j) = 1 → σ2 107 j = nI ((if j = i then l else G.lg j) 0) ∧ σ2 108 j = nI (q_worth (if j = i then l else G.lg j))
    by_cases e : j = i
    · subst e; rw [if_pos rfl, if_pos rfl]; exact m2
    · rw [if_neg e, if_neg e, (m1 j hj e).1, (m1 j hj e).2.1]; exact hM.h1 j hj
  · show (if j = i then t else G.th j) = 2 → σ2 107 j = nI (if j = i then n else G.rs j) ∧ ∀ k, k < 24 → σ2 109 (24 * j + k) = (if j = i then c else G.rc j) k
    by_cases e : j = i
    · subst e; rw [if_pos rfl, if_pos rfl, if_pos rfl]; exact m3
    · rw [if_neg e, if_neg e, if_neg e, (m1 j hj e).1]
      intro h2
      exact ⟨(hM.h2 j hj h2).1, fun k hk => ((m1 j hj e).2.2 k hk).trans ((hM.h2 j hj h2).2 k hk)⟩
  · show (if j = i then t else G.th j) = 3 → σ2 107 j = (if j = i then v else G.nu j)
    by_cases e : j = i
    · subst e; rw [if_pos rfl, if_pos rfl]; exact m4
    · rw [if_neg e, if_neg e, (m1 j hj e).1]; exact hM.h3 j hj
theorem MR.mco (hM : MR S σ G) (e : σ1 91 = σ 91) : MC S σ1 σ1 G.now := ⟨hM.mo, by rw [e]; exact hM.now, fun _ _ _ _ => rfl⟩
theorem m_lay_loop (hM : isMo S) {i k : Nat} (hi : i < 5) (hk : k < 4) (w : Int32) : ∀ (m p N : Nat) (τ : Nat → Nat → Int32), p + m = 24 → m < N → (∀ x, τ 109 x = if 24 * i ≤ x ∧ x < 24 * i + p then σ 105 (24 * k + (x - 24 * i)) else σ 109 x) → (∀ b, b ≠ 109 → τ b = σ b) → ∃ σ', mx_rn xs (mx_ev xs mx_P d) kk_X7_lay N 134 [(0, .ref 90), (1, .int (nI i)), (2, .int (nI 2)), (3, .int (nI k)), (4, .int w), (5, .int (nI p))] [] (en S τ) = some (some (.int w), en S σ') ∧ (∀ x, σ' 109 x = if 24 * i ≤ x ∧ x < 24 * i + 24 then σ 105 (24 * k + (x - 24 * i)) else σ 109 x) ∧ ∀ b, b ≠ 109 → σ' b = σ b
  | m, p, 0, τ, _, h2, _, _ => absurd h2 (by omega)
  | 0, p, N + 1, τ, h1, _, h3, h4 => by
    have e : p = 24 := by omega
    subst e
    rw [rn_X7_lay_134, if_pos (by decide)]
    exact ⟨τ, rfl, h3, h4⟩
  | m + 1, p, N + 1, τ, h1, h2, h3, h4 => by
    have ei : (24 : Int32) * nI k + nI p = nI (24 * k + p) := by rw [show (24 : Int32) = nI 24 from rfl, pk_mul, nI_add]
    have ej : (24 : Int32) * nI i + nI p = nI (24 * i + p) := by rw [show (24 : Int32) = nI 24 from rfl, pk_mul, nI_add]
    rw [rn_X7_lay_134, if_neg (by exact nI_ge (b := 24) (by omega) (by decide)), if_pos (by decide), en_gr hM.o rfl, en_gr hM.o rfl, ei, ej, en_aiN hM.ce (by omega) (by decide), en_asN hM.hc (by omega) (by decide), nI_1]
    refine m_lay_loop hM hi hk w m (p + 1) N _ (by omega) (by omega) (fun x => ?_) (fun b hb => ?_)
    · rw [en_up_i, h3 x, h4 105 (by decide)]
      by_cases e : x = 24 * i + p
      · rw [if_pos ⟨rfl, e⟩, if_pos (by omega), show x - 24 * i = p by omega]
      · rw [if_neg (fun h => e h.2)]
        by_cases e2 : 24 * i ≤ x ∧ x < 24 * i + p
        · rw [if_pos e2, if_pos (by omega)]
        · rw [if_neg e2, if_neg (by omega)]
    · rw [← h4 b hb]; unfold en_up; rw [if_neg hb]
theorem x_shTake {r p r' p' : Nat} (hr : S[r]? = some (en_sh p)) (hp : S[p]? = some (.inr (.inl (0, 24)))) (hr' : S[r']? = some (en_sh p')) (hp' : S[p']? = some (.inr (.inl (0, 24)))) (h1 : r' ≠ r) (h2 : p' ≠ r) (h3 : p ≠ r) : ∃ σ', mx_ev xs mx_P (d + 1) 73 [.ref r, .ref r'] (en S σ) = some (none, en S σ') ∧ σ' r 1 = σ r' 1 ∧ (∀ k, k < 24 → σ' p k = σ p' k) ∧ ∀ b, b ≠ r → b ≠ p → σ' b = σ b := by
  rw [ev_X3_takeOver, en_gi hr' rfl, en_pt hr rfl, en_gi hr' rfl, en_up_a h1, en_pt hr rfl, en_gr hr' rfl, en_gr hr rfl, en_cp0 hp' hp (n := 24) (w := 24) rfl (by decide) (by decide) (by decide)]
  refine ⟨_, rfl, ?_, fun k hk => ?_, fun b hb1 hb2 => ?_⟩
  · rw [en_cy_o (Ne.symm h3), en_up_s]
  · rw [en_cy_d hk, en_up_a h2, en_up_a h2]
  · rw [en_cy_o hb2]
    funext k
    rw [en_up_a hb1, en_up_a hb1]
theorem t_layS (a1 a2 a3 : Int32) : St xs 117 208 [.int a1, .int a2, .int a3] := by
  intro S σ G hX hM ok
  have h10 := ok.now.n
  rw [ev_X6_lay, x_isSlot, c1s]
  rcases q_w_c a1 (h := 4) (z := 4) rfl (by decide) with e1 | ⟨i, hi, rfl, e1⟩
  · rw [e1, if_pos rfl, ri0]
    refine ⟨σ, σ, _, rfl, ?_, RR_same hX hM ok⟩
    rw [ev_X7_lay, m_isSlot, c1s, e1, if_pos rfl, ri0]
  rw [e1, if_neg (by decide), x_within, c1s]
  rcases q_w_c a2 (h := 3) (z := 3) rfl (by decide) with e2 | ⟨t, ht, rfl, e2⟩
  · rw [e2, if_pos rfl, ri0]
    refine ⟨σ, σ, _, rfl, ?_, RR_same hX hM ok⟩
    rw [ev_X7_lay, m_isSlot, c1s, e1, if_neg (by decide), m_in', c1s, e2, if_pos rfl, ri0]
  have hi5 : i < 5 := by omega
  have hlo := hX.x.lo i hi5
  have oM : ∀ (τ : Nat → Nat → Int32), τ 106 = σ 106 → ∀ f : Int32 → mx_R, mx_ai (en S τ) 106 0 (nI i) f = f (nI (G.th i)) := fun τ hτ f => by rw [en_aiN hM.mo.ho hi5 (by decide), hτ, hM.th i hi5]
  rcases (show t = 0 ∨ t = 1 ∨ t = 2 ∨ t = 3 by omega) with rfl | rfl | rfl | rfl
  · rw [e2, if_neg (by decide), if_neg (by decide), if_neg (by decide), if_neg (by decide), en_gr hX.x.o rfl, x_sl hX.x hi5, en_gi hlo rfl, hX.th i hi5, en_pt hlo rfl, if_neg (by decide), if_neg (by decide), if_neg (by decide), ri0]
    have xf : ∀ b, ¬ (70 + 4 * i ≤ b ∧ b < 74 + 4 * i) → en_up σ (70 + 4 * i) 0 (nI 0) b = σ b := fun b hb => by unfold en_up; rw [if_neg (by omega)]
    generalize hτ : en_up σ (70 + 4 * i) 0 (nI 0) = τ at *
    refine ⟨τ, en_up (en_up (en_up τ 106 i (nI 0)) 107 i a3) 108 i 0, _, rfl, ?_, RR_slot (σ1 := τ) (l := fun _ => 0) (n := 0) (c := fun _ => 0) (v := 0) (t := 0) hX hM ok hi5 (by decide) (fun h => absurd h (by decide)) (fun h => absurd h (by decide)) (by rw [← hτ, en_up_s]) (fun h => absurd h (by decide)) (fun h => absurd h (by decide)) (fun h => absurd h (by decide)) (fun h => absurd h (by decide)) xf (fun j hj => ?_) (fun j hj hne => ⟨?_, ?_, fun k hk => ?_⟩) (fun h => absurd h (by decide)) (fun h => absurd h (by decide)) (fun h => absurd h (by decide)) (fun b h1 h2 h3 h4 => ?_)⟩
    · rw [ev_X7_lay, m_isSlot, c1s, e1, if_neg (by decide), m_in', c1s, e2, if_neg (by decide), if_neg (by decide), if_neg (by decide), if_neg (by decide), en_gr hM.mo.o rfl, oM τ (xf 106 (by omega)), en_gr hM.mo.o rfl, en_asN hM.mo.ho hi5 (by decide), en_gr hM.mo.o rfl, if_neg (by decide), if_neg (by decide), en_asN hM.mo.ha hi5 (by decide), en_gr hM.mo.o rfl, if_neg (by decide), en_asN hM.mo.hb hi5 (by decide), show (99999 : Nat) = 99998 + 1 from rfl, rn_X7_lay_134, if_neg (by decide), if_neg (by decide), ri0]
    · rw [en_up_a (by decide), en_up_a (by decide), en_up_i, xf 106 (by omega)]
      by_cases e : j = i
      · rw [if_pos ⟨rfl, e⟩, if_pos e]
      · rw [if_neg (fun h => e h.2), if_neg e]
    · rw [en_up_a (by decide), en_up_k hne, en_up_a (by decide), xf 107 (by omega)]
    · rw [en_up_k hne, en_up_a (by decide), en_up_a (by decide), xf 108 (by omega)]
    · rw [en_up_a (by decide), en_up_a (by decide), en_up_a (by decide), xf 109 (by omega)]
    · funext k
      rw [en_up_a h3, en_up_a h2, en_up_a h1]
  · rw [e2, if_neg (by decide), if_pos (by decide), en_gr hX.x.o rfl, en_cl hX.x.c1.1, x_has hX.xc h10, c1s]
    rcases q_hl_c a3 (n := G.now.n) (by omega) with e3 | ⟨k, hk, rfl, e3⟩
    · rw [e3, if_pos rfl, ri0]
      refine ⟨σ, σ, _, rfl, ?_, RR_same hX hM ok⟩
      rw [ev_X7_lay, m_isSlot, c1s, e1, if_neg (by decide), m_in', c1s, e2, if_neg (by decide), if_pos (by decide), en_cl hM.mo.o, m_isLeg hM.mc h10, c1s, e3, if_pos rfl, ri0]
    have hll := hX.x.ll i hi5
    have hlk := hX.xc.leg (i := k) (by omega)
    rw [e3, if_neg (by decide), if_neg (by decide), if_neg (by decide), en_gr hX.x.o rfl, x_sl hX.x hi5, en_gi hlo rfl, hX.th i hi5, en_pt hlo rfl, if_pos (by decide), en_gr hlo rfl, en_gr hX.x.o rfl, en_gr hX.x.c1.1 rfl, cl_aa hX.x.c1 (by omega), en_cl hll]
    obtain ⟨τ, r1, r2, r3⟩ := lg_takeOver (xs := xs) (d := 10) (σ := en_up σ (70 + 4 * i) 0 (nI 1)) (l := G.now.L k) hll hlk (by omega) (by
      rw [show en_up σ (70 + 4 * i) 0 (nI 1) (1 + 7 + k) = σ (1 + 7 + k) by unfold en_up; rw [if_neg (by omega)]]
      exact hX.now.L k hk)
    have xf : ∀ b, ¬ (70 + 4 * i ≤ b ∧ b < 74 + 4 * i) → τ b = σ b := fun b hb => by rw [r3 b (by omega)]; unfold en_up; rw [if_neg (by omega)]
    have x0 : τ (70 + 4 * i) 0 = nI 1 := by rw [r3 _ (by omega), en_up_s]
    rw [r1, c0s, ri0]
    refine ⟨τ, en_up (en_up (en_up τ 106 i (nI 1)) 107 i (nI (G.now.L k 0))) 108 i (nI (q_worth (G.now.L k))), _, rfl, ?_, RR_slot (σ1 := τ) (l := G.now.L k) (n := 0) (c := fun _ => 0) (v := 0) (t := 1) hX hM ok hi5 (by decide) (fun _ => ok.now.L k hk) (fun h => absurd h (by decide)) x0 (fun _ => r2) (fun h => absurd h (by decide)) (fun h => absurd h (by decide)) (fun h => absurd h (by decide)) xf (fun j hj => ?_) (fun j hj hne => ⟨?_, ?_, fun k hk => ?_⟩) (fun _ => ⟨?_, ?_⟩) (fun h => absurd h (by decide)) (fun h => absurd h (by decide)) (fun b h1 h2 h3 h4 => ?_)⟩
    · have c1 : MC S (en_up τ 106 i (nI 1)) (en_up τ 106 i (nI 1)) G.now := hM.mco (by funext x; rw [en_up_a (by decide), xf 91 (by omega)])
      have c2 : MC S (en_up (en_up τ 106 i (nI 1)) 107 i (nI (G.now.L k 0))) (en_up (en_up τ 106 i (nI 1)) 107 i (nI (G.now.L k 0))) G.now := hM.mco (by funext x; rw [en_up_a (by decide), en_up_a (by decide), xf 91 (by omega)])
      rw [ev_X7_lay, m_isSlot, c1s, e1, if_neg (by decide), m_in', c1s, e2, if_neg (by decide), if_pos (by decide), en_cl hM.mo.o, m_isLeg (hM.mco (xf 91 (by omega))) h10, c1s, e3, if_neg (by decide), if_neg (by decide), if_neg (by decide), en_gr hM.mo.o rfl, oM τ (xf 106 (by omega)), en_gr hM.mo.o rfl, en_asN hM.mo.ho hi5 (by decide), en_gr hM.mo.o rfl, if_pos (by decide), en_cl hM.mo.o, m_of' c1 (w := 0) (j := 0) hk h10 (by decide) rfl, c1s, en_asN hM.mo.ha hi5 (by decide), en_gr hM.mo.o rfl, if_pos (by decide), en_cl hM.mo.o, m_worthOf c2 ok.now hk, c1s, en_asN hM.mo.hb hi5 (by decide), show (99999 : Nat) = 99998 + 1 from rfl, rn_X7_lay_134, if_neg (by decide), if_neg (by decide), ri0]
    · rw [en_up_a (by decide), en_up_a (by decide), en_up_i, xf 106 (by omega)]
      by_cases e : j = i
      · rw [if_pos ⟨rfl, e⟩, if_pos e]
      · rw [if_neg (fun h => e h.2), if_neg e]
    · rw [en_up_a (by decide), en_up_k hne, en_up_a (by decide), xf 107 (by omega)]
    · rw [en_up_k hne, en_up_a (by decide), en_up_a (by decide), xf 108 (by omega)]
    · rw [en_up_a (by decide), en_up_a (by decide), en_up_a (by decide), xf 109 (by omega)]
    · rw [en_up_a (by decide), en_up_s]
    · rw [en_up_s]
    · funext k
      rw [en_up_a h3, en_up_a h2, en_up_a h1]
  · rw [e2, if_neg (by decide), if_neg (by decide), if_pos (by decide), x_isSheet, c1s]
    rcases q_w_c a3 (h := 3) (z := 3) rfl (by decide) with e3 | ⟨k, hk, rfl, e3⟩
    · rw [e3, if_pos rfl, ri0]
      refine ⟨σ, σ, _, rfl, ?_, RR_same hX hM ok⟩
      rw [ev_X7_lay, m_isSlot, c1s, e1, if_neg (by decide), m_in', c1s, e2, if_neg (by decide), if_neg (by decide), if_pos (by decide), m_isSheet, c1s, e3, if_pos rfl, ri0]
    have hk4 : k < 4 := by omega
    have hso := hX.x.so k hk4
    have hlr := hX.x.lr i hi5
    have p : ∀ (τ : Nat → Nat → Int32), τ 103 = σ 103 → ∀ (f : Int32 → mx_R), mx_ai (en S τ) 103 0 (nI k) f = f (G.so k) := fun τ hτ f => by rw [en_aiN hM.mo.so hk4 (by decide), hτ, hM.so k hk4]
    rw [e3, if_neg (by decide), if_pos (by decide), en_gr hX.x.o rfl, x_sh hX.x hk4, en_cl hso, x_miss hso, c1s, hX.so k hk4]
    rcases so_c ok hk4 with em | ⟨em, e0, e0'⟩
    · rw [em, if_pos rfl, if_neg (by decide), ri0]
      refine ⟨σ, σ, _, rfl, ?_, RR_same hX hM ok⟩
      rw [ev_X7_lay, m_isSlot, c1s, e1, if_neg (by decide), m_in', c1s, e2, if_neg (by decide), if_neg (by decide), if_pos (by decide), m_isSheet, c1s, e3, if_neg (by decide), if_pos (by decide), en_gr hM.mo.o rfl, p σ rfl, if_neg (by rw [em]; decide), ri0]
    rw [if_neg em, if_pos rfl, en_gr hX.x.o rfl, x_sl hX.x hi5, en_gi hlo rfl, hX.th i hi5, en_pt hlo rfl, if_neg (by decide), if_pos (by decide), en_gr hlo rfl, en_gr hX.x.o rfl, x_sh hX.x hk4, en_cl hlr]
    obtain ⟨τ, r1, r2, r3, r4⟩ := x_shTake (xs := xs) (d := 10) (σ := en_up σ (70 + 4 * i) 0 (nI 2)) hlr (hX.x.lp i hi5) hso (hX.x.sp k hk4) (by omega) (by omega) (by omega)
    have xf : ∀ b, ¬ (70 + 4 * i ≤ b ∧ b < 74 + 4 * i) → τ b = σ b := fun b hb => by rw [r4 b (by omega) (by omega)]; unfold en_up; rw [if_neg (by omega)]
    have x0 : τ (70 + 4 * i) 0 = nI 2 := by rw [r4 _ (by omega) (by omega), en_up_s]
    obtain ⟨σ', q1, q2, q3⟩ := m_lay_loop (xs := xs) (d := 11) (σ := en_up (en_up (en_up τ 106 i (nI 2)) 107 i (nI (G.sz k))) 108 i 0) hM.mo hi5 hk4 (nI (G.th i)) 24 0 99999 _ (by omega) (by omega) (fun x => by rw [if_neg (by omega)]) (fun _ _ => rfl)
    rw [r1, c0s, ri0]
    refine ⟨τ, σ', _, rfl, ?_, RR_slot (σ1 := τ) (l := fun _ => 0) (n := G.sz k) (c := G.ce k) (v := 0) (t := 2) hX hM ok hi5 (by decide) (fun h => absurd h (by decide)) (fun _ => ok.sz k hk4) x0 (fun h => absurd h (by decide)) (fun _ => ?_) (fun _ x hx => ?_) (fun h => absurd h (by decide)) xf (fun j hj => ?_) (fun j hj hne => ⟨?_, ?_, fun x hx => ?_⟩) (fun h => absurd h (by decide)) (fun _ => ⟨?_, fun x hx => ?_⟩) (fun h => absurd h (by decide)) (fun b h1 h2 h3 h4 => ?_)⟩
    · rw [ev_X7_lay, m_isSlot, c1s, e1, if_neg (by decide), m_in', c1s, e2, if_neg (by decide), if_neg (by decide), if_pos (by decide), m_isSheet, c1s, e3, if_neg (by decide), if_pos (by decide), en_gr hM.mo.o rfl, p τ (xf 103 (by omega)), if_pos e0, en_gr hM.mo.o rfl, oM τ (xf 106 (by omega)), en_gr hM.mo.o rfl, en_asN hM.mo.ho hi5 (by decide), en_gr hM.mo.o rfl, if_neg (by decide), if_pos (by decide), en_gr hM.mo.o rfl, en_aiN hM.mo.sz hk4 (by decide), en_up_a (by decide), xf 104 (by omega), hM.sz k hk4, en_asN hM.mo.ha hi5 (by decide), en_gr hM.mo.o rfl, if_neg (by decide), en_asN hM.mo.hb hi5 (by decide)]
      exact q1
    · rw [r2, en_up_a (by omega)]; exact hX.sz k hk4
    · rw [r3 x hx, en_up_a (by omega)]; exact hX.ce k hk4 x hx
    · rw [q3 106 (by decide), en_up_a (by decide), en_up_a (by decide), en_up_i, xf 106 (by omega)]
      by_cases e : j = i
      · rw [if_pos ⟨rfl, e⟩, if_pos e]
      · rw [if_neg (fun h => e h.2), if_neg e]
    · rw [q3 107 (by decide), en_up_a (by decide), en_up_k hne, en_up_a (by decide), xf 107 (by omega)]
    · rw [q3 108 (by decide), en_up_k hne, en_up_a (by decide), en_up_a (by decide), xf 108 (by omega)]
    · rw [q2, if_neg (by omega), en_up_a (by decide), en_up_a (by decide), en_up_a (by decide), xf 109 (by omega)]
    · rw [q3 107 (by decide), en_up_a (by decide), en_up_s]
    · rw [q2, if_pos (by omega), en_up_a (by decide), en_up_a (by decide), en_up_a (by decide), xf 105 (by omega), show 24 * i + x - 24 * i = x by omega]
      exact hM.ce k hk4 x hx
    · rw [q3 b h4]
      funext k
      rw [en_up_a h3, en_up_a h2, en_up_a h1]
  · rw [e2, if_neg (by decide), if_neg (by decide), if_neg (by decide), if_neg (by decide), en_gr hX.x.o rfl, x_sl hX.x hi5, en_gi hlo rfl, hX.th i hi5, en_pt hlo rfl, if_neg (by decide), if_neg (by decide), if_pos (by decide), en_pt hlo rfl, ri0]
    have xf : ∀ b, ¬ (70 + 4 * i ≤ b ∧ b < 74 + 4 * i) → en_up (en_up σ (70 + 4 * i) 0 (nI 3)) (70 + 4 * i) 3 a3 b = σ b := fun b hb => by unfold en_up; rw [if_neg (by omega), if_neg (by omega)]
    have x0 : en_up (en_up σ (70 + 4 * i) 0 (nI 3)) (70 + 4 * i) 3 a3 (70 + 4 * i) 0 = nI 3 := by rw [en_up_k (by decide), en_up_s]
    have x3 : en_up (en_up σ (70 + 4 * i) 0 (nI 3)) (70 + 4 * i) 3 a3 (70 + 4 * i) 3 = a3 := en_up_s
    generalize hτ : en_up (en_up σ (70 + 4 * i) 0 (nI 3)) (70 + 4 * i) 3 a3 = τ at *
    refine ⟨τ, en_up (en_up (en_up τ 106 i (nI 3)) 107 i a3) 108 i 0, _, rfl, ?_, RR_slot (σ1 := τ) (l := fun _ => 0) (n := 0) (c := fun _ => 0) (v := a3) (t := 3) hX hM ok hi5 (by decide) (fun h => absurd h (by decide)) (fun h => absurd h (by decide)) x0 (fun h => absurd h (by decide)) (fun h => absurd h (by decide)) (fun h => absurd h (by decide)) (fun _ => x3) xf (fun j hj => ?_) (fun j hj hne => ⟨?_, ?_, fun k hk => ?_⟩) (fun h => absurd h (by decide)) (fun h => absurd h (by decide)) (fun _ => ?_) (fun b h1 h2 h3 h4 => ?_)⟩
    · rw [ev_X7_lay, m_isSlot, c1s, e1, if_neg (by decide), m_in', c1s, e2, if_neg (by decide), if_neg (by decide), if_neg (by decide), if_neg (by decide), en_gr hM.mo.o rfl, oM τ (xf 106 (by omega)), en_gr hM.mo.o rfl, en_asN hM.mo.ho hi5 (by decide), en_gr hM.mo.o rfl, if_neg (by decide), if_neg (by decide), en_asN hM.mo.ha hi5 (by decide), en_gr hM.mo.o rfl, if_neg (by decide), en_asN hM.mo.hb hi5 (by decide), show (99999 : Nat) = 99998 + 1 from rfl, rn_X7_lay_134, if_neg (by decide), if_neg (by decide), ri0]
    · rw [en_up_a (by decide), en_up_a (by decide), en_up_i, xf 106 (by omega)]
      by_cases e : j = i
      · rw [if_pos ⟨rfl, e⟩, if_pos e]
      · rw [if_neg (fun h => e h.2), if_neg e]
    · rw [en_up_a (by decide), en_up_k hne, en_up_a (by decide), xf 107 (by omega)]
    · rw [en_up_k hne, en_up_a (by decide), en_up_a (by decide), xf 108 (by omega)]
    · rw [en_up_a (by decide), en_up_a (by decide), en_up_a (by decide), xf 109 (by omega)]
    · rw [en_up_a (by decide), en_up_s]
    · funext k
      rw [en_up_a h3, en_up_a h2, en_up_a h1]
end LA
