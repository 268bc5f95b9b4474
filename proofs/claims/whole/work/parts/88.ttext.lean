section TB
variable {S S2 : List en_S} {d n key na B : Nat} {xs : List Int32} {tp : Nat → Nat} {σ0 σ σ1 σ2 τ : Nat → Nat → Int32} {st cd : List Nat} {G : q_G} {C : q_C} {K : q_K}
/-- what the reference answers where a text has a fault -/
theorem m_text_f (hM : MR S σ G) (ok : GO G) {p : Nat} (hp : (q_ky G.tp (q_t1 G.tp G.tl) = 3 ∧ p = (q_t1 G.tp G.tl).2.1) ∨ (q_ky G.tp (q_t1 G.tp G.tl) ≠ 3 ∧ q_p1 G.tp G.tl = .inl p)) : ∃ σ', mx_ev xs mx_P 12 195 [.ref 90] (en S σ) = some (some (.int (-100 - nI p)), en S σ') ∧ σ' 90 6 = 0 ∧ (∀ k, k < 6 ∨ 19 < k → σ' 90 k = σ 90 k) ∧ ∀ b, b ≠ 90 → b ≠ 98 → b ≠ 99 → b ≠ 100 → σ' b = σ b := by
  have mo := hM.mo
  obtain ⟨σ1, r1, A, B⟩ := m_reads (d := 4) (xs := xs) (σ := σ) (n := G.tl) (tp := G.tp) mo ok.tp ok.tl hM.ks hM.ka hM.tl hM.tp
  rw [ev_X7_text, mop7 mo, mop11 mo, mocl mo, r1, c0s, mocl mo]
  rcases hp with ⟨hk, rfl⟩ | ⟨hk, hq⟩
  · obtain ⟨r2, e8, o, f⟩ := A hk
    rw [r2, c1s, if_pos rfl, mop6 mo, if_pos rfl, mog8 mo, en_up_k (by decide), e8, ri0]
    exact ⟨_, rfl, en_up_s, fun k hk => by rw [en_up_k (by omega)]; exact o k (by omega), fun b b1 _ _ _ => by rw [en_90 b1]; exact f b b1⟩
  · obtain ⟨σ2, r2, E⟩ := B hk
    rw [hq] at E
    obtain ⟨σ3, r3, e8, o, f⟩ := E
    rw [r2, c1s, if_neg (by decide), mocl mo, r3, c1s, if_pos rfl, mop6 mo, if_pos rfl, mog8 mo, en_up_k (by decide), e8, ri0]
    exact ⟨_, rfl, en_up_s, fun k hk => by rw [en_up_k (by omega)]; exact o k hk, fun b b1 b2 b3 b4 => by rw [en_90 b1]; exact f b b1 b2 b3 b4⟩
theorem m_tx_loop (mo : isMo S) {c : Nat} (hc : c < 14) (hlen : cd.length ≤ 93) (h16 : σ 90 16 = nI cd.length) (hcd : q_PR (σ 98) q_em cd) (h10 : σ 91 10 = nI c) : ∀ (m k N : Nat) (τ : Nat → Nat → Int32), k + m = cd.length → m < N → (∀ x, τ 91 x = if 99 + 96 * c ≤ x ∧ x < 99 + 96 * c + k then σ 98 (x - (99 + 96 * c)) else σ 91 x) → (∀ b, b ≠ 91 → τ b = σ b) → ∃ σ', mx_rn xs (mx_ev xs mx_P d) kk_X7_text N 117 [(0, .ref 90), (2, .int (nI c)), (3, .int (nI k))] [] (en S τ) = some (some (.int (nI c)), en S σ') ∧ (∀ x, σ' 91 x = if x = 10 then nI (c + 1) else if 99 + 96 * c ≤ x ∧ x < 99 + 96 * c + cd.length then σ 98 (x - (99 + 96 * c)) else σ 91 x) ∧ ∀ b, b ≠ 91 → σ' b = σ b
  | m, k, 0, _, _, h2, _, _ => absurd h2 (by omega)
  | 0, k, N + 1, τ, h1, _, hx, hf => by
    have e10 : τ 91 10 = nI c := by rw [hx, if_neg (by omega)]; exact h10
    have q1 : ∀ f : Int32 → mx_R, mx_ai (en S τ) 91 0 10 f = f (τ 91 10) := fun f => en_aiW mo.w (w := 10) (j := 10) rfl (by decide) (by decide)
    have q2 : ∀ (v : Int32) (f : mx_H → mx_R), mx_as (en S τ) 91 0 10 v f = f (en S (en_up τ 91 10 v)) := fun v f => en_asW mo.w (w := 10) (j := 10) rfl (by decide) (by decide)
    rw [rn_X7_text_117, mog16 mo, hf 90 (by decide), h16, if_pos (nI_le (by omega) (by omega)), mor0 mo, q1, e10, nI_1, q2, ri0]
    refine ⟨_, rfl, fun x => ?_, fun b hb => by rw [show en_up τ 91 10 (nI (c + 1)) b = τ b by funext j; rw [en_up_a hb]]; exact hf b hb⟩
    rw [en_up_i]
    by_cases e : x = 10
    · rw [if_pos ⟨rfl, e⟩, if_pos e]
    · rw [if_neg (show ¬ (91 = 91 ∧ x = 10) from fun y => e y.2), if_neg e, hx, show k = cd.length by omega]
  | m + 1, k, N + 1, τ, h1, h2, hx, hf => by
    have ei : (99 : Int32) + 96 * nI c + nI k = nI (99 + 96 * c + k) := by
      rw [show (99 : Int32) = nI 99 from rfl, show (96 : Int32) = nI 96 from rfl, pk_mul, nI_add, nI_add]
    rw [rn_X7_text_117, mog16 mo, hf 90 (by decide), h16, if_neg (nI_ge (by omega) (by omega)), mor0 mo, mor15 mo, moa98 mo (by omega), hf 98 (by decide), ei, en_asN mo.w (by omega) (by decide), nI_1]
    refine m_tx_loop mo hc hlen h16 hcd h10 m (k + 1) N _ (by omega) (by omega) (fun x => ?_) (fun b hb => by rw [show en_up τ 91 (99 + 96 * c + k) (σ 98 k) b = τ b by funext j; rw [en_up_a hb]]; exact hf b hb)
    rw [en_up_i]
    by_cases e : x = 99 + 96 * c + k
    · rw [if_pos ⟨rfl, e⟩, if_pos (by omega), show x - (99 + 96 * c) = k by omega]
    · rw [if_neg (show ¬ (91 = 91 ∧ x = 99 + 96 * c + k) from fun y => e y.2), hx]
      by_cases e2 : 99 + 96 * c ≤ x ∧ x < 99 + 96 * c + k
      · rw [if_pos e2, if_pos (by omega)]
      · rw [if_neg e2, if_neg (by omega)]
/-- what it answers where a text is one -/
theorem m_text_t (hM : MR S σ G) (ok : GO G) (hk : q_ky G.tp (q_t1 G.tp G.tl) ≠ 3) (hq : q_p1 G.tp G.tl = .inr (cd, na)) : ∃ σ', mx_ev xs mx_P 12 195 [.ref 90] (en S σ) = some (some (.int (if G.now.K.length = 14 then -1000000003 else nI G.now.K.length)), en S σ') ∧ σ' 90 6 = 0 ∧ (∀ k, k < 6 ∨ 19 < k → σ' 90 k = σ 90 k) ∧ (∀ b, b ≠ 90 → b ≠ 91 → b ≠ 98 → b ≠ 99 → b ≠ 100 → σ' b = σ b) ∧ mR (σ' 91) (if G.now.K.length = 14 then G.now else q_addT G.now (q_ky G.tp (q_t1 G.tp G.tl), na, cd.reverse)) := by
  have mo := hM.mo
  have hKo := ok.now.K
  have h14 := hKo.1
  have hn10 := ok.now.n
  obtain ⟨σ1, r1, A, B⟩ := m_reads (d := 4) (xs := xs) (σ := σ) (n := G.tl) (tp := G.tp) mo ok.tp ok.tl hM.ks hM.ka hM.tl hM.tp
  obtain ⟨σ2, r2, E⟩ := B hk
  rcases q_ky_c G.tp (q_t1 G.tp G.tl) with e | ⟨e, _, _⟩
  · exact absurd e hk
  have pok := (q_pz_ok (G.tl + 1) true [] [] 0 (fun _ => false) _ (q_p1_pi (B := q_B (q_ky G.tp (q_t1 G.tp G.tl))) ok.tl hk)).2 cd na hq
  rw [hq] at E
  obtain ⟨σ3, r3, e16, e17, e12, ecd, o, f⟩ := E
  have f91 : σ3 91 = σ 91 := f 91 (by decide) (by decide) (by decide) (by decide)
  have n10 : en_up σ3 90 6 0 91 10 = nI G.now.K.length := by rw [en_90 (by decide), f91]; exact hM.now.K.1
  have q1 : ∀ (τ : Nat → Nat → Int32) (f : Int32 → mx_R), mx_ai (en S τ) 91 0 10 f = f (τ 91 10) := fun τ f => en_aiW mo.w (w := 10) (j := 10) rfl (by decide) (by decide)
  rw [ev_X7_text, mop7 mo, mop11 mo, mocl mo, r1, c0s, mocl mo, r2, c1s, if_neg (by decide), mocl mo, r3, c1s, if_neg (by decide), mop6 mo, if_neg (by decide), mor0 mo, q1, n10]
  by_cases c : G.now.K.length = 14
  · rw [if_pos (show nI G.now.K.length = 14 by rw [c]; rfl), ri0, if_pos c, if_pos c]
    exact ⟨_, rfl, en_up_s, fun k hk => by rw [en_up_k (by omega)]; exact o k hk, fun b b1 _ b2 b3 b4 => by rw [en_90 b1]; exact f b b1 b2 b3 b4, by rw [en_90 (by decide), f91]; exact hM.now⟩
  · have hc : G.now.K.length < 14 := by omega
    have e71 : (71 : Int32) + 2 * nI G.now.K.length = nI (71 + 2 * G.now.K.length) := by
      rw [show (71 : Int32) = nI 71 from rfl, show (2 : Int32) = nI 2 from rfl, pk_mul, nI_add]
    have e1000 : (1000 : Int32) * nI (q_ky G.tp (q_t1 G.tp G.tl)) + nI cd.length = nI (1000 * q_ky G.tp (q_t1 G.tp G.tl) + cd.length) := by
      rw [show (1000 : Int32) = nI 1000 from rfl, pk_mul, nI_add]
    rw [if_neg (nI_nel (y := 14) (b := 14) rfl (by omega) (by decide) c), if_neg c, if_neg c, mor0 mo, q1, n10, mor0 mo, mog12 mo, mog16 mo, en_up_k (by decide), en_up_k (by decide), e12, e16, e71, e1000, en_asN mo.w (by omega) (by decide), mor0 mo, mog17 mo, en_up_a (by decide), en_up_k (by decide), e17, nI_1, en_asN mo.w (by omega) (by decide)]
    generalize hτ : en_up (en_up (en_up σ3 90 6 0) 91 (71 + 2 * G.now.K.length) (nI (1000 * q_ky G.tp (q_t1 G.tp G.tl) + cd.length))) 91 (71 + 2 * G.now.K.length + 1) (nI na) = τ
    have t90 : ∀ k, k ≠ 6 → τ 90 k = σ3 90 k := fun k hk => by rw [← hτ, en_up_a (by decide), en_up_a (by decide), en_up_k hk]
    have tb : ∀ b, b ≠ 90 → b ≠ 91 → τ b = σ3 b := fun b b1 b2 => by rw [← hτ]; funext j; rw [en_up_a b2, en_up_a b2, en_up_a b1]
    have t91 : ∀ x, τ 91 x = if x = 71 + 2 * G.now.K.length + 1 then nI na else if x = 71 + 2 * G.now.K.length then nI (1000 * q_ky G.tp (q_t1 G.tp G.tl) + cd.length) else σ 91 x := fun x => by
      rw [← hτ, en_up_i]
      by_cases e1 : x = 71 + 2 * G.now.K.length + 1
      · rw [if_pos ⟨rfl, e1⟩, if_pos e1]
      · rw [if_neg (show ¬ (91 = 91 ∧ x = 71 + 2 * G.now.K.length + 1) from fun y => e1 y.2), if_neg e1, en_up_i]
        by_cases e2 : x = 71 + 2 * G.now.K.length
        · rw [if_pos ⟨rfl, e2⟩, if_pos e2]
        · rw [if_neg (show ¬ (91 = 91 ∧ x = 71 + 2 * G.now.K.length) from fun y => e2 y.2), if_neg e2, en_90 (by decide), f91]
    have t6 : τ 90 6 = 0 := by rw [← hτ, en_up_a (by decide), en_up_a (by decide), en_up_s]
    obtain ⟨σ4, r4, x4, f4⟩ := m_tx_loop (xs := xs) (d := 11) (cd := cd) (σ := τ) mo hc pok.2.1 (by rw [t90 16 (by decide)]; exact e16) (by rw [tb 98 (by decide) (by decide)]; exact ecd) (by rw [t91, if_neg (by omega), if_neg (by omega)]; exact hM.now.K.1) cd.length 0 99999 τ (by omega) (by omega) (fun x => by rw [if_neg (by omega)]) (fun _ _ => rfl)
    refine ⟨σ4, r4, by rw [f4 90 (by decide)]; exact t6, fun k hk => by rw [f4 90 (by decide), t90 k (by omega)]; exact o k hk, fun b b1 b2 b3 b4 b5 => by rw [f4 b b2, tb b b1 b2]; exact f b b1 b3 b4 b5, ?_⟩
    have lo : ∀ x, x < 71 → x ≠ 10 → σ4 91 x = σ 91 x := fun x h1 h2 => by rw [x4, if_neg h2, if_neg (by omega), t91, if_neg (by omega), if_neg (by omega)]
    have h := hM.now
    refine ⟨by rw [q_addT_n, lo 1 (by omega) (by omega)]; exact h.n, fun i hi j hj => ?_, fun k hk => by rw [q_addT_ru, lo _ (by omega) (by omega)]; exact h.ru k hk, ?_, by rw [q_addT_p, lo 7 (by omega) (by omega)]; exact h.p, by rw [q_addT_t, lo 8 (by omega) (by omega)]; exact h.t, by rw [q_addT_s, lo 9 (by omega) (by omega)]; exact h.s, by rw [q_addT_day, lo 2 (by omega) (by omega)]; exact h.day, by rw [q_addT_z, lo 0 (by omega) (by omega)]; exact h.z⟩
    · rw [q_addT_n] at hi
      rw [q_addT_L, lo _ (by omega) (by omega)]
      exact h.L i hi j hj
    · rw [q_addT_K]
      refine ⟨?_, fun t ht => ?_⟩
      · show σ4 91 10 = _
        rw [x4, if_pos rfl, List.length_append]
        rfl
      · rw [List.length_append] at ht
        have ht : t < G.now.K.length + 1 := ht
        unfold q_code
        show σ4 91 (71 + 2 * t) = _ ∧ σ4 91 (72 + 2 * t) = _ ∧ ∀ k c, _ → σ4 91 (99 + 96 * t + k) = _
        by_cases et : t = G.now.K.length
        · subst et
          rw [q_getD_new]
          refine ⟨?_, ?_, fun k c hc' => ?_⟩
          · rw [x4, if_neg (by omega), if_neg (by omega), t91, if_neg (by omega), if_pos rfl]
            show _ = nI (1000 * q_ky G.tp (q_t1 G.tp G.tl) + cd.reverse.length)
            rw [List.length_reverse]
          · rw [x4, if_neg (by omega), if_neg (by omega), t91, if_pos (by omega)]
          · have hc' : cd.reverse[k]? = some c := hc'
            have hk2 : k < cd.length := by
              have := (List.getElem?_eq_some_iff.mp hc').1
              rw [List.length_reverse] at this
              exact this
            rw [x4, if_neg (by omega), if_pos (by omega), show 99 + 96 * G.now.K.length + k - (99 + 96 * G.now.K.length) = k by omega, tb 98 (by decide) (by decide)]
            exact q_PR_g ecd k c hc'
        · obtain ⟨g1, g2, g3⟩ := h.K.2 t (by omega)
          have g1 : σ 91 (71 + 2 * t) = _ := g1
          have g2 : σ 91 (72 + 2 * t) = _ := g2
          have gl := (hKo.2 t (by omega)).2.2.1
          rw [q_getD_app (by omega)]
          refine ⟨?_, ?_, fun k c hc' => ?_⟩
          · rw [x4, if_neg (by omega), if_neg (by omega), t91, if_neg (by omega), if_neg (by omega)]
            exact g1
          · rw [x4, if_neg (by omega), if_neg (by omega), t91, if_neg (by omega), if_neg (by omega)]
            exact g2
          · have hk2 : k < (q_code G.now.K t).length := (List.getElem?_eq_some_iff.mp hc').1
            rw [x4, if_neg (by omega), if_neg (by omega), t91, if_neg (by omega), if_neg (by omega)]
            exact g3 k c hc'
end TB
