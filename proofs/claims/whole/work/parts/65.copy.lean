/-! ===== copy, lay ===== -/
section CY
variable {S : List en_S} {σ0 σ σ1 σ2 : Nat → Nat → Int32} {cb d : Nat} {xs : List Int32} {C D : q_C} {G : q_G}
theorem q_sub_toInt {a b : Nat} (ha : a ≤ 24) (hb : b < 2 ^ 31) : (nI a - nI b).toInt = (a : Int) - b := by
  rw [Int32.toInt_sub, nI_toInt (by omega), nI_toInt hb]
  exact Int.bmod_eq_of_le (by omega) (by omega)
theorem q_sub_lt {n j k : Nat} (hn : n ≤ 24) (hj : j < 2 ^ 31) (hk : k < 2 ^ 31) : nI n - nI k < nI j ↔ n < j + k := by
  rw [Int32.lt_iff_toInt_lt, q_sub_toInt hn hk, nI_toInt hj]
  omega
theorem q_sub_le {n l k : Nat} (hn : n ≤ 24) (hl : l < 2 ^ 31) (hk : k < 2 ^ 31) : nI l ≤ nI n - nI k ↔ l + k ≤ n := by
  rw [Int32.le_iff_toInt_le, q_sub_toInt hn hk, nI_toInt hl]
  omega
def q_hp (a m : Int32) (n : Nat) : Int32 := if a < 0 then 0 else if m < 0 then 0 else if nI n < a then 0 else if nI n - a < m then 0 else 1
theorem x_places {r p n : Nat} (hr : S[r]? = some (en_sh p)) (hn : σ r 1 = nI n) (a m : Int32) : mx_ev xs mx_P (d + 1) 76 [.ref r, .int a, .int m] (en S σ) = some (some (.int (q_hp a m n)), en S σ) := by
  rw [ev_X3_hasPlaces, en_gi hr rfl, en_gi hr rfl, hn]
  unfold q_hp
  (repeat' split) <;> rfl
theorem q_hp_n {j k n : Nat} (hn : n ≤ 24) (hj : j < 2 ^ 31) (hk : k < 2 ^ 31) : q_hp (nI j) (nI k) n = if j + k ≤ n then 1 else 0 := by
  unfold q_hp
  rw [if_neg (nI_pos hj), if_neg (nI_pos hk)]
  by_cases h1 : n < j
  · rw [if_pos ((nI_ltI (by omega) hj).mpr h1), if_neg (by omega)]
  · rw [if_neg (fun e => h1 ((nI_ltI (by omega) hj).mp e)), pk_sub (by omega)]
    by_cases h2 : n - j < k
    · rw [if_pos ((nI_ltI (by omega) hk).mpr h2), if_neg (by omega)]
    · rw [if_neg (fun e => h2 ((nI_ltI (by omega) hk).mp e)), if_pos (by omega)]
theorem m_mv2 (hM : isMo S) {t l m : Nat} (ht : t < 4) (hl : l + m ≤ 24) : ∀ (r k N : Nat) (τ : Nat → Nat → Int32), k + r = m → r < N → (∀ x, τ 105 x = if 24 * t + l ≤ x ∧ x < 24 * t + l + k then σ 110 (x - (24 * t + l)) else σ 105 x) → (∀ b, b ≠ 105 → τ b = σ b) → ∃ σ', mx_rn xs (mx_ev xs mx_P d) kk_X7_copy N 140 [(0, .ref 90), (3, .int (nI t)), (4, .int (nI l)), (5, .int (nI m)), (6, .int (nI k))] [] (en S τ) = some (some (.int (nI m)), en S σ') ∧ (∀ x, σ' 105 x = if 24 * t + l ≤ x ∧ x < 24 * t + l + m then σ 110 (x - (24 * t + l)) else σ 105 x) ∧ ∀ b, b ≠ 105 → σ' b = σ b
  | r, k, 0, τ, _, h2, _, _ => absurd h2 (by omega)
  | 0, k, N + 1, τ, h1, _, h3, h4 => by
    have e : k = m := by omega
    subst e
    rw [rn_X7_copy_140, if_pos (Int32.le_refl _)]
    exact ⟨τ, rfl, h3, h4⟩
  | r + 1, k, N + 1, τ, h1, h2, h3, h4 => by
    have ei : (24 : Int32) * nI t + nI l + nI k = nI (24 * t + l + k) := by rw [show (24 : Int32) = nI 24 from rfl, pk_mul, nI_add, nI_add]
    rw [rn_X7_copy_140, if_neg (nI_ge (by omega) (by omega)), en_gr hM.o rfl, en_gr hM.o rfl, en_aiN hM.mv (by omega) (by decide), ei, en_asN hM.ce (by omega) (by decide), nI_1]
    refine m_mv2 hM ht hl r (k + 1) N _ (by omega) (by omega) (fun x => ?_) (fun b hb => ?_)
    · rw [en_up_i, h3 x, h4 110 (by decide)]
      by_cases e : x = 24 * t + l + k
      · rw [if_pos ⟨rfl, e⟩, if_pos (by omega), show x - (24 * t + l) = k by omega]
      · rw [if_neg (fun h => e h.2)]
        by_cases e2 : 24 * t + l ≤ x ∧ x < 24 * t + l + k
        · rw [if_pos e2, if_pos (by omega)]
        · rw [if_neg e2, if_neg (by omega)]
    · rw [← h4 b hb]; unfold en_up; rw [if_neg hb]
theorem m_mv1 (hM : isMo S) {i j t l m : Nat} (hi : i < 4) (hj : j + m ≤ 24) (ht : t < 4) (hl : l + m ≤ 24) : ∀ (r k N : Nat) (τ : Nat → Nat → Int32), k + r = m → r + m + 1 < N → (∀ x, x < k → τ 110 x = σ 105 (24 * i + j + x)) → (∀ b, b ≠ 110 → τ b = σ b) → ∃ σ', mx_rn xs (mx_ev xs mx_P d) kk_X7_copy N 103 [(0, .ref 90), (1, .int (nI i)), (2, .int (nI j)), (3, .int (nI t)), (4, .int (nI l)), (5, .int (nI m)), (6, .int (nI k))] [] (en S τ) = some (some (.int (nI m)), en S σ') ∧ (∀ x, σ' 105 x = if 24 * t + l ≤ x ∧ x < 24 * t + l + m then σ 105 (24 * i + j + (x - (24 * t + l))) else σ 105 x) ∧ ∀ b, b ≠ 105 → b ≠ 110 → σ' b = σ b
  | r, k, 0, τ, _, h2, _, _ => absurd h2 (by omega)
  | 0, k, N + 1, τ, h1, h2, h3, h4 => by
    have e : k = m := by omega
    subst e
    rw [rn_X7_copy_103, if_pos (Int32.le_refl _)]
    obtain ⟨σ', r1, r2, r3⟩ := m_mv2 (xs := xs) (d := d) (σ := τ) hM ht hl k 0 N τ (by omega) (by omega) (fun x => by rw [if_neg (by omega)]) (fun _ _ => rfl)
    refine ⟨σ', r1, fun x => ?_, fun b h5 h6 => by rw [r3 b h5, h4 b h6]⟩
    rw [r2 x, h4 105 (by decide)]
    by_cases e2 : 24 * t + l ≤ x ∧ x < 24 * t + l + k
    · rw [if_pos e2, if_pos e2, h3 _ (by omega)]
    · rw [if_neg e2, if_neg e2]
  | r + 1, k, N + 1, τ, h1, h2, h3, h4 => by
    have ei : (24 : Int32) * nI i + nI j + nI k = nI (24 * i + j + k) := by rw [show (24 : Int32) = nI 24 from rfl, pk_mul, nI_add, nI_add]
    rw [rn_X7_copy_103, if_neg (nI_ge (by omega) (by omega)), en_gr hM.o rfl, en_gr hM.o rfl, ei, en_aiN hM.ce (by omega) (by decide), en_asN hM.mv (by omega) (by decide), nI_1]
    refine m_mv1 hM hi hj ht hl r (k + 1) N _ (by omega) (by omega) (fun x hx => ?_) (fun b hb => ?_)
    · rw [en_up_i, h4 105 (by decide)]
      by_cases e : x = k
      · rw [if_pos ⟨rfl, e⟩, e]
      · rw [if_neg (fun h => e h.2)]
        exact h3 x (by omega)
    · rw [← h4 b hb]; unfold en_up; rw [if_neg hb]
theorem t_copy (a1 a2 a3 a4 a5 : Int32) : St xs 116 207 [.int a1, .int a2, .int a3, .int a4, .int a5] := by
  intro S σ G hX hM ok
  rw [ev_X6_copy, x_isSheet, c1s]
  rcases q_w_c a1 (h := 3) (z := 3) rfl (by decide) with e1 | ⟨i, hi, rfl, e1⟩
  · rw [e1, if_pos rfl, ri0]
    refine ⟨σ, σ, _, rfl, ?_, RR_same hX hM ok⟩
    rw [ev_X7_copy, m_isSheet, c1s, e1, if_pos rfl, ri0]
  rw [e1, if_neg (by decide), x_isSheet, c1s]
  rcases q_w_c a3 (h := 3) (z := 3) rfl (by decide) with e3 | ⟨t, ht, rfl, e3⟩
  · rw [e3, if_pos rfl, ri0]
    refine ⟨σ, σ, _, rfl, ?_, RR_same hX hM ok⟩
    rw [ev_X7_copy, m_isSheet, c1s, e1, if_neg (by decide), m_isSheet, c1s, e3, if_pos rfl, ri0]
  have hi4 : i < 4 := by omega
  have ht4 : t < 4 := by omega
  have hso := hX.x.so i hi4
  have hst := hX.x.so t ht4
  have hz1 := ok.sz i hi4
  have hz2 := ok.sz t ht4
  have p : ∀ (τ : Nat → Nat → Int32), τ 103 = σ 103 → ∀ (k : Nat) (_ : k < 4) (f : Int32 → mx_R), mx_ai (en S τ) 103 0 (nI k) f = f (G.so k) := fun τ hτ k hk f => by rw [en_aiN hM.mo.so hk (by decide), hτ, hM.so k hk]
  have pz : ∀ (τ : Nat → Nat → Int32), τ 104 = σ 104 → ∀ (k : Nat) (_ : k < 4) (f : Int32 → mx_R), mx_ai (en S τ) 104 0 (nI k) f = f (nI (G.sz k)) := fun τ hτ k hk f => by rw [en_aiN hM.mo.sz hk (by decide), hτ, hM.sz k hk]
  rw [e3, if_neg (by decide), en_gr hX.x.o rfl, x_sh hX.x hi4, en_gr hX.x.o rfl, x_sh hX.x ht4, en_cl hso, x_miss hso, c1s, hX.so i hi4]
  rcases so_c ok hi4 with em | ⟨em, e0, e0'⟩
  · rw [em, if_pos rfl, if_neg (by decide), ri0]
    refine ⟨σ, σ, _, rfl, ?_, RR_same hX hM ok⟩
    rw [ev_X7_copy, m_isSheet, c1s, e1, if_neg (by decide), m_isSheet, c1s, e3, if_neg (by decide), en_gr hM.mo.o rfl, p σ rfl i hi4, if_pos (by rw [em]; decide), ri0]
  rw [if_neg em, if_pos rfl, en_cl hst, x_miss hst, c1s, hX.so t ht4]
  rcases so_c ok ht4 with fm | ⟨fm, f0, f0'⟩
  · rw [fm, if_pos rfl, if_neg (by decide), ri0]
    refine ⟨σ, σ, _, rfl, ?_, RR_same hX hM ok⟩
    rw [ev_X7_copy, m_isSheet, c1s, e1, if_neg (by decide), m_isSheet, c1s, e3, if_neg (by decide), en_gr hM.mo.o rfl, p σ rfl i hi4, if_neg e0', en_gr hM.mo.o rfl, p σ rfl t ht4, if_neg (by rw [fm]; decide), ri0]
  rw [if_neg fm, if_pos rfl, en_gi hso rfl, en_gi hst rfl, hX.so i hi4, hX.so t ht4]
  by_cases es : G.so i = G.so t
  · rw [if_pos es, en_cl hso, x_places hso (hX.sz i hi4), c1s]
    have M0 : ∀ τ : Nat → Nat → Int32, τ 103 = σ 103 → τ 104 = σ 104 → mx_ev xs mx_P 12 207 [.ref 90, .int (nI i), .int a2, .int (nI t), .int a4, .int a5] (en S τ) = if a2 < 0 then some (some (.int (-1000000013)), en S τ) else if a4 < 0 then some (some (.int (-1000000013)), en S τ) else if a5 < 0 then some (some (.int (-1000000013)), en S τ) else if nI (G.sz i) - a5 < a2 then some (some (.int (-1000000013)), en S τ) else if a4 ≤ nI (G.sz t) - a5 then mx_rn xs (mx_ev xs mx_P 11) kk_X7_copy 99999 103 [(0, .ref 90), (1, .int (nI i)), (2, .int a2), (3, .int (nI t)), (4, .int a4), (5, .int a5), (6, .int 0)] [] (en S τ) else some (some (.int (-1000000013)), en S τ) := fun τ h1 h2 => by
      rw [ev_X7_copy, m_isSheet, c1s, e1, if_neg (by decide), m_isSheet, c1s, e3, if_neg (by decide), en_gr hM.mo.o rfl, p τ h1 i hi4, if_neg e0', en_gr hM.mo.o rfl, p τ h1 t ht4, if_pos f0, en_gr hM.mo.o rfl, p τ h1 i hi4, en_gr hM.mo.o rfl, p τ h1 t ht4, if_pos es, en_gr hM.mo.o rfl, pz τ h2 i hi4, en_gr hM.mo.o rfl, pz τ h2 t ht4]
      rfl
    have bad : q_hp a2 a5 (G.sz i) = 0 ∨ q_hp a4 a5 (G.sz t) = 0 → mx_ev xs mx_P 12 207 [.ref 90, .int (nI i), .int a2, .int (nI t), .int a4, .int a5] (en S σ) = some (some (.int (-1000000013)), en S σ) := fun hb => by
      rw [M0 σ rfl rfl]
      by_cases n2 : a2 < 0
      · rw [if_pos n2]
      by_cases n4 : a4 < 0
      · rw [if_neg n2, if_pos n4]
      by_cases n5 : a5 < 0
      · rw [if_neg n2, if_neg n4, if_pos n5]
      obtain ⟨j, hj, rfl⟩ := nI_of n2
      obtain ⟨l, hl, rfl⟩ := nI_of n4
      obtain ⟨m, hm, rfl⟩ := nI_of n5
      rw [q_hp_n hz1 hj hm, q_hp_n hz2 hl hm] at hb
      rw [if_neg n2, if_neg n4, if_neg n5]
      by_cases c1 : j + m ≤ G.sz i
      · have c2 : ¬ l + m ≤ G.sz t := fun c2 => by
          rw [if_pos c1, if_pos c2] at hb
          revert hb; decide
        rw [if_neg (fun e => by have := (q_sub_lt hz1 hj hm).mp e; omega), if_neg (fun e => c2 ((q_sub_le hz2 hl hm).mp e))]
      · rw [if_pos ((q_sub_lt hz1 hj hm).mpr (by omega))]
    by_cases b1 : q_hp a2 a5 (G.sz i) = 0
    · rw [b1, if_pos rfl, ri0]
      exact ⟨σ, σ, _, rfl, bad (Or.inl b1), RR_same hX hM ok⟩
    rw [if_neg b1, en_cl hst, x_places hst (hX.sz t ht4), c1s]
    by_cases b2 : q_hp a4 a5 (G.sz t) = 0
    · rw [b2, if_pos rfl, ri0]
      exact ⟨σ, σ, _, rfl, bad (Or.inr b2), RR_same hX hM ok⟩
    have n2 : ¬ a2 < 0 := fun e => b1 (by unfold q_hp; rw [if_pos e])
    have n4 : ¬ a4 < 0 := fun e => b2 (by unfold q_hp; rw [if_pos e])
    have n5 : ¬ a5 < 0 := fun e => b1 (by unfold q_hp; rw [if_neg n2, if_pos e])
    obtain ⟨j, hj, rfl⟩ := nI_of n2
    obtain ⟨l, hl, rfl⟩ := nI_of n4
    obtain ⟨m, hm, rfl⟩ := nI_of n5
    have c1 : j + m ≤ G.sz i := by
      rw [q_hp_n hz1 hj hm] at b1
      by_cases c : j + m ≤ G.sz i
      · exact c
      · exact absurd (if_neg c) b1
    have c2 : l + m ≤ G.sz t := by
      rw [q_hp_n hz2 hl hm] at b2
      by_cases c : l + m ≤ G.sz t
      · exact c
      · exact absurd (if_neg c) b2
    rw [if_neg b2, en_gr hso rfl, en_gr hst rfl, en_cp (hX.x.sp i hi4) (hX.x.sp t ht4) n2 n4 n5 (by rw [nI_clamp hj, nI_clamp hm]; omega) (by rw [nI_clamp hl, nI_clamp hm]; omega), ri0, nI_clamp hj, nI_clamp hl, nI_clamp hm]
    generalize hτ : (fun b => if b = 63 + 2 * t then va_cpy (σ (63 + 2 * i)) (σ (63 + 2 * t)) j l m else σ b) = τ
    have t1 : τ (63 + 2 * t) = va_cpy (σ (63 + 2 * i)) (σ (63 + 2 * t)) j l m := by rw [← hτ]; exact if_pos rfl
    have t2 : ∀ b, b ≠ 63 + 2 * t → τ b = σ b := fun b hb => by rw [← hτ]; exact if_neg hb
    obtain ⟨σ', r1, r2, r3⟩ := m_mv1 (xs := xs) (d := 11) (σ := τ) hM.mo hi4 (show j + m ≤ 24 by omega) ht4 (show l + m ≤ 24 by omega) m 0 99999 τ (by omega) (by omega) (fun x h => absurd h (by omega)) (fun _ _ => rfl)
    refine ⟨τ, σ', _, rfl, ?_, ?_⟩
    · rw [M0 τ (t2 103 (by omega)) (t2 104 (by omega)), if_neg n2, if_neg n4, if_neg n5, if_neg (fun e => by have := (q_sub_lt hz1 hj hm).mp e; omega), if_pos ((q_sub_le hz2 hl hm).mpr c2)]
      exact r1
    · refine RR_sheet (σ1 := τ) hX hM ok (i := t) (n := G.sz t) (s := G.so t) (c := va_cpy (G.ce i) (G.ce t) j l m) ht4 (ok.so t ht4) hz2 (by rw [t2 _ (by omega)]; exact hX.so t ht4) (by rw [t2 _ (by omega)]; exact hX.sz t ht4) (fun k hk => ?_) (fun b _ hb => t2 b hb) (fun u hu => ?_) (fun u hu => ?_) (fun u hu k hk => ?_) (fun b h1 h2 h3 h4 => r3 b h3 h4)
      · rw [t1]
        unfold va_cpy
        by_cases c : l ≤ k ∧ k < l + m
        · rw [if_pos c, if_pos c, hX.ce i hi4 _ (by omega)]
        · rw [if_neg c, if_neg c, hX.ce t ht4 k hk]
      · rw [r3 103 (by decide) (by decide), t2 103 (by omega)]
        split
        · rename_i e; subst e; exact hM.so u hu
        · rfl
      · rw [r3 104 (by decide) (by decide), t2 104 (by omega)]
        split
        · rename_i e; subst e; exact hM.sz u hu
        · rfl
      · rw [r2, t2 105 (by omega)]
        by_cases e : u = t
        · subst e
          rw [if_pos rfl]
          unfold va_cpy
          by_cases c : l ≤ k ∧ k < l + m
          · rw [if_pos (by omega), if_pos c, show 24 * i + j + (24 * u + k - (24 * u + l)) = 24 * i + (j + (k - l)) by omega, hM.ce i hi4 _ (by omega)]
          · rw [if_neg (by omega), if_neg c, hM.ce u hu k hk]
        · rw [if_neg (by omega), if_neg e]
  · rw [if_neg es, ri0]
    refine ⟨σ, σ, _, rfl, ?_, RR_same hX hM ok⟩
    rw [ev_X7_copy, m_isSheet, c1s, e1, if_neg (by decide), m_isSheet, c1s, e3, if_neg (by decide), en_gr hM.mo.o rfl, p σ rfl i hi4, if_neg e0', en_gr hM.mo.o rfl, p σ rfl t ht4, if_pos f0, en_gr hM.mo.o rfl, p σ rfl i hi4, en_gr hM.mo.o rfl, p σ rfl t ht4, if_neg es, ri0]
end CY
