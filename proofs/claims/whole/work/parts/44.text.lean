/-! ===== laws in the order in which they are worked out: a number below 10000, a name 10000 and its place, a sign 20001 .. 20009, a not 20010 ===== -/
def q_ec (c : Nat) : Int32 := if c < 20000 then nI c else if c = 20001 then -124 else if c = 20002 then -38 else if c = 20003 then -60 else if c = 20004 then -61 else if c = 20005 then -62 else if c = 20006 then -43 else if c = 20007 then -45 else if c = 20008 then -42 else if c = 20009 then -47 else -33
def q_em (c : Nat) : Int32 := if c < 20000 then nI c else if c = 20001 then -1 else if c = 20002 then -2 else if c = 20003 then -3 else if c = 20004 then -4 else if c = 20005 then -5 else if c = 20006 then -6 else if c = 20007 then -7 else if c = 20008 then -8 else if c = 20009 then -9 else -10
def q_two (k : Nat) (a b : Int32) : Int32 := if k = 20001 then (if a = 0 then if b = 0 then 0 else 1 else 1) else if k = 20002 then (if a = 0 then 0 else if b = 0 then 0 else 1) else if k = 20003 then (if b ≤ a then 0 else 1) else if k = 20004 then (if a = b then 1 else 0) else if k = 20005 then (if a ≤ b then 0 else 1) else if k = 20006 then a + b else if k = 20007 then a - b else if k = 20008 then a * b else (if b = 0 then 0 else a / b)
def q_not (x : Int32) : Int32 := if x = 0 then 1 else 0
def q_step (nm : Nat → Int32) (c : Nat) (s : Nat × (Nat → Int32)) : Nat × (Nat → Int32) :=
  if c < 10000 then (s.1 + 1, upd s.2 s.1 (nI c)) else if c < 20000 then (s.1 + 1, upd s.2 s.1 (nm (c - 10000))) else if c = 20010 then (s.1, upd s.2 (s.1 - 1) (q_not (s.2 (s.1 - 1)))) else (s.1 - 1, upd s.2 (s.1 - 2) (q_two c (s.2 (s.1 - 2)) (s.2 (s.1 - 1))))
def q_run (nm : Nat → Int32) : List Nat → Nat × (Nat → Int32) → Nat × (Nat → Int32)
  | [], s => s
  | c :: cs, s => q_run nm cs (q_step nm c s)
/-- what a law gives -/
def q_val (nm : Nat → Int32) (cs : List Nat) : Int32 := (q_run nm cs (0, fun _ => 0)).2 0
/-- B names; t values wait -/
def q_wf (B : Nat) : List Nat → Nat → Prop
  | [], t => 1 ≤ t
  | c :: cs, t => (c < 10000 + B ∧ t < 96 ∧ q_wf B cs (t + 1)) ∨ (c = 20010 ∧ 1 ≤ t ∧ q_wf B cs t) ∨ ((20001 ≤ c ∧ c ≤ 20009) ∧ 2 ≤ t ∧ q_wf B cs (t - 1))
theorem q_nI_ne {c : Nat} (hc : c < 2 ^ 31) {x : Int32} (hx : x < 0) : ¬ nI c = x := fun e => nI_pos hc (by rw [e]; exact hx)
theorem q_joined (xs : List Int32) (d : Nat) {c : Nat} (hc : 20001 ≤ c ∧ c ≤ 20009) (a b : Int32) (h : mx_H) : mx_ev xs mx_P (d + 1) 81 [.int (-(q_ec c)), .int a, .int b] h = some (some (.int (q_two c a b)), h) := by
  rw [ev_X5_joined]
  obtain ⟨h1, h2⟩ := hc
  rcases (show c = 20001 ∨ c = 20002 ∨ c = 20003 ∨ c = 20004 ∨ c = 20005 ∨ c = 20006 ∨ c = 20007 ∨ c = 20008 ∨ c = 20009 by omega) with rfl | rfl | rfl | rfl | rfl | rfl | rfl | rfl | rfl
  · rw [show -(q_ec 20001) = 124 by decide]
    simp only [q_two, ri0]
    by_cases e1 : a = 0 <;> by_cases e2 : b = 0 <;> simp [e1, e2]
  · rw [show -(q_ec 20002) = 38 by decide]
    simp only [q_two, ri0]
    by_cases e1 : a = 0 <;> by_cases e2 : b = 0 <;> simp [e1, e2]
  · rw [show -(q_ec 20003) = 60 by decide]
    simp only [q_two, ri0]
    by_cases e1 : b ≤ a <;> simp [e1]
  · rw [show -(q_ec 20004) = 61 by decide]
    simp only [q_two, ri0]
    by_cases e1 : a = b <;> simp [e1]
  · rw [show -(q_ec 20005) = 62 by decide]
    simp only [q_two, ri0]
    by_cases e1 : a ≤ b <;> simp [e1]
  · rw [show -(q_ec 20006) = 43 by decide]
    simp [q_two, ri0]
  · rw [show -(q_ec 20007) = 45 by decide]
    simp [q_two, ri0]
  · rw [show -(q_ec 20008) = 42 by decide]
    simp [q_two, ri0]
  · rw [show -(q_ec 20009) = 47 by decide]
    simp only [q_two, ri0]
    by_cases e1 : b = 0 <;> simp [e1]
theorem q_twom (xs : List Int32) (d : Nat) {c : Nat} (hc : 20001 ≤ c ∧ c ≤ 20009) (a b : Int32) (h : mx_H) : mx_ev xs mx_P (d + 1) 199 [.int (q_em c), .int a, .int b] h = some (some (.int (q_two c a b)), h) := by
  rw [ev_X7_two]
  obtain ⟨h1, h2⟩ := hc
  rcases (show c = 20001 ∨ c = 20002 ∨ c = 20003 ∨ c = 20004 ∨ c = 20005 ∨ c = 20006 ∨ c = 20007 ∨ c = 20008 ∨ c = 20009 by omega) with rfl | rfl | rfl | rfl | rfl | rfl | rfl | rfl | rfl
  · rw [show q_em 20001 = -1 by decide]
    simp only [q_two, ri0]
    by_cases e1 : a = 0 <;> by_cases e2 : b = 0 <;> simp [e1, e2]
  · rw [show q_em 20002 = -2 by decide]
    simp only [q_two, ri0]
    by_cases e1 : a = 0 <;> by_cases e2 : b = 0 <;> simp [e1, e2]
  · rw [show q_em 20003 = -3 by decide]
    simp only [q_two, ri0]
    by_cases e1 : b ≤ a <;> simp [e1]
  · rw [show q_em 20004 = -4 by decide]
    simp only [q_two, ri0]
    by_cases e1 : a = b <;> simp [e1]
  · rw [show q_em 20005 = -5 by decide]
    simp only [q_two, ri0]
    by_cases e1 : a ≤ b <;> simp [e1]
  · rw [show q_em 20006 = -6 by decide]
    simp [q_two, ri0]
  · rw [show q_em 20007 = -7 by decide]
    simp [q_two, ri0]
  · rw [show q_em 20008 = -8 by decide]
    simp [q_two, ri0]
  · rw [show q_em 20009 = -9 by decide]
    simp only [q_two, ri0]
    by_cases e1 : b = 0 <;> simp [e1]
section TX
variable {S : List en_S} {d : Nat} {xs : List Int32} {ta as nb sb len B : Nat} {nm : Nat → Int32}
theorem tx_val_loop (hT : S[ta]? = some (.inl (5, [none, none, some as]))) (hA : S[as]? = some (.inr (.inl (0, len)))) (hN : S[nb]? = some (.inr (.inl (0, 4)))) (hB : S[sb]? = some (.inr (.inl (0, 96)))) (hB4 : B ≤ 4) (hl : len ≤ 96) (h1 : as ≠ sb) (h2 : nb ≠ sb) : ∀ (cs : List Nat) (i : Nat) (s : Nat × (Nat → Int32)) (σ : Nat → Nat → Int32) (N : Nat), i + cs.length = len → cs.length < N → (∀ k c, cs[k]? = some c → σ as (i + k) = q_ec c) → (∀ k, k < B → σ nb k = nm k) → (∀ k, k < s.1 → σ sb k = s.2 k) → s.1 ≤ 96 → q_wf B cs s.1 → ∃ σ', mx_rn xs (mx_ev xs mx_P (d + 1)) kk_X5_value N 5 [(0, .ref ta), (1, .ref nb), (2, .ref sb), (3, .int (nI s.1)), (4, .int (nI i))] [] (en S σ) = some (some (.int ((q_run nm cs s).2 0)), en S σ') ∧ ∀ b, b ≠ sb → σ' b = σ b
  | cs, i, s, σ, 0, _, h, _, _, _, _, _ => absurd h (by omega)
  | [], i, s, σ, N + 1, hi, _, _, _, hs, _, hw => by
    have hw : 1 ≤ s.1 := hw
    simp only [List.length_nil] at hi
    refine ⟨σ, ?_, fun _ _ => rfl⟩
    rw [rn_X5_value_5, en_gr hT rfl, en_al hA (by decide), show Int32.ofNat len = nI len from rfl, if_pos (by rw [show i = len by omega]; exact Int32.le_refl _), if_neg (by rw [show (1 : Int32) = nI 1 from rfl]; exact nI_nlt hw (by omega)), show (0 : Int32) = nI 0 from rfl, en_aiN hB (by decide) (by decide), hs 0 (by omega)]
    rfl
  | c :: cs, i, s, σ, N + 1, hi, hN2, hc, hn, hs, ht, hw => by
    simp only [List.length_cons] at hi hN2
    have hc0 : σ as i = q_ec c := hc 0 c rfl
    have hc1 : ∀ k c', cs[k]? = some c' → σ as (i + 1 + k) = q_ec c' := fun k c' h => by
      have := hc (k + 1) c' (by simpa using h)
      rwa [show i + (k + 1) = i + 1 + k by omega] at this
    have step : ∀ (s' : Nat × (Nat → Int32)) (σ1 : Nat → Nat → Int32), s' = q_step nm c s → (∀ b, b ≠ sb → σ1 b = σ b) → (∀ k, k < s'.1 → σ1 sb k = s'.2 k) → s'.1 ≤ 96 → q_wf B cs s'.1 → ∃ σ', mx_rn xs (mx_ev xs mx_P (d + 1)) kk_X5_value N 5 [(0, .ref ta), (1, .ref nb), (2, .ref sb), (3, .int (nI s'.1)), (4, .int (nI (i + 1)))] [] (en S σ1) = some (some (.int ((q_run nm (c :: cs) s).2 0)), en S σ') ∧ ∀ b, b ≠ sb → σ' b = σ b := by
      intro s' σ1 e hb hs1 ht1 hw1
      obtain ⟨σ', r1, r2⟩ := tx_val_loop hT hA hN hB hB4 hl h1 h2 cs (i + 1) s' σ1 N (by omega) (by omega) (fun k c' h => by rw [hb as h1]; exact hc1 k c' h) (fun k hk => by rw [hb nb h2]; exact hn k hk) hs1 ht1 hw1
      refine ⟨σ', ?_, fun b hbb => (r2 b hbb).trans (hb b hbb)⟩
      rw [r1]
      show _ = some (some (Value.int ((q_run nm cs (q_step nm c s)).2 0)), _)
      rw [e]
    rw [rn_X5_value_5, en_gr hT rfl, en_al hA (by decide), show Int32.ofNat len = nI len from rfl, if_neg (nI_ge (by omega) (by omega)), en_gr hT rfl, en_aiN hA (by omega) (by omega), hc0, nI_1]
    rcases hw with ⟨hcB, hts, hw⟩ | ⟨rfl, hts, hw⟩ | ⟨hcb, hts, hw⟩
    · have e1 : q_ec c = nI c := by unfold q_ec; rw [if_pos (by omega)]
      rw [e1, if_neg (q_nI_ne (by omega) (by decide)), if_pos (nI_pos' (by omega)), en_al hB (by decide), show Int32.ofNat 96 = nI 96 from rfl, if_neg (nI_ge hts (by decide)), nI_1]
      by_cases hnum : c < 10000
      · rw [if_pos (by rw [show (10000 : Int32) = nI 10000 from rfl]; exact pk_sneg (by decide) hnum), en_asN hB hts (by decide)]
        refine step (s.1 + 1, upd s.2 s.1 (nI c)) _ (by simp [q_step, hnum]) (fun b hb => by unfold en_up; rw [if_neg hb]) (fun k hk => ?_) (by show s.1 + 1 ≤ 96; omega) hw
        rw [en_up_i]
        show _ = upd s.2 s.1 (nI c) k
        unfold upd
        by_cases e : k = s.1
        · rw [if_pos ⟨rfl, e⟩, if_pos e]
        · rw [if_neg (fun h => e h.2), if_neg e]
          exact hs k (by have : k < s.1 + 1 := hk; omega)
      · have e2 : nI c - 10000 = nI (c - 10000) := by rw [show (10000 : Int32) = nI 10000 from rfl, pk_sub (by omega)]
        rw [e2, if_neg (nI_pos (by omega)), en_al hN (by decide), show Int32.ofNat 4 = nI 4 from rfl, if_neg (nI_ge (by omega) (by decide)), en_aiN hN (by omega) (by decide), hn _ (by omega), en_asN hB hts (by decide)]
        refine step (s.1 + 1, upd s.2 s.1 (nm (c - 10000))) _ (by simp [q_step, hnum, show c < 20000 by omega]) (fun b hb => by unfold en_up; rw [if_neg hb]) (fun k hk => ?_) (by show s.1 + 1 ≤ 96; omega) hw
        rw [en_up_i]
        show _ = upd s.2 s.1 (nm (c - 10000)) k
        unfold upd
        by_cases e : k = s.1
        · rw [if_pos ⟨rfl, e⟩, if_pos e]
        · rw [if_neg (fun h => e h.2), if_neg e]
          exact hs k (by have : k < s.1 + 1 := hk; omega)
    · have e3 : nI s.1 - 1 = nI (s.1 - 1) := by rw [show (1 : Int32) = nI 1 from rfl, pk_sub hts]
      rw [if_pos (by decide), if_neg (by rw [show (1 : Int32) = nI 1 from rfl]; exact nI_nlt hts (by omega)), e3, en_aiN hB (by omega) (by decide), hs _ (by omega)]
      have fin : ∀ v, v = q_not (s.2 (s.1 - 1)) → ∃ σ', mx_rn xs (mx_ev xs mx_P (d + 1)) kk_X5_value N 5 [(0, .ref ta), (1, .ref nb), (2, .ref sb), (3, .int (nI s.1)), (4, .int (nI (i + 1)))] [] (en S (en_up σ sb (s.1 - 1) v)) = some (some (.int ((q_run nm (20010 :: cs) s).2 0)), en S σ') ∧ ∀ b, b ≠ sb → σ' b = σ b := by
        intro v hv
        refine step (s.1, upd s.2 (s.1 - 1) v) _ (by rw [hv]; simp [q_step]) (fun b hb => by unfold en_up; rw [if_neg hb]) (fun k hk => ?_) ht hw
        rw [en_up_i]
        show _ = upd s.2 (s.1 - 1) v k
        unfold upd
        by_cases e : k = s.1 - 1
        · rw [if_pos ⟨rfl, e⟩, if_pos e]
        · rw [if_neg (fun h => e h.2), if_neg e]
          exact hs k hk
      by_cases ez : s.2 (s.1 - 1) = 0
      · rw [if_pos ez, en_asN hB (by omega) (by decide)]
        exact fin 1 (by unfold q_not; rw [if_pos ez])
      · rw [if_neg ez, en_asN hB (by omega) (by decide)]
        exact fin 0 (by unfold q_not; rw [if_neg ez])
    · have e3 : nI s.1 - 1 = nI (s.1 - 1) := by rw [show (1 : Int32) = nI 1 from rfl, pk_sub (by omega)]
      have e4 : nI s.1 - 2 = nI (s.1 - 2) := by rw [show (2 : Int32) = nI 2 from rfl, pk_sub hts]
      have e5 : nI s.1 + (-1) = nI (s.1 - 1) := sb_m1 (by omega)
      have e6 : ¬ q_ec c = -33 ∧ ¬ 0 ≤ q_ec c := by
        obtain ⟨g1, g2⟩ := hcb
        rcases (show c = 20001 ∨ c = 20002 ∨ c = 20003 ∨ c = 20004 ∨ c = 20005 ∨ c = 20006 ∨ c = 20007 ∨ c = 20008 ∨ c = 20009 by omega) with rfl | rfl | rfl | rfl | rfl | rfl | rfl | rfl | rfl <;> decide
      rw [if_neg e6.1, if_neg e6.2, if_neg (by rw [show (2 : Int32) = nI 2 from rfl]; exact nI_nlt hts (by omega)), e3, e4, e5, en_aiN hB (by omega) (by decide), en_aiN hB (by omega) (by decide), hs _ (by omega), hs _ (by omega), q_joined xs d hcb, c1s, en_asN hB (by omega) (by decide)]
      refine step (s.1 - 1, upd s.2 (s.1 - 2) (q_two c (s.2 (s.1 - 2)) (s.2 (s.1 - 1)))) _ (by simp only [q_step]; rw [if_neg (by omega), if_neg (by omega), if_neg (by omega)]) (fun b hb => by unfold en_up; rw [if_neg hb]) (fun k hk => ?_) (by show s.1 - 1 ≤ 96; omega) hw
      rw [en_up_i]
      show _ = upd s.2 (s.1 - 2) (q_two c (s.2 (s.1 - 2)) (s.2 (s.1 - 1))) k
      unfold upd
      by_cases e : k = s.1 - 2
      · rw [if_pos ⟨rfl, e⟩, if_pos e]
      · rw [if_neg (fun h => e h.2), if_neg e]
        exact hs k (by have : k < s.1 - 1 := hk; omega)
theorem tx_value {cs : List Nat} {σ : Nat → Nat → Int32} (hT : S[ta]? = some (.inl (5, [none, none, some as]))) (hA : S[as]? = some (.inr (.inl (0, cs.length)))) (hN : S[nb]? = some (.inr (.inl (0, 4)))) (hB : S[sb]? = some (.inr (.inl (0, 96)))) (hB4 : B ≤ 4) (hl : cs.length ≤ 96) (h1 : as ≠ sb) (h2 : nb ≠ sb) (hc : ∀ k c, cs[k]? = some c → σ as k = q_ec c) (hn : ∀ k, k < B → σ nb k = nm k) (hw : q_wf B cs 0) : ∃ σ', mx_ev xs mx_P (d + 2) 80 [.ref ta, .ref nb, .ref sb] (en S σ) = some (some (.int (q_val nm cs)), en S σ') ∧ ∀ b, b ≠ sb → σ' b = σ b := by
  rw [ev_X5_value]
  exact tx_val_loop (d := d) (xs := xs) hT hA hN hB hB4 hl h1 h2 cs 0 (0, fun _ => 0) σ 99999 (by omega) (by omega) (fun k c h => by rw [Nat.zero_add]; exact hc k c h) hn (fun k h => absurd h (by show ¬ k < 0; omega)) (by decide) hw
end TX
