/-! ===== the reference's object at 90: 91 now, 92 image, 93 aside, 94 unlike, 95 tape, 96 keys, 97 keyAt, 98 code, 99 waits, 100 tested, 101 stack, 102 facts, 103 sorts, 104 sizes, 105 cells, 106 holds, 107 holdsA, 108 holdsB, 109 heldCells, 110 moved, 111 tells ===== -/
def mo_tm : List (Option Nat) := [some 91, some 92, some 93, none, some 94, some 95, none, none, none, none, none, none, none, some 96, some 97, some 98, none, none, some 99, none, some 100, some 101, some 102, some 103, some 104, some 105, some 106, some 107, some 108, some 109, some 110, some 111, none]
def mo_tab : List en_S := [.inl (7, mo_tm), .inr (.inl (0, 1443)), .inr (.inl (0, 1443)), .inr (.inl (0, 1443)), .inr (.inl (0, 10)), .inr (.inl (0, 96)), .inr (.inl (2, 12)), .inr (.inl (0, 4)), .inr (.inl (0, 96)), .inr (.inl (0, 96)), .inr (.inl (1, 10)), .inr (.inl (0, 96)), .inr (.inl (0, 4)), .inr (.inl (0, 4)), .inr (.inl (0, 4)), .inr (.inl (0, 96)), .inr (.inl (0, 5)), .inr (.inl (0, 5)), .inr (.inl (0, 5)), .inr (.inl (0, 120)), .inr (.inl (0, 24)), .inr (.inl (0, 60))]
def isMo (S : List en_S) : Prop := ∀ (k : Nat) (x : en_S), mo_tab[k]? = some x → S[90 + k]? = some x
def mLegs (σ : Nat → Nat → Int32) (n : Nat) (L : Nat → Nat → Nat) : Prop := ∀ i, i < n → ∀ j, j < 6 → σ 91 (11 + 6 * i + j) = nI (L i j)
/-- a place outside the legs -/
def mOut (n x : Nat) : Prop := ∀ k, k < n → ∀ j, j < 6 → x ≠ 11 + 6 * k + j
section MO
variable {S : List en_S} {σ : Nat → Nat → Int32} {d n : Nat} {xs : List Int32} {L : Nat → Nat → Nat}
theorem isMo.o (hM : isMo S) : S[90]? = some (.inl (7, mo_tm)) := hM 0 _ rfl
theorem isMo.w (hM : isMo S) : S[91]? = some (.inr (.inl (0, 1443))) := hM 1 _ rfl
theorem m_in (xs : List Int32) (d : Nat) (a lo hi : Int32) (h : mx_H) : mx_ev xs mx_P (d + 1) 133 [.int a, .int lo, .int hi] h = some (some (.int (if a < lo then 0 else if hi < a then 0 else 1)), h) := by
  rw [ev_X7_in]
  split
  · rfl
  · split <;> rfl
theorem m_within (xs : List Int32) (d : Nat) {v lo hi : Nat} {x y z : Int32} (h : mx_H) (hx : x = nI v) (hy : y = nI lo) (hz : z = nI hi) (hv : v < 2 ^ 31) (hl : lo ≤ hi) (hh : hi < 2 ^ 31) : mx_ev xs mx_P (d + 1) 134 [.int x, .int y, .int z] h = some (some (.int (nI (max lo (min hi v)))), h) := by
  subst hx; subst hy; subst hz
  rw [ev_X7_within]
  by_cases h1 : lo ≤ v
  · rw [if_pos ((nI_leI (by omega) hv).mpr h1)]
    by_cases h2 : v ≤ hi
    · rw [if_pos ((nI_leI hv hh).mpr h2), ri0, show max lo (min hi v) = v by omega]
    · rw [if_neg (fun e => h2 ((nI_leI hv hh).mp e)), ri0, show max lo (min hi v) = hi by omega]
  · rw [if_neg (fun e => h1 ((nI_leI (by omega) hv).mp e)), ri0, show max lo (min hi v) = lo by omega]
/-- a difference, held within 0 and 99 -/
theorem m_within0 (xs : List Int32) (d : Nat) {a b : Nat} {x : Int32} (h : mx_H) (hx : x = nI a - nI b) (ha : a ≤ 99) (hb : b < 2 ^ 30) : mx_ev xs mx_P (d + 1) 134 [.int x, .int 0, .int 99] h = some (some (.int (nI (a - b))), h) := by
  subst hx
  by_cases h1 : b ≤ a
  · rw [pk_sub h1, m_within xs d (v := a - b) (lo := 0) (hi := 99) (y := 0) (z := 99) h rfl rfl rfl (by omega) (by omega) (by decide), show max 0 (min 99 (a - b)) = a - b by omega]
  · rw [ev_X7_within, if_neg (fun e => by
      have h3 := pk_sneg (a := a) hb (by omega)
      exact Int32.lt_irrefl (Int32.lt_of_lt_of_le h3 e)), ri0, show a - b = 0 by omega]
    rfl
theorem m_ix {i j : Nat} {w : Int32} (hw : w = nI j) : (11 : Int32) + 6 * nI i + w = nI (11 + 6 * i + j) := by
  subst hw
  rw [show (11 : Int32) = nI 11 from rfl, show (6 : Int32) = nI 6 from rfl, pk_mul, nI_add, nI_add]
theorem m_of (hM : isMo S) {i j : Nat} {w : Int32} (hi : i < 10) (hj : j < 6) (hw : w = nI j) : mx_ev xs mx_P (d + 1) 138 [.ref 90, .int (nI i), .int w] (en S σ) = some (some (.int (σ 91 (11 + 6 * i + j))), en S σ) := by
  rw [ev_X7_of, en_gr hM.o rfl, m_ix hw, en_aiN hM.w (by omega) (by decide)]
  rfl
theorem m_put (hM : isMo S) {i j : Nat} {w v : Int32} (hi : i < 10) (hj : j < 6) (hw : w = nI j) : mx_ev xs mx_P (d + 1) 139 [.ref 90, .int (nI i), .int w, .int v] (en S σ) = some (none, en S (en_up σ 91 (11 + 6 * i + j) v)) := by
  rw [ev_X7_put, en_gr hM.o rfl, m_ix hw, en_asN hM.w (by omega) (by decide)]
  rfl
theorem m_losesOf (hM : isMo S) {i : Nat} (hi : i < n) (h10 : n ≤ 10) (hL : mLegs σ n L) (hk : q_leg (L i)) : mx_ev xs mx_P (d + 2) 144 [.ref 90, .int (nI i)] (en S σ) = some (some (.int (nI (q_loses (L i)))), en S σ) := by
  obtain ⟨h0, h1, h2, h3, h4, h5⟩ := hk
  rw [ev_X7_losesOf, en_cl hM.o, m_of (w := 4) (j := 4) hM (by omega) (by decide) rfl, c1s, if_neg (by decide), en_cl hM.o, m_of (w := 0) (j := 0) hM (by omega) (by decide) rfl, c1s, hL i hi 4 (by decide), hL i hi 0 (by decide)]
  have hd : nI (L i 4) / 10 = nI (L i 4 / 10) := pk_div (d := 10) (by omega) (by decide) (by decide)
  rw [hd]
  unfold q_loses
  rcases (show L i 0 = 0 ∨ L i 0 = 1 ∨ L i 0 = 2 ∨ L i 0 = 3 ∨ L i 0 = 4 ∨ L i 0 = 5 by omega) with e | e | e | e | e | e <;> rw [e]
  · rfl
  · rfl
  · show some (some (Value.int (nI 5 + nI (L i 4 / 10))), _) = _
    rw [nI_add]
    rfl
  · rfl
  · show some (some (Value.int (nI 2 * (nI 5 + nI (L i 4 / 10)))), _) = _
    rw [nI_add, pk_mul]
    rfl
  · rfl
theorem m_bagsOf (hM : isMo S) {i : Nat} (hi : i < n) (h10 : n ≤ 10) (hL : mLegs σ n L) (hk : q_leg (L i)) : mx_ev xs mx_P (d + 2) 145 [.ref 90, .int (nI i)] (en S σ) = some (some (.int (nI (q_bags (L i)))), en S σ) := by
  obtain ⟨h0, h1, h2, h3, h4, h5⟩ := hk
  rw [ev_X7_bagsOf, en_cl hM.o, m_of (w := 0) (j := 0) hM (by omega) (by decide) rfl, c1s, hL i hi 0 (by decide)]
  unfold q_bags
  rcases (show L i 0 = 0 ∨ L i 0 = 1 ∨ L i 0 = 2 ∨ L i 0 = 3 ∨ L i 0 = 4 ∨ L i 0 = 5 by omega) with e | e | e | e | e | e <;> rw [e] <;> rfl
theorem m_worn_loop (hM : isMo S) (h10 : n ≤ 10) {w A B : Nat} (hw : w < n) (hL : ∀ i, i < n → q_leg (L i)) : ∀ (m i : Nat) (σ : Nat → Nat → Int32) (N : Nat), i + m = n → m < N → σ 91 1 = nI n → (∀ k, k < n → ∀ j, j < 6 → σ 91 (11 + 6 * k + j) = nI (if k < i ∧ j = 4 then L k 4 - 2 else L k j)) → ∃ σ', mx_rn xs (mx_ev xs mx_P (d + 2)) kk_X7_isWorn N 41 [(0, .ref 90), (1, .int (nI w)), (2, .int (nI A)), (3, .int (nI B)), (4, .int (nI i))] [] (en S σ) = some (none, en S σ') ∧ (∀ k, k < n → ∀ j, j < 6 → σ' 91 (11 + 6 * k + j) = nI (if k = w ∧ j = 2 then A else if k = w ∧ j = 4 then B else if j = 4 then L k 4 - 2 else L k j)) ∧ (∀ b, b ≠ 91 → σ' b = σ b) ∧ ∀ x, mOut n x → σ' 91 x = σ 91 x
  | m, i, σ, 0, _, h2, _, _ => absurd h2 (by omega)
  | 0, i, σ, N + 1, h1, _, hn, ha => by
    rw [rn_X7_isWorn_41, en_gr hM.o rfl, show (1 : Int32) = nI 1 from rfl, en_aiN hM.w (by decide) (by decide), hn, if_pos (by rw [show i = n by omega]; exact Int32.le_refl _), en_cl hM.o, m_put (w := 2) (j := 2) hM (by omega) (by decide) rfl, c0s, en_cl hM.o, m_put (w := 4) (j := 4) hM (by omega) (by decide) rfl, c0s]
    refine ⟨_, rfl, fun k hk j hj => ?_, fun b hb => ?_, fun x hx => ?_⟩
    · rw [en_up_i, en_up_i, ha k hk j hj]
      by_cases e1 : k = w ∧ j = 4
      · obtain ⟨rfl, rfl⟩ := e1
        simp
      · by_cases e2 : k = w ∧ j = 2
        · obtain ⟨rfl, rfl⟩ := e2
          rw [if_neg (by omega), if_pos (by omega), if_pos ⟨rfl, rfl⟩]
        · rw [if_neg (by omega), if_neg (by omega), if_neg e2, if_neg e1]
          by_cases e3 : j = 4
          · rw [if_pos ⟨by omega, e3⟩, if_pos e3]
          · rw [if_neg (fun h => e3 h.2), if_neg e3]
    · unfold en_up
      rw [if_neg hb, if_neg hb]
    · rw [en_up_i, en_up_i, if_neg (fun h => hx w hw 4 (by decide) h.2), if_neg (fun h => hx w hw 2 (by decide) h.2)]
  | m + 1, i, σ, N + 1, h1, h2, hn, ha => by
    have hi : i < n := by omega
    have hk := hL i hi
    have hk4 := hk.2.2.2.2.1
    have h14 := ha i hi 4 (by decide)
    rw [if_neg (by omega)] at h14
    rw [rn_X7_isWorn_41, en_gr hM.o rfl, show (1 : Int32) = nI 1 from rfl, en_aiN hM.w (by decide) (by decide), hn, if_neg (nI_ge hi (by omega)), en_cl hM.o, m_of (w := 4) (j := 4) hM (by omega) (by decide) rfl, c1s, h14, m_within0 xs (d + 1) (a := L i 4) (b := 2) (x := nI (L i 4) - 2) _ rfl hk4 (by decide), c1s, en_cl hM.o, m_put (w := 4) (j := 4) hM (by omega) (by decide) rfl, c0s, nI_add]
    obtain ⟨σ', r1, r2, r3, r4⟩ := m_worn_loop hM h10 (A := A) (B := B) hw hL m (i + 1) (en_up σ 91 (11 + 6 * i + 4) (nI (L i 4 - 2))) N (by omega) (by omega) (by rw [en_up_k (by omega)]; exact hn) (fun k hk j hj => by
      rw [en_up_i, ha k hk j hj]
      by_cases e : k = i ∧ j = 4
      · obtain ⟨rfl, rfl⟩ := e
        rw [if_pos ⟨rfl, rfl⟩, if_pos (by omega)]
      · rw [if_neg (by omega)]
        congr 1
        by_cases e2 : k < i ∧ j = 4
        · rw [if_pos e2, if_pos (by omega)]
        · rw [if_neg e2, if_neg (by omega)])
    refine ⟨σ', r1, r2, fun b hb => ?_, fun x hx => ?_⟩
    · rw [r3 b hb]
      unfold en_up
      rw [if_neg hb]
    · rw [r4 x hx, en_up_k (hx i hi 4 (by decide))]
theorem m_isWorn (hM : isMo S) (h10 : n ≤ 10) {w : Nat} (hw : w < n) (hL : ∀ i, i < n → q_leg (L i)) (hn : σ 91 1 = nI n) (hq : mLegs σ n L) : ∃ σ', mx_ev xs mx_P (d + 3) 161 [.ref 90, .int (nI w)] (en S σ) = some (none, en S σ') ∧ mLegs σ' n (q_wear w L) ∧ (∀ b, b ≠ 91 → σ' b = σ b) ∧ ∀ x, mOut n x → σ' 91 x = σ 91 x := by
  have hk := hL w hw
  have hlo := q_loses_le hk
  have hba := q_bags_le (l := L w)
  have hk2 := hk.2.2.1
  have hk4 := hk.2.2.2.2.1
  rw [ev_X7_isWorn, en_cl hM.o, m_of (w := 2) (j := 2) hM (by omega) (by decide) rfl, c1s, en_cl hM.o, m_losesOf hM hw h10 hq hk, c1s, hq w hw 2 (by decide), m_within0 xs (d + 1) (a := L w 2) (b := q_loses (L w)) _ rfl hk2 (by omega), c1s, en_cl hM.o, m_of (w := 4) (j := 4) hM (by omega) (by decide) rfl, c1s, en_cl hM.o, m_bagsOf hM hw h10 hq hk, c1s, hq w hw 4 (by decide), nI_add, m_within xs (d + 1) (lo := 0) (hi := 99) (v := L w 4 + q_bags (L w)) (y := 0) (z := 99) _ rfl rfl rfl (by omega) (by omega) (by decide), c1s]
  obtain ⟨σ', r1, r2, r3, r4⟩ := m_worn_loop (xs := xs) (d := d) hM h10 (A := L w 2 - q_loses (L w)) (B := max 0 (min 99 (L w 4 + q_bags (L w)))) hw hL n 0 σ 99999 (by omega) (by omega) hn (fun k hk j hj => by rw [if_neg (by omega)]; exact hq k hk j hj)
  refine ⟨σ', r1, fun k hk j hj => ?_, r3, r4⟩
  rw [r2 k hk j hj]
  congr 1
  unfold q_wear
  by_cases e : k = w
  · subst e
    simp only [true_and, if_true]
    by_cases e2 : j = 2
    · rw [if_pos e2, if_pos e2]
    · rw [if_neg e2, if_neg e2]
      by_cases e4 : j = 4
      · rw [if_pos e4, if_pos e4]; omega
      · rw [if_neg e4, if_neg e4, if_neg e4]
  · rw [if_neg (fun h => e h.1), if_neg (fun h => e h.1), if_neg e]
end MO
