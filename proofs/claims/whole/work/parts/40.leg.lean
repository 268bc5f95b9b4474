/-! ===== the mathematics of a leg: fields 0 kind, 1 place, 2 sharp, 3 tram, 4 knee, 5 holds ===== -/
def q_takes (l : Nat → Nat) (p : Nat) : Nat := if l 0 = 1 then min 99 (p + 10) else if l 0 = 2 then p / 2 else if l 0 = 3 then min 99 (min 99 (p + 10) + 2 * l 5) else if l 0 = 4 then max 30 (p / 2) else if l 0 = 5 then 20 else p
def q_loses (l : Nat → Nat) : Nat := if l 0 = 1 then 3 else if l 0 = 2 then 5 + l 4 / 10 else if l 0 = 3 then 1 else if l 0 = 4 then 2 * (5 + l 4 / 10) else if l 0 = 5 then 1 else 5
def q_bags (l : Nat → Nat) : Nat := if l 0 = 1 then 5 else if l 0 = 2 then 12 else if l 0 = 3 then 5 else if l 0 = 4 then 8 else if l 0 = 5 then 2 else 6
def q_worth (l : Nat → Nat) : Nat := if l 0 = 1 then l 2 - l 3 + l 5 else if l 0 = 2 then 99 - l 4 else if l 0 = 3 then 2 * (l 2 - l 3 + l 5) else if l 0 = 4 then (99 - l 4) / 2 else if l 0 = 5 then l 4 else l 2 - l 3
def q_leg (l : Nat → Nat) : Prop := l 0 ≤ 5 ∧ l 1 ≤ 59 ∧ l 2 ≤ 99 ∧ l 3 ≤ 99 ∧ l 4 ≤ 99 ∧ l 5 ≤ 9
abbrev en_leg : en_S := .inl (1, [none, none, none, none, none, none])
/-- what a leg's cell holds -/
def q_at (s : Nat → Int32) (l : Nat → Nat) : Prop := ∀ j, j < 6 → s j = nI (l j)
theorem ri0 (x : Int32) (h : mx_H) : mx_ri 0 [.int x] h = some (some (.int x), h) := rfl
theorem ri1_0 (h : mx_H) : mx_ri 1 [.int 0] h = some (some (.int 0), h) := rfl
theorem ri1_1 (h : mx_H) : mx_ri 1 [.int 1] h = some (some (.int 1), h) := rfl
theorem rv0 (h : mx_H) : mx_rv [] h = some (none, h) := rfl
theorem c1s (x : Int32) (h : mx_H) (f : Int32 → mx_H → mx_R) : mx_c1 (some (some (.int x), h)) f = f x h := rfl
theorem c0s (h : mx_H) (f : mx_H → mx_R) : mx_c0 (some (none, h)) f = f h := rfl
theorem c2s (x : Nat) (h : mx_H) (f : Nat → mx_H → mx_R) : mx_c2 (some (some (.ref x), h)) f = f x h := rfl
theorem q_max (xs : List Int32) (d : Nat) {a b : Nat} (h : mx_H) (ha : a < 2 ^ 31) (hb : b < 2 ^ 31) : mx_ev xs mx_P (d + 1) 2 [.int (nI a), .int (nI b)] h = some (some (.int (nI (max a b))), h) := by
  rw [ev_J9_max_7cf53]
  by_cases h1 : a < b
  · rw [if_pos ((nI_ltI ha hb).mpr h1), ri0, Nat.max_eq_right (by omega)]
  · rw [if_neg (fun e => h1 ((nI_ltI ha hb).mp e)), ri0, Nat.max_eq_left (by omega)]
theorem q_min (xs : List Int32) (d : Nat) {a b : Nat} (h : mx_H) (ha : a < 2 ^ 31) (hb : b < 2 ^ 31) : mx_ev xs mx_P (d + 1) 3 [.int (nI a), .int (nI b)] h = some (some (.int (nI (min a b))), h) := by
  rw [ev_J9_min_7cf53]
  by_cases h1 : b < a
  · rw [if_pos ((nI_ltI hb ha).mpr h1), ri0, Nat.min_eq_right (by omega)]
  · rw [if_neg (fun e => h1 ((nI_ltI hb ha).mp e)), ri0, Nat.min_eq_left (by omega)]
/-- a difference that is held at 0 -/
theorem q_max0 (xs : List Int32) (d : Nat) {a b : Nat} (h : mx_H) (ha : a < 2 ^ 30) (hb : b < 2 ^ 30) : mx_ev xs mx_P (d + 1) 2 [.int 0, .int (nI a - nI b)] h = some (some (.int (nI (a - b))), h) := by
  by_cases h1 : b ≤ a
  · rw [pk_sub h1]
    have h2 := q_max xs d (a := 0) (b := a - b) h (by decide) (by omega)
    rw [Nat.max_eq_right (Nat.zero_le _)] at h2
    exact h2
  · rw [ev_J9_max_7cf53, if_neg (fun e => by
      have h3 := pk_sneg (a := a) hb (by omega)
      exact Int32.lt_irrefl (Int32.lt_trans e h3)), ri0, show a - b = 0 by omega]
    rfl
section LEG
variable {S : List en_S} {σ : Nat → Nat → Int32} {a d : Nat} {xs : List Int32} {l : Nat → Nat}
theorem lg_loses (hS : S[a]? = some en_leg) (hl : q_at (σ a) l) (hk : q_leg l) : mx_ev xs mx_P (d + 1) 46 [.ref a] (en S σ) = some (some (.int (nI (q_loses l))), en S σ) := by
  obtain ⟨h0, h1, h2, h3, h4, h5⟩ := hk
  rw [ev_X1_loses, en_gi hS rfl, if_neg (by decide), en_gi hS rfl, hl 4 (by decide), hl 0 (by decide)]
  have hd : nI (l 4) / 10 = nI (l 4 / 10) := pk_div (d := 10) (by omega) (by decide) (by decide)
  rw [hd]
  unfold q_loses
  rcases (show l 0 = 0 ∨ l 0 = 1 ∨ l 0 = 2 ∨ l 0 = 3 ∨ l 0 = 4 ∨ l 0 = 5 by omega) with e | e | e | e | e | e <;> rw [e]
  · rfl
  · show some (some (Value.int ((5 : Int32) - 2)), _) = _
    rw [show (5 : Int32) - 2 = nI 3 by decide]
    rfl
  · show some (some (Value.int (nI 5 + nI (l 4 / 10))), _) = _
    rw [nI_add]
    rfl
  · rfl
  · show some (some (Value.int (nI 2 * (nI 5 + nI (l 4 / 10)))), _) = _
    rw [nI_add, pk_mul]
    rfl
  · rfl
theorem lg_bags (hS : S[a]? = some en_leg) (hl : q_at (σ a) l) (hk : q_leg l) : mx_ev xs mx_P (d + 1) 47 [.ref a] (en S σ) = some (some (.int (nI (q_bags l))), en S σ) := by
  obtain ⟨h0, h1, h2, h3, h4, h5⟩ := hk
  rw [ev_X1_bags, en_gi hS rfl, hl 0 (by decide)]
  unfold q_bags
  rcases (show l 0 = 0 ∨ l 0 = 1 ∨ l 0 = 2 ∨ l 0 = 3 ∨ l 0 = 4 ∨ l 0 = 5 by omega) with e | e | e | e | e | e <;> rw [e] <;> rfl
theorem lg_takes (hS : S[a]? = some en_leg) (hl : q_at (σ a) l) (hk : q_leg l) {p : Nat} (hp : p ≤ 99) : mx_ev xs mx_P (d + 2) 45 [.ref a, .int (nI p)] (en S σ) = some (some (.int (nI (q_takes l p))), en S σ) := by
  obtain ⟨h0, h1, h2, h3, h4, h5⟩ := hk
  have e1 : nI p + 10 = nI (p + 10) := nI_add p 10
  have e2 : nI p / 2 = nI (p / 2) := pk_div (d := 2) (by omega) (by decide) (by decide)
  have e3 := q_min xs d (a := 99) (b := p + 10) (en S σ) (by decide) (by omega)
  have e3' : mx_ev xs mx_P (d + 1) 3 [.int 99, .int (nI (p + 10))] (en S σ) = some (some (.int (nI (min 99 (p + 10)))), en S σ) := e3
  rw [ev_X1_takes, e1, e2, e3', c1s, if_neg (by decide), en_gi hS rfl, hl 0 (by decide)]
  unfold q_takes
  rcases (show l 0 = 0 ∨ l 0 = 1 ∨ l 0 = 2 ∨ l 0 = 3 ∨ l 0 = 4 ∨ l 0 = 5 by omega) with e | e | e | e | e | e <;> rw [e]
  · rfl
  · rfl
  · rfl
  · show mx_gi (en S σ) a 1 5 _ = _
    rw [en_gi hS rfl, hl 5 (by decide)]
    have e4 : nI (min 99 (p + 10)) + 2 * nI (l 5) = nI (min 99 (p + 10) + 2 * l 5) := by rw [show (2 : Int32) = nI 2 from rfl, pk_mul, nI_add]
    have e5 : mx_ev xs mx_P (d + 1) 3 [.int 99, .int (nI (min 99 (p + 10) + 2 * l 5))] (en S σ) = some (some (.int (nI (min 99 (min 99 (p + 10) + 2 * l 5)))), en S σ) := q_min xs d (a := 99) (en S σ) (by decide) (by omega)
    rw [e4, e5]
    rfl
  · show mx_c1 (mx_ev xs mx_P (d + 1) 2 [.int 30, .int (nI (p / 2))] (en S σ)) _ = _
    have e5 : mx_ev xs mx_P (d + 1) 2 [.int 30, .int (nI (p / 2))] (en S σ) = some (some (.int (nI (max 30 (p / 2)))), en S σ) := q_max xs d (a := 30) (en S σ) (by decide) (by omega)
    rw [e5]
    rfl
  · rfl
theorem lg_worth (hS : S[a]? = some en_leg) (hl : q_at (σ a) l) (hk : q_leg l) : mx_ev xs mx_P (d + 2) 48 [.ref a] (en S σ) = some (some (.int (nI (q_worth l))), en S σ) := by
  obtain ⟨h0, h1, h2, h3, h4, h5⟩ := hk
  rw [ev_X1_worth, en_gi hS rfl, en_gi hS rfl, hl 2 (by decide), hl 3 (by decide), q_max0 xs d (en S σ) (by omega) (by omega), c1s, en_gi hS rfl, en_gi hS rfl, en_gi hS rfl, hl 5 (by decide), hl 4 (by decide), hl 0 (by decide)]
  have e1 : (99 : Int32) - nI (l 4) = nI (99 - l 4) := by rw [show (99 : Int32) = nI 99 from rfl, pk_sub h4]
  have e2 : nI (99 - l 4) / 2 = nI ((99 - l 4) / 2) := pk_div (d := 2) (by omega) (by decide) (by decide)
  rw [e1, e2, nI_add]
  unfold q_worth
  rcases (show l 0 = 0 ∨ l 0 = 1 ∨ l 0 = 2 ∨ l 0 = 3 ∨ l 0 = 4 ∨ l 0 = 5 by omega) with e | e | e | e | e | e <;> rw [e]
  · rfl
  · rfl
  · rfl
  · show some (some (Value.int (nI 2 * nI (l 2 - l 3 + l 5))), _) = _
    rw [pk_mul]
    rfl
  · rfl
  · show mx_gi (en S σ) a 1 4 _ = _
    rw [en_gi hS rfl, hl 4 (by decide)]
    rfl
end LEG
