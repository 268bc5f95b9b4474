/-! ===== texts: fields, the pure lexer, the class's lexer (fields printed by wip/whole/gen73.py) ===== -/
def rd_tm : List (Option Nat) := [some 53, none, none, none, none, some 56, none, some 57, none, some 58, none, none, none, none, none]
def isRd (S : List en_S) : Prop := S[54]? = some (.inl (2, rd_tm)) ∧ S[53]? = some (.inr (.inl (0, 96))) ∧ S[56]? = some (.inr (.inl (0, 96))) ∧ S[57]? = some (.inr (.inl (0, 96))) ∧ S[58]? = some (.inr (.inl (1, 9)))
section RF
variable {S : List en_S} {σ : Nat → Nat → Int32} {v : Int32} {f : Int32 → mx_R} {g : Nat → mx_R} {k : mx_H → mx_R} {x : mx_R}
theorem rdg1 (h : isRd S) : mx_gi (en S σ) 54 2 1 f = f (σ 54 1) := en_gi h.1 rfl
theorem rdp1 (h : isRd S) : mx_pt (en S σ) 54 2 1 (.int v) k = k (en S (en_up σ 54 1 v)) := en_pt h.1 rfl
theorem rdg2 (h : isRd S) : mx_gi (en S σ) 54 2 2 f = f (σ 54 2) := en_gi h.1 rfl
theorem rdp2 (h : isRd S) : mx_pt (en S σ) 54 2 2 (.int v) k = k (en S (en_up σ 54 2 v)) := en_pt h.1 rfl
theorem rdg3 (h : isRd S) : mx_gi (en S σ) 54 2 3 f = f (σ 54 3) := en_gi h.1 rfl
theorem rdp3 (h : isRd S) : mx_pt (en S σ) 54 2 3 (.int v) k = k (en S (en_up σ 54 3 v)) := en_pt h.1 rfl
theorem rdg4 (h : isRd S) : mx_gi (en S σ) 54 2 4 f = f (σ 54 4) := en_gi h.1 rfl
theorem rdp4 (h : isRd S) : mx_pt (en S σ) 54 2 4 (.int v) k = k (en S (en_up σ 54 4 v)) := en_pt h.1 rfl
theorem rdg6 (h : isRd S) : mx_gi (en S σ) 54 2 6 f = f (σ 54 6) := en_gi h.1 rfl
theorem rdp6 (h : isRd S) : mx_pt (en S σ) 54 2 6 (.int v) k = k (en S (en_up σ 54 6 v)) := en_pt h.1 rfl
theorem rdg8 (h : isRd S) : mx_gi (en S σ) 54 2 8 f = f (σ 54 8) := en_gi h.1 rfl
theorem rdp8 (h : isRd S) : mx_pt (en S σ) 54 2 8 (.int v) k = k (en S (en_up σ 54 8 v)) := en_pt h.1 rfl
theorem rdg10 (h : isRd S) : mx_gi (en S σ) 54 2 10 f = f (σ 54 10) := en_gi h.1 rfl
theorem rdp10 (h : isRd S) : mx_pt (en S σ) 54 2 10 (.int v) k = k (en S (en_up σ 54 10 v)) := en_pt h.1 rfl
theorem rdg11 (h : isRd S) : mx_gi (en S σ) 54 2 11 f = f (σ 54 11) := en_gi h.1 rfl
theorem rdp11 (h : isRd S) : mx_pt (en S σ) 54 2 11 (.int v) k = k (en S (en_up σ 54 11 v)) := en_pt h.1 rfl
theorem rdg12 (h : isRd S) : mx_gi (en S σ) 54 2 12 f = f (σ 54 12) := en_gi h.1 rfl
theorem rdp12 (h : isRd S) : mx_pt (en S σ) 54 2 12 (.int v) k = k (en S (en_up σ 54 12 v)) := en_pt h.1 rfl
theorem rdg13 (h : isRd S) : mx_gi (en S σ) 54 2 13 f = f (σ 54 13) := en_gi h.1 rfl
theorem rdp13 (h : isRd S) : mx_pt (en S σ) 54 2 13 (.int v) k = k (en S (en_up σ 54 13 v)) := en_pt h.1 rfl
theorem rdg14 (h : isRd S) : mx_gi (en S σ) 54 2 14 f = f (σ 54 14) := en_gi h.1 rfl
theorem rdp14 (h : isRd S) : mx_pt (en S σ) 54 2 14 (.int v) k = k (en S (en_up σ 54 14 v)) := en_pt h.1 rfl
theorem rdr0 (h : isRd S) : mx_gr (en S σ) 54 2 0 g = g 53 := en_gr h.1 rfl
theorem rdr5 (h : isRd S) : mx_gr (en S σ) 54 2 5 g = g 56 := en_gr h.1 rfl
theorem rdr7 (h : isRd S) : mx_gr (en S σ) 54 2 7 g = g 57 := en_gr h.1 rfl
theorem rdr9 (h : isRd S) : mx_gr (en S σ) 54 2 9 g = g 58 := en_gr h.1 rfl
theorem rdz12_1 (h : isRd S) : mx_pz (en S σ) 54 2 12 1 k = k (en S (en_up σ 54 12 1)) := en_pz h.1 rfl (Or.inr rfl)
theorem rdz12_0 (h : isRd S) : mx_pz (en S σ) 54 2 12 0 k = k (en S (en_up σ 54 12 0)) := en_pz h.1 rfl (Or.inl rfl)
theorem rdcl (h : isRd S) : mx_cl (en S σ) 54 2 x = x := en_cl h.1
theorem rdb53 (h : isRd S) {j : Nat} (hj : j < 96) : mx_ai (en S σ) 53 0 (nI j) f = f (σ 53 j) := en_aiN h.2.1 hj (by decide)
theorem rda56 (h : isRd S) {j : Nat} (hj : j < 96) : mx_ai (en S σ) 56 0 (nI j) f = f (σ 56 j) := en_aiN h.2.2.1 hj (by decide)
theorem rds56 (h : isRd S) {j : Nat} (hj : j < 96) : mx_as (en S σ) 56 0 (nI j) v k = k (en S (en_up σ 56 j v)) := en_asN h.2.2.1 hj (by decide)
theorem rda57 (h : isRd S) {j : Nat} (hj : j < 96) : mx_ai (en S σ) 57 0 (nI j) f = f (σ 57 j) := en_aiN h.2.2.2.1 hj (by decide)
theorem rds57 (h : isRd S) {j : Nat} (hj : j < 96) : mx_as (en S σ) 57 0 (nI j) v k = k (en S (en_up σ 57 j v)) := en_asN h.2.2.2.1 hj (by decide)
theorem rda58 (h : isRd S) {j : Nat} (hj : j < 9) : mx_ai (en S σ) 58 1 (nI j) f = f (σ 58 j) := en_aiN h.2.2.2.2 hj (by decide)
theorem rds58 (h : isRd S) {j : Nat} (hj : j < 9) : mx_as (en S σ) 58 1 (nI j) v k = k (en S (en_up σ 58 j v)) := en_asN h.2.2.2.2 hj (by decide)
theorem mog6 (h : isMo S) : mx_gi (en S σ) 90 7 6 f = f (σ 90 6) := en_gi h.o rfl
theorem mop6 (h : isMo S) : mx_pt (en S σ) 90 7 6 (.int v) k = k (en S (en_up σ 90 6 v)) := en_pt h.o rfl
theorem mog7 (h : isMo S) : mx_gi (en S σ) 90 7 7 f = f (σ 90 7) := en_gi h.o rfl
theorem mop7 (h : isMo S) : mx_pt (en S σ) 90 7 7 (.int v) k = k (en S (en_up σ 90 7 v)) := en_pt h.o rfl
theorem mog8 (h : isMo S) : mx_gi (en S σ) 90 7 8 f = f (σ 90 8) := en_gi h.o rfl
theorem mop8 (h : isMo S) : mx_pt (en S σ) 90 7 8 (.int v) k = k (en S (en_up σ 90 8 v)) := en_pt h.o rfl
theorem mog9 (h : isMo S) : mx_gi (en S σ) 90 7 9 f = f (σ 90 9) := en_gi h.o rfl
theorem mop9 (h : isMo S) : mx_pt (en S σ) 90 7 9 (.int v) k = k (en S (en_up σ 90 9 v)) := en_pt h.o rfl
theorem mog10 (h : isMo S) : mx_gi (en S σ) 90 7 10 f = f (σ 90 10) := en_gi h.o rfl
theorem mop10 (h : isMo S) : mx_pt (en S σ) 90 7 10 (.int v) k = k (en S (en_up σ 90 10 v)) := en_pt h.o rfl
theorem mog11 (h : isMo S) : mx_gi (en S σ) 90 7 11 f = f (σ 90 11) := en_gi h.o rfl
theorem mop11 (h : isMo S) : mx_pt (en S σ) 90 7 11 (.int v) k = k (en S (en_up σ 90 11 v)) := en_pt h.o rfl
theorem mog12 (h : isMo S) : mx_gi (en S σ) 90 7 12 f = f (σ 90 12) := en_gi h.o rfl
theorem mop12 (h : isMo S) : mx_pt (en S σ) 90 7 12 (.int v) k = k (en S (en_up σ 90 12 v)) := en_pt h.o rfl
theorem mog16 (h : isMo S) : mx_gi (en S σ) 90 7 16 f = f (σ 90 16) := en_gi h.o rfl
theorem mop16 (h : isMo S) : mx_pt (en S σ) 90 7 16 (.int v) k = k (en S (en_up σ 90 16 v)) := en_pt h.o rfl
theorem mog17 (h : isMo S) : mx_gi (en S σ) 90 7 17 f = f (σ 90 17) := en_gi h.o rfl
theorem mop17 (h : isMo S) : mx_pt (en S σ) 90 7 17 (.int v) k = k (en S (en_up σ 90 17 v)) := en_pt h.o rfl
theorem mog19 (h : isMo S) : mx_gi (en S σ) 90 7 19 f = f (σ 90 19) := en_gi h.o rfl
theorem mop19 (h : isMo S) : mx_pt (en S σ) 90 7 19 (.int v) k = k (en S (en_up σ 90 19 v)) := en_pt h.o rfl
theorem mor0 (h : isMo S) : mx_gr (en S σ) 90 7 0 g = g 91 := en_gr h.o rfl
theorem mor5 (h : isMo S) : mx_gr (en S σ) 90 7 5 g = g 95 := en_gr h.o rfl
theorem mor13 (h : isMo S) : mx_gr (en S σ) 90 7 13 g = g 96 := en_gr h.o rfl
theorem mor14 (h : isMo S) : mx_gr (en S σ) 90 7 14 g = g 97 := en_gr h.o rfl
theorem mor15 (h : isMo S) : mx_gr (en S σ) 90 7 15 g = g 98 := en_gr h.o rfl
theorem mor18 (h : isMo S) : mx_gr (en S σ) 90 7 18 g = g 99 := en_gr h.o rfl
theorem mor20 (h : isMo S) : mx_gr (en S σ) 90 7 20 g = g 100 := en_gr h.o rfl
theorem mocl (h : isMo S) : mx_cl (en S σ) 90 7 x = x := en_cl h.o
theorem moa95 (h : isMo S) {j : Nat} (hj : j < 96) : mx_ai (en S σ) 95 0 (nI j) f = f (σ 95 j) := en_aiN (h 5 _ rfl) hj (by decide)
theorem mos95 (h : isMo S) {j : Nat} (hj : j < 96) : mx_as (en S σ) 95 0 (nI j) v k = k (en S (en_up σ 95 j v)) := en_asN (h 5 _ rfl) hj (by decide)
theorem moa96 (h : isMo S) {j : Nat} (hj : j < 12) : mx_ai (en S σ) 96 2 (nI j) f = f (σ 96 j) := en_aiN (h 6 _ rfl) hj (by decide)
theorem mos96 (h : isMo S) {j : Nat} (hj : j < 12) : mx_as (en S σ) 96 2 (nI j) v k = k (en S (en_up σ 96 j v)) := en_asN (h 6 _ rfl) hj (by decide)
theorem moa97 (h : isMo S) {j : Nat} (hj : j < 4) : mx_ai (en S σ) 97 0 (nI j) f = f (σ 97 j) := en_aiN (h 7 _ rfl) hj (by decide)
theorem mos97 (h : isMo S) {j : Nat} (hj : j < 4) : mx_as (en S σ) 97 0 (nI j) v k = k (en S (en_up σ 97 j v)) := en_asN (h 7 _ rfl) hj (by decide)
theorem moa98 (h : isMo S) {j : Nat} (hj : j < 96) : mx_ai (en S σ) 98 0 (nI j) f = f (σ 98 j) := en_aiN (h 8 _ rfl) hj (by decide)
theorem mos98 (h : isMo S) {j : Nat} (hj : j < 96) : mx_as (en S σ) 98 0 (nI j) v k = k (en S (en_up σ 98 j v)) := en_asN (h 8 _ rfl) hj (by decide)
theorem moa99 (h : isMo S) {j : Nat} (hj : j < 96) : mx_ai (en S σ) 99 0 (nI j) f = f (σ 99 j) := en_aiN (h 9 _ rfl) hj (by decide)
theorem mos99 (h : isMo S) {j : Nat} (hj : j < 96) : mx_as (en S σ) 99 0 (nI j) v k = k (en S (en_up σ 99 j v)) := en_asN (h 9 _ rfl) hj (by decide)
theorem moa100 (h : isMo S) {j : Nat} (hj : j < 10) : mx_ai (en S σ) 100 1 (nI j) f = f (σ 100 j) := en_aiN (h 10 _ rfl) hj (by decide)
theorem mos100 (h : isMo S) {j : Nat} (hj : j < 10) : mx_as (en S σ) 100 1 (nI j) v k = k (en S (en_up σ 100 j v)) := en_asN (h 10 _ rfl) hj (by decide)
end RF
/-! the pure lexer -/
def q_ex (p : Nat → Bool) (n : Nat) : Nat → Nat → Nat
  | 0, e => e
  | m + 1, e => if e < n ∧ p e = true then q_ex p n m (e + 1) else e
def q_x (p : Nat → Bool) (n e : Nat) : Nat := q_ex p n (n - e) e
theorem q_x_y {p : Nat → Bool} {n e : Nat} (h1 : e < n) (h2 : p e = true) : q_x p n e = q_x p n (e + 1) := by
  unfold q_x
  rw [show n - e = (n - (e + 1)) + 1 by omega]
  show (if e < n ∧ p e = true then q_ex p n (n - (e + 1)) (e + 1) else e) = _
  rw [if_pos ⟨h1, h2⟩]
theorem q_x_n {p : Nat → Bool} {n e : Nat} (h : ¬ (e < n ∧ p e = true)) : q_x p n e = e := by
  unfold q_x
  cases n - e with
  | zero => rfl
  | succ m =>
    show (if e < n ∧ p e = true then q_ex p n m (e + 1) else e) = _
    rw [if_neg h]
theorem q_x_spec {p : Nat → Bool} {n : Nat} : ∀ (m e : Nat), n - e = m → e ≤ n → e ≤ q_x p n e ∧ q_x p n e ≤ n ∧ (∀ k, e ≤ k → k < q_x p n e → p k = true) ∧ (q_x p n e < n → p (q_x p n e) = false)
  | 0, e, h, h2 => by
    have e1 : q_x p n e = e := q_x_n (fun c => by omega)
    rw [e1]
    exact ⟨Nat.le_refl _, h2, fun k h3 h4 => by omega, fun h3 => by omega⟩
  | m + 1, e, h, h2 => by
    by_cases c : p e = true
    · rw [q_x_y (by omega) c]
      obtain ⟨i1, i2, i3, i4⟩ := q_x_spec (p := p) (n := n) m (e + 1) (by omega) (by omega)
      refine ⟨by omega, i2, fun k h3 h4 => ?_, i4⟩
      by_cases e1 : k = e
      · rw [e1]; exact c
      · exact i3 k (by omega) h4
    · have e1 : q_x p n e = e := q_x_n (fun x => c x.2)
      rw [e1]
      exact ⟨Nat.le_refl _, h2, fun k h3 h4 => by omega, fun _ => Bool.eq_false_iff.mpr c⟩
def q_so (b : Nat) : Nat := if 97 ≤ b ∧ b ≤ 122 then 1 else if 48 ≤ b ∧ b ≤ 57 then 2 else 3
theorem q_so_c (b : Nat) : (q_so b = 1 ∧ 97 ≤ b ∧ b ≤ 122) ∨ (q_so b = 2 ∧ 48 ≤ b ∧ b ≤ 57) ∨ (q_so b = 3 ∧ ¬ (97 ≤ b ∧ b ≤ 122) ∧ ¬ (48 ≤ b ∧ b ≤ 57)) := by
  unfold q_so
  by_cases h1 : 97 ≤ b ∧ b ≤ 122
  · rw [if_pos h1]; exact Or.inl ⟨rfl, h1⟩
  · rw [if_neg h1]
    by_cases h2 : 48 ≤ b ∧ b ≤ 57
    · rw [if_pos h2]; exact Or.inr (Or.inl ⟨rfl, h2⟩)
    · rw [if_neg h2]; exact Or.inr (Or.inr ⟨rfl, h1, h2⟩)
def q_bk (tp : Nat → Nat) : Nat → Bool := fun k => decide (tp k = 32)
def q_sm (tp : Nat → Nat) (c : Nat) : Nat → Bool := fun k => decide (q_so (tp k) = c)
/-- the token at s; e is where the one before it ended, g whether that was a word -/
def q_ta (tp : Nat → Nat) (n : Nat) (g : Bool) (e s : Nat) : Nat × Nat × Nat :=
  if n ≤ s then (0, s, s) else if q_so (tp s) = 3 then (3, s, s + 1) else (if g = true ∧ s = e then 4 else q_so (tp s), s, q_x (q_sm tp (q_so (tp s))) n (s + 1))
def q_tk (tp : Nat → Nat) (n : Nat) (g : Bool) (e : Nat) : Nat × Nat × Nat := q_ta tp n g e (q_x (q_bk tp) n e)
/-- whether a token is a word -/
def q_wdt (t : Nat × Nat × Nat) : Bool := decide (t.1 = 1) || decide (t.1 = 2)
def q_nx (tp : Nat → Nat) (n : Nat) (t : Nat × Nat × Nat) : Nat × Nat × Nat := q_tk tp n (q_wdt t) t.2.2
/-- what a token is -/
def q_tok (tp : Nat → Nat) (n : Nat) (t : Nat × Nat × Nat) : Prop := t.2.1 ≤ t.2.2 ∧ t.2.2 ≤ n ∧ t.1 ≤ 4 ∧ (t.1 = 0 → t.2.1 = n) ∧ (t.1 ≠ 0 → t.2.1 < t.2.2) ∧ (t.1 = 1 → ∀ k, t.2.1 ≤ k → k < t.2.2 → 97 ≤ tp k ∧ tp k ≤ 122) ∧ (t.1 = 2 → ∀ k, t.2.1 ≤ k → k < t.2.2 → 48 ≤ tp k ∧ tp k ≤ 57)
theorem q_tk_ok {tp : Nat → Nat} {n : Nat} {g : Bool} {e : Nat} (he : e ≤ n) : q_tok tp n (q_tk tp n g e) ∧ e ≤ (q_tk tp n g e).2.1 := by
  obtain ⟨i1, i2, i3, i4⟩ := q_x_spec (p := q_bk tp) (n := n) (n - e) e rfl he
  unfold q_tk
  generalize q_x (q_bk tp) n e = s at *
  unfold q_ta
  by_cases h1 : n ≤ s
  · rw [if_pos h1]
    exact ⟨⟨Nat.le_refl _, i2, by show (0 : Nat) ≤ 4; omega, fun _ => by show s = n; omega, fun h => absurd rfl h, fun h => absurd (show (0 : Nat) = 1 from h) (by decide), fun h => absurd (show (0 : Nat) = 2 from h) (by decide)⟩, i1⟩
  · rw [if_neg h1]
    rcases q_so_c (tp s) with ⟨c, l1, l2⟩ | ⟨c, l1, l2⟩ | ⟨c, l1, l2⟩
    · obtain ⟨j1, j2, j3, j4⟩ := q_x_spec (p := q_sm tp (q_so (tp s))) (n := n) (n - (s + 1)) (s + 1) rfl (by omega)
      rw [c] at j1 j2 j3 j4
      rw [c, if_neg (by decide)]
      refine ⟨⟨?_, j2, ?_, ?_, fun _ => ?_, fun _ k k1 k2 => ?_, fun h => ?_⟩, i1⟩
      · show s ≤ q_x (q_sm tp 1) n (s + 1); omega
      · show (if g = true ∧ s = e then 4 else 1) ≤ 4
        split <;> omega
      · intro h
        have h : (if g = true ∧ s = e then 4 else 1) = 0 := h
        split at h <;> omega
      · show s < q_x (q_sm tp 1) n (s + 1); omega
      · by_cases e1 : k = s
        · rw [e1]; exact ⟨l1, l2⟩
        · have k1 : s ≤ k := k1
          have h3 := j3 k (by omega) k2
          have h4 : q_so (tp k) = 1 := of_decide_eq_true h3
          rcases q_so_c (tp k) with ⟨c', a, b⟩ | ⟨c', a, b⟩ | ⟨c', a, b⟩
          · exact ⟨a, b⟩
          · omega
          · omega
      · have h : (if g = true ∧ s = e then 4 else 1) = 2 := h
        split at h <;> omega
    · obtain ⟨j1, j2, j3, j4⟩ := q_x_spec (p := q_sm tp (q_so (tp s))) (n := n) (n - (s + 1)) (s + 1) rfl (by omega)
      rw [c] at j1 j2 j3 j4
      rw [c, if_neg (by decide)]
      refine ⟨⟨?_, j2, ?_, ?_, fun _ => ?_, fun h => ?_, fun _ k k1 k2 => ?_⟩, i1⟩
      · show s ≤ q_x (q_sm tp 2) n (s + 1); omega
      · show (if g = true ∧ s = e then 4 else 2) ≤ 4
        split <;> omega
      · intro h
        have h : (if g = true ∧ s = e then 4 else 2) = 0 := h
        split at h <;> omega
      · show s < q_x (q_sm tp 2) n (s + 1); omega
      · have h : (if g = true ∧ s = e then 4 else 2) = 1 := h
        split at h <;> omega
      · by_cases e1 : k = s
        · rw [e1]; exact ⟨l1, l2⟩
        · have k1 : s ≤ k := k1
          have h3 := j3 k (by omega) k2
          have h4 : q_so (tp k) = 2 := of_decide_eq_true h3
          rcases q_so_c (tp k) with ⟨c', a, b⟩ | ⟨c', a, b⟩ | ⟨c', a, b⟩
          · omega
          · exact ⟨a, b⟩
          · omega
    · rw [c, if_pos rfl]
      refine ⟨⟨?_, ?_, ?_, ?_, ?_, ?_, ?_⟩, i1⟩
      · show s ≤ s + 1; omega
      · show s + 1 ≤ n; omega
      · show 3 ≤ 4; omega
      · intro h; exact absurd (show (3 : Nat) = 0 from h) (by decide)
      · intro _; show s < s + 1; omega
      · intro h; exact absurd (show (3 : Nat) = 1 from h) (by decide)
      · intro h; exact absurd (show (3 : Nat) = 2 from h) (by decide)
theorem q_nx_ok {tp : Nat → Nat} {n : Nat} {t : Nat × Nat × Nat} (h : q_tok tp n t) : q_tok tp n (q_nx tp n t) ∧ t.2.2 ≤ (q_nx tp n t).2.1 := q_tk_ok h.2.1
theorem nI_nel {a b : Nat} {y : Int32} (hy : y = nI b) (ha : a < 2 ^ 31) (hb : b < 2 ^ 31) (h : ¬ a = b) : ¬ nI a = y := by
  subst hy
  exact fun x => h ((nI_eq ha hb).mp x)
/-! the class's lexer -/
def LX (σ σ' : Nat → Nat → Int32) (t : Nat × Nat × Nat) : Prop := σ' 54 2 = nI t.1 ∧ σ' 54 3 = nI t.2.1 ∧ σ' 54 4 = nI t.2.2 ∧ (∀ k, k ≠ 2 → k ≠ 3 → k ≠ 4 → σ' 54 k = σ 54 k) ∧ ∀ b, b ≠ 54 → σ' b = σ b
theorem LX.pre {σ σ1 σ' : Nat → Nat → Int32} {t : Nat × Nat × Nat} (h : LX σ1 σ' t) (h1 : ∀ k, k ≠ 2 → k ≠ 3 → k ≠ 4 → σ1 54 k = σ 54 k) (h2 : ∀ b, b ≠ 54 → σ1 b = σ b) : LX σ σ' t :=
  ⟨h.1, h.2.1, h.2.2.1, fun k a b c => (h.2.2.2.1 k a b c).trans (h1 k a b c), fun b hb => (h.2.2.2.2 b hb).trans (h2 b hb)⟩
section XL
variable {S : List en_S} {d n : Nat} {xs : List Int32} {tp : Nat → Nat}
theorem x_so {b : Nat} (hb : b < 256) (h : mx_H) : mx_ev xs mx_P (d + 1) 55 [.int (nI b)] h = some (some (.int (nI (q_so b))), h) := by
  rw [ev_X2_sortOf]
  rcases q_so_c b with ⟨c, a, b'⟩ | ⟨c, a, b'⟩ | ⟨c, a, b'⟩
  · rw [c, if_neg (by exact nI_nlt (b := 97) a (by omega)), if_neg (by exact nI_nlt (a := 122) b' (by decide)), ri0]
    rfl
  · rw [c, if_pos (by exact nI_lt (b := 97) (by omega) (by decide)), if_neg (by exact nI_nlt (b := 48) a (by omega)), if_neg (by exact nI_nlt (a := 57) b' (by decide)), ri0]
    rfl
  · rw [c]
    have r : (if nI b < 48 then mx_ri 0 [.int 3] h else if 57 < nI b then mx_ri 0 [.int 3] h else mx_ri 0 [.int 2] h) = some (some (.int (nI 3)), h) := by
      by_cases c1 : b < 48
      · rw [if_pos (by exact nI_lt (b := 48) c1 (by decide))]; rfl
      · rw [if_neg (by exact nI_nlt (b := 48) (by omega) (by omega)), if_pos (by exact nI_lt (a := 57) (by omega) (by omega))]; rfl
    by_cases c2 : b < 97
    · rw [if_pos (by exact nI_lt (b := 97) c2 (by decide)), r]
    · rw [if_neg (by exact nI_nlt (b := 97) (by omega) (by omega)), if_pos (by exact nI_lt (a := 122) (by omega) (by omega)), r]
theorem x_ext_fin (hR : isRd S) {g a2 c e : Nat} {σ : Nat → Nat → Int32} (hg : g < 2) (ha : a2 < 2) (h2 : σ 54 2 = nI c) (h4 : σ 54 4 = nI e) (hx : q_x (q_sm tp c) n e = e) : ∃ σ', (if nI g = 0 then mx_rv [] (en S σ) else if nI a2 = 0 then mx_pt (en S σ) 54 2 2 (.int 4) (fun h3 => mx_rv [] h3) else mx_rv [] (en S σ)) = some (none, en S σ') ∧ σ' 54 2 = nI (if g = 0 ∨ a2 ≠ 0 then c else 4) ∧ σ' 54 4 = nI (q_x (q_sm tp c) n e) ∧ (∀ k, k ≠ 2 → k ≠ 4 → σ' 54 k = σ 54 k) ∧ ∀ b, b ≠ 54 → σ' b = σ b := by
  rw [hx]
  by_cases g0 : g = 0
  · rw [if_pos (by rw [g0]; rfl), if_pos (Or.inl g0), rv0]
    exact ⟨σ, rfl, h2, h4, fun _ _ _ => rfl, fun _ _ => rfl⟩
  · rw [if_neg (q_nz (by omega) (by omega))]
    by_cases a0 : a2 = 0
    · rw [if_pos (by rw [a0]; rfl), if_neg (by omega), rdp2 hR, rv0]
      exact ⟨_, rfl, en_up_s, by rw [en_up_k (by decide)]; exact h4, fun k k2 _ => en_up_k k2, fun b hb => by unfold en_up; rw [if_neg hb]⟩
    · rw [if_neg (q_nz (by omega) (by omega)), if_pos (Or.inr a0), rv0]
      exact ⟨σ, rfl, h2, h4, fun _ _ _ => rfl, fun _ _ => rfl⟩
theorem x_ext (hR : isRd S) (hn : n ≤ 96) (hb : ∀ k, k < n → tp k < 256) {g a2 c : Nat} (hg : g < 2) (ha : a2 < 2) (hc : c ≤ 3) : ∀ (m e N : Nat) (σ : Nat → Nat → Int32), e + m = n → m < N → (∀ k, k < n → σ 53 k = nI (tp k)) → σ 54 1 = nI n → σ 54 2 = nI c → σ 54 4 = nI e → ∃ σ', mx_rn xs (mx_ev xs mx_P (d + 1)) kk_X2_nextWord N 145 [(0, .ref 54), (1, .int (nI g)), (2, .int (nI a2))] [] (en S σ) = some (none, en S σ') ∧ σ' 54 2 = nI (if g = 0 ∨ a2 ≠ 0 then c else 4) ∧ σ' 54 4 = nI (q_x (q_sm tp c) n e) ∧ (∀ k, k ≠ 2 → k ≠ 4 → σ' 54 k = σ 54 k) ∧ ∀ b, b ≠ 54 → σ' b = σ b
  | m, e, 0, _, _, h2, _, _, _, _ => absurd h2 (by omega)
  | 0, e, N + 1, σ, h1, _, ht, hl, hs, he => by
    rw [rn_X2_nextWord_145, rdg4 hR, rdg1 hR, he, hl, if_pos (nI_le (by omega) (by omega))]
    exact x_ext_fin hR hg ha hs he (q_x_n (fun c => by omega))
  | m + 1, e, N + 1, σ, h1, h2, ht, hl, hs, he => by
    have hte := hb e (by omega)
    have hso : q_so (tp e) ≤ 3 := by rcases q_so_c (tp e) with ⟨c, _⟩ | ⟨c, _⟩ | ⟨c, _⟩ <;> omega
    rw [rn_X2_nextWord_145, rdg4 hR, rdg1 hR, he, hl, if_neg (nI_ge (by omega) (by omega)), rdr0 hR, rdg4 hR, he, rdb53 hR (by omega), ht e (by omega), x_so hte, c1s, rdg2 hR, hs]
    by_cases c1 : q_so (tp e) = c
    · rw [if_pos (by rw [c1]), rdg4 hR, he, nI_1, rdp4 hR]
      obtain ⟨σ', r1, r2, r3, r4, r5⟩ := x_ext hR hn hb (g := g) (a2 := a2) hg ha hc m (e + 1) N (en_up σ 54 4 (nI (e + 1))) (by omega) (by omega) (fun k hk => by rw [en_up_a (by decide)]; exact ht k hk) (by rw [en_up_k (by decide)]; exact hl) (by rw [en_up_k (by decide)]; exact hs) en_up_s
      refine ⟨σ', r1, r2, ?_, fun k k2 k4 => ?_, fun b hb => ?_⟩
      · rw [r3, ← q_x_y (p := q_sm tp c) (n := n) (e := e) (by omega) (decide_eq_true c1)]
      · rw [r4 k k2 k4, en_up_k k4]
      · rw [r5 b hb]
        unfold en_up
        rw [if_neg hb]
    · rw [if_neg (fun x => c1 ((nI_eq (by omega) (by omega)).mp x))]
      exact x_ext_fin hR hg ha hs he (q_x_n (fun x => c1 (of_decide_eq_true x.2)))
/-- the word that begins at s -/
theorem x_word (hR : isRd S) (hn : n ≤ 96) (hb : ∀ k, k < n → tp k < 256) {g e s : Nat} (hg : g < 2) (hs : s < n) (hes : e ≤ s) {N : Nat} (hN : 100 < N) {σ : Nat → Nat → Int32} (ht : ∀ k, k < n → σ 53 k = nI (tp k)) (hl : σ 54 1 = nI n) (h3 : σ 54 3 = nI s) (h4 : σ 54 4 = nI e) (a2 : Nat) (ha : a2 < 2) (ha2 : a2 = 0 ↔ s = e) : ∃ σ', mx_gr (en S σ) 54 2 0 (fun r7 => mx_gi (en S σ) 54 2 3 (fun x8 => mx_ai (en S σ) r7 0 x8 (fun x9 => mx_c1 (mx_ev xs mx_P (d + 1) 55 [.int x9] (en S σ)) (fun x11 h10 => mx_pt h10 54 2 2 (.int x11) (fun h12 => mx_gi h12 54 2 3 (fun x13 => mx_pt h12 54 2 4 (.int (x13 + 1)) (fun h14 => mx_gi h14 54 2 2 (fun x15 => if x15 = 3 then mx_rv [] h14 else mx_rn xs (mx_ev xs mx_P (d + 1)) kk_X2_nextWord N 145 [(0, .ref 54), (1, .int (nI g)), (2, .int (nI a2))] [] h14)))))))) = some (none, en S σ') ∧ LX σ σ' (q_ta tp n (decide (g = 1)) e s) := by
  have hts := hb s hs
  have hso : q_so (tp s) ≤ 3 := by rcases q_so_c (tp s) with ⟨c, _⟩ | ⟨c, _⟩ | ⟨c, _⟩ <;> omega
  rw [rdr0 hR, rdg3 hR, h3, rdb53 hR (by omega), ht s hs, x_so hts, c1s, rdp2 hR, rdg3 hR, en_up_k (by decide), h3, nI_1, rdp4 hR, rdg2 hR, en_up_k (by decide), en_up_s]
  unfold q_ta
  rw [if_neg (show ¬ n ≤ s by omega)]
  have hf : ∀ b, b ≠ 54 → en_up (en_up σ 54 2 (nI (q_so (tp s)))) 54 4 (nI (s + 1)) b = σ b := fun b hb => by funext k; rw [en_up_a hb, en_up_a hb]
  have hk : ∀ k, k ≠ 2 → k ≠ 4 → en_up (en_up σ 54 2 (nI (q_so (tp s)))) 54 4 (nI (s + 1)) 54 k = σ 54 k := fun k k2 k4 => by rw [en_up_k k4, en_up_k k2]
  by_cases c : q_so (tp s) = 3
  · rw [if_pos (show nI (q_so (tp s)) = 3 by rw [c]; rfl), if_pos c, rv0, c]
    rw [c] at hf hk
    exact ⟨_, rfl, by rw [en_up_k (by decide), en_up_s], by rw [hk 3 (by decide) (by decide)]; exact h3, en_up_s, fun k k2 k3 k4 => hk k k2 k4, hf⟩
  · rw [if_neg (nI_nel (y := 3) (b := 3) rfl (by omega) (by decide) c), if_neg c]
    obtain ⟨σ', r1, r2, r3, r4, r5⟩ := x_ext (d := d) (xs := xs) hR hn hb (g := g) (a2 := a2) (c := q_so (tp s)) hg ha hso (n - (s + 1)) (s + 1) N (en_up (en_up σ 54 2 (nI (q_so (tp s)))) 54 4 (nI (s + 1))) (by omega) (by omega) (fun k hk => by rw [hf 53 (by decide)]; exact ht k hk) (by rw [hk 1 (by decide) (by decide)]; exact hl) (by rw [en_up_k (by decide), en_up_s]) en_up_s
    refine ⟨σ', r1, ?_, ?_, r3, fun k k2 k3 k4 => ?_, fun b hb => ?_⟩
    · rw [r2]
      show nI _ = nI (if decide (g = 1) = true ∧ s = e then 4 else q_so (tp s))
      congr 1
      by_cases g0 : g = 0 ∨ a2 ≠ 0
      · rw [if_pos g0, if_neg]
        intro x
        have := of_decide_eq_true x.1
        have := ha2.mpr x.2
        omega
      · rw [if_neg g0, if_pos]
        exact ⟨decide_eq_true (by omega), ha2.mp (by omega)⟩
    · rw [r4 3 (by decide) (by decide), hk 3 (by decide) (by decide)]
      exact h3
    · rw [r4 k k2 k4, hk k k2 k4]
    · rw [r5 b hb, hf b hb]
theorem x_skip (hR : isRd S) (hn : n ≤ 96) (hb : ∀ k, k < n → tp k < 256) {g e : Nat} (hg : g < 2) : ∀ (m s N : Nat) (σ : Nat → Nat → Int32), s + m = n → m + 200 < N → e ≤ s → (∀ k, k < n → σ 53 k = nI (tp k)) → σ 54 1 = nI n → σ 54 3 = nI s → σ 54 4 = nI e → ∃ σ', mx_rn xs (mx_ev xs mx_P (d + 1)) kk_X2_nextWord N 30 [(0, .ref 54), (1, .int (nI g))] [] (en S σ) = some (none, en S σ') ∧ LX σ σ' (q_ta tp n (decide (g = 1)) e (q_x (q_bk tp) n s))
  | m, s, 0, _, _, h2, _, _, _, _, _ => absurd h2 (by omega)
  | 0, s, N + 1, σ, h1, _, hes, ht, hl, h3, h4 => by
    rw [q_x_n (fun c => by omega), rn_X2_nextWord_30, rdg3 hR, rdg1 hR, h3, hl, if_pos (nI_le (by omega) (by omega)), rdg3 hR, rdg1 hR, h3, hl, if_neg (nI_nlt (by omega) (by omega)), rdp2 hR, rdg3 hR, en_up_k (by decide), h3, rdp4 hR, rv0]
    unfold q_ta
    rw [if_pos (show n ≤ s by omega)]
    refine ⟨_, rfl, by rw [en_up_k (by decide), en_up_s]; rfl, by rw [en_up_k (by decide), en_up_k (by decide)]; exact h3, en_up_s, fun k k2 k3 k4 => by rw [en_up_k k4, en_up_k k2], fun b hb => by funext k; rw [en_up_a hb, en_up_a hb]⟩
  | m + 1, s, N + 1, σ, h1, h2, hes, ht, hl, h3, h4 => by
    have hts := hb s (by omega)
    rw [rn_X2_nextWord_30, rdg3 hR, rdg1 hR, h3, hl, if_neg (nI_ge (by omega) (by omega)), rdr0 hR, rdg3 hR, h3, rdb53 hR (by omega), ht s (by omega)]
    by_cases c : tp s = 32
    · rw [if_pos (by rw [c]; rfl), rdg3 hR, h3, nI_1, rdp3 hR, q_x_y (by omega) (decide_eq_true c)]
      obtain ⟨σ', r1, r2⟩ := x_skip hR hn hb (g := g) (e := e) hg m (s + 1) N (en_up σ 54 3 (nI (s + 1))) (by omega) (by omega) (by omega) (fun k hk => by rw [en_up_a (by decide)]; exact ht k hk) (by rw [en_up_k (by decide)]; exact hl) en_up_s (by rw [en_up_k (by decide)]; exact h4)
      exact ⟨σ', r1, r2.pre (fun k _ k3 _ => en_up_k k3) (fun b hb => by funext k; exact en_up_a hb)⟩
    · rw [if_neg (nI_nel (y := 32) (b := 32) rfl (by omega) (by decide) c), rdg3 hR, rdg1 hR, h3, hl, if_pos (nI_lt (by omega) (by omega)), rdg3 hR, rdg4 hR, h3, h4, q_x_n (fun x => c (of_decide_eq_true x.2))]
      by_cases ce : s = e
      · rw [if_pos (nI_le (by omega) (by omega))]
        exact x_word hR hn hb hg (by omega) hes (by omega) ht hl h3 h4 0 (by omega) (by omega)
      · rw [if_neg (nI_ge (by omega) (by omega))]
        exact x_word hR hn hb hg (by omega) hes (by omega) ht hl h3 h4 1 (by omega) (by omega)
theorem x_next (hR : isRd S) (hn : n ≤ 96) (hb : ∀ k, k < n → tp k < 256) {σ : Nat → Nat → Int32} (ht : ∀ k, k < n → σ 53 k = nI (tp k)) (hl : σ 54 1 = nI n) {c e : Nat} (hc : c ≤ 4) (he : e ≤ n) (h2 : σ 54 2 = nI c) (h4 : σ 54 4 = nI e) : ∃ σ', mx_ev xs mx_P (d + 2) 54 [.ref 54] (en S σ) = some (none, en S σ') ∧ LX σ σ' (q_tk tp n (decide (c = 1) || decide (c = 2)) e) := by
  have go : ∀ g, g < 2 → ∃ σ', mx_rn xs (mx_ev xs mx_P (d + 1)) kk_X2_nextWord 99999 30 [(0, .ref 54), (1, .int (nI g))] [] (en S (en_up σ 54 3 (nI e))) = some (none, en S σ') ∧ LX σ σ' (q_tk tp n (decide (g = 1)) e) := fun g hg => by
    obtain ⟨σ', r1, r2⟩ := x_skip (d := d) (xs := xs) hR hn hb (g := g) (e := e) hg (n - e) e 99999 (en_up σ 54 3 (nI e)) (by omega) (by omega) (by omega) (fun k hk => by rw [en_up_a (by decide)]; exact ht k hk) (by rw [en_up_k (by decide)]; exact hl) en_up_s (by rw [en_up_k (by decide)]; exact h4)
    exact ⟨σ', r1, r2.pre (fun k _ k3 _ => en_up_k k3) (fun b hb => by funext k; exact en_up_a hb)⟩
  rw [ev_X2_nextWord, rdg2 hR, h2]
  by_cases c1 : c = 1
  · rw [if_pos (by rw [c1]; rfl), rdg4 hR, h4, rdp3 hR, decide_eq_true c1]
    exact go 1 (by omega)
  · rw [if_neg (nI_nel (y := 1) (b := 1) rfl (by omega) (by decide) c1), rdg2 hR, h2, decide_eq_false c1]
    by_cases c2 : c = 2
    · rw [if_pos (by rw [c2]; rfl), rdg4 hR, h4, rdp3 hR, decide_eq_true c2]
      exact go 1 (by omega)
    · rw [if_neg (nI_nel (y := 2) (b := 2) rfl (by omega) (by decide) c2), rdg4 hR, h4, rdp3 hR, decide_eq_false c2]
      exact go 0 (by omega)
end XL
