/-! ===== a closet at cb: cb + 1 its legs, + 2 rules, + 3 texts, + 4 counting, + 5 names, + 6 stack, + 7 .. + 16 the legs' cells ===== -/
def gL (cb : Nat) : Nat → Option Nat := fun i => if i < 10 then some (cb + 7 + i) else none
def isCl (S : List en_S) (cb : Nat) : Prop :=
  S[cb]? = some (.inl (0, [some (cb + 1), none, some (cb + 2), some (cb + 3), none, some (cb + 4), none, none, none, none, none, some (cb + 5), some (cb + 6)])) ∧ S[cb + 1]? = some (.inr (.inr (.inl (3, 10, gL cb)))) ∧ S[cb + 2]? = some (.inr (.inl (0, 4))) ∧ S[cb + 3]? = some (.inr (.inr (.inr (6, 14)))) ∧ S[cb + 4]? = some (.inr (.inl (0, 3))) ∧ S[cb + 5]? = some (.inr (.inl (0, 4))) ∧ S[cb + 6]? = some (.inr (.inl (0, 96))) ∧ ∀ i, i < 10 → S[cb + 7 + i]? = some en_leg
/-- the legs of a closet -/
def q_legs (σ : Nat → Nat → Int32) (cb n : Nat) (L : Nat → Nat → Nat) : Prop := ∀ i, i < n → q_at (σ (cb + 7 + i)) (L i)
def q_wear (w : Nat) (L : Nat → Nat → Nat) : Nat → Nat → Nat := fun i j => if i = w then (if j = 2 then L i 2 - q_loses (L i) else if j = 4 then min 99 (L i 4 + q_bags (L i)) else L i j) else if j = 4 then L i 4 - 2 else L i j
theorem q_at_up {σ : Nat → Nat → Int32} {a k v : Nat} {l : Nat → Nat} (h : q_at (σ a) l) : q_at (en_up σ a k (nI v) a) (fun j => if j = k then v else l j) := by
  intro j hj
  rw [en_up_i]
  by_cases e : j = k
  · rw [if_pos ⟨rfl, e⟩]
    show nI v = nI (if j = k then v else l j)
    rw [if_pos e]
  · rw [if_neg (fun x => e x.2)]
    show σ a j = nI (if j = k then v else l j)
    rw [if_neg e]
    exact h j hj
theorem q_at_ne {σ : Nat → Nat → Int32} {a b k : Nat} {v : Int32} {l : Nat → Nat} (hb : b ≠ a) (h : q_at (σ b) l) : q_at (en_up σ a k v b) l := by
  intro j hj
  rw [en_up_a hb]
  exact h j hj
theorem q_at_congr {s : Nat → Int32} {l l' : Nat → Nat} (h : q_at s l) (e : ∀ j, j < 6 → l j = l' j) : q_at s l' := fun j hj => by rw [h j hj, e j hj]
theorem q_loses_le {l : Nat → Nat} (h : q_leg l) : q_loses l ≤ 30 := by
  have := h.2.2.2.2.1
  unfold q_loses
  (repeat' split) <;> omega
theorem q_bags_le {l : Nat → Nat} : q_bags l ≤ 12 := by
  unfold q_bags
  (repeat' split) <;> omega
section CL
variable {S : List en_S} {σ : Nat → Nat → Int32} {cb d n : Nat} {xs : List Int32} {L : Nat → Nat → Nat}
theorem cl_aa (hS : isCl S cb) {i : Nat} (hi : i < 10) {f : Nat → mx_R} : mx_aa (en S σ) (cb + 1) (nI i) f = f (cb + 7 + i) := en_aaN hS.2.1 (by decide) hi (by decide) (by simp [gL, hi])
theorem cl_hasLeg (hS : isCl S cb) (hn : σ cb 1 = nI n) (h10 : n ≤ 10) (x : Int32) : mx_ev xs mx_P (d + 1) 21 [.ref cb, .int x] (en S σ) = some (some (.int (if 0 ≤ x.toInt ∧ x.toInt < n then 1 else 0)), en S σ) := by
  rw [ev_X0_hasLeg]
  by_cases h1 : x < 0
  · have : ¬ (0 ≤ x.toInt) := by
      have := Int32.lt_iff_toInt_lt.mp h1
      simpa using this
    rw [if_pos h1, if_neg (fun h => this h.1)]
    rfl
  · obtain ⟨j, hj, rfl⟩ := nI_of h1
    rw [if_neg h1, en_gi hS.1 rfl, hn, nI_toInt hj]
    by_cases h2 : n ≤ j
    · rw [if_pos ((nI_leI (by omega) hj).mpr h2), if_neg (by omega)]
      rfl
    · rw [if_neg (fun e => h2 ((nI_leI (by omega) hj).mp e)), if_pos (by omega)]
      rfl
theorem cl_wear_loop (hS : isCl S cb) (h10 : n ≤ 10) {w : Nat} (hw : w < n) (hL : ∀ i, i < n → q_leg (L i)) : ∀ (m i : Nat) (σ : Nat → Nat → Int32) (N : Nat), i + m = n → m < N → σ cb 1 = nI n → (∀ k, k < i → q_at (σ (cb + 7 + k)) (q_wear w L k)) → (∀ k, i ≤ k → k < n → q_at (σ (cb + 7 + k)) (L k)) → ∃ σ', mx_rn xs (mx_ev xs mx_P (d + 2)) kk_X0_wear N 2 [(0, .ref cb), (1, .int (nI w)), (2, .int (nI i))] [] (en S σ) = some (none, en S σ') ∧ q_legs σ' cb n (q_wear w L) ∧ ∀ b, (∀ k, k < n → b ≠ cb + 7 + k) → σ' b = σ b
  | m, i, σ, 0, _, h2, _, _, _ => absurd h2 (by omega)
  | 0, i, σ, N + 1, h1, _, hn, ha, _ => by
    refine ⟨σ, ?_, fun k hk => ha k (by omega), fun _ _ => rfl⟩
    rw [rn_X0_wear_2, en_gi hS.1 rfl, hn, if_pos (by rw [show i = n by omega]; exact Int32.le_refl _)]
    rfl
  | m + 1, i, σ, N + 1, h1, h2, hn, ha, hb => by
    have hi : i < n := by omega
    have hSl := hS.2.2.2.2.2.2.2 i (by omega)
    have hq := hb i (Nat.le_refl _) hi
    have hk := hL i hi
    have hne : cb ≠ cb + 7 + i := by omega
    have hlo := q_loses_le hk
    have hba := q_bags_le (l := L i)
    have hk2 := hk.2.2.1
    have hk4 := hk.2.2.2.2.1
    rw [rn_X0_wear_2, en_gi hS.1 rfl, hn, if_neg (nI_ge hi (by omega)), en_gr hS.1 rfl, cl_aa hS (by omega), nI_1]
    by_cases hiw : i = w
    · subst hiw
      rw [if_pos rfl, en_gi hSl rfl, en_cl hSl, lg_loses (d := d + 1) hSl hq hk, c1s, hq 2 (by decide), q_max0 xs (d + 1) (en S σ) (by omega) (by omega), c1s, en_pt hSl rfl]
      have hq1 := q_at_up (k := 2) (v := L i 2 - q_loses (L i)) hq
      have h14 : en_up σ (cb + 7 + i) 2 (nI (L i 2 - q_loses (L i))) (cb + 7 + i) 4 = nI (L i 4) := hq1 4 (by decide)
      rw [en_gi hSl rfl, en_cl hSl, lg_bags (d := d + 1) hSl hq1 ⟨hk.1, hk.2.1, by show L i 2 - q_loses (L i) ≤ 99; have := hk.2.2.1; omega, hk.2.2.2.1, hk.2.2.2.2.1, hk.2.2.2.2.2⟩, c1s, h14]
      have e1 : q_bags (fun j => if j = 2 then L i 2 - q_loses (L i) else L i j) = q_bags (L i) := by simp [q_bags]
      have e3 : mx_ev xs mx_P (d + 2) 3 [.int 99, .int (nI (L i 4 + q_bags (L i)))] (en S (en_up σ (cb + 7 + i) 2 (nI (L i 2 - q_loses (L i))))) = some (some (.int (nI (min 99 (L i 4 + q_bags (L i))))), _) := q_min xs (d + 1) (a := 99) _ (by decide) (by omega)
      rw [e1, nI_add, e3, c1s, en_pt hSl rfl]
      have hq2 := q_at_up (k := 4) (v := min 99 (L i 4 + q_bags (L i))) hq1
      obtain ⟨σ', r1, r2, r3⟩ := cl_wear_loop hS h10 hw hL m (i + 1) (en_up (en_up σ (cb + 7 + i) 2 (nI (L i 2 - q_loses (L i)))) (cb + 7 + i) 4 (nI (min 99 (L i 4 + q_bags (L i))))) N (by omega) (by omega) (by rw [en_up_a hne, en_up_a hne]; exact hn) (fun k hk2 => by
          by_cases e : k = i
          · subst e
            refine q_at_congr hq2 (fun j _ => ?_)
            simp only [q_wear, if_true]
            by_cases e4 : j = 4
            · subst e4; rfl
            · rw [if_neg e4, if_neg e4]
          · exact q_at_ne (by omega) (q_at_ne (by omega) (ha k (by omega)))) (fun k hk1 hk2 => q_at_ne (by omega) (q_at_ne (by omega) (hb k (by omega) hk2)))
      refine ⟨σ', r1, r2, fun b hb2 => ?_⟩
      have hbi := hb2 i hi
      rw [r3 b hb2]
      unfold en_up
      rw [if_neg hbi, if_neg hbi]
    · rw [if_neg (fun e => hiw ((nI_eq (by omega) (by omega)).mp e)), en_gi hSl rfl, hq 4 (by decide), show (2 : Int32) = nI 2 from rfl, q_max0 xs (d + 1) (en S σ) (by have := hk.2.2.2.2.1; omega) (by decide), c1s, en_pt hSl rfl]
      have hq2 := q_at_up (k := 4) (v := L i 4 - 2) hq
      obtain ⟨σ', r1, r2, r3⟩ := cl_wear_loop hS h10 hw hL m (i + 1) (en_up σ (cb + 7 + i) 4 (nI (L i 4 - 2))) N (by omega) (by omega) (by rw [en_up_a hne]; exact hn) (fun k hk2 => by
          by_cases e : k = i
          · subst e
            refine q_at_congr hq2 (fun j _ => ?_)
            simp only [q_wear, if_neg hiw]
          · exact q_at_ne (by omega) (ha k (by omega))) (fun k hk1 hk2 => q_at_ne (by omega) (hb k (by omega) hk2))
      refine ⟨σ', r1, r2, fun b hb2 => ?_⟩
      have hbi := hb2 i hi
      rw [r3 b hb2]
      unfold en_up
      rw [if_neg hbi]
theorem cl_wear (hS : isCl S cb) (h10 : n ≤ 10) {w : Nat} (hw : w < n) (hL : ∀ i, i < n → q_leg (L i)) (hn : σ cb 1 = nI n) (hq : q_legs σ cb n L) : ∃ σ', mx_ev xs mx_P (d + 3) 28 [.ref cb, .int (nI w)] (en S σ) = some (none, en S σ') ∧ q_legs σ' cb n (q_wear w L) ∧ ∀ b, (∀ k, k < n → b ≠ cb + 7 + k) → σ' b = σ b := by
  rw [ev_X0_wear]
  exact cl_wear_loop hS h10 hw hL n 0 σ 99999 (by omega) (by omega) hn (fun k h => absurd h (by omega)) (fun k _ h => hq k h)
end CL
