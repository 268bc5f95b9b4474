/-! ===== a pressing: BESIDE by u less 3 ===== -/
def q_ab (u : Nat) : Nat := if u < 3 then 3 - u else u - 3
def q_pr (u feel s : Nat) (l : Nat → Nat) : Nat → Nat := fun j => if j = 2 then s else if j = 4 then l 4 / 2 else if q_ab u ≤ feel then (if j = 3 then l 3 / 2 else if j = 5 then min 9 (l 5 + 1) else l j) else (if j = 3 then l 2 else if j = 1 then (l 1 + u + 57) % 60 else if j = 5 then 1 else l j)
theorem q_pr_leg {u feel s : Nat} {l : Nat → Nat} (h : q_leg l) (hs : s ≤ 99) : q_leg (q_pr u feel s l) := by
  obtain ⟨h0, h1, h2, h3, h4, h5⟩ := h
  unfold q_leg q_pr
  by_cases e : q_ab u ≤ feel
  · simp only [e, if_true]
    refine ⟨h0, h1, hs, ?_, ?_, ?_⟩ <;> simp <;> omega
  · simp only [e, if_false]
    refine ⟨h0, ?_, hs, ?_, ?_, ?_⟩ <;> simp <;> omega
theorem q_abs_i {u : Nat} (hu : u ≤ 6) {x : Int32} (hx : x = nI u - 3) : (if 0 ≤ x then x else -x) = nI (q_ab u) := by
  subst hx
  rcases (show u = 0 ∨ u = 1 ∨ u = 2 ∨ u = 3 ∨ u = 4 ∨ u = 5 ∨ u = 6 by omega) with rfl | rfl | rfl | rfl | rfl | rfl | rfl <;> decide
theorem q_abs (xs : List Int32) (d : Nat) {u : Nat} (hu : u ≤ 6) {x : Int32} (hx : x = nI u - 3) (h : mx_H) : mx_ev xs mx_P (d + 1) 1 [.int x] h = some (some (.int (nI (q_ab u))), h) := by
  rw [ev_J9_abs_0f7a4, ← q_abs_i hu hx]
  split <;> rfl
theorem m_off (xs : List Int32) (d : Nat) {u : Nat} (hu : u ≤ 6) {x : Int32} (hx : x = nI u - 3) (h : mx_H) : mx_ev xs mx_P (d + 1) 141 [.int x] h = some (some (.int (nI (q_ab u))), h) := by
  rw [ev_X7_off, ← q_abs_i hu hx]
  split <;> rfl
theorem q_ab_le {u : Nat} (hu : u ≤ 6) : q_ab u ≤ 3 := by
  unfold q_ab
  split <;> omega
theorem q_floor (xs : List Int32) (d : Nat) {p u : Nat} (hp : p ≤ 59) (hu : u ≤ 6) {x : Int32} (hx : x = nI u - 3) (h : mx_H) : mx_ev xs mx_P (d + 1) 0 [.int (nI p + x), .int 60] h = some (some (.int (nI ((p + u + 57) % 60))), h) := by
  have e1 : nI p + x = nI (p + u) - 3 := by
    subst hx
    rw [Int32.sub_eq_add_neg, Int32.sub_eq_add_neg, ← Int32.add_assoc, nI_add]
  rw [ev_J9_floorMod_7cf53, e1, if_neg (by decide)]
  by_cases h3 : 3 ≤ p + u
  · have e2 : nI (p + u) - 3 = nI (p + u - 3) := by rw [show (3 : Int32) = nI 3 from rfl, pk_sub h3]
    have e3 : (60 : Int32) = nI 60 := rfl
    rw [e2, q_rm (b := 60) (y := 60) (by omega) (by decide) (by decide) rfl, show (p + u - 3) % 60 = (p + u + 57) % 60 by omega]
    have hx : (0 : Int32) ≤ nI (p + u - 3) ^^^ 60 := by
      have : ∀ v, v < 63 → (0 : Int32) ≤ nI v ^^^ 60 := by decide
      exact this _ (by omega)
    rw [if_pos hx]
    rfl
  · rcases (show p + u = 0 ∨ p + u = 1 ∨ p + u = 2 by omega) with e | e | e <;> rw [e] <;> rfl
section PR
variable {S : List en_S} {σ : Nat → Nat → Int32} {cb d a : Nat} {xs : List Int32} {K : q_K} {l : Nat → Nat} {heat feel u : Nat}
theorem cl_press (hS : isCl S cb) (hcb : cb ≤ 90) (hK : cText S σ cb K) (hok : q_Kok K) (hSa : S[a]? = some en_leg) (ha : cb + 6 < a) (hl : q_at (σ a) l) (hq : q_leg l) (hh : σ (cb + 2) 3 = nI heat) (hh99 : heat ≤ 99) (hf : σ (cb + 2) 1 = nI feel) (hf3 : feel ≤ 3) (hu : u ≤ 6) {x : Int32} (hx : x = nI u - 3) : ∃ σ', mx_ev xs mx_P (d + 5) 30 [.ref cb, .ref a, .int x] (en S σ) = some (some (.int (if q_ab u ≤ feel then 1 else 0)), en S σ') ∧ q_at (σ' a) (q_pr u feel (q_takes l (q_plain K heat l)) l) ∧ (∀ b, b ≠ a → b ≠ cb → b ≠ cb + 5 → b ≠ cb + 6 → σ' b = σ b) ∧ ∀ k, σ' cb k = if k = 6 then σ cb 6 + 1 else if k = 7 ∧ ¬ q_ab u ≤ feel then σ cb 7 + 1 else σ cb k := by
  obtain ⟨σ1, r1, r2⟩ := cl_takenBy (xs := xs) (d := d) hS hcb hK hok hSa (by omega) (by omega) hl hq hh hh99
  have hab := q_ab_le hu
  have l1 : q_at (σ1 a) l := by rw [r2 a (by omega) (by omega)]; exact hl
  have f1 : σ1 (cb + 2) 1 = nI feel := by rw [r2 _ (by omega) (by omega)]; exact hf
  have c1 : σ1 cb = σ cb := r2 cb (by omega) (by omega)
  have k0 := l1 0 (by decide)
  have k1 := l1 1 (by decide)
  have k2 := l1 2 (by decide)
  have k3 := l1 3 (by decide)
  have k4 := l1 4 (by decide)
  have k5 := l1 5 (by decide)
  have hne : a ≠ cb := by omega
  rw [ev_X0_press, en_cl hS.1, r1, c1s, q_abs xs (d + 3) hu hx, c1s, en_gr hS.1 rfl, show (mx_ai (en S σ1) (cb + 2) 0 1 : (Int32 → mx_R) → mx_R) = mx_ai (en S σ1) (cb + 2) 0 (nI 1) from rfl, en_aiN hS.2.2.1 (by decide) (by decide), f1]
  by_cases e : q_ab u ≤ feel
  · have ed : nI (l 3) / 2 = nI (l 3 / 2) := pk_div (d := 2) (by have := hq.2.2.2.1; omega) (by decide) (by decide)
    have em : mx_ev xs mx_P (d + 4) 3 [.int 9, .int (nI (l 5) + 1)] (en S (en_up σ1 a 3 (nI (l 3 / 2)))) = some (some (.int (nI (min 9 (l 5 + 1)))), en S (en_up σ1 a 3 (nI (l 3 / 2)))) := by
      rw [nI_1]
      exact q_min xs (d + 3) (a := 9) _ (by decide) (by have := hq.2.2.2.2.2; omega)
    have e4 : nI (l 4) / 2 = nI (l 4 / 2) := pk_div (d := 2) (by have := hq.2.2.2.2.1; omega) (by decide) (by decide)
    rw [if_neg (nI_nlt e (by omega)), if_neg (by decide), en_gi hSa rfl, k3, if_neg (by decide), ed, en_pt hSa rfl, en_gi hSa rfl, en_up_k (by decide), k5, em, c1s, en_pt hSa rfl, en_pt hSa rfl, en_gi hSa rfl, en_up_k (by decide), en_up_k (by decide), en_up_k (by decide), k4, if_neg (by decide), e4, en_pt hSa rfl, en_gi hS.1 rfl, en_pt hS.1 rfl]
    refine ⟨_, by rw [if_pos e]; rfl, fun j hj => ?_, fun b b1 b2 b3 b4 => ?_, fun k => ?_⟩
    · rw [en_up_a hne]
      unfold q_pr
      simp only [e, if_true]
      rcases (show j = 0 ∨ j = 1 ∨ j = 2 ∨ j = 3 ∨ j = 4 ∨ j = 5 by omega) with rfl | rfl | rfl | rfl | rfl | rfl <;> simp [en_up_i, k0, k1]
    · rw [← r2 b b3 b4]
      funext j
      simp [en_up_i, b1, b2]
    · rw [← c1]
      by_cases q6 : k = 6
      · subst q6
        simp [en_up_i, Ne.symm hne]
      · simp [en_up_i, Ne.symm hne, q6, e]
  · have e4 : nI (l 4) / 2 = nI (l 4 / 2) := pk_div (d := 2) (by have := hq.2.2.2.2.1; omega) (by decide) (by decide)
    rw [if_pos (nI_lt (by omega) (by omega)), if_pos rfl, en_gi hSa rfl, k2, en_pt hSa rfl, en_gi hSa rfl, en_up_k (by decide), k1, q_floor xs (d + 3) hq.2.1 hu hx, c1s, en_pt hSa rfl, en_pt hSa rfl, en_gi hS.1 rfl, en_pt hS.1 rfl, en_pt hSa rfl, en_gi hSa rfl, en_up_k (by decide), en_up_a hne, en_up_k (by decide), en_up_k (by decide), en_up_k (by decide), k4, if_neg (by decide), e4, en_pt hSa rfl, en_gi hS.1 rfl, en_pt hS.1 rfl]
    refine ⟨_, by rw [if_neg e]; rfl, fun j hj => ?_, fun b b1 b2 b3 b4 => ?_, fun k => ?_⟩
    · rw [en_up_a hne]
      unfold q_pr
      simp only [e, if_false]
      rcases (show j = 0 ∨ j = 1 ∨ j = 2 ∨ j = 3 ∨ j = 4 ∨ j = 5 by omega) with rfl | rfl | rfl | rfl | rfl | rfl <;> simp [en_up_i, k0, k1, hne]
      rfl
    · rw [← r2 b b3 b4]
      funext j
      simp [en_up_i, b1, b2]
    · rw [← c1]
      by_cases q6 : k = 6
      · subst q6
        simp [en_up_i, Ne.symm hne]
      · by_cases q7 : k = 7
        · subst q7
          simp [en_up_i, Ne.symm hne, e]
        · simp [en_up_i, Ne.symm hne, q6, q7]
end PR
