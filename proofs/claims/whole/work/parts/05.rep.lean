/-! ===== the pure heap and the machine's heap ===== -/
def mx_ad (pre : Nat → Nat) (base k : Nat) : Nat := if k < 3 then pre k else base + (k - 3)
def mx_cv (pre : Nat → Nat) (base : Nat) (sk : Nat → Value) : Value → Value
  | .ref k => .ref (mx_ad pre base k)
  | .retAddr i => sk i
  | .int x => .int x
  | .null => .null
  | .long x => .long x
  | .float x => .float x
  | .double x => .double x
def mx_cx (ad : Nat → Nat) : ((Nat → Int32) ⊕ (Nat → Int64) ⊕ (Nat → UInt32) ⊕ (Nat → UInt64) ⊕ (Nat → Option Nat)) → ((Nat → Int32) ⊕ (Nat → Int64) ⊕ (Nat → UInt32) ⊕ (Nat → UInt64) ⊕ (Nat → Option Nat))
  | .inr (.inr (.inr (.inr f))) => .inr (.inr (.inr (.inr (fun j => (f j).map ad))))
  | x => x
def mx_ce (pre : Nat → Nat) (base : Nat) (sk : Nat → Value) (ta : Nat → ClassId) : va_E → va_E
  | .inl (t, n, x) => .inl (ta t, n, mx_cx (mx_ad pre base) x)
  | .inr (ci, fs) => .inr (ci, fs.map (mx_cv pre base sk))
def mx_Rl (D : va_G) (ta : Nat → ClassId) (pre : Nat → Nat) (base : Nat) (sk : Nat → Value) (h : mx_H) (H : Heap) : Prop :=
  3 ≤ h.length ∧ H.size = base + (h.length - 3) ∧ ∀ (k : Nat) (e : va_E), h[k]? = some e → va_at D vwCl (mx_ad pre base k, mx_ce pre base sk ta e) H
/-- the new cells, with their addresses -/
def mx_ws (pre : Nat → Nat) (base : Nat) (sk : Nat → Value) (ta : Nat → ClassId) (h : mx_H) : va_W := (h.drop 3).mapIdx (fun i e => (base + i, mx_ce pre base sk ta e))
def mx_se : va_E → Nat
  | .inl (_, n, _) => n
  | .inr (_, fs) => fs.length
def mx_sz (h : mx_H) : Nat := (h.map mx_se).sum
abbrev mx_A (base : Nat) : Nat → Prop := fun q => base ≤ q
section MXA
variable {D : va_G} {ta : Nat → ClassId} {pre : Nat → Nat} {base : Nat} {sk : Nat → Value} {h : mx_H} {H H1 : Heap} {s : State} {locs locs1 : List Loc}
theorem mx_ws_get (j : Nat) : (mx_ws pre base sk ta h)[j]? = (h[3 + j]?).map (fun e => (base + j, mx_ce pre base sk ta e)) := by
  simp [mx_ws, List.getElem?_mapIdx, List.getElem?_drop]
theorem mx_ws_at {k : Nat} {e : va_E} (hk : 3 ≤ k) (he : h[k]? = some e) : (mx_ws pre base sk ta h)[k - 3]? = some (mx_ad pre base k, mx_ce pre base sk ta e) := by
  rw [mx_ws_get, show 3 + (k - 3) = k by omega, he]
  simp [mx_ad, show ¬ k < 3 by omega]
theorem mx_ws_set {k : Nat} {e : va_E} (hk : 3 ≤ k) : (mx_ws pre base sk ta h).set (k - 3) (mx_ad pre base k, mx_ce pre base sk ta e) = mx_ws pre base sk ta (h.set k e) := by
  apply List.ext_getElem?
  intro j
  rw [mx_ws_get, List.getElem?_set, mx_ws_get]
  by_cases hj : k - 3 = j
  · subst hj
    have e1 : 3 + (k - 3) = k := by omega
    rw [e1, if_pos rfl, List.getElem?_set, if_pos rfl]
    by_cases hl : k < h.length
    · rw [if_pos (by simp [mx_ws]; omega), if_pos hl]
      simp [mx_ad, show ¬ k < 3 by omega]
    · rw [if_neg (by simp [mx_ws]; omega), if_neg hl]
      rfl
  · rw [if_neg hj, List.getElem?_set, if_neg (by omega)]
theorem mx_ws_len : (mx_ws pre base sk ta h).length = h.length - 3 := by simp [mx_ws]
theorem mx_ws_push {e : va_E} (hk : 3 ≤ h.length) : mx_ws pre base sk ta (h ++ [e]) = mx_ws pre base sk ta h ++ [(base + (h.length - 3), mx_ce pre base sk ta e)] := by
  simp only [mx_ws]
  rw [List.drop_append_of_le_length hk, List.mapIdx_append]
  simp
theorem mx_ws_D : va_D (mx_A base) (mx_ws pre base sk ta h) := by
  refine ⟨fun i j p q hi hj hpq => ?_, fun k q hk => ?_⟩
  · rw [mx_ws_get] at hi hj
    cases h1 : h[3 + i]? with
    | none => rw [h1] at hi; cases hi
    | some a =>
      cases h2 : h[3 + j]? with
      | none => rw [h2] at hj; cases hj
      | some b =>
        rw [h1] at hi; rw [h2] at hj
        cases hi; cases hj
        simp only at hpq
        omega
  · rw [mx_ws_get] at hk
    cases h1 : h[3 + k]? with
    | none => rw [h1] at hk; cases hk
    | some a => rw [h1] at hk; cases hk; exact Nat.le_add_right _ _
theorem mx_Rl.one (hR : mx_Rl D ta pre base sk h H) {k : Nat} {e : va_E} (he : h[k]? = some e) : va_P D vwCl [(mx_ad pre base k, mx_ce pre base sk ta e)] H := by
  intro j q hj
  match j, hj with
  | 0, hj => cases hj; exact hR.2.2 k e he
  | j + 1, hj => simp at hj
theorem mx_Rl.all (hR : mx_Rl D ta pre base sk h H) : va_P D vwCl (mx_ws pre base sk ta h) H := by
  intro j q hj
  rw [mx_ws_get] at hj
  cases h1 : h[3 + j]? with
  | none => rw [h1] at hj; cases hj
  | some a =>
    rw [h1] at hj
    cases hj
    have h2 := hR.2.2 _ _ h1
    rwa [show mx_ad pre base (3 + j) = base + j by simp [mx_ad, show ¬ 3 + j < 3 by omega]] at h2
theorem mx_old (hp : ∀ k, k < 3 → pre k < base) (hb : base ≤ s.heap.size) (hR : mx_Rl D ta pre base sk h H) (hS : va_S (mx_A base) s.heap H locs) (hS1 : va_S (mx_A base) s.heap H1 locs1) {k : Nat} (hk : k < 3) {e : va_E} (he : h[k]? = some e) : va_at D vwCl (mx_ad pre base k, mx_ce pre base sk ta e) H1 := by
  have ha : mx_ad pre base k = pre k := by simp [mx_ad, hk]
  have h1 := hR.2.2 k e he
  rw [ha] at h1 ⊢
  have h2 := hp k hk
  refine h1.kept ?_
  show H1[pre k]? = H[pre k]?
  rw [hS1.2.1 (pre k) (Nat.lt_of_lt_of_le h2 hb) (by show ¬ base ≤ pre k; omega), hS.2.1 (pre k) (Nat.lt_of_lt_of_le h2 hb) (by show ¬ base ≤ pre k; omega)]
theorem mx_Rl.set (hp : ∀ k, k < 3 → pre k < base) (hb : base ≤ s.heap.size) (hR : mx_Rl D ta pre base sk h H) (hS : va_S (mx_A base) s.heap H locs) (hS1 : va_S (mx_A base) s.heap H1 locs1) {r : Nat} {e : va_E} (hr : 3 ≤ r) (hz : H1.size = H.size) (hP : va_P D vwCl (mx_ws pre base sk ta (h.set r e)) H1) : mx_Rl D ta pre base sk (h.set r e) H1 := by
  refine ⟨by rw [List.length_set]; exact hR.1, by rw [List.length_set, hz]; exact hR.2.1, fun k x hx => ?_⟩
  by_cases hk : k < 3
  · rw [List.getElem?_set, if_neg (by omega)] at hx
    exact mx_old hp hb hR hS hS1 hk hx
  · exact hP (k - 3) _ (mx_ws_at (by omega) hx)
theorem mx_Rl.push (hp : ∀ k, k < 3 → pre k < base) (hb : base ≤ s.heap.size) (hR : mx_Rl D ta pre base sk h H) (hS : va_S (mx_A base) s.heap H locs) (hS1 : va_S (mx_A base) s.heap H1 locs1) {e : va_E} (hz : H1.size = H.size + 1) (hP : va_P D vwCl (mx_ws pre base sk ta (h ++ [e])) H1) : mx_Rl D ta pre base sk (h ++ [e]) H1 := by
  have h1 := hR.1
  have h2 := hR.2.1
  refine ⟨by simp; omega, by simp; omega, fun k x hx => ?_⟩
  by_cases hk : k < 3
  · rw [List.getElem?_append_left (by omega)] at hx
    exact mx_old hp hb hR hS hS1 hk hx
  · exact hP (k - 3) _ (mx_ws_at (by omega) hx)
theorem mx_sz_set {r : Nat} {e e' : va_E} (he : h[r]? = some e) (hs : mx_se e' = mx_se e) : mx_sz (h.set r e') = mx_sz h := by
  unfold mx_sz
  congr 1
  rw [List.map_set]
  apply List.ext_getElem?
  intro j
  rw [List.getElem?_set]
  by_cases hj : r = j
  · subst hj
    have hl := (List.getElem?_eq_some_iff.mp he).1
    rw [if_pos rfl, if_pos (by simpa using hl), List.getElem?_map, he, hs]
    rfl
  · rw [if_neg hj]
theorem mx_sz_push {e : va_E} : mx_sz (h ++ [e]) = mx_sz h + mx_se e := by simp [mx_sz]
end MXA
