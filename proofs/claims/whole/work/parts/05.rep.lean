/-! ===== the pure heap and the machine's heap ===== -/
def mx_cv (base : Nat) (sk : Nat → Value) : Value → Value
  | .ref k => .ref (base + k)
  | .retAddr i => sk i
  | .int x => .int x
  | .null => .null
  | .long x => .long x
  | .float x => .float x
  | .double x => .double x
def mx_cx (ad : Nat → Nat) : ((Nat → Int32) ⊕ (Nat → Int64) ⊕ (Nat → UInt32) ⊕ (Nat → UInt64) ⊕ (Nat → Option Nat)) → ((Nat → Int32) ⊕ (Nat → Int64) ⊕ (Nat → UInt32) ⊕ (Nat → UInt64) ⊕ (Nat → Option Nat))
  | .inr (.inr (.inr (.inr f))) => .inr (.inr (.inr (.inr (fun j => (f j).map ad))))
  | x => x
def mx_ce (base : Nat) (sk : Nat → Value) (ta : Nat → ClassId) : va_E → va_E
  | .inl (t, n, x) => .inl (ta t, n, mx_cx (fun k => base + k) x)
  | .inr (ci, fs) => .inr (ci, fs.map (mx_cv base sk))
/-- the cells, with their addresses -/
def mx_ws (base : Nat) (sk : Nat → Value) (ta : Nat → ClassId) (h : mx_H) : va_W := h.mapIdx (fun i e => (base + i, mx_ce base sk ta e))
def mx_Rl (D : va_G) (ta : Nat → ClassId) (base : Nat) (sk : Nat → Value) (h : mx_H) (H : Heap) : Prop :=
  H.size = base + h.length ∧ va_P D vwCl (mx_ws base sk ta h) H
def mx_se : va_E → Nat
  | .inl (_, n, _) => n
  | .inr (_, fs) => fs.length
def mx_sz (h : mx_H) : Nat := (h.map mx_se).sum
abbrev mx_A (base : Nat) : Nat → Prop := fun q => base ≤ q
section MXA
variable {D : va_G} {ta : Nat → ClassId} {base : Nat} {sk : Nat → Value} {h : mx_H} {H H1 : Heap} {s : State} {locs locs1 : List Loc}
theorem mx_ws_get (j : Nat) : (mx_ws base sk ta h)[j]? = (h[j]?).map (fun e => (base + j, mx_ce base sk ta e)) := by
  simp [mx_ws, List.getElem?_mapIdx]
theorem mx_ws_at {k : Nat} {e : va_E} (he : h[k]? = some e) : (mx_ws base sk ta h)[k]? = some (base + k, mx_ce base sk ta e) := by
  rw [mx_ws_get, he]
  rfl
theorem mx_ws_set {k : Nat} {e : va_E} : (mx_ws base sk ta h).set k (base + k, mx_ce base sk ta e) = mx_ws base sk ta (h.set k e) := by
  apply List.ext_getElem?
  intro j
  rw [mx_ws_get, List.getElem?_set, mx_ws_get, List.getElem?_set]
  by_cases hj : k = j
  · subst hj
    rw [if_pos rfl, if_pos rfl]
    by_cases hl : k < h.length
    · rw [if_pos (by simp [mx_ws]; omega), if_pos hl]
      rfl
    · rw [if_neg (by simp [mx_ws]; omega), if_neg hl]
      rfl
  · rw [if_neg hj, if_neg hj]
theorem mx_ws_push {e : va_E} : mx_ws base sk ta (h ++ [e]) = mx_ws base sk ta h ++ [(base + h.length, mx_ce base sk ta e)] := by
  simp [mx_ws, List.mapIdx_append]
theorem mx_ws_D : va_D (mx_A base) (mx_ws base sk ta h) := by
  refine ⟨fun i j p q hi hj hpq => ?_, fun k q hk => ?_⟩
  · rw [mx_ws_get] at hi hj
    cases h1 : h[i]? with
    | none => rw [h1] at hi; cases hi
    | some a =>
      cases h2 : h[j]? with
      | none => rw [h2] at hj; cases hj
      | some b =>
        rw [h1] at hi; rw [h2] at hj
        cases hi; cases hj
        simp only at hpq
        omega
  · rw [mx_ws_get] at hk
    cases h1 : h[k]? with
    | none => rw [h1] at hk; cases hk
    | some a => rw [h1] at hk; cases hk; exact Nat.le_add_right _ _
theorem mx_sz_set {r : Nat} {e e' : va_E} (he : h[r]? = some e) (hs : mx_se e' = mx_se e) : mx_sz (h.set r e') = mx_sz h := by
  unfold mx_sz
  congr 1
  rw [List.map_set]
  apply List.ext_getElem?
  intro j
  rw [List.getElem?_set]
  by_cases hj : r = j
  · subst hj
    have hl := (List.getElem?_eq_some_iff.mp he).1
    rw [if_pos rfl, if_pos (by simpa using hl), List.getElem?_map, he, hs]
    rfl
  · rw [if_neg hj]
theorem mx_sz_push {e : va_E} : mx_sz (h ++ [e]) = mx_sz h + mx_se e := by simp [mx_sz]
end MXA
