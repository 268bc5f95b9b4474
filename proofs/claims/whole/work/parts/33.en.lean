/-! ===== a heap of known shape: all its ints are one function ===== -/
/-- an object (class, for each field an int or a reference), a row of ints (kind, length), a row of references -/
abbrev en_S : Type := (Nat × List (Option Nat)) ⊕ (Nat × Nat) ⊕ (Nat × Nat × (Nat → Option Nat)) ⊕ (Nat × Nat)
/-- a reference among the ints: none below 0 -/
def en_r (x : Int32) : Option Nat := if x < 0 then none else some x.toNatClampNeg
theorem en_r_n {j : Nat} (hj : j < 2 ^ 31) : en_r (nI j) = some j := by
  unfold en_r
  rw [if_neg (nI_pos hj), nI_clamp hj]
def en_f (s : Nat → Int32) (k : Nat) : Option Nat → Value
  | none => .int (s k)
  | some r => .ref r
def en_c (s : Nat → Int32) : en_S → va_E
  | .inl (ci, tm) => .inr (ci, tm.mapIdx (en_f s))
  | .inr (.inl (t, n)) => .inl (t, n, .inl s)
  | .inr (.inr (.inl (t, n, g))) => .inl (t, n, .inr (.inr (.inr (.inr g))))
  | .inr (.inr (.inr (t, n))) => .inl (t, n, .inr (.inr (.inr (.inr (fun k => en_r (s k))))))
def en (S : List en_S) (σ : Nat → Nat → Int32) : mx_H := S.mapIdx (fun a x => en_c (σ a) x)
def en_up (σ : Nat → Nat → Int32) (a k : Nat) (v : Int32) : Nat → Nat → Int32 := fun b => if b = a then upd (σ a) k v else σ b
theorem en_up_s {σ : Nat → Nat → Int32} {a k : Nat} {v : Int32} : en_up σ a k v a k = v := by simp [en_up, upd]
theorem en_up_k {σ : Nat → Nat → Int32} {a k j : Nat} {v : Int32} (h : j ≠ k) : en_up σ a k v a j = σ a j := by simp [en_up, upd, h]
theorem en_up_a {σ : Nat → Nat → Int32} {a b k j : Nat} {v : Int32} (h : b ≠ a) : en_up σ a k v b j = σ b j := by simp [en_up, h]
theorem en_up_i {σ : Nat → Nat → Int32} {a b k j : Nat} {v : Int32} : en_up σ a k v b j = if b = a ∧ j = k then v else σ b j := by
  unfold en_up
  by_cases h : b = a
  · subst h
    simp only [if_true, true_and, upd]
  · simp [h]
section EN
variable {S : List en_S} {σ : Nat → Nat → Int32} {a : Nat}
theorem en_get {x : en_S} (h : S[a]? = some x) : (en S σ)[a]? = some (en_c (σ a) x) := by
  simp [en, List.getElem?_mapIdx, h]
theorem en_len : (en S σ).length = S.length := by simp [en]
theorem en_set {x x' : en_S} {σ' : Nat → Nat → Int32} (h : S[a]? = some x) (hσ : ∀ b, b ≠ a → σ' b = σ b) : (en S σ).set a (en_c (σ' a) x') = en (S.set a x') σ' := by
  apply List.ext_getElem?
  intro j
  have hl := (List.getElem?_eq_some_iff.mp h).1
  rw [List.getElem?_set]
  unfold en
  rw [List.getElem?_mapIdx, List.getElem?_mapIdx, List.getElem?_set, List.length_mapIdx]
  by_cases hj : a = j
  · subst hj
    rw [if_pos rfl, if_pos rfl, if_pos hl, if_pos hl]
    rfl
  · rw [if_neg hj, if_neg hj, hσ j (fun e => hj e.symm)]
theorem en_set1 {x : en_S} {σ' : Nat → Nat → Int32} (h : S[a]? = some x) (hσ : ∀ b, b ≠ a → σ' b = σ b) : (en S σ).set a (en_c (σ' a) x) = en S σ' := by
  have h1 := en_set (x' := x) h hσ
  rw [h1]
  congr 1
  apply List.ext_getElem?
  intro j
  rw [List.getElem?_set]
  by_cases hj : a = j
  · subst hj
    rw [if_pos rfl, if_pos (List.getElem?_eq_some_iff.mp h).1, h]
  · rw [if_neg hj]
theorem en_gi {ci k : Nat} {tm : List (Option Nat)} {f : Int32 → mx_R} (h : S[a]? = some (.inl (ci, tm))) (hk : tm[k]? = some none) : mx_gi (en S σ) a ci k f = f (σ a k) := by
  unfold mx_gi
  rw [en_get h]
  simp [en_c, List.getElem?_mapIdx, hk, en_f]
theorem en_gr {ci k r : Nat} {tm : List (Option Nat)} {f : Nat → mx_R} (h : S[a]? = some (.inl (ci, tm))) (hk : tm[k]? = some (some r)) : mx_gr (en S σ) a ci k f = f r := by
  unfold mx_gr
  rw [en_get h]
  simp [en_c, List.getElem?_mapIdx, hk, en_f]
theorem en_mset {tm : List (Option Nat)} {s : Nat → Int32} {k : Nat} {v : Int32} (hk : tm[k]? = some none) : (tm.mapIdx (en_f s)).set k (.int v) = tm.mapIdx (en_f (upd s k v)) := by
  apply List.ext_getElem?
  intro j
  have hl := (List.getElem?_eq_some_iff.mp hk).1
  rw [List.getElem?_set, List.getElem?_mapIdx, List.getElem?_mapIdx, List.length_mapIdx]
  by_cases hj : k = j
  · subst hj
    rw [if_pos rfl, if_pos hl, hk]
    simp [en_f, upd]
  · rw [if_neg hj]
    cases tm[j]? with
    | none => rfl
    | some o =>
      cases o with
      | none => simp [en_f, upd, Ne.symm hj]
      | some r => rfl
theorem en_mset_r {tm : List (Option Nat)} {s : Nat → Int32} {k r : Nat} (hk : k < tm.length) : (tm.mapIdx (en_f s)).set k (.ref r) = (tm.set k (some r)).mapIdx (en_f s) := by
  apply List.ext_getElem?
  intro j
  rw [List.getElem?_set, List.getElem?_mapIdx, List.getElem?_mapIdx, List.length_mapIdx, List.getElem?_set]
  by_cases hj : k = j
  · subst hj
    rw [if_pos rfl, if_pos rfl, if_pos hk, if_pos hk]
    rfl
  · rw [if_neg hj, if_neg hj]
theorem en_pt {ci k : Nat} {tm : List (Option Nat)} {v : Int32} {f : mx_H → mx_R} (h : S[a]? = some (.inl (ci, tm))) (hk : tm[k]? = some none) : mx_pt (en S σ) a ci k (.int v) f = f (en S (en_up σ a k v)) := by
  have hl := (List.getElem?_eq_some_iff.mp hk).1
  unfold mx_pt
  rw [en_get h]
  simp only [en_c, List.length_mapIdx, hl, and_self, if_true]
  rw [en_mset hk, ← en_set1 (σ := σ) (σ' := en_up σ a k v) h (fun b hb => by unfold en_up; rw [if_neg hb])]
  simp [en_c, en_up]
theorem en_pz {ci k : Nat} {tm : List (Option Nat)} {v : Int32} {f : mx_H → mx_R} (h : S[a]? = some (.inl (ci, tm))) (hk : tm[k]? = some none) (hv : v = 0 ∨ v = 1) : mx_pz (en S σ) a ci k v f = f (en S (en_up σ a k v)) := by
  unfold mx_pz
  rw [if_pos hv, en_pt h hk]
theorem en_pr {ci k r : Nat} {tm : List (Option Nat)} {f : mx_H → mx_R} (h : S[a]? = some (.inl (ci, tm))) (hk : k < tm.length) : mx_pt (en S σ) a ci k (.ref r) f = f (en (S.set a (.inl (ci, tm.set k (some r)))) σ) := by
  unfold mx_pt
  rw [en_get h]
  simp only [en_c, List.length_mapIdx, hk, and_self, if_true]
  rw [en_mset_r hk, ← en_set (σ := σ) (σ' := σ) h (fun b _ => rfl)]
  simp [en_c]
theorem en_ai {t n : Nat} {i : Int32} {f : Int32 → mx_R} (h : S[a]? = some (.inr (.inl (t, n)))) (hi : ¬ (i < 0 ∨ n ≤ i.toNatClampNeg)) : mx_ai (en S σ) a t i f = f (σ a i.toNatClampNeg) := by
  unfold mx_ai
  rw [en_get h]
  simp only [en_c]
  rw [if_pos ⟨trivial, hi⟩]
theorem en_aiN {t n j : Nat} {f : Int32 → mx_R} (h : S[a]? = some (.inr (.inl (t, n)))) (hj : j < n) (hn : n < 2 ^ 31) : mx_ai (en S σ) a t (nI j) f = f (σ a j) := by
  rw [en_ai h (nI_in hj hn), nI_clamp (by omega)]
theorem en_as {t n : Nat} {i x : Int32} {f : mx_H → mx_R} (h : S[a]? = some (.inr (.inl (t, n)))) (hi : ¬ (i < 0 ∨ n ≤ i.toNatClampNeg)) : mx_as (en S σ) a t i x f = f (en S (en_up σ a i.toNatClampNeg x)) := by
  unfold mx_as
  rw [en_get h]
  simp only [en_c]
  rw [if_pos ⟨trivial, hi⟩, ← en_set1 (σ := σ) (σ' := en_up σ a i.toNatClampNeg x) h (fun b hb => by unfold en_up; rw [if_neg hb])]
  simp [en_c, en_up]
theorem en_asN {t n j : Nat} {x : Int32} {f : mx_H → mx_R} (h : S[a]? = some (.inr (.inl (t, n)))) (hj : j < n) (hn : n < 2 ^ 31) : mx_as (en S σ) a t (nI j) x f = f (en S (en_up σ a j x)) := by
  rw [en_as h (nI_in hj hn), nI_clamp (by omega)]
theorem en_aa {t n r : Nat} {i : Int32} {g : Nat → Option Nat} {f : Nat → mx_R} (h : S[a]? = some (.inr (.inr (.inl (t, n, g))))) (ht : 3 ≤ t ∧ t ≤ 6) (hi : ¬ (i < 0 ∨ n ≤ i.toNatClampNeg)) (hg : g i.toNatClampNeg = some r) : mx_aa (en S σ) a i f = f r := by
  unfold mx_aa
  rw [en_get h]
  simp only [en_c]
  rw [if_pos ⟨ht, hi⟩, hg]
theorem en_aaN {t n r j : Nat} {g : Nat → Option Nat} {f : Nat → mx_R} (h : S[a]? = some (.inr (.inr (.inl (t, n, g))))) (ht : 3 ≤ t ∧ t ≤ 6) (hj : j < n) (hn : n < 2 ^ 31) (hg : g j = some r) : mx_aa (en S σ) a (nI j) f = f r :=
  en_aa h ht (nI_in hj hn) (by rw [nI_clamp (by omega)]; exact hg)
theorem en_at {t n v : Nat} {i : Int32} {g : Nat → Option Nat} {tm : List (Option Nat)} {f : mx_H → mx_R} (h : S[a]? = some (.inr (.inr (.inl (t, n, g))))) (hv : S[v]? = some (.inl (mx_kc t, tm))) (ht : 3 ≤ t ∧ t ≤ 6) (hi : ¬ (i < 0 ∨ n ≤ i.toNatClampNeg)) : mx_at (en S σ) a i v f = f (en (S.set a (.inr (.inr (.inl (t, n, va_up g i.toNatClampNeg (some v)))))) σ) := by
  unfold mx_at
  rw [en_get h, en_get hv]
  simp only [en_c]
  rw [if_pos ⟨ht, trivial, hi⟩, ← en_set (σ := σ) (σ' := σ) h (fun b _ => rfl)]
  simp [en_c]
theorem en_ta {t n r j : Nat} {f : Nat → mx_R} (h : S[a]? = some (.inr (.inr (.inr (t, n))))) (ht : 3 ≤ t ∧ t ≤ 6) (hj : j < n) (hn : n < 2 ^ 31) (hr : σ a j = nI r) (hr2 : r < 2 ^ 31) : mx_aa (en S σ) a (nI j) f = f r := by
  unfold mx_aa
  rw [en_get h]
  simp only [en_c]
  rw [if_pos ⟨ht, nI_in hj hn⟩, nI_clamp (by omega), hr, en_r_n hr2]
theorem en_tt {t n v j : Nat} {tm : List (Option Nat)} {f : mx_H → mx_R} (h : S[a]? = some (.inr (.inr (.inr (t, n))))) (hv : S[v]? = some (.inl (mx_kc t, tm))) (ht : 3 ≤ t ∧ t ≤ 6) (hj : j < n) (hn : n < 2 ^ 31) (hv2 : v < 2 ^ 31) : mx_at (en S σ) a (nI j) v f = f (en S (en_up σ a j (nI v))) := by
  unfold mx_at
  rw [en_get h, en_get hv]
  simp only [en_c]
  rw [if_pos ⟨ht, trivial, nI_in hj hn⟩, nI_clamp (by omega), ← en_set1 (σ := σ) (σ' := en_up σ a j (nI v)) h (fun b hb => by unfold en_up; rw [if_neg hb])]
  have e : (fun k => en_r (en_up σ a j (nI v) a k)) = va_up (fun k => en_r (σ a k)) j (some v) := by
    funext k
    rw [en_up_i]
    unfold va_up
    by_cases hk : k = j
    · rw [if_pos ⟨rfl, hk⟩, if_pos hk, en_r_n hv2]
    · rw [if_neg (fun e => hk e.2), if_neg hk]
  simp only [en_c]
  rw [e]
theorem en_al {t n : Nat} {f : Int32 → mx_R} (h : S[a]? = some (.inr (.inl (t, n)))) (ht : t < 7) : mx_al (en S σ) a f = f (Int32.ofNat n) := by
  unfold mx_al
  rw [en_get h]
  simp only [en_c]
  rw [if_pos ht]
theorem en_cl {ci : Nat} {tm : List (Option Nat)} {x : mx_R} (h : S[a]? = some (.inl (ci, tm))) : mx_cl (en S σ) a ci x = x := by
  unfold mx_cl
  rw [en_get h]
  simp [en_c]
theorem en_cp {s d n0 n1 : Nat} {sp dp n : Int32} {f : mx_H → mx_R} (h0 : S[s]? = some (.inr (.inl (0, n0)))) (h1 : S[d]? = some (.inr (.inl (0, n1)))) (c1 : ¬ sp < 0) (c2 : ¬ dp < 0) (c3 : ¬ n < 0) (c4 : sp.toNatClampNeg + n.toNatClampNeg ≤ n0) (c5 : dp.toNatClampNeg + n.toNatClampNeg ≤ n1) :
    mx_cp (en S σ) s sp d dp n f = f (en S (fun b => if b = d then va_cpy (σ s) (σ d) sp.toNatClampNeg dp.toNatClampNeg n.toNatClampNeg else σ b)) := by
  unfold mx_cp
  rw [en_get h0, en_get h1]
  simp only [en_c]
  rw [if_pos ⟨trivial, trivial, c1, c2, c3, c4, c5⟩, ← en_set1 (σ := σ) (σ' := fun b => if b = d then va_cpy (σ s) (σ d) sp.toNatClampNeg dp.toNatClampNeg n.toNatClampNeg else σ b) h1 (fun b hb => by simp [hb])]
  simp [en_c]
end EN
