/-! ===== texts of a closet, and what a pressing takes ===== -/
abbrev q_K : Type := List (Nat × Nat × List Nat)
def q_B (key : Nat) : Nat := if key = 0 then 4 else 2
def q_lst (K : q_K) (key : Nat) : Nat → Option Nat
  | 0 => none
  | t + 1 => if (K.getD t (0, 0, [])).1 = key then some t else q_lst K key t
def q_last (K : q_K) (key : Nat) : Option Nat := q_lst K key K.length
def q_code (K : q_K) (t : Nat) : List Nat := (K.getD t (0, 0, [])).2.2
def q_Kok (K : q_K) : Prop := K.length ≤ 14 ∧ ∀ t, t < K.length → (K.getD t (0, 0, [])).1 < 3 ∧ (K.getD t (0, 0, [])).2.1 ≤ 96 ∧ (q_code K t).length ≤ 96 ∧ q_wf (q_B (K.getD t (0, 0, [])).1) (q_code K t) 0
theorem q_lst_some {K : q_K} {key : Nat} : ∀ {n t : Nat}, q_lst K key n = some t → t < n ∧ (K.getD t (0, 0, [])).1 = key
  | 0, t, h => by cases h
  | n + 1, t, h => by
    unfold q_lst at h
    split at h
    · cases h
      exact ⟨by omega, by assumption⟩
    · have := q_lst_some h
      exact ⟨by omega, this.2⟩
/-- the class's texts -/
def cText (S : List en_S) (σ : Nat → Nat → Int32) (cb : Nat) (K : q_K) : Prop :=
  σ cb 4 = nI K.length ∧ (∀ t, t < K.length → ∃ ta as, σ (cb + 3) t = nI ta ∧ ta < 2 ^ 31 ∧ 112 ≤ ta ∧ 112 ≤ as ∧ S[ta]? = some (.inl (5, [none, none, some as])) ∧ S[as]? = some (.inr (.inl (0, (q_code K t).length))) ∧ σ ta 0 = nI (K.getD t (0, 0, [])).1 ∧ σ ta 1 = nI (K.getD t (0, 0, [])).2.1 ∧ ∀ k c, (q_code K t)[k]? = some c → σ as k = q_ec c) ∧
  ∀ key, key < 3 → σ (cb + 4) key = (match q_last K key with | none => -1000000005 | some t => nI t)
/-- the reference's -/
def mText (σ : Nat → Nat → Int32) (K : q_K) : Prop :=
  σ 91 10 = nI K.length ∧ ∀ t, t < K.length → σ 91 (71 + 2 * t) = nI (1000 * (K.getD t (0, 0, [])).1 + (q_code K t).length) ∧ σ 91 (72 + 2 * t) = nI (K.getD t (0, 0, [])).2.1 ∧ ∀ k c, (q_code K t)[k]? = some c → σ 91 (99 + 96 * t + k) = q_em c
def q_cl (x : Int32) : Nat := if x < 0 then 0 else if 99 < x then 99 else x.toNatClampNeg
theorem q_cl_le (x : Int32) : q_cl x ≤ 99 := by
  unfold q_cl
  split
  · omega
  · rename_i h0
    split
    · omega
    · rename_i h1
      obtain ⟨j, hj, rfl⟩ := nI_of h0
      rw [show (99 : Int32) = nI 99 from rfl, nI_ltI (by decide) hj] at h1
      rw [nI_clamp hj]
      omega
theorem q_held (xs : List Int32) (d : Nat) (x : Int32) (h : mx_H) : mx_ev xs mx_P (d + 2) 131 [.int x] h = some (some (.int (nI (q_cl x))), h) := by
  rw [ev_X6_heldWithin, ev_J9_min_7cf53]
  unfold q_cl
  by_cases h0 : x < 0
  · rw [if_pos (Int32.lt_trans h0 (by decide)), ri0, c1s, ev_J9_max_7cf53, if_neg (fun e => Int32.lt_irrefl (Int32.lt_trans e h0)), ri0, c1s, if_pos h0]
    rfl
  · obtain ⟨j, hj, rfl⟩ := nI_of h0
    rw [if_neg h0, show (99 : Int32) = nI 99 from rfl]
    by_cases h1 : j < 99
    · rw [if_pos ((nI_ltI hj (by decide)).mpr h1), ri0, c1s, if_neg (fun e => by have := (nI_ltI (by decide) hj).mp e; omega), nI_clamp hj]
      have := q_max xs d (a := 0) (b := j) h (by decide) hj
      rw [Nat.max_eq_right (Nat.zero_le _)] at this
      have e : mx_ev xs mx_P (d + 1) 2 [.int 0, .int (nI j)] h = some (some (.int (nI j)), h) := this
      rw [e]
      rfl
    · rw [if_neg (fun e => h1 ((nI_ltI hj (by decide)).mp e)), ri0, c1s]
      have := q_max xs d (a := 0) (b := 99) h (by decide) (by decide)
      have e : mx_ev xs mx_P (d + 1) 2 [.int 0, .int (nI 99)] h = some (some (.int (nI 99)), h) := this
      rw [e, c1s, ri0]
      by_cases h2 : j = 99
      · subst h2
        rfl
      · rw [if_pos ((nI_ltI (by decide) hj).mpr (by omega))]
theorem m_held (xs : List Int32) (d : Nat) (x : Int32) (h : mx_H) : mx_ev xs mx_P (d + 1) 134 [.int x, .int 0, .int 99] h = some (some (.int (nI (q_cl x))), h) := by
  unfold q_cl
  by_cases h0 : x < 0
  · rw [ev_X7_within, if_neg (fun e => Int32.lt_irrefl (Int32.lt_of_lt_of_le h0 e)), ri0, if_pos h0]
    rfl
  · obtain ⟨j, hj, rfl⟩ := nI_of h0
    rw [if_neg h0, m_within xs d (v := j) (lo := 0) (hi := 99) (y := 0) (z := 99) h rfl rfl rfl hj (by decide) (by decide), nI_clamp hj, show (99 : Int32) = nI 99 from rfl]
    by_cases h1 : 99 < j
    · rw [if_pos ((nI_ltI (by decide) hj).mpr h1), show max 0 (min 99 j) = 99 by omega]
    · rw [if_neg (fun e => h1 ((nI_ltI (by decide) hj).mp e)), show max 0 (min 99 j) = j by omega]
def q_nm4 (a b c e : Nat) : Nat → Int32
  | 0 => nI a
  | 1 => nI b
  | 2 => nI c
  | _ => nI e
/-- what press gives, held -/
def q_plain (K : q_K) (heat : Nat) (l : Nat → Nat) : Nat := match q_last K 0 with
  | none => min 99 (heat + 3 * l 5)
  | some t => q_cl (q_val (q_nm4 heat (l 5) (l 4) (l 3)) (q_code K t))
theorem q_plain_le (K : q_K) (heat : Nat) (l : Nat → Nat) : q_plain K heat l ≤ 99 := by
  unfold q_plain
  split
  · omega
  · exact q_cl_le _
theorem q_cl_nI {v : Nat} (hv : v < 2 ^ 31) : q_cl (nI v) = min 99 v := by
  unfold q_cl
  rw [if_neg (nI_pos hv), nI_clamp hv, show (99 : Int32) = nI 99 from rfl]
  by_cases h : 99 < v
  · rw [if_pos ((nI_ltI (by decide) hv).mpr h)]; omega
  · rw [if_neg (fun e => h ((nI_ltI (by decide) hv).mp e))]; omega
theorem c3n (h : mx_H) (f : mx_H → mx_R) (f1 : Nat → mx_H → mx_R) : mx_c3 (some (some .null, h)) f f1 = f h := rfl
theorem c3r (x : Nat) (h : mx_H) (f : mx_H → mx_R) (f1 : Nat → mx_H → mx_R) : mx_c3 (some (some (.ref x), h)) f f1 = f1 x h := rfl
section TK
variable {S : List en_S} {σ : Nat → Nat → Int32} {cb d a : Nat} {xs : List Int32} {K : q_K} {l : Nat → Nat} {heat : Nat}
theorem cl_lawOf (hS : isCl S cb) (hK : cText S σ cb K) (hok : q_Kok K) {key : Nat} {w : Int32} (hw : w = nI key) (hkey : key < 3) : (q_last K key = none ∧ mx_ev xs mx_P (d + 1) 34 [.ref cb, .int w] (en S σ) = some (some .null, en S σ)) ∨ ∃ t ta as, q_last K key = some t ∧ t < K.length ∧ (K.getD t (0, 0, [])).1 = key ∧ 112 ≤ as ∧ S[ta]? = some (.inl (5, [none, none, some as])) ∧ S[as]? = some (.inr (.inl (0, (q_code K t).length))) ∧ (∀ k c, (q_code K t)[k]? = some c → σ as k = q_ec c) ∧ mx_ev xs mx_P (d + 1) 34 [.ref cb, .int w] (en S σ) = some (some (.ref ta), en S σ) := by
  subst hw
  have hc := hK.2.2 key hkey
  cases hq : q_last K key with
  | none =>
    rw [hq] at hc
    refine Or.inl ⟨rfl, ?_⟩
    rw [ev_X0_lawOf, en_gr hS.1 rfl, en_aiN hS.2.2.2.2.1 hkey (by decide), hc, if_pos rfl]
    rfl
  | some t =>
    rw [hq] at hc
    obtain ⟨ht, hkt⟩ := q_lst_some hq
    obtain ⟨ta, as, h1, h1b, h2, h3, h4, h5, h6, h7, h8⟩ := hK.2.1 t ht
    have ht14 : t < 14 := by have := hok.1; omega
    refine Or.inr ⟨t, ta, as, rfl, ht, hkt, h3, h4, h5, h8, ?_⟩
    rw [ev_X0_lawOf, en_gr hS.1 rfl, en_aiN hS.2.2.2.2.1 hkey (by decide), hc, if_neg (q_nI_ne (by omega) (by decide)), en_gr hS.1 rfl, en_gr hS.1 rfl, en_aiN hS.2.2.2.2.1 hkey (by decide), hc, en_ta hS.2.2.2.1 (by decide) ht14 (by decide) h1 h1b]
    rfl
theorem cl_takenBy (hS : isCl S cb) (hcb : cb ≤ 90) (hK : cText S σ cb K) (hok : q_Kok K) (hSa : S[a]? = some en_leg) (ha5 : a ≠ cb + 5) (ha6 : a ≠ cb + 6) (hl : q_at (σ a) l) (hq : q_leg l) (hh : σ (cb + 2) 3 = nI heat) (hh99 : heat ≤ 99) : ∃ σ', mx_ev xs mx_P (d + 4) 31 [.ref cb, .ref a] (en S σ) = some (some (.int (nI (q_takes l (q_plain K heat l)))), en S σ') ∧ ∀ b, b ≠ cb + 5 → b ≠ cb + 6 → σ' b = σ b := by
  have e3 : (3 : Int32) = nI 3 := rfl
  have l5 := hq.2.2.2.2.2
  have pl := q_plain_le K heat l
  rw [ev_X0_takenBy, en_gr hS.1 rfl, e3, en_aiN hS.2.2.1 (by decide) (by decide), en_gi hSa rfl, en_cl hS.1, hh, hl 5 (by decide)]
  rcases cl_lawOf (xs := xs) (d := d + 2) hS hK hok (key := 0) (w := 0) rfl (by decide) with ⟨h1, h2⟩ | ⟨t, ta, as, h1, h2, h3, h4, h5, h6, h7, h8⟩
  · refine ⟨σ, ?_, fun _ _ _ => rfl⟩
    rw [h2, c3n, pk_mul, nI_add, q_held xs (d + 1), c1s, q_cl_nI (by omega), en_cl hSa]
    have e : q_plain K heat l = min 99 (heat + 3 * l 5) := by unfold q_plain; rw [h1]
    rw [← e, lg_takes (d := d + 1) hSa hl hq pl, c1s]
    rfl
  · have hB := (hok.2 t h2).2.2
    rw [h3] at hB
    have n5 : S[cb + 5]? = some (.inr (.inl (0, 4))) := hS.2.2.2.2.2.1
    have n6 : S[cb + 6]? = some (.inr (.inl (0, 96))) := hS.2.2.2.2.2.2.1
    have e0 : (0 : Int32) = nI 0 := rfl
    have e1 : (1 : Int32) = nI 1 := rfl
    have e2 : (2 : Int32) = nI 2 := rfl
    rw [h8, c3r, en_gr hS.1 rfl, en_gr hS.1 rfl, en_aiN hS.2.2.1 (by decide) (by decide), hh, e0, en_asN n5 (by decide) (by decide), en_gr hS.1 rfl, en_gi hSa rfl, en_up_a ha5, hl 5 (by decide), e1, en_asN n5 (by decide) (by decide), en_gr hS.1 rfl, en_gi hSa rfl, en_up_a ha5, en_up_a ha5, hl 4 (by decide), e2, en_asN n5 (by decide) (by decide), en_gr hS.1 rfl, en_gi hSa rfl, en_up_a ha5, en_up_a ha5, en_up_a ha5, hl 3 (by decide), en_asN n5 (by decide) (by decide), en_gr hS.1 rfl, en_gr hS.1 rfl, en_cl h5]
    obtain ⟨σ', r1, r2⟩ := tx_value (xs := xs) (d := d + 1) (B := 4) (nm := q_nm4 heat (l 5) (l 4) (l 3)) (cs := q_code K t) (σ := en_up (en_up (en_up (en_up σ (cb + 5) 0 (nI heat)) (cb + 5) 1 (nI (l 5))) (cb + 5) 2 (nI (l 4))) (cb + 5) 3 (nI (l 3))) h5 h6 n5 n6 (by decide) hB.1 (by omega) (by omega) (fun k c hk => by
      rw [en_up_a (by omega), en_up_a (by omega), en_up_a (by omega), en_up_a (by omega)]
      exact h7 k c hk) (fun k hk => by
      rcases (show k = 0 ∨ k = 1 ∨ k = 2 ∨ k = 3 by omega) with rfl | rfl | rfl | rfl <;> simp [en_up_i, q_nm4]) hB.2
    have hfr : ∀ b, b ≠ cb + 5 → b ≠ cb + 6 → σ' b = σ b := fun b hb5 hb6 => by
      rw [r2 b hb6]
      unfold en_up
      rw [if_neg hb5, if_neg hb5, if_neg hb5, if_neg hb5]
    refine ⟨σ', ?_, hfr⟩
    have e : q_plain K heat l = q_cl (q_val (q_nm4 heat (l 5) (l 4) (l 3)) (q_code K t)) := by unfold q_plain; rw [h1]
    rw [r1, c1s, q_held xs (d + 1), c1s, ← e, en_cl hSa, lg_takes (d := d + 1) hSa (by rw [hfr a ha5 ha6]; exact hl) hq pl, c1s]
    rfl
end TK
