/-! ===== the class's text, whole ===== -/
def q_t1 (tp : Nat → Nat) (n : Nat) : Nat × Nat × Nat := q_tk tp n false 0
def q_p1 (tp : Nat → Nat) (n : Nat) : Nat ⊕ (List Nat × Nat) := q_pz tp n (q_ky tp (q_t1 tp n)) (n + 1) true [] [] 0 (fun _ => false) (q_nx tp n (q_t1 tp n))
theorem q_ky_c (tp : Nat → Nat) (t : Nat × Nat × Nat) : q_ky tp t = 3 ∨ (q_ky tp t < 3 ∧ t.1 = 1 ∧ 3 ≤ t.2.2 - t.2.1) := by
  have iw : ∀ a, a < 3 → q_iw tp t a = true → t.1 = 1 ∧ 3 ≤ t.2.2 - t.2.1 := fun a ha h => by
    unfold q_iw at h
    rw [Bool.and_eq_true, Bool.and_eq_true] at h
    have h1 := of_decide_eq_true h.1
    have h2 := of_decide_eq_true h.2.1
    refine ⟨h1, ?_⟩
    rw [h2]
    rcases (show a = 0 ∨ a = 1 ∨ a = 2 by omega) with rfl | rfl | rfl <;> decide
  unfold q_ky
  by_cases c0 : q_iw tp t 0 = true
  · rw [if_pos c0]
    exact Or.inr ⟨by omega, iw 0 (by omega) c0⟩
  rw [if_neg c0]
  by_cases c1 : q_iw tp t 1 = true
  · rw [if_pos c1]
    exact Or.inr ⟨by omega, iw 1 (by omega) c1⟩
  rw [if_neg c1]
  by_cases c2 : q_iw tp t 2 = true
  · rw [if_pos c2]
    exact Or.inr ⟨by omega, iw 2 (by omega) c2⟩
  rw [if_neg c2]
  exact Or.inl rfl
theorem q_t1_ok {tp : Nat → Nat} {n : Nat} : q_tok tp n (q_t1 tp n) := (q_tk_ok (by omega)).1
/-- how the parser begins -/
theorem q_p1_pi {tp : Nat → Nat} {n B : Nat} (hn : n ≤ 96) (hk : q_ky tp (q_t1 tp n) ≠ 3) : PI B tp n true [] [] 0 (q_nx tp n (q_t1 tp n)) := by
  rcases q_ky_c tp (q_t1 tp n) with e | ⟨e, e1, e2⟩
  · exact absurd e hk
  have h1 := q_nx_ok (q_t1_ok (tp := tp) (n := n))
  exact ⟨fun _ h => absurd h List.not_mem_nil, trivial, (by show 0 + 0 + 3 ≤ (q_nx tp n (q_t1 tp n)).2.1; omega), hn, by show (0 : Nat) ≤ 8; omega, rfl, Nat.le_refl _, h1.1⟩
section TXT
variable {S : List en_S} {d n key na B : Nat} {xs : List Int32} {tp : Nat → Nat} {σ0 σ σ1 : Nat → Nat → Int32} {st cd : List Nat} {w : Bool} {cm : Nat → Bool} {t : Nat × Nat × Nat}
def q_S1 (S : List en_S) : List en_S := S.set 54 (.inl (2, rd_tm))
theorem q_S1_o {a : Nat} (ha : a ≠ 54) : (q_S1 S)[a]? = S[a]? := by
  unfold q_S1
  rw [List.getElem?_set_ne (Ne.symm ha)]
theorem q_S1_rd (hX : XS S) : isRd (q_S1 S) := by
  obtain ⟨rb, hr⟩ := hX.rd
  refine ⟨?_, by rw [q_S1_o (by decide)]; exact hX.tp, by rw [q_S1_o (by decide)]; exact hX.st, by rw [q_S1_o (by decide)]; exact hX.pi, by rw [q_S1_o (by decide)]; exact hX.cm⟩
  unfold q_S1
  rw [List.getElem?_set_self (List.getElem?_eq_some_iff.mp hr).1]
theorem x_begin2 (hX : XS S) (hn : n ≤ 96) : ∃ σ', mx_ev xs mx_P (d + 2) 52 [.ref 54, .ref 53, .int (nI n)] (en S σ) = some (none, en (q_S1 S) σ') ∧ σ' 54 1 = nI n ∧ σ' 54 2 = nI 3 ∧ σ' 54 4 = nI 0 ∧ σ' 54 6 = nI 0 ∧ σ' 54 8 = nI 0 ∧ σ' 54 10 = nI 0 ∧ σ' 54 11 = nI 0 ∧ σ' 54 12 = 1 ∧ σ' 54 14 = nI 0 ∧ σ' 58 0 = 0 ∧ ∀ b, b ≠ 54 → b ≠ 58 → σ' b = σ b := by
  obtain ⟨rb, hr⟩ := hX.rd
  have hR := q_S1_rd hX
  have e : mx_pt (en S σ) 54 2 0 (.ref 53) = fun f => f (en (q_S1 S) σ) := by
    funext f
    exact en_pr hr (Nat.succ_pos _)
  have hm : ∀ h, mx_ev xs mx_P (d + 1) 3 [.int (nI n), .int (Int32.ofNat 96)] h = some (some (.int (nI n)), h) := fun h => by
    have := q_min xs d (a := n) (b := 96) h (by omega) (by decide)
    rw [Nat.min_eq_left hn] at this
    exact this
  have ez : ∀ f : mx_H → mx_R, ∀ σ, mx_as (en (q_S1 S) σ) 58 1 0 (vp_nar .boolean 0) f = f (en (q_S1 S) (en_up σ 58 0 0)) := fun f σ => rds58 hR (j := 0) (by decide)
  rw [ev_X2_begin, e]
  simp only []
  rw [en_al hR.2.1 (by decide), hm, c1s, rdp1 hR, rdp2 hR, rdp3 hR, rdp4 hR, rdp6 hR, rdp8 hR, rdr9 hR, ez, rdp10 hR, rdp11 hR, rdz12_1 hR, rdp14 hR, rv0]
  refine ⟨_, rfl, ?_, ?_, ?_, ?_, ?_, ?_, ?_, ?_, ?_, ?_, fun b b1 b2 => ?_⟩
  · simp [en_up_i]
  · simp [en_up_i]; rfl
  · simp [en_up_i]; rfl
  · simp [en_up_i]; rfl
  · simp [en_up_i]; rfl
  · simp [en_up_i]; rfl
  · simp [en_up_i]; rfl
  · simp [en_up_i]
  · simp [en_up_i]; rfl
  · simp [en_up_i]
  · funext k
    simp [en_up_i, b1, b2]
theorem x_faultOf (hX : XS S) (hn : n ≤ 96) (hb : ∀ k, k < n → tp k < 256) (ht : ∀ k, k < n → σ 53 k = nI (tp k)) : (q_ky tp (q_t1 tp n) = 3 → ∃ σ', mx_ev xs mx_P (d + 9) 50 [.ref 54, .ref 53, .int (nI n)] (en S σ) = some (some (.int (nI (q_t1 tp n).2.1)), en (q_S1 S) σ') ∧ ∀ b, b ≠ 54 → b ≠ 56 → b ≠ 57 → b ≠ 58 → σ' b = σ b) ∧ (q_ky tp (q_t1 tp n) ≠ 3 → XE (q_S1 S) (q_ky tp (q_t1 tp n)) σ (mx_ev xs mx_P (d + 9) 50 [.ref 54, .ref 53, .int (nI n)] (en S σ)) (q_p1 tp n)) := by
  obtain ⟨rb, hr⟩ := hX.rd
  have hR := q_S1_rd hX
  obtain ⟨σ1, r1, a1, a2, a4, a6, a8, a10, a11, a12, a14, ac, af⟩ := x_begin2 (d := d + 6) (xs := xs) (σ := σ) hX hn
  obtain ⟨σ2, r2, l1, l2, l3, l4, l5⟩ := x_next (d := d + 6) (xs := xs) hR hn hb (σ := σ1) (fun k hk => by rw [af 53 (by decide) (by decide)]; exact ht k hk) a1 (c := 3) (e := 0) (by omega) (by omega) a2 a4
  have l1 : σ2 54 2 = nI (q_t1 tp n).1 := l1
  have l2 : σ2 54 3 = nI (q_t1 tp n).2.1 := l2
  have l3 : σ2 54 4 = nI (q_t1 tp n).2.2 := l3
  have hbt2 : ∀ k, k < n → σ2 53 k = nI (tp k) := fun k hk => by rw [l5 53 (by decide), af 53 (by decide) (by decide)]; exact ht k hk
  have tk := q_t1_ok (tp := tp) (n := n)
  have r3 := x_key (d := d + 2) (xs := xs) hR hb hn tk hbt2 l1 l2 l3
  rw [ev_X2_faultOf, en_cl hr, r1, c0s, rdcl hR, r2, c0s, rdcl hR, r3, c1s, rdp13 hR, rdg13 hR, en_up_s]
  have fr : ∀ b, b ≠ 54 → b ≠ 58 → en_up σ2 54 13 (if q_ky tp (q_t1 tp n) = 3 then -1 else nI (q_ky tp (q_t1 tp n))) b = σ b := fun b b1 b2 => by
    rw [show en_up σ2 54 13 (if q_ky tp (q_t1 tp n) = 3 then -1 else nI (q_ky tp (q_t1 tp n))) b = σ2 b by funext k; rw [en_up_a b1], l5 b b1, af b b1 b2]
  refine ⟨fun hk => ?_, fun hk => ?_⟩
  · rw [if_pos hk] at fr
    rw [if_pos hk, if_neg (by decide), rdg3 hR, en_up_k (by decide), l2, ri0]
    exact ⟨_, rfl, fun b b1 b2 b3 b4 => fr b b1 b4⟩
  · rcases q_ky_c tp (q_t1 tp n) with e | ⟨e, e1, e2⟩
    · exact absurd e hk
    rw [if_neg hk] at fr
    rw [if_neg hk, if_pos (by exact nI_le (a := 0) (by omega) (by omega)), rdcl hR]
    have o : ∀ k, k ≠ 2 → k ≠ 3 → k ≠ 4 → k ≠ 13 → en_up σ2 54 13 (nI (q_ky tp (q_t1 tp n))) 54 k = σ1 54 k := fun k k2 k3 k4 k13 => by rw [en_up_k k13]; exact l4 k k2 k3 k4
    have hp : XP tp n (q_ky tp (q_t1 tp n)) σ (en_up σ2 54 13 (nI (q_ky tp (q_t1 tp n)))) true [] [] 0 (fun _ => false) (q_t1 tp n) := by
      refine ⟨by rw [o 1 (by decide) (by decide) (by decide) (by decide)]; exact a1, fun k hk => by rw [en_up_a (by decide)]; exact hbt2 k hk, by rw [en_up_k (by decide)]; exact l1, by rw [en_up_k (by decide)]; exact l2, by rw [en_up_k (by decide)]; exact l3, ⟨by rw [o 6 (by decide) (by decide) (by decide) (by decide)]; exact a6, by rw [o 8 (by decide) (by decide) (by decide) (by decide)]; exact a8, trivial, trivial, by rw [o 11 (by decide) (by decide) (by decide) (by decide)]; exact a11, fun _ _ _ _ => rfl, fun _ _ _ _ => rfl⟩, by rw [o 10 (by decide) (by decide) (by decide) (by decide)]; exact a10, by rw [o 12 (by decide) (by decide) (by decide) (by decide)]; exact a12, en_up_s, by rw [o 14 (by decide) (by decide) (by decide) (by decide)]; exact a14, fun i hi => ?_, fun b b1 b2 b3 b4 => fr b b1 b4⟩
      have hi : i ≤ 0 := hi
      rw [show i = 0 by omega, en_up_a (by decide), l5 58 (by decide), ac]
      rfl
    obtain ⟨σ3, r5, x5⟩ := hp.next (d := d + 6) (xs := xs) hR hb hn tk
    rw [r5, c0s]
    have pi := q_p1_pi (B := q_B (q_ky tp (q_t1 tp n))) hn hk
    have h3 := pi.ln
    exact x_fl (d := d) (xs := xs) hR hb e (n + 1) 0 99999 σ3 true [] [] 0 (fun _ => false) _ pi x5 (by omega) (by have : 0 + 0 + 3 ≤ (q_nx tp n (q_t1 tp n)).2.1 := h3; omega) (by omega)
end TXT
