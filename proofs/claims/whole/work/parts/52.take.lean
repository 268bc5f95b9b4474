/-! ===== one closet taken over by another; the reference's rows copied ===== -/
def en_cy (σ : Nat → Nat → Int32) (s d n : Nat) : Nat → Nat → Int32 := fun b => if b = d then va_cpy (σ s) (σ d) 0 0 n else σ b
theorem en_cy_d {σ : Nat → Nat → Int32} {s d n k : Nat} (h : k < n) : en_cy σ s d n d k = σ s k := by
  unfold en_cy
  rw [if_pos rfl, sb_cpy0 h]
theorem en_cy_o {σ : Nat → Nat → Int32} {s d n b : Nat} (h : b ≠ d) : en_cy σ s d n b = σ b := by
  unfold en_cy
  rw [if_neg h]
theorem en_cp0 {S : List en_S} {σ : Nat → Nat → Int32} {s d n0 n1 n : Nat} {w : Int32} {f : mx_H → mx_R} (h0 : S[s]? = some (.inr (.inl (0, n0)))) (h1 : S[d]? = some (.inr (.inl (0, n1)))) (hw : w = nI n) (hn : n < 2 ^ 31) (c4 : n ≤ n0) (c5 : n ≤ n1) : mx_cp (en S σ) s 0 d 0 w f = f (en S (en_cy σ s d n)) := by
  subst hw
  rw [en_cp h0 h1 (by decide) (by decide) (nI_pos hn) (by rw [nI_clamp hn]; show 0 + n ≤ n0; omega) (by rw [nI_clamp hn]; show 0 + n ≤ n1; omega), nI_clamp hn]
  rfl
section TO
variable {S : List en_S} {σ : Nat → Nat → Int32} {a b d : Nat} {xs : List Int32} {C : q_C}
theorem lg_takeOver {x y : Nat} {l : Nat → Nat} (hx : S[x]? = some en_leg) (hy : S[y]? = some en_leg) (hxy : y ≠ x) (h : q_at (σ y) l) : ∃ σ', mx_ev xs mx_P (d + 1) 43 [.ref x, .ref y] (en S σ) = some (none, en S σ') ∧ q_at (σ' x) l ∧ ∀ b, b ≠ x → σ' b = σ b := by
  rw [ev_X1_takeOver, en_gi hy rfl, en_pt hx rfl, en_gi hy rfl, en_pt hx rfl, en_gi hy rfl, en_pt hx rfl, en_gi hy rfl, en_pt hx rfl, en_gi hy rfl, en_pt hx rfl, en_gi hy rfl, en_pt hx rfl]
  refine ⟨_, rfl, fun j hj => ?_, fun b hb => ?_⟩
  · rcases (show j = 0 ∨ j = 1 ∨ j = 2 ∨ j = 3 ∨ j = 4 ∨ j = 5 by omega) with rfl | rfl | rfl | rfl | rfl | rfl <;> simp [en_up_i, hxy, h _ hj]
  · funext j
    simp [en_up_i, hb]
theorem to_legs (hA : isCl S a) (hB : isCl S b) (hd : a + 17 ≤ b ∨ b + 17 ≤ a) (hq : q_legs σ b C.n C.L) (h10 : C.n ≤ 10) {k : mx_R → Prop} {N : Nat} (hk : ∀ σ', (∀ i, i < C.n → q_at (σ' (a + 7 + i)) (C.L i)) → (∀ c, (∀ i, i < 10 → c ≠ a + 7 + i) → σ' c = σ c) → k (mx_rn xs (mx_ev xs mx_P (d + 1)) kk_X0_takeOver (N + 1) 10 [(0, .ref a), (1, .ref b), (2, .int (nI C.n))] [] (en S σ'))) (hn : σ a 1 = nI C.n) : ∀ (m i : Nat) (σ' : Nat → Nat → Int32), i + m = C.n → (∀ j, j < i → q_at (σ' (a + 7 + j)) (C.L j)) → (∀ c, (∀ i, i < 10 → c ≠ a + 7 + i) → σ' c = σ c) → k (mx_rn xs (mx_ev xs mx_P (d + 1)) kk_X0_takeOver (N + 1 + m) 10 [(0, .ref a), (1, .ref b), (2, .int (nI i))] [] (en S σ'))
  | 0, i, σ', h1, h2, h3 => by
    have e : i = C.n := by omega
    subst e
    exact hk σ' h2 h3
  | m + 1, i, σ', h1, h2, h3 => by
    have ha0 : σ' a = σ a := h3 a (fun i _ => by omega)
    have hbi : σ' (b + 7 + i) = σ (b + 7 + i) := h3 _ (fun j _ => by omega)
    obtain ⟨σ2, r1, r2, r3⟩ := lg_takeOver (xs := xs) (d := d) (σ := σ') (hA.2.2.2.2.2.2.2 i (by omega)) (hB.2.2.2.2.2.2.2 i (by omega)) (by omega) (by rw [hbi]; exact hq i (by omega))
    have ih := to_legs hA hB hd hq h10 hk hn m (i + 1) σ2 (by omega) (fun j hj => by
      by_cases e : j = i
      · subst e; exact r2
      · rw [r3 _ (by omega)]; exact h2 j (by omega)) (fun c hc => by rw [r3 c (hc i (by omega))]; exact h3 c hc)
    rw [show N + 1 + (m + 1) = (N + 1 + m) + 1 by omega, rn_X0_takeOver_10, en_gi hA.1 rfl, ha0, hn, if_neg (nI_ge (by omega) (by omega)), en_gr hA.1 rfl, cl_aa hA (by omega), en_gr hB.1 rfl, cl_aa hB (by omega), en_cl (hA.2.2.2.2.2.2.2 i (by omega)), r1, c0s, nI_1]
    exact ih
theorem to_txts {σs : Nat → Nat → Int32} (hA : isCl S a) (hB : isCl S b) (hd : a + 17 ≤ b ∨ b + 17 ≤ a) (hb : b ≤ 73) (ha : a ≤ 73) (hK : cText S σs b C.K) (h14 : C.K.length ≤ 14) {k : mx_R → Prop} {N : Nat} (hs : σ (b + 3) = σs (b + 3)) (hk : ∀ σ', (∀ i, i < C.K.length → σ' (a + 3) i = σ (b + 3) i) → (∀ c, c ≠ a + 3 → σ' c = σ c) → k (mx_rn xs (mx_ev xs mx_P (d + 1)) kk_X0_takeOver (N + 1) 63 [(0, .ref a), (1, .ref b), (2, .int (nI C.K.length))] [] (en S σ'))) (hn : σ a 4 = nI C.K.length) : ∀ (m i : Nat) (σ' : Nat → Nat → Int32), i + m = C.K.length → (∀ j, j < i → σ' (a + 3) j = σ (b + 3) j) → (∀ c, c ≠ a + 3 → σ' c = σ c) → k (mx_rn xs (mx_ev xs mx_P (d + 1)) kk_X0_takeOver (N + 1 + m) 63 [(0, .ref a), (1, .ref b), (2, .int (nI i))] [] (en S σ'))
  | 0, i, σ', h1, h2, h3 => by
    have e : i = C.K.length := by omega
    rw [e]
    rw [e] at h2
    exact hk σ' h2 h3
  | m + 1, i, σ', h1, h2, h3 => by
    have ha0 : σ' a = σ a := h3 a (by omega)
    have hb3 : σ' (b + 3) = σ (b + 3) := h3 _ (by omega)
    obtain ⟨ta, as, k1, k2, k3, k4, k5, k6, k7, k8, k9⟩ := hK.2.1 i (by omega)
    have hv : σ' (b + 3) i = nI ta := by rw [hb3, hs]; exact k1
    have ih := to_txts hA hB hd hb ha hK h14 hs hk hn m (i + 1) (en_up σ' (a + 3) i (nI ta)) (by omega) (fun j hj => by
      rw [en_up_i]
      by_cases e : j = i
      · rw [if_pos ⟨rfl, e⟩, e, ← hb3, hv]
      · rw [if_neg (fun x => e x.2)]; exact h2 j (by omega)) (fun c hc => by
      rw [← h3 c hc]
      unfold en_up
      rw [if_neg hc])
    rw [show N + 1 + (m + 1) = (N + 1 + m) + 1 by omega, rn_X0_takeOver_63, en_gi hA.1 rfl, ha0, hn, if_neg (nI_ge (by omega) (by omega)), en_gr hA.1 rfl, en_gr hB.1 rfl, en_ta hB.2.2.2.1 (by decide) (by omega) (by decide) hv k2, en_tt hA.2.2.2.1 (v := ta) k5 (by decide) (by omega) (by decide) k2, nI_1]
    exact ih
theorem x_takeOver (hA : isCl S a) (hB : isCl S b) (hd : a + 17 ≤ b ∨ b + 17 ≤ a) (ha : a ≤ 73) (hb : b ≤ 73) (h : cR S σ b C) (ok : q_ok C) : ∃ σ', mx_ev xs mx_P (d + 2) 20 [.ref a, .ref b] (en S σ) = some (none, en S σ') ∧ XC S σ σ' a C := by
  have h10 := ok.n
  have h14 := ok.K.1
  obtain ⟨N2, hN⟩ : ∃ N2, 99999 = (N2 + 1 + C.K.length) + 1 + C.n := ⟨99997 - C.n - C.K.length, by omega⟩
  rw [ev_X0_takeOver, en_gi hB.1 rfl, h.n, en_pt hA.1 rfl, hN]
  refine to_legs (C := C) (σ := en_up σ a 1 (nI C.n)) (N := N2 + 1 + C.K.length) (d := d) (xs := xs) (k := fun r => ∃ σ', r = some (none, en S σ') ∧ XC S σ σ' a C) hA hB hd (fun i hi => by
    rw [show en_up σ a 1 (nI C.n) (b + 7 + i) = σ (b + 7 + i) by unfold en_up; rw [if_neg (by omega)]]; exact h.L i hi) h10 (fun σ1 g1 g2 => ?_) en_up_s C.n 0 _ (by omega) (fun j hj => absurd hj (by omega)) (fun c _ => rfl)
  have o1 : ∀ c, c ≠ a → (∀ i, i < 10 → c ≠ a + 7 + i) → σ1 c = σ c := fun c hc hc2 => by
    rw [g2 c hc2]; unfold en_up; rw [if_neg hc]
  have n1 : σ1 a 1 = nI C.n := by rw [g2 a (fun i _ => by omega), en_up_s]
  have b4 : σ1 b 4 = nI C.K.length := by rw [o1 b (by omega) (fun i _ => by omega)]; exact h.K.1
  rw [rn_X0_takeOver_10, en_gi hA.1 rfl, n1, if_pos (Int32.le_refl _), en_gr hB.1 rfl, en_gr hA.1 rfl, en_cp0 hB.2.2.1 hA.2.2.1 (n := 4) (w := 4) rfl (by decide) (by decide) (by decide), en_gi hB.1 rfl, en_cy_o (by omega), b4, en_pt hA.1 rfl]
  generalize hτ : en_up (en_cy σ1 (b + 2) (a + 2) 4) a 4 (nI C.K.length) = τ
  have t2 : ∀ k, k < 4 → τ (a + 2) k = nI (C.ru k) := fun k hk => by
    rw [← hτ, en_up_a (by omega), en_cy_d hk, o1 _ (by omega) (fun i _ => by omega)]
    exact h.ru k hk
  have t0 : τ a 4 = nI C.K.length := by rw [← hτ, en_up_s]
  have t1 : τ a 1 = nI C.n := by
    rw [← hτ, en_up_k (by decide), en_cy_o (by omega)]
    exact n1
  have to : ∀ c, c ≠ a → c ≠ a + 2 → τ c = σ1 c := fun c h1 h2 => by
    rw [← hτ]; unfold en_up; rw [if_neg h1, en_cy_o h2]
  refine to_txts (C := C) (σ := τ) (σs := σ) (N := N2) (d := d) (xs := xs) (k := fun r => ∃ σ', r = some (none, en S σ') ∧ XC S σ σ' a C) hA hB hd hb ha h.K h14 (by rw [to _ (by omega) (by omega), o1 _ (by omega) (fun i _ => by omega)]) (fun σ2 g3 g4 => ?_) t0 C.K.length 0 τ (by omega) (fun j hj => absurd hj (by omega)) (fun c _ => rfl)
  have a4 : σ2 a 4 = nI C.K.length := by rw [g4 a (by omega)]; exact t0
  have ob : σ2 b = σ b := by rw [g4 b (by omega), to b (by omega) (by omega), o1 b (by omega) (fun i _ => by omega)]
  have b4' : σ2 (b + 4) = σ (b + 4) := by rw [g4 _ (by omega), to _ (by omega) (by omega), o1 _ (by omega) (fun i _ => by omega)]
  have b3' : τ (b + 3) = σ (b + 3) := by rw [to _ (by omega) (by omega), o1 _ (by omega) (fun i _ => by omega)]
  have hab : b ≠ a := by omega
  rw [rn_X0_takeOver_63, en_gi hA.1 rfl, a4, if_pos (Int32.le_refl _), en_gr hB.1 rfl, en_gr hA.1 rfl, en_cp0 hB.2.2.2.2.1 hA.2.2.2.2.1 (n := 3) (w := 3) rfl (by decide) (by decide) (by decide), en_gi hB.1 rfl, en_pt hA.1 rfl, en_gi hB.1 rfl, en_pt hA.1 rfl, en_gi hB.1 rfl, en_pt hA.1 rfl, en_gi hB.1 rfl, en_pt hA.1 rfl, en_gi hB.1 rfl, en_pt hA.1 rfl]
  rw [en_cy_o (by omega), en_up_a hab, en_up_a hab, en_up_a hab, en_up_a hab, en_up_a hab, en_up_a hab, en_up_a hab, en_up_a hab, en_up_a hab, en_up_a hab, en_cy_o (by omega), ob, h.p, h.t, h.s, h.day, h.z]
  have fo : ∀ c, c ≠ a → c ≠ a + 4 → ∀ k, (en_up (en_up (en_up (en_up (en_up (en_cy σ2 (b + 4) (a + 4) 3) a 6 C.p) a 7 C.t) a 8 C.s) a 9 (nI C.day)) a 10 C.z) c k = σ2 c k := fun c h1 h2 k => by
    rw [en_up_a h1, en_up_a h1, en_up_a h1, en_up_a h1, en_up_a h1, en_cy_o h2]
  refine ⟨_, rfl, hA, ha, ⟨?_, ?_, ?_, ⟨?_, ?_, ?_⟩, ?_, ?_, ?_, ?_, ?_⟩, fun c hc => ?_⟩
  · rw [en_up_k (by decide), en_up_k (by decide), en_up_k (by decide), en_up_k (by decide), en_up_k (by decide), en_cy_o (by omega), g4 a (by omega)]; exact t1
  · intro i hi j hj
    rw [fo _ (by omega) (by omega), g4 _ (by omega), to _ (by omega) (by omega)]
    exact g1 i hi j hj
  · intro k hk
    rw [fo _ (by omega) (by omega), g4 _ (by omega)]
    exact t2 k hk
  · rw [en_up_k (by decide), en_up_k (by decide), en_up_k (by decide), en_up_k (by decide), en_up_k (by decide), en_cy_o (by omega)]; exact a4
  · intro t ht
    obtain ⟨ta, as, k1, k2, k3, k4, k5, k6, k7, k8, k9⟩ := h.K.2.1 t ht
    have f2 : ∀ c, 112 ≤ c → ∀ k, (en_up (en_up (en_up (en_up (en_up (en_cy σ2 (b + 4) (a + 4) 3) a 6 C.p) a 7 C.t) a 8 C.s) a 9 (nI C.day)) a 10 C.z) c k = σ c k := fun c hc k => by
      rw [fo c (by omega) (by omega), g4 c (by omega), to c (by omega) (by omega), o1 c (by omega) (fun i _ => by omega)]
    refine ⟨ta, as, ?_, k2, k3, k4, k5, k6, by rw [f2 ta k3]; exact k7, by rw [f2 ta k3]; exact k8, fun k c hc => by rw [f2 as k4]; exact k9 k c hc⟩
    rw [fo _ (by omega) (by omega), g3 t ht, b3']
    exact k1
  · intro key hkey
    rw [en_up_a (by omega), en_up_a (by omega), en_up_a (by omega), en_up_a (by omega), en_up_a (by omega), en_cy_d hkey, b4']
    exact h.K.2.2 key hkey
  · rw [en_up_k (by decide), en_up_k (by decide), en_up_k (by decide), en_up_k (by decide), en_up_s]
  · rw [en_up_k (by decide), en_up_k (by decide), en_up_k (by decide), en_up_s]
  · rw [en_up_k (by decide), en_up_k (by decide), en_up_s]
  · rw [en_up_k (by decide), en_up_s]
  · rw [en_up_s]
  · funext k
    rw [fo c (by omega) (by omega), g4 c (by omega), to c (by omega) (by omega), o1 c (by omega) (fun i _ => by omega)]
theorem x_think (hX : XS S) (h : cR S σ 1 C) (ok : q_ok C) : ∃ σ', mx_ev xs mx_P (d + 3) 126 [.ref 0] (en S σ) = some (some (.ref 35), en S σ') ∧ XC S σ σ' 35 C := by
  obtain ⟨σ1, r1, r2⟩ := x_takeOver (xs := xs) (d := d) hX.c3 hX.c1 (by omega) (by omega) (by omega) h ok
  rw [ev_X6_beginThought, en_gr hX.o rfl, en_gr hX.o rfl, en_cl hX.c3.1, r1, c0s, en_gr hX.o rfl]
  exact ⟨σ1, rfl, r2⟩
theorem m_copy_loop {x y : Nat} (hx : S[x]? = some (.inr (.inl (0, 1443)))) (hy : S[y]? = some (.inr (.inl (0, 1443)))) (hxy : x ≠ y) : ∀ (m i N : Nat) (τ : Nat → Nat → Int32), i + m = 1443 → m < N → (∀ k, k < i → τ y k = σ x k) → (∀ c, c ≠ y → τ c = σ c) → ∃ σ', mx_rn xs (mx_ev xs mx_P d) kk_X7_copyAll N 2 [(0, .ref x), (1, .ref y), (2, .int (nI i))] [] (en S τ) = some (none, en S σ') ∧ (∀ k, k < 1443 → σ' y k = σ x k) ∧ ∀ c, c ≠ y → σ' c = σ c
  | m, i, 0, _, _, h2, _, _ => absurd h2 (by omega)
  | 0, i, N + 1, τ, h1, _, h3, h4 => by
    have e : i = 1443 := by omega
    subst e
    rw [rn_X7_copyAll_2, if_pos (by decide)]
    exact ⟨τ, rfl, h3, h4⟩
  | m + 1, i, N + 1, τ, h1, h2, h3, h4 => by
    rw [rn_X7_copyAll_2, if_neg (by exact nI_ge (b := 1443) (by omega) (by decide)), en_aiN hx (by omega) (by decide), en_asN hy (by omega) (by decide), nI_1]
    refine m_copy_loop hx hy hxy m (i + 1) N _ (by omega) (by omega) (fun k hk => ?_) (fun c hc => ?_)
    · rw [en_up_i]
      by_cases e : k = i
      · rw [if_pos ⟨rfl, e⟩, h4 x hxy, e]
      · rw [if_neg (fun x => e x.2)]; exact h3 k (by omega)
    · rw [← h4 c hc]; unfold en_up; rw [if_neg hc]
theorem m_copyAll {x y : Nat} (hx : S[x]? = some (.inr (.inl (0, 1443)))) (hy : S[y]? = some (.inr (.inl (0, 1443)))) (hxy : x ≠ y) : ∃ σ', mx_ev xs mx_P (d + 1) 135 [.ref x, .ref y] (en S σ) = some (none, en S σ') ∧ (∀ k, k < 1443 → σ' y k = σ x k) ∧ ∀ c, c ≠ y → σ' c = σ c := by
  rw [ev_X7_copyAll]
  exact m_copy_loop hx hy hxy 1443 0 99999 σ (by decide) (by decide) (fun k hk => absurd hk (by omega)) (fun c _ => rfl)
theorem isMo.im (hM : isMo S) : S[92]? = some (.inr (.inl (0, 1443))) := hM 2 _ rfl
theorem isMo.as (hM : isMo S) : S[93]? = some (.inr (.inl (0, 1443))) := hM 3 _ rfl
theorem m_thinks (hM : isMo S) : ∃ σ', mx_ev xs mx_P (d + 2) 168 [.ref 90] (en S σ) = some (none, en S σ') ∧ (∀ k, k < 1443 → σ' 93 k = σ 91 k) ∧ ∀ c, c ≠ 93 → σ' c = σ c := by
  obtain ⟨σ1, r1, r2, r3⟩ := m_copyAll (xs := xs) (d := d) (σ := σ) hM.w hM.as (by decide)
  rw [ev_X7_thinks, en_gr hM.o rfl, en_gr hM.o rfl, r1, c0s]
  exact ⟨σ1, rfl, r2, r3⟩
theorem m_putsBack (hM : isMo S) : ∃ σ', mx_ev xs mx_P (d + 2) 169 [.ref 90] (en S σ) = some (none, en S σ') ∧ (∀ k, k < 1443 → σ' 91 k = σ 93 k) ∧ ∀ c, c ≠ 91 → σ' c = σ c := by
  obtain ⟨σ1, r1, r2, r3⟩ := m_copyAll (xs := xs) (d := d) (σ := σ) hM.as hM.w (by decide)
  rw [ev_X7_putsBack, en_gr hM.o rfl, en_gr hM.o rfl, r1, c0s]
  exact ⟨σ1, rfl, r2, r3⟩
end TO
