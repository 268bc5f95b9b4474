/-! ===== sheets ===== -/
section SH
variable {S : List en_S} {σ0 σ σ1 σ2 : Nat → Nat → Int32} {cb d : Nat} {xs : List Int32} {C D : q_C} {G : q_G}
theorem isMo.so (hM : isMo S) : S[103]? = some (.inr (.inl (0, 4))) := hM 13 _ rfl
theorem isMo.sz (hM : isMo S) : S[104]? = some (.inr (.inl (0, 4))) := hM 14 _ rfl
theorem isMo.ce (hM : isMo S) : S[105]? = some (.inr (.inl (0, 96))) := hM 15 _ rfl
theorem isMo.ho (hM : isMo S) : S[106]? = some (.inr (.inl (0, 5))) := hM 16 _ rfl
theorem isMo.ha (hM : isMo S) : S[107]? = some (.inr (.inl (0, 5))) := hM 17 _ rfl
theorem isMo.hb (hM : isMo S) : S[108]? = some (.inr (.inl (0, 5))) := hM 18 _ rfl
theorem isMo.hc (hM : isMo S) : S[109]? = some (.inr (.inl (0, 120))) := hM 19 _ rfl
theorem isMo.mv (hM : isMo S) : S[110]? = some (.inr (.inl (0, 24))) := hM 20 _ rfl
theorem x_sh (hX : XS S) {i : Nat} (hi : i < 4) {f : Nat → mx_R} : mx_aa (en S σ) 59 (nI i) f = f (62 + 2 * i) := en_aaN hX.sh (by decide) hi (by decide) (by simp [gSh, hi])
theorem x_sl (hX : XS S) {i : Nat} (hi : i < 5) {f : Nat → mx_R} : mx_aa (en S σ) 60 (nI i) f = f (70 + 4 * i) := en_aaN hX.sl (by decide) hi (by decide) (by simp [gSl, hi])
theorem x_miss {r p : Nat} (hr : S[r]? = some (en_sh p)) : mx_ev xs mx_P (d + 1) 74 [.ref r] (en S σ) = some (some (.int (if σ r 0 = -1 then 1 else 0)), en S σ) := by
  rw [ev_X3_isMissing, en_gi hr rfl]
  split <;> rfl
theorem x_place {r p n : Nat} (hr : S[r]? = some (en_sh p)) (hn : σ r 1 = nI n) (x : Int32) : mx_ev xs mx_P (d + 1) 75 [.ref r, .int x] (en S σ) = some (some (.int (q_hl x n)), en S σ) := by
  rw [ev_X3_hasPlace]
  unfold q_hl
  by_cases h0 : x < 0
  · rw [if_pos h0, if_pos h0]; rfl
  · rw [if_neg h0, if_neg h0, en_gi hr rfl, hn]
    split <;> rfl
theorem x_number {r p n k : Nat} (hr : S[r]? = some (en_sh p)) (hp : S[p]? = some (.inr (.inl (0, 24)))) (hn : σ r 1 = nI n) (h24 : n ≤ 24) (hk : k < n) : mx_ev xs mx_P (d + 2) 77 [.ref r, .int (nI k)] (en S σ) = some (some (.int (if σ p k = -1000000005 then 0 else 1)), en S σ) := by
  have e1 : q_hl (nI k) n = 1 := by unfold q_hl; rw [if_neg (nI_pos (by omega)), if_neg (nI_ge hk (by omega))]
  rw [ev_X3_isNumber, en_cl hr, x_place hr hn, c1s, e1, if_neg (by decide), en_gr hr rfl, en_aiN hp (by omega) (by decide)]
  split <;> rfl
theorem so_c (ok : GO G) {i : Nat} (hi : i < 4) : (G.so i = -1) ∨ (¬ G.so i = -1 ∧ 0 ≤ G.so i ∧ ¬ G.so i < 0) := by
  rcases ok.so i hi with e | e | e <;> rw [e] <;> decide
theorem j_fill_loop {p len : Nat} {v : Int32} (hp : S[p]? = some (.inr (.inl (0, len)))) (hl : len < 1000) : ∀ (m i N : Nat) (τ : Nat → Nat → Int32), i + m = len → m < N → (∀ k, k < i → τ p k = v) → (∀ b, b ≠ p → τ b = σ b) → ∃ σ', mx_rn xs (mx_ev xs mx_P d) kk_J7_fill_53178 N 5 [(0, .ref p), (1, .int v), (2, .int (nI i)), (3, .int (nI len))] [] (en S τ) = some (none, en S σ') ∧ (∀ k, k < len → σ' p k = v) ∧ ∀ b, b ≠ p → σ' b = σ b
  | m, i, 0, τ, _, h2, _, _ => absurd h2 (by omega)
  | 0, i, N + 1, τ, h1, _, h3, h4 => by
    have e : i = len := by omega
    subst e
    rw [rn_J7_fill_53178_5, if_pos (Int32.le_refl _)]
    exact ⟨τ, rfl, h3, h4⟩
  | m + 1, i, N + 1, τ, h1, h2, h3, h4 => by
    rw [rn_J7_fill_53178_5, if_neg (nI_ge (by omega) (by omega)), en_asN hp (by omega) (by omega), nI_1]
    refine j_fill_loop hp hl m (i + 1) N _ (by omega) (by omega) (fun k hk => ?_) (fun b hb => ?_)
    · rw [en_up_i]
      by_cases e : k = i
      · rw [if_pos ⟨rfl, e⟩]
      · rw [if_neg (fun x => e x.2)]; exact h3 k (by omega)
    · rw [← h4 b hb]; unfold en_up; rw [if_neg hb]
theorem j_fill {p len : Nat} {v : Int32} (hp : S[p]? = some (.inr (.inl (0, len)))) (hl : len < 1000) : ∃ σ', mx_ev xs mx_P (d + 1) 5 [.ref p, .int v] (en S σ) = some (none, en S σ') ∧ (∀ k, k < len → σ' p k = v) ∧ ∀ b, b ≠ p → σ' b = σ b := by
  rw [ev_J7_fill_53178, en_al hp (by decide)]
  exact j_fill_loop hp hl len 0 99999 σ (by omega) (by omega) (fun k hk => absurd hk (by omega)) (fun b _ => rfl)
theorem x_begin {r p : Nat} {s n : Int32} (hr : S[r]? = some (en_sh p)) (hp : S[p]? = some (.inr (.inl (0, 24)))) (hrp : r ≠ p) : ∃ σ', mx_ev xs mx_P (d + 2) 72 [.ref r, .int s, .int n] (en S σ) = some (none, en S σ') ∧ σ' r 0 = s ∧ σ' r 1 = n ∧ (∀ k, k < 24 → σ' p k = 0) ∧ ∀ b, b ≠ r → b ≠ p → σ' b = σ b := by
  obtain ⟨σ', r1, r2, r3⟩ := j_fill (xs := xs) (d := d) (σ := en_up (en_up σ r 0 s) r 1 n) (v := 0) hp (by decide)
  rw [ev_X3_begin, en_pt hr rfl, en_pt hr rfl, en_gr hr rfl, r1, c0s]
  refine ⟨σ', rfl, ?_, ?_, r2, fun b h1 h2 => ?_⟩
  · rw [r3 r hrp, en_up_k (by decide), en_up_s]
  · rw [r3 r hrp, en_up_s]
  · rw [r3 b h2]; funext k; rw [en_up_a h1, en_up_a h1]
/-- a sheet anew, on both sides -/
theorem RR_sheet (hX : XR S σ G) (hM : MR S σ G) (ok : GO G) {i n : Nat} {s : Int32} {c : Nat → Int32} (hi : i < 4) (hs : s = -1 ∨ s = 0 ∨ s = 1) (hn : n ≤ 24) (x0 : σ1 (62 + 2 * i) 0 = s) (x1 : σ1 (62 + 2 * i) 1 = nI n) (xc : ∀ k, k < 24 → σ1 (63 + 2 * i) k = c k) (xf : ∀ b, b ≠ 62 + 2 * i → b ≠ 63 + 2 * i → σ1 b = σ b) (m0 : ∀ j, j < 4 → σ2 103 j = if j = i then s else σ 103 j) (m1 : ∀ j, j < 4 → σ2 104 j = if j = i then nI n else σ 104 j) (mc : ∀ j, j < 4 → ∀ k, k < 24 → σ2 105 (24 * j + k) = if j = i then c k else σ 105 (24 * j + k)) (mf : ∀ b, b ≠ 103 → b ≠ 104 → b ≠ 105 → b ≠ 110 → σ2 b = σ1 b) : RR S σ2 := by
  have og := ok.g_sheet (fun j => if j = i then s else G.so j) (fun j => if j = i then n else G.sz j) (fun j => if j = i then c else G.ce j) (fun j hj => by
    show (if j = i then s else G.so j) = -1 ∨ (if j = i then s else G.so j) = 0 ∨ (if j = i then s else G.so j) = 1
    split
    · exact hs
    · exact ok.so j hj) (fun j hj => by
    show (if j = i then n else G.sz j) ≤ 24
    split
    · exact hn
    · exact ok.sz j hj)
  have xg := hX.g_sheet ok (σ' := σ1) (fun j => if j = i then s else G.so j) (fun j => if j = i then n else G.sz j) (fun j => if j = i then c else G.ce j) (fun k _ => by rw [xf 0 (by omega) (by omega)]) (fun b h0 hb => xf b (by omega) (by omega)) (fun j hj => by
    show σ1 (62 + 2 * j) 0 = if j = i then s else G.so j
    by_cases e : j = i
    · subst e; rw [if_pos rfl]; exact x0
    · rw [if_neg e, xf _ (by omega) (by omega)]; exact hX.so j hj) (fun j hj => by
    show σ1 (62 + 2 * j) 1 = nI (if j = i then n else G.sz j)
    by_cases e : j = i
    · subst e; rw [if_pos rfl]; exact x1
    · rw [if_neg e, xf _ (by omega) (by omega)]; exact hX.sz j hj) (fun j hj k hk => by
    show σ1 (63 + 2 * j) k = (if j = i then c else G.ce j) k
    by_cases e : j = i
    · subst e; rw [if_pos rfl]; exact xc k hk
    · rw [if_neg e, xf _ (by omega) (by omega)]; exact hX.ce j hj k hk)
  refine ⟨_, xg.fr og (fun b hb => mf b (fun e => hb (by unfold scr; omega)) (fun e => hb (by unfold scr; omega)) (fun e => hb (by unfold scr; omega)) (fun e => hb (by unfold scr; omega))), ?_, og⟩
  refine hM.g_sheet _ _ _ (fun k _ => by rw [mf 90 (by omega) (by omega) (by omega) (by omega), xf 90 (by omega) (by omega)]) (fun b h1 h2 h3 h4 => by rw [mf b (by omega) (by omega) (by omega) (fun e => h4 (by unfold scm; omega)), xf b (by omega) (by omega)]) (fun j hj => ?_) (fun j hj => ?_) (fun j hj k hk => ?_)
  · rw [m0 j hj]
    show _ = if j = i then s else G.so j
    split
    · rfl
    · exact hM.so j hj
  · rw [m1 j hj]
    show _ = nI (if j = i then n else G.sz j)
    split
    · rfl
    · exact hM.sz j hj
  · rw [mc j hj k hk]
    show _ = (if j = i then c else G.ce j) k
    split
    · rfl
    · exact hM.ce j hj k hk
theorem m_zero_loop (hM : isMo S) {i : Nat} (hi : i < 4) : ∀ (m k N : Nat) (τ : Nat → Nat → Int32), k + m = 24 → m < N → (∀ x, τ 105 x = if 24 * i ≤ x ∧ x < 24 * i + k then 0 else σ 105 x) → (∀ b, b ≠ 105 → τ b = σ b) → ∃ σ', mx_rn xs (mx_ev xs mx_P d) kk_X7_sheet N 65 [(0, .ref 90), (1, .int (nI i)), (4, .int (nI k))] [] (en S τ) = some (some (.int (σ 104 i)), en S σ') ∧ (∀ x, σ' 105 x = if 24 * i ≤ x ∧ x < 24 * i + 24 then 0 else σ 105 x) ∧ ∀ b, b ≠ 105 → σ' b = σ b
  | m, i, 0, τ, _, h2, _, _ => absurd h2 (by omega)
  | 0, k, N + 1, τ, h1, _, h3, h4 => by
    have e : k = 24 := by omega
    subst e
    rw [rn_X7_sheet_65, if_pos (by decide), en_gr hM.o rfl, en_aiN hM.sz hi (by decide), h4 104 (by decide)]
    exact ⟨τ, rfl, h3, h4⟩
  | m + 1, k, N + 1, τ, h1, h2, h3, h4 => by
    rw [rn_X7_sheet_65, if_neg (by exact nI_ge (b := 24) (by omega) (by decide)), en_gr hM.o rfl, show (24 : Int32) = nI 24 from rfl, pk_mul, nI_add, en_asN hM.ce (by omega) (by decide), nI_1]
    refine m_zero_loop hM hi m (k + 1) N _ (by omega) (by omega) (fun x => ?_) (fun b hb => ?_)
    · rw [en_up_i, h3 x]
      by_cases e : x = 24 * i + k
      · rw [if_pos ⟨rfl, e⟩, if_pos (by omega)]
      · rw [if_neg (fun h => e h.2)]
        by_cases e2 : 24 * i ≤ x ∧ x < 24 * i + k
        · rw [if_pos e2, if_pos (by omega)]
        · rw [if_neg e2, if_neg (by omega)]
    · rw [← h4 b hb]; unfold en_up; rw [if_neg hb]
theorem q_w_s (a : Int32) : q_w a (-1) 1 = 0 ∨ ((a = -1 ∨ a = 0 ∨ a = 1) ∧ q_w a (-1) 1 = 1) := by
  by_cases h1 : a = -1
  · subst h1; exact Or.inr ⟨Or.inl rfl, by decide⟩
  by_cases h2 : a = 0
  · subst h2; exact Or.inr ⟨Or.inr (Or.inl rfl), by decide⟩
  by_cases h3 : a = 1
  · subst h3; exact Or.inr ⟨Or.inr (Or.inr rfl), by decide⟩
  left
  unfold q_w
  by_cases c1 : a < -1
  · rw [if_pos c1]
  rw [if_neg c1]
  by_cases c2 : 1 < a
  · rw [if_pos c2]
  exfalso
  rw [Int32.lt_iff_toInt_lt] at c1 c2
  have k1 : (-1 : Int32).toInt = -1 := by decide
  have k2 : (0 : Int32).toInt = 0 := by decide
  have k3 : (1 : Int32).toInt = 1 := by decide
  rw [k1] at c1
  rw [k3] at c2
  rcases (show a.toInt = -1 ∨ a.toInt = 0 ∨ a.toInt = 1 by omega) with e | e | e
  · exact h1 (Int32.toInt_inj.mp (e.trans k1.symm))
  · exact h2 (Int32.toInt_inj.mp (e.trans k2.symm))
  · exact h3 (Int32.toInt_inj.mp (e.trans k3.symm))
/-- the class's and the reference's way to a sheet begun anew -/
theorem sheet_begin (hX : XR S σ G) (hM : MR S σ G) (ok : GO G) {i n : Nat} {s : Int32} (hi : i < 4) (hs : s = -1 ∨ s = 0 ∨ s = 1) (hn : n ≤ 24) : ∃ σ1 σ2, mx_ev xs mx_P 11 72 [.ref (62 + 2 * i), .int s, .int (nI n)] (en S σ) = some (none, en S σ1) ∧ (mx_gr (en S σ1) 90 7 23 (fun r5 => mx_as (en S σ1) r5 0 (nI i) s (fun h6 => mx_gr h6 90 7 24 (fun r7 => mx_as h6 r7 0 (nI i) (nI n) (fun h9 => mx_rn xs (mx_ev xs mx_P 11) kk_X7_sheet 99999 65 [(0, .ref 90), (1, .int (nI i)), (4, .int 0)] [] h9))))) = some (some (.int (nI n)), en S σ2) ∧ RR S σ2 := by
  obtain ⟨σ1, r1, x0, x1, xc, xf⟩ := x_begin (xs := xs) (d := 9) (s := s) (n := nI n) (σ := σ) (hX.x.so i hi) (hX.x.sp i hi) (by omega)
  obtain ⟨σ2, r2, c2, f2⟩ := m_zero_loop (xs := xs) (d := 11) (σ := en_up (en_up σ1 103 i s) 104 i (nI n)) hM.mo hi 24 0 99999 _ (by decide) (by decide) (fun x => by rw [if_neg (by omega)]) (fun b _ => rfl)
  refine ⟨σ1, σ2, r1, ?_, ?_⟩
  · rw [en_gr hM.mo.o rfl, en_asN hM.mo.so hi (by decide), en_gr hM.mo.o rfl, en_asN hM.mo.sz hi (by decide)]
    rw [en_up_s] at r2
    exact r2
  · refine RR_sheet hX hM ok (c := fun _ => 0) hi hs hn x0 x1 xc xf (fun j hj => ?_) (fun j hj => ?_) (fun j hj k hk => ?_) (fun b h1 h2 h3 _ => ?_)
    · rw [f2 103 (by decide), en_up_a (by decide), en_up_i, xf 103 (by omega) (by omega)]
      by_cases e : j = i
      · rw [if_pos ⟨rfl, e⟩, if_pos e]
      · rw [if_neg (fun x => e x.2), if_neg e]
    · rw [f2 104 (by decide), en_up_i, en_up_a (by decide), xf 104 (by omega) (by omega)]
      by_cases e : j = i
      · rw [if_pos ⟨rfl, e⟩, if_pos e]
      · rw [if_neg (fun x => e x.2), if_neg e]
    · rw [c2, en_up_a (by decide), en_up_a (by decide), xf 105 (by omega) (by omega)]
      by_cases e : j = i
      · rw [if_pos e, if_pos (by subst e; omega)]
      · rw [if_neg e, if_neg (by omega)]
    · rw [f2 b h3]
      funext k
      rw [en_up_a h2, en_up_a h1]
theorem t_sheet (a1 a2 a3 : Int32) : St xs 112 203 [.int a1, .int a2, .int a3] := by
  intro S σ G hX hM ok
  rw [ev_X6_sheet, x_isSheet, c1s]
  rcases q_w_c a1 (h := 3) (z := 3) rfl (by decide) with e1 | ⟨i, hi, rfl, e1⟩
  · rw [e1, if_pos rfl, ri0]
    refine ⟨σ, σ, _, rfl, ?_, RR_same hX hM ok⟩
    rw [ev_X7_sheet, m_isSheet, c1s, e1, if_pos rfl, ri0]
  have hi4 : i < 4 := by omega
  rw [e1, if_neg (by decide), x_within, c1s]
  rcases q_w_s a2 with e2 | ⟨hs, e2⟩
  · rw [e2, if_pos rfl, ri0]
    refine ⟨σ, σ, _, rfl, ?_, RR_same hX hM ok⟩
    rw [ev_X7_sheet, m_isSheet, c1s, e1, if_neg (by decide), m_in', c1s, e2, if_pos rfl, ri0]
  by_cases em : a2 = -1
  · subst em
    obtain ⟨σ1, σ2, r1, r2, rr⟩ := sheet_begin (xs := xs) (n := 0) (s := -1) hX hM ok hi4 (Or.inl rfl) (by decide)
    have r1' : mx_ev xs mx_P 11 72 [.ref (62 + 2 * i), .int (-1), .int 0] (en S σ) = some (none, en S σ1) := r1
    rw [e2, if_neg (by decide), if_pos rfl, if_pos rfl, en_gr hX.x.o rfl, x_sh hX.x hi4, en_cl (hX.x.so i hi4), r1', c0s, ri0]
    refine ⟨σ1, σ2, _, rfl, ?_, rr⟩
    rw [ev_X7_sheet, m_isSheet, c1s, e1, if_neg (by decide), m_in', c1s, e2, if_neg (by decide), if_pos (by decide), if_pos (by decide)]
    rw [en_gr hM.mo.o rfl] at r2 ⊢
    rw [en_asN hM.mo.so hi4 (by decide)] at r2 ⊢
    rw [en_gr hM.mo.o rfl] at r2 ⊢
    rw [if_neg (by decide)]
    exact r2
  · have h0 : ¬ a2 < 0 := by rcases hs with e | e | e <;> first | exact absurd e em | (rw [e]; decide)
    have h0' : (0 : Int32) ≤ a2 := by rcases hs with e | e | e <;> first | exact absurd e em | (rw [e]; decide)
    rw [e2, if_neg (by decide), if_neg em]
    by_cases c1 : a3 ≤ 24
    · rw [if_pos c1, if_neg em]
      by_cases c2 : 0 ≤ a3
      · obtain ⟨n, hn, rfl⟩ := nI_of (fun e => Int32.lt_irrefl (Int32.lt_of_lt_of_le e c2))
        have n24 : n ≤ 24 := (nI_leI (b := 24) hn (by decide)).mp c1
        obtain ⟨σ1, σ2, r1, r2, rr⟩ := sheet_begin (xs := xs) (n := n) (s := a2) hX hM ok hi4 hs n24
        rw [if_pos c2, en_gr hX.x.o rfl, x_sh hX.x hi4, en_cl (hX.x.so i hi4), r1, c0s, ri0]
        refine ⟨σ1, σ2, _, rfl, ?_, rr⟩
        rw [ev_X7_sheet, m_isSheet, c1s, e1, if_neg (by decide), m_in', c1s, e2, if_neg (by decide), if_neg h0, if_pos c1, if_neg h0, if_pos c2]
        rw [en_gr hM.mo.o rfl] at r2 ⊢
        rw [en_asN hM.mo.so hi4 (by decide)] at r2 ⊢
        rw [en_gr hM.mo.o rfl] at r2 ⊢
        rw [if_pos h0']
        exact r2
      · rw [if_neg c2, ri0]
        refine ⟨σ, σ, _, rfl, ?_, RR_same hX hM ok⟩
        rw [ev_X7_sheet, m_isSheet, c1s, e1, if_neg (by decide), m_in', c1s, e2, if_neg (by decide), if_neg h0, if_pos c1, if_neg h0, if_neg c2, ri0]
    · rw [if_neg c1, ri0]
      refine ⟨σ, σ, _, rfl, ?_, RR_same hX hM ok⟩
      rw [ev_X7_sheet, m_isSheet, c1s, e1, if_neg (by decide), m_in', c1s, e2, if_neg (by decide), if_neg h0, if_neg c1, ri0]
end SH
