/-! ===== what is only thought ===== -/
/-- the class's side while it thinks; the reference's, put back; the reference's while it thinks -/
def thX (σ τ : Nat → Nat → Int32) : Prop := ∀ b, ¬ (35 ≤ b ∧ b ≤ 52) → τ b = σ b
def thN (σ τ : Nat → Nat → Int32) : Prop := (∀ k, k < 1443 → τ 93 k = σ 91 k) ∧ ∀ b, b ≠ 91 → b ≠ 93 → b ≠ 94 → b ≠ 101 → b ≠ 102 → τ b = σ b
def thM (σ τ : Nat → Nat → Int32) : Prop := (∀ k, k < 1443 → τ 91 k = σ 91 k) ∧ thN σ τ
section TH
variable {S : List en_S} {σ0 σ σ1 σ2 τ τ' : Nat → Nat → Int32} {cb d : Nat} {xs : List Int32} {C D : q_C} {G : q_G}
theorem en_aiW {a t n j : Nat} {w : Int32} {f : Int32 → mx_R} (h : S[a]? = some (.inr (.inl (t, n)))) (hw : w = nI j) (hj : j < n) (hn : n < 2 ^ 31) : mx_ai (en S σ) a t w f = f (σ a j) := by
  subst hw; exact en_aiN h hj hn
theorem en_asW {a t n j : Nat} {w x : Int32} {f : mx_H → mx_R} (h : S[a]? = some (.inr (.inl (t, n)))) (hw : w = nI j) (hj : j < n) (hn : n < 2 ^ 31) : mx_as (en S σ) a t w x f = f (en S (en_up σ a j x)) := by
  subst hw; exact en_asN h hj hn
theorem thX.r : thX σ σ := fun _ _ => rfl
theorem thX.go (h : thX σ τ) (x : XC S τ τ' 35 C) : thX σ τ' := fun b hb => (x.fr b (by omega)).trans (h b hb)
theorem thX.now (h : thX σ τ) (hX : XR S σ G) (ok : GO G) : cR S τ 1 G.now := hX.now.fr ok.now.n (h _ (by omega)) (h _ (by omega)) (h _ (by omega)) (h _ (by omega)) (fun i hi => h _ (by omega)) (fun b hb => h b (by omega))
theorem x_th (hX : XR S σ G) (ok : GO G) (h : thX σ τ) : ∃ τ', mx_ev xs mx_P (d + 3) 126 [.ref 0] (en S τ) = some (some (.ref 35), en S τ') ∧ XC S τ τ' 35 G.now := x_think hX.x (h.now hX ok) ok.now
theorem thM.mc (h : thM σ τ) (hM : MR S σ G) (ok : GO G) : MC S τ τ G.now := ⟨hM.mo, hM.now.congr ok.now.K ok.now.n h.1, fun _ _ _ _ => rfl⟩
theorem thN.go (h : thN σ τ) (m : MC S τ τ' C) : thN σ τ' := ⟨fun k hk => by rw [m.fr 93 (by decide) (by decide) (by decide)]; exact h.1 k hk, fun b h1 h2 h3 h4 h5 => by rw [m.fr b h1 h4 h5]; exact h.2 b h1 h2 h3 h4 h5⟩
theorem m_th (hM : MR S σ G) : ∃ τ, mx_ev xs mx_P (d + 2) 168 [.ref 90] (en S σ) = some (none, en S τ) ∧ thM σ τ := by
  obtain ⟨τ, r1, r2, r3⟩ := m_thinks (xs := xs) (d := d) (σ := σ) hM.mo
  exact ⟨τ, r1, fun k hk => by rw [r3 91 (by decide)], r2, fun b h1 h2 h3 h4 h5 => r3 b h2⟩
theorem m_bk (mo : isMo S) (h : thN σ τ) : ∃ τ2, mx_ev xs mx_P (d + 2) 169 [.ref 90] (en S τ) = some (none, en S τ2) ∧ thM σ τ2 ∧ τ2 94 = τ 94 := by
  obtain ⟨τ2, r1, r2, r3⟩ := m_putsBack (xs := xs) (d := d) (σ := τ) mo
  exact ⟨τ2, r1, ⟨fun k hk => by rw [r2 k hk]; exact h.1 k hk, fun k hk => by rw [r3 93 (by decide)]; exact h.1 k hk, fun b h1 h2 h3 h4 h5 => by rw [r3 b h1]; exact h.2 b h1 h2 h3 h4 h5⟩, r3 94 (by decide)⟩
theorem MR.thk (hM : MR S σ G) (ok : GO G) (h : thM σ τ) : MR S τ G := by
  have h1 : MR S (fun b => if b = 91 then σ 91 else τ b) G := hM.fr (fun b hb1 hb2 hb3 => by
    by_cases e : b = 91
    · subst e; rfl
    · show (if b = 91 then σ 91 else τ b) = σ b
      rw [if_neg e]
      exact h.2.2 b e (fun x => hb3 (by unfold scm; omega)) (fun x => hb3 (by unfold scm; omega)) (fun x => hb3 (by unfold scm; omega)) (fun x => hb3 (by unfold scm; omega)))
  exact ⟨h1.mo, hM.now.congr ok.now.K ok.now.n h.1, h1.ik, h1.img, h1.tl, h1.tp, h1.ks, h1.ka, h1.so, h1.sz, h1.ce, h1.th, h1.h1, h1.h2, h1.h3, h1.wc, h1.wt⟩
theorem thX.m (hM : MR S σ G) (x : thX σ σ1) : MR S σ1 G := hM.after (fun b h1 h2 => x b (by omega))
theorem RR_th (hX : XR S σ G) (hM : MR S σ G) (ok : GO G) (x : thX σ σ1) (m : thM σ1 σ2) : RR S σ2 := by
  have hX1 : XR S σ1 G := hX.fr ok (fun b hb => x b (fun e => hb (by unfold scr; omega)))
  exact ⟨G, hX1.fr ok (fun b hb => m.2.2 b (fun e => hb (by unfold scr; omega)) (fun e => hb (by unfold scr; omega)) (fun e => hb (by unfold scr; omega)) (fun e => hb (by unfold scr; omega)) (fun e => hb (by unfold scr; omega))), (x.m hM).thk ok m, ok⟩
/-! how many bits a set has -/
def q_bc (a0 : Int32) : Int32 := (((((((a0 - ((mx_us a0 1) &&& 1431655765)) &&& 858993459) + ((mx_us (a0 - ((mx_us a0 1) &&& 1431655765)) 2) &&& 858993459)) + (mx_us (((a0 - ((mx_us a0 1) &&& 1431655765)) &&& 858993459) + ((mx_us (a0 - ((mx_us a0 1) &&& 1431655765)) 2) &&& 858993459)) 4)) &&& 252645135) + (mx_us (((((a0 - ((mx_us a0 1) &&& 1431655765)) &&& 858993459) + ((mx_us (a0 - ((mx_us a0 1) &&& 1431655765)) 2) &&& 858993459)) + (mx_us (((a0 - ((mx_us a0 1) &&& 1431655765)) &&& 858993459) + ((mx_us (a0 - ((mx_us a0 1) &&& 1431655765)) 2) &&& 858993459)) 4)) &&& 252645135) 8)) + (mx_us ((((((a0 - ((mx_us a0 1) &&& 1431655765)) &&& 858993459) + ((mx_us (a0 - ((mx_us a0 1) &&& 1431655765)) 2) &&& 858993459)) + (mx_us (((a0 - ((mx_us a0 1) &&& 1431655765)) &&& 858993459) + ((mx_us (a0 - ((mx_us a0 1) &&& 1431655765)) 2) &&& 858993459)) 4)) &&& 252645135) + (mx_us (((((a0 - ((mx_us a0 1) &&& 1431655765)) &&& 858993459) + ((mx_us (a0 - ((mx_us a0 1) &&& 1431655765)) 2) &&& 858993459)) + (mx_us (((a0 - ((mx_us a0 1) &&& 1431655765)) &&& 858993459) + ((mx_us (a0 - ((mx_us a0 1) &&& 1431655765)) 2) &&& 858993459)) 4)) &&& 252645135) 8)) 16)) &&& 63
def q_pcs (s : Nat) : Nat → Nat
  | 0 => 0
  | k + 1 => q_pcs s k + (if s.testBit k then 1 else 0)
def q_pc (s : Nat) : Nat := q_pcs s 10
def q_bl : Nat → Int32 → Int32 → Int32
  | 0, a, _ => a
  | n + 1, a, r => if r = 0 then a else q_bl n (a + 1) (r &&& (r - 1))
def q_bz : Nat → Int32 → Bool
  | 0, r => decide (r = 0)
  | n + 1, r => decide (r = 0) || q_bz n (r &&& (r - 1))
theorem q_bz_ok : ∀ s, s < 1024 → q_bz 10 (nI s) = true := by decide +kernel
theorem q_bc_ok : ∀ s, s < 1024 → q_bc (nI s) = nI (q_pc s) := by decide +kernel
theorem q_bl_ok : ∀ s, s < 1024 → q_bl 11 0 (nI s) = nI (q_pc s) := by decide +kernel
theorem q_pc_le (s : Nat) : q_pc s ≤ 10 := by
  have h : ∀ k, q_pcs s k ≤ k := fun k => by
    induction k with
    | zero => exact Nat.le_refl _
    | succ k ih =>
      unfold q_pcs
      split <;> omega
  exact h 10
theorem j_bits {s : Nat} (hs : s < 1024) (h : mx_H) : mx_ev xs mx_P (d + 1) 4 [.int (nI s)] h = some (some (.int (nI (q_pc s))), h) := by
  rw [ev_J6_bitCount_0f7a4, ← q_bc_ok s hs]
  rfl
theorem m_bits_loop (call : Nat → List Value → mx_H → mx_R) (h : mx_H) : ∀ (n N : Nat) (a r : Int32), q_bz n r = true → n < N → mx_rn xs call kk_X7_bits N 4 [(1, .int a), (2, .int r)] [] h = some (some (.int (q_bl (n + 1) a r)), h)
  | n, 0, a, r, _, h2 => absurd h2 (by omega)
  | 0, N + 1, a, r, h1, _ => by
    have e : r = 0 := of_decide_eq_true h1
    rw [rn_X7_bits_4, if_pos e]
    subst e
    rfl
  | n + 1, N + 1, a, r, h1, h2 => by
    rw [rn_X7_bits_4]
    by_cases e : r = 0
    · rw [if_pos e]
      subst e
      rfl
    · have h3 : q_bz n (r &&& (r - 1)) = true := by
        unfold q_bz at h1
        rw [decide_eq_false e, Bool.false_or] at h1
        exact h1
      rw [if_neg e, m_bits_loop call h n N (a + 1) (r &&& (r - 1)) h3 (by omega)]
      show _ = some (some (Value.int (if r = 0 then a else q_bl (n + 1) (a + 1) (r &&& (r - 1)))), h)
      rw [if_neg e]
theorem m_bits {s : Nat} (hs : s < 1024) (h : mx_H) : mx_ev xs mx_P (d + 1) 136 [.int (nI s)] h = some (some (.int (nI (q_pc s))), h) := by
  rw [ev_X7_bits, m_bits_loop _ h 10 99999 0 (nI s) (q_bz_ok s hs) (by decide), q_bl_ok s hs]
theorem q_shl1 : ∀ n, n < 11 → (1 : Int32) <<< (nI n &&& 31) = nI (2 ^ n) := by decide
theorem q_or (a b : Nat) : nI a ||| nI b = nI (a ||| b) := by
  apply Int32.toBitVec_inj.mp
  rw [Int32.toBitVec_or]
  exact BitVec.ofNat_or.symm
theorem q_dbl_nat {L : Nat → Nat → Nat} : ∀ n, n ≤ 10 → ∃ s, s < 2 ^ n ∧ q_dbl L n = nI s
  | 0, _ => ⟨0, by decide, rfl⟩
  | n + 1, h => by
    obtain ⟨s, h1, h2⟩ := q_dbl_nat (L := L) n (by omega)
    rw [q_dbl_s, h2]
    split
    · exact ⟨s, by rw [Nat.pow_succ]; omega, rfl⟩
    · refine ⟨s ||| 2 ^ n, Nat.or_lt_two_pow (by rw [Nat.pow_succ]; omega) (Nat.pow_lt_pow_right (by decide) (by omega)), ?_⟩
      rw [q_shl1 n (by omega), q_or]
theorem q_dbl_nat' {L : Nat → Nat → Nat} {n : Nat} (h : n ≤ 10) : ∃ s, s < 1024 ∧ q_dbl L n = nI s := by
  obtain ⟨s, h1, h2⟩ := q_dbl_nat (L := L) n h
  exact ⟨s, Nat.lt_of_lt_of_le h1 (Nat.pow_le_pow_right (by decide) h), h2⟩
theorem t_behind (a1 a2 : Int32) : St xs 95 170 [.int a1, .int a2] := by
  intro S σ G hX hM ok
  have h10 := ok.now.n
  have hday := ok.day
  rw [ev_X6_behind, x_within, c1s]
  rcases q_w_c a1 (h := 100) (z := 100) rfl (by decide) with e1 | ⟨n, hn, rfl, e1⟩
  · rw [e1, if_pos rfl, ri0]
    refine ⟨σ, σ, _, rfl, ?_, RR_same hX hM ok⟩
    rw [ev_X7_behind, m_in', c1s, e1, if_pos rfl, ri0]
  have e2n : (2 : Int32) + nI G.now.n = nI (2 + G.now.n) := nI_add 2 G.now.n
  have MB : q_w a2 0 (nI (2 + G.now.n)) = 0 → mx_ev xs mx_P 12 170 [.ref 90, .int (nI n), .int a2] (en S σ) = some (some (.int (-1000000001)), en S σ) := fun hb => by
    rw [ev_X7_behind, m_in', c1s, e1, if_neg (by decide), en_gr hM.mo.o rfl, m_rd hM.mc (k := 1) (w := 1) (by decide) rfl, hM.now.n, e2n, m_in', c1s, hb, if_pos rfl, ri0]
  rw [e1, if_neg (by decide)]
  by_cases n2 : a2 < 0
  · rw [if_pos n2, ri0]
    exact ⟨σ, σ, _, rfl, MB (by unfold q_w; rw [if_pos n2]), RR_same hX hM ok⟩
  obtain ⟨w, hw, rfl⟩ := nI_of n2
  rw [if_neg n2]
  obtain ⟨τ, r1, x1⟩ := x_th (xs := xs) (d := 8) hX ok thX.r
  obtain ⟨σ1, r2, x2⟩ := x_passDays (xs := xs) (d := 4) (C := G.now) (m := n) x1 ok.now (by omega) (by omega)
  have hx : thX σ σ1 := thX.r.go x2
  have hM1 := hx.m hM
  obtain ⟨υ, s1, t1⟩ := m_th (xs := xs) (d := 9) hM1
  obtain ⟨υ2, s2, m2⟩ := m_goesOn (xs := xs) (d := 4) (m := n) (t1.mc hM1 ok) ok.now (by omega) (by omega)
  obtain ⟨υ3, s3, t3, _⟩ := m_bk (xs := xs) (d := 9) hM.mo (t1.2.go m2)
  have okD := q_ok_days ok.now n
  have hDn := q_days_n G.now n
  have n10 : (q_days G.now n).n ≤ 10 := by rw [hDn]; exact h10
  have MA : q_w (nI w) 0 (nI (2 + G.now.n)) = 1 → ∀ v, (mx_ev xs mx_P 12 170 [.ref 90, .int (nI n), .int (nI w)] (en S σ1) = some (some (.int v), en S υ3)) ↔ (if 2 ≤ nI w then if nI w = 2 then mx_cl (en S υ2) 90 7 (mx_c1 (mx_ev xs mx_P 11 166 [.ref 90] (en S υ2)) (fun x10 h9 => mx_c1 (mx_ev xs mx_P 11 136 [.int x10] h9) (fun x12 h11 => mx_cl h11 90 7 (mx_c0 (mx_ev xs mx_P 11 169 [.ref 90] h11) (fun h13 => mx_ri 0 [.int x12] h13))))) else mx_cl (en S υ2) 90 7 (mx_c1 (mx_ev xs mx_P 11 138 [.ref 90, .int (nI w - 3), .int 2] (en S υ2)) (fun x15 h14 => mx_cl h14 90 7 (mx_c0 (mx_ev xs mx_P 11 169 [.ref 90] h14) (fun h16 => mx_ri 0 [.int x15] h16)))) else mx_gr (en S υ2) 90 7 0 (fun r17 => mx_ai (en S υ2) r17 0 (7 + nI w) (fun x18 => mx_cl (en S υ2) 90 7 (mx_c0 (mx_ev xs mx_P 11 169 [.ref 90] (en S υ2)) (fun h19 => mx_ri 0 [.int x18] h19))))) = some (some (.int v), en S υ3) := fun hb v => by
    rw [ev_X7_behind, m_in', c1s, e1, if_neg (by decide), en_gr hM.mo.o rfl, m_rd hM1.mc (k := 1) (w := 1) (by decide) rfl, hM1.now.n, e2n, m_in', c1s, hb, if_neg (by decide), en_cl hM.mo.o, s1, c0s, en_cl hM.mo.o, s2, c0s]
  have MW : ∀ {w : Nat}, w ≤ 2 + G.now.n → q_w (nI w) 0 (nI (2 + G.now.n)) = 1 := fun {w} h => by
    unfold q_w
    rw [if_neg (nI_pos (by omega)), if_neg (nI_nlt h (by omega))]
  by_cases w2 : w ≤ 2
  · rw [if_pos (by exact (nI_leI (b := 2) hw (by decide)).mpr w2), en_cl hX.x.o, r1, c2s, en_cl x1.cl.1, r2, c0s]
    rcases (show w = 0 ∨ w = 1 ∨ w = 2 by omega) with rfl | rfl | rfl
    · rw [if_pos (by decide), en_gi x2.cl.1 rfl, x2.r.p, ri0]
      refine ⟨σ1, υ3, _, rfl, (MA (MW (by omega)) _).mpr ?_, RR_th hX hM ok hx t3⟩
      rw [if_neg (by decide), en_gr hM.mo.o rfl, m_rd m2 (k := 7) (w := 7 + nI 0) (by decide) (by decide), m2.r.p, en_cl hM.mo.o, s3, c0s, ri0]
    · rw [if_neg (by decide), if_pos (by decide), en_gi x2.cl.1 rfl, x2.r.t, ri0]
      refine ⟨σ1, υ3, _, rfl, (MA (MW (by omega)) _).mpr ?_, RR_th hX hM ok hx t3⟩
      rw [if_neg (by decide), en_gr hM.mo.o rfl, m_rd m2 (k := 8) (w := 7 + nI 1) (by decide) (by decide), m2.r.t, en_cl hM.mo.o, s3, c0s, ri0]
    · obtain ⟨s, hs, es⟩ := q_dbl_nat' (L := (q_days G.now n).L) n10
      rw [if_neg (by decide), if_neg (by decide), if_pos (by decide), en_cl x2.cl.1, cl_doubled x2.cl n10 x2.r.n x2.r.L okD.L, c1s, es, j_bits hs, c1s, ri0]
      refine ⟨σ1, υ3, _, rfl, (MA (MW (by omega)) _).mpr ?_, RR_th hX hM ok hx t3⟩
      rw [if_pos (by decide), if_pos (by decide), en_cl hM.mo.o, m_doubled m2 okD, c1s, es, m_bits hs, c1s, en_cl hM.mo.o, s3, c0s, ri0]
  · have e3 : nI w - 3 = nI (w - 3) := by rw [show (3 : Int32) = nI 3 from rfl, pk_sub (by omega)]
    have f0 : ¬ nI w = 0 := fun e => by have := (nI_eq (b := 0) hw (by decide)).mp e; omega
    have f1 : ¬ nI w = 1 := fun e => by have := (nI_eq (b := 1) hw (by decide)).mp e; omega
    have f2 : ¬ nI w = 2 := fun e => by have := (nI_eq (b := 2) hw (by decide)).mp e; omega
    rw [if_neg (show ¬ nI w ≤ 2 from fun e => w2 ((nI_leI (b := 2) hw (by decide)).mp e)), en_gr hX.x.o rfl, en_cl hX.x.c1.1, x_has hX.xc h10, c1s, e3]
    rcases q_hl_c (nI (w - 3)) (n := G.now.n) (by omega) with e4 | ⟨j, hj, ej, e4⟩
    · rw [e4, if_pos rfl, ri0]
      refine ⟨σ, σ, _, rfl, MB ?_, RR_same hX hM ok⟩
      unfold q_hl at e4
      rw [if_neg (nI_pos (by omega))] at e4
      unfold q_w
      rw [if_neg (nI_pos hw)]
      by_cases c : 2 + G.now.n < w
      · rw [if_pos ((nI_ltI (by omega) hw).mpr c)]
      · rw [if_neg (nI_ge (by omega) (by omega))] at e4
        exact absurd e4 (by decide)
    · have hj2 : w - 3 = j := (nI_eq (by omega) (by omega)).mp ej
      have hjD : w - 3 < (q_days G.now n).n := by rw [hDn]; omega
      have hl := x2.leg (i := w - 3) (by omega)
      rw [e4, if_neg (by decide), en_cl hX.x.o, r1, c2s, en_cl x1.cl.1, r2, c0s, if_neg f0, if_neg f1, if_neg f2, en_gr x2.cl.1 rfl, cl_aa x2.cl (by omega), en_gi hl rfl, x2.r.L _ hjD 2 (by decide), ri0]
      refine ⟨σ1, υ3, _, rfl, (MA (MW (by omega)) _).mpr ?_, RR_th hX hM ok hx t3⟩
      rw [if_pos (by exact (nI_leI (a := 2) (by decide) hw).mpr (by omega)), if_neg f2, e3, en_cl hM.mo.o, m_of' m2 (w := 2) (j := 2) hjD n10 (by decide) rfl, c1s, en_cl hM.mo.o, s3, c0s, ri0]
/-! the first day on which something is so -/
noncomputable def q_firstD (C : q_C) (P : q_C → Bool) : Nat → Nat → Int32
  | 0, _ => -1000000005
  | m + 1, k => if P (q_days C k) then nI k else q_firstD C P m (k + 1)
theorem x_dulls_loop {i v : Nat} (hi : i < C.n) (ok : q_ok C) (hday : C.day ≤ 9999) (hv : v ≤ 99) : ∀ (m k N : Nat) (τ' : Nat → Nat → Int32), k + m = 201 → m < N → XC S τ τ' 35 (q_days C k) → ∃ σ', mx_rn xs (mx_ev xs mx_P (d + 6)) kk_X6_dulls N 32 [(1, .int (nI i)), (2, .int (nI v)), (3, .ref 35), (4, .int (nI k))] [] (en S τ') = some (some (.int (q_firstD C (fun D => decide (D.L i 2 < v)) m k)), en S σ') ∧ ∃ D, XC S τ σ' 35 D
  | m, k, 0, _, _, h2, _ => absurd h2 (by omega)
  | 0, k, N + 1, τ', h1, _, h => by
    rw [rn_X6_dulls_32, show k = 201 by omega, if_pos (by decide), ri0]
    exact ⟨τ', rfl, _, h⟩
  | m + 1, k, N + 1, τ', h1, h2, h => by
    have h10 := ok.n
    have okk := q_ok_days ok k
    have hik : i < (q_days C k).n := by rw [q_days_n]; exact hi
    have l2 := (okk.L i hik).2.2.1
    rw [rn_X6_dulls_32, if_neg (by exact nI_nlt (a := 200) (by omega) (by decide)), en_gr h.cl.1 rfl, cl_aa h.cl (by omega), en_gi (h.leg (by omega)) rfl, h.r.L i hik 2 (by decide)]
    show ∃ σ', _ = some (some (Value.int (if decide ((q_days C k).L i 2 < v) = true then nI k else q_firstD C _ m (k + 1))), _) ∧ _
    by_cases c : (q_days C k).L i 2 < v
    · rw [if_neg (nI_ge c (by omega)), ri0, if_pos (decide_eq_true c)]
      exact ⟨τ', rfl, _, h⟩
    · obtain ⟨σ1, r1, r2⟩ := x_passDay (xs := xs) (d := d) h okk (by rw [q_days_day]; omega)
      rw [if_pos (nI_le (by omega) (by omega)), en_cl h.cl.1, r1, c0s, nI_1, if_neg (by rw [decide_eq_false c]; decide)]
      exact x_dulls_loop hi ok hday hv m (k + 1) N σ1 (by omega) (by omega) r2
theorem m_dulls_loop {i v : Nat} (hi : i < C.n) (ok : q_ok C) (hday : C.day ≤ 9999) (hv : v ≤ 99) (t : thN σ τ) : ∀ (m k N : Nat) (τ' : Nat → Nat → Int32), k + m = 201 → m < N → MC S τ τ' (q_days C k) → ∃ σ', mx_rn xs (mx_ev xs mx_P (d + 6)) kk_X7_dulls N 27 [(0, .ref 90), (1, .int (nI i)), (2, .int (nI v)), (3, .int (nI k))] [] (en S τ') = some (some (.int (q_firstD C (fun D => decide (D.L i 2 < v)) m k)), en S σ') ∧ thM σ σ'
  | m, k, 0, _, _, h2, _ => absurd h2 (by omega)
  | 0, k, N + 1, τ', h1, _, h => by
    obtain ⟨σ2, s2, t2, _⟩ := m_bk (xs := xs) (d := d + 4) h.mo (t.go h)
    rw [rn_X7_dulls_27, show k = 201 by omega, if_pos (by decide), en_cl h.mo.o, s2, c0s, if_neg (by decide), ri0]
    exact ⟨σ2, rfl, t2⟩
  | m + 1, k, N + 1, τ', h1, h2, h => by
    have h10 := ok.n
    have okk := q_ok_days ok k
    have hik : i < (q_days C k).n := by rw [q_days_n]; exact hi
    have l2 := (okk.L i hik).2.2.1
    rw [rn_X7_dulls_27, if_neg (by exact nI_nlt (a := 200) (by omega) (by decide)), en_cl h.mo.o, m_of' h (w := 2) (j := 2) hik okk.n (by decide) rfl, c1s]
    show ∃ σ', _ = some (some (Value.int (if decide ((q_days C k).L i 2 < v) = true then nI k else q_firstD C _ m (k + 1))), _) ∧ _
    by_cases c : (q_days C k).L i 2 < v
    · obtain ⟨σ2, s2, t2, _⟩ := m_bk (xs := xs) (d := d + 4) h.mo (t.go h)
      rw [if_pos (nI_lt c (by omega)), en_cl h.mo.o, s2, c0s, if_pos (by exact nI_le (b := 200) (by omega) (by decide)), ri0, if_pos (decide_eq_true c)]
      exact ⟨σ2, rfl, t2⟩
    · obtain ⟨σ1, r1, r2⟩ := m_day (xs := xs) (d := d) h okk (by rw [q_days_day]; omega)
      rw [if_neg (nI_nlt (by omega) (by omega)), en_cl h.mo.o, r1, c0s, nI_1, if_neg (by rw [decide_eq_false c]; decide)]
      exact m_dulls_loop hi ok hday hv t m (k + 1) N σ1 (by omega) (by omega) r2
theorem t_dulls (a1 a2 : Int32) : St xs 96 171 [.int a1, .int a2] := by
  intro S σ G hX hM ok
  have h10 := ok.now.n
  rw [ev_X6_dulls, en_gr hX.x.o rfl, en_cl hX.x.c1.1, x_has hX.xc h10, c1s]
  rcases q_hl_c a1 (n := G.now.n) (by omega) with e1 | ⟨i, hi, rfl, e1⟩
  · rw [e1, if_pos rfl, ri0]
    refine ⟨σ, σ, _, rfl, ?_, RR_same hX hM ok⟩
    rw [ev_X7_dulls, en_cl hM.mo.o, m_isLeg hM.mc h10, c1s, e1, if_pos rfl, ri0]
  rw [e1, if_neg (by decide), x_within, c1s]
  rcases q_w_c a2 (h := 99) (z := 99) rfl (by decide) with e2 | ⟨v, hv, rfl, e2⟩
  · rw [e2, if_pos rfl, ri0]
    refine ⟨σ, σ, _, rfl, ?_, RR_same hX hM ok⟩
    rw [ev_X7_dulls, en_cl hM.mo.o, m_isLeg hM.mc h10, c1s, e1, if_neg (by decide), m_in', c1s, e2, if_pos rfl, ri0]
  obtain ⟨τ, r1, x1⟩ := x_th (xs := xs) (d := 8) hX ok thX.r
  obtain ⟨σ1, r2, D, x2⟩ := x_dulls_loop (xs := xs) (d := 5) (C := G.now) hi ok.now ok.day hv 201 0 99999 τ (by omega) (by omega) x1
  have hx : thX σ σ1 := thX.r.go x2
  have hM1 := hx.m hM
  obtain ⟨υ, s1, t1⟩ := m_th (xs := xs) (d := 9) hM1
  obtain ⟨σ2, s2, t2⟩ := m_dulls_loop (xs := xs) (d := 5) (C := G.now) hi ok.now ok.day hv t1.2 201 0 99999 υ (by omega) (by omega) (t1.mc hM1 ok)
  rw [e2, if_neg (by decide), en_cl hX.x.o, r1, c2s]
  refine ⟨σ1, σ2, _, r2, ?_, RR_th hX hM ok hx t2⟩
  rw [ev_X7_dulls, en_cl hM.mo.o, m_isLeg hM1.mc h10, c1s, e1, if_neg (by decide), m_in', c1s, e2, if_neg (by decide), en_cl hM.mo.o, s1, c0s]
  exact s2
theorem x_doubles_loop {i : Nat} (hi : i < C.n) (ok : q_ok C) (hday : C.day ≤ 9999) : ∀ (m k N : Nat) (τ' : Nat → Nat → Int32), k + m = 201 → m < N → XC S τ τ' 35 (q_days C k) → ∃ σ', mx_rn xs (mx_ev xs mx_P (d + 6)) kk_X6_doubles N 21 [(1, .int (nI i)), (2, .ref 35), (3, .int (nI k))] [] (en S τ') = some (some (.int (q_firstD C (fun D => decide (¬ D.L i 3 = 0)) m k)), en S σ') ∧ ∃ D, XC S τ σ' 35 D
  | m, k, 0, _, _, h2, _ => absurd h2 (by omega)
  | 0, k, N + 1, τ', h1, _, h => by
    rw [rn_X6_doubles_21, show k = 201 by omega, if_pos (by decide), ri0]
    exact ⟨τ', rfl, _, h⟩
  | m + 1, k, N + 1, τ', h1, h2, h => by
    have h10 := ok.n
    have okk := q_ok_days ok k
    have hik : i < (q_days C k).n := by rw [q_days_n]; exact hi
    have l3 := (okk.L i hik).2.2.2.1
    rw [rn_X6_doubles_21, if_neg (by exact nI_nlt (a := 200) (by omega) (by decide)), en_gr h.cl.1 rfl, cl_aa h.cl (by omega), en_gi (h.leg (by omega)) rfl, h.r.L i hik 3 (by decide)]
    show ∃ σ', _ = some (some (Value.int (if decide (¬ (q_days C k).L i 3 = 0) = true then nI k else q_firstD C _ m (k + 1))), _) ∧ _
    by_cases c : (q_days C k).L i 3 = 0
    · obtain ⟨σ1, r1, r2⟩ := x_passDay (xs := xs) (d := d) h okk (by rw [q_days_day]; omega)
      rw [c, if_pos (by decide), en_cl h.cl.1, r1, c0s, nI_1, if_neg (by decide)]
      exact x_doubles_loop hi ok hday m (k + 1) N σ1 (by omega) (by omega) r2
    · rw [if_neg (nI_nle (by omega) (by omega)), ri0, if_pos (decide_eq_true c)]
      exact ⟨τ', rfl, _, h⟩
theorem m_doubles_loop {i : Nat} (hi : i < C.n) (ok : q_ok C) (hday : C.day ≤ 9999) (t : thN σ τ) : ∀ (m k N : Nat) (τ' : Nat → Nat → Int32), k + m = 201 → m < N → MC S τ τ' (q_days C k) → ∃ σ', mx_rn xs (mx_ev xs mx_P (d + 6)) kk_X7_doubles N 17 [(0, .ref 90), (1, .int (nI i)), (2, .int (nI k))] [] (en S τ') = some (some (.int (q_firstD C (fun D => decide (¬ D.L i 3 = 0)) m k)), en S σ') ∧ thM σ σ'
  | m, k, 0, _, _, h2, _ => absurd h2 (by omega)
  | 0, k, N + 1, τ', h1, _, h => by
    obtain ⟨σ2, s2, t2, _⟩ := m_bk (xs := xs) (d := d + 4) h.mo (t.go h)
    rw [rn_X7_doubles_17, show k = 201 by omega, if_pos (by decide), en_cl h.mo.o, s2, c0s, if_neg (by decide), ri0]
    exact ⟨σ2, rfl, t2⟩
  | m + 1, k, N + 1, τ', h1, h2, h => by
    have h10 := ok.n
    have okk := q_ok_days ok k
    have hik : i < (q_days C k).n := by rw [q_days_n]; exact hi
    have l3 := (okk.L i hik).2.2.2.1
    rw [rn_X7_doubles_17, if_neg (by exact nI_nlt (a := 200) (by omega) (by decide)), en_cl h.mo.o, m_of' h (w := 3) (j := 3) hik okk.n (by decide) rfl, c1s]
    show ∃ σ', _ = some (some (Value.int (if decide (¬ (q_days C k).L i 3 = 0) = true then nI k else q_firstD C _ m (k + 1))), _) ∧ _
    by_cases c : (q_days C k).L i 3 = 0
    · obtain ⟨σ1, r1, r2⟩ := m_day (xs := xs) (d := d) h okk (by rw [q_days_day]; omega)
      rw [c, if_pos (by decide), en_cl h.mo.o, r1, c0s, nI_1, if_neg (by decide)]
      exact m_doubles_loop hi ok hday t m (k + 1) N σ1 (by omega) (by omega) r2
    · obtain ⟨σ2, s2, t2, _⟩ := m_bk (xs := xs) (d := d + 4) h.mo (t.go h)
      rw [if_neg (q_nz (by omega) (by omega)), en_cl h.mo.o, s2, c0s, if_pos (by exact nI_le (b := 200) (by omega) (by decide)), ri0, if_pos (decide_eq_true c)]
      exact ⟨σ2, rfl, t2⟩
theorem t_doubles (a1 : Int32) : St xs 97 172 [.int a1] := by
  intro S σ G hX hM ok
  have h10 := ok.now.n
  rw [ev_X6_doubles, en_gr hX.x.o rfl, en_cl hX.x.c1.1, x_has hX.xc h10, c1s]
  rcases q_hl_c a1 (n := G.now.n) (by omega) with e1 | ⟨i, hi, rfl, e1⟩
  · rw [e1, if_pos rfl, ri0]
    refine ⟨σ, σ, _, rfl, ?_, RR_same hX hM ok⟩
    rw [ev_X7_doubles, en_cl hM.mo.o, m_isLeg hM.mc h10, c1s, e1, if_pos rfl, ri0]
  obtain ⟨τ, r1, x1⟩ := x_th (xs := xs) (d := 8) hX ok thX.r
  obtain ⟨σ1, r2, D, x2⟩ := x_doubles_loop (xs := xs) (d := 5) (C := G.now) hi ok.now ok.day 201 0 99999 τ (by omega) (by omega) x1
  have hx : thX σ σ1 := thX.r.go x2
  have hM1 := hx.m hM
  obtain ⟨υ, s1, t1⟩ := m_th (xs := xs) (d := 9) hM1
  obtain ⟨σ2, s2, t2⟩ := m_doubles_loop (xs := xs) (d := 5) (C := G.now) hi ok.now ok.day t1.2 201 0 99999 υ (by omega) (by omega) (t1.mc hM1 ok)
  rw [e1, if_neg (by decide), en_cl hX.x.o, r1, c2s]
  refine ⟨σ1, σ2, _, r2, ?_, RR_th hX hM ok hx t2⟩
  rw [ev_X7_doubles, en_cl hM.mo.o, m_isLeg hM1.mc h10, c1s, e1, if_neg (by decide), en_cl hM.mo.o, s1, c0s]
  exact s2
end TH
