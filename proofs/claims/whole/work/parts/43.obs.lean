/-! ===== the dullest, all sharp, the draws ===== -/
def q_dull (L : Nat → Nat → Nat) : Nat → Nat
  | 0 => 0
  | k + 1 => if L k 2 < L (q_dull L k) 2 then k else q_dull L k
def q_sum (L : Nat → Nat → Nat) : Nat → Nat
  | 0 => 0
  | k + 1 => q_sum L k + L k 2
def q_dbl (L : Nat → Nat → Nat) : Nat → Int32
  | 0 => 0
  | k + 1 => if L k 3 = 0 then q_dbl L k else q_dbl L k ||| (1 <<< (nI k &&& 31))
/-- a draw: the new z, and what it gives -/
theorem q_zE : ∃ f : Int32 → Int32, ∀ z, f z = z * 1103515245 + 12345 := ⟨fun z => z * 1103515245 + 12345, fun _ => rfl⟩
noncomputable def q_z : Int32 → Int32 := Classical.choose q_zE
theorem q_z_eq (z : Int32) : z * 1103515245 + 12345 = q_z z := (Classical.choose_spec q_zE z).symm
def q_dr (z : Int32) : Nat := z.toBitVec.toNat / 256
theorem q_dr_lt (z : Int32) : q_dr z < 2 ^ 24 := by
  have := z.toBitVec.isLt
  unfold q_dr
  omega
theorem q_us (z : Int32) : mx_us z 8 = nI (q_dr z) := by
  have h := pk_ushr z 8 8 (by decide)
  have h2 : (mx_us z 8).toBitVec.toNat = q_dr z := h
  have h3 : (nI (q_dr z)).toBitVec.toNat = q_dr z := pk_tn (by have := q_dr_lt z; omega)
  have h4 : (mx_us z 8).toBitVec = (nI (q_dr z)).toBitVec := BitVec.eq_of_toNat_eq (by rw [h2, h3])
  exact Int32.toBitVec_inj.mp h4
theorem q_rm {a b : Nat} (ha : a < 2 ^ 31) (h0 : 0 < b) (hb : b < 2 ^ 31) {y : Int32} (hy : y = nI b) : mx_rm (nI a) y = nI (a % b) := by
  subst hy
  exact pk_rem ha h0 hb
theorem q_dull_s (L : Nat → Nat → Nat) (k : Nat) : q_dull L (k + 1) = if L k 2 < L (q_dull L k) 2 then k else q_dull L k := rfl
theorem q_dbl_s (L : Nat → Nat → Nat) (k : Nat) : q_dbl L (k + 1) = if L k 3 = 0 then q_dbl L k else q_dbl L k ||| (1 <<< (nI k &&& 31)) := rfl
theorem q_dull_1 (L : Nat → Nat → Nat) : q_dull L 1 = 0 := by simp [q_dull]
theorem q_dull_lt {L : Nat → Nat → Nat} : ∀ {n : Nat}, 0 < n → q_dull L n < n
  | 0, h => absurd h (by omega)
  | 1, _ => by simp [q_dull]
  | n + 2, _ => by
    have := q_dull_lt (L := L) (n := n + 1) (by omega)
    unfold q_dull
    split <;> omega
theorem q_sum_le {L : Nat → Nat → Nat} : ∀ {n : Nat}, (∀ i, i < n → q_leg (L i)) → q_sum L n ≤ 99 * n
  | 0, _ => by simp [q_sum]
  | n + 1, h => by
    have h1 := q_sum_le (L := L) (n := n) (fun i hi => h i (by omega))
    have h2 := (h n (by omega)).2.2.1
    unfold q_sum
    omega
section CL2
variable {S : List en_S} {σ : Nat → Nat → Int32} {cb d n : Nat} {xs : List Int32} {L : Nat → Nat → Nat}
theorem cl_draw (hS : isCl S cb) : mx_ev xs mx_P (d + 1) 24 [.ref cb] (en S σ) = some (some (.int (nI (q_dr (q_z (σ cb 10))))), en S (en_up σ cb 10 (q_z (σ cb 10)))) := by
  rw [ev_X0_draw, en_gi hS.1 rfl, en_pt hS.1 rfl, en_gi hS.1 rfl, en_up_s, ri0, q_z_eq, q_us]
theorem cl_dull_loop (hS : isCl S cb) (h10 : n ≤ 10) (hn : σ cb 1 = nI n) (hq : q_legs σ cb n L) (hL : ∀ i, i < n → q_leg (L i)) : ∀ (m i N : Nat), i + m = n → 0 < i → m < N → mx_rn xs (mx_ev xs mx_P d) kk_X0_dullest N 4 [(0, .ref cb), (1, .int (nI (q_dull L i))), (2, .int (nI i))] [] (en S σ) = some (some (.int (nI (q_dull L n))), en S σ)
  | m, i, 0, _, _, h2 => absurd h2 (by omega)
  | 0, i, N + 1, h1, _, _ => by
    rw [rn_X0_dullest_4, en_gi hS.1 rfl, hn, if_pos (by rw [show i = n by omega]; exact Int32.le_refl _), show i = n by omega]
    rfl
  | m + 1, i, N + 1, h1, h0, h2 => by
    have hi : i < n := by omega
    have hb : q_dull L i < i := q_dull_lt h0
    have hb2 : q_dull L i < n := by omega
    have k1 := (hL i hi).2.2.1
    have k2 := (hL _ hb2).2.2.1
    rw [rn_X0_dullest_4, en_gi hS.1 rfl, hn, if_neg (nI_ge hi (by omega)), en_gr hS.1 rfl, cl_aa hS (by omega), en_gi (hS.2.2.2.2.2.2.2 i (by omega)) rfl, en_gr hS.1 rfl, cl_aa hS (by omega), en_gi (hS.2.2.2.2.2.2.2 _ (by omega)) rfl, hq i hi 2 (by decide), hq _ hb2 2 (by decide), nI_1]
    have ih := cl_dull_loop hS h10 hn hq hL m (i + 1) N (by omega) (by omega) (by omega)
    rw [q_dull_s] at ih
    by_cases e : L (q_dull L i) 2 ≤ L i 2
    · rw [if_pos ((nI_leI (by omega) (by omega)).mpr e)]
      rw [if_neg (by omega)] at ih
      exact ih
    · rw [if_neg (fun h => e ((nI_leI (by omega) (by omega)).mp h))]
      rw [if_pos (by omega)] at ih
      exact ih
theorem cl_dullest (hS : isCl S cb) (h0 : 0 < n) (h10 : n ≤ 10) (hn : σ cb 1 = nI n) (hq : q_legs σ cb n L) (hL : ∀ i, i < n → q_leg (L i)) : mx_ev xs mx_P (d + 1) 35 [.ref cb] (en S σ) = some (some (.int (nI (q_dull L n))), en S σ) := by
  rw [ev_X0_dullest]
  have h := cl_dull_loop (xs := xs) (d := d) hS h10 hn hq hL (n - 1) 1 99999 (by omega) (by omega) (by omega)
  rw [q_dull_1] at h
  exact h
theorem cl_sum_loop (hS : isCl S cb) (h10 : n ≤ 10) (hn : σ cb 1 = nI n) (hq : q_legs σ cb n L) : ∀ (m i N : Nat), i + m = n → m < N → mx_rn xs (mx_ev xs mx_P d) kk_X0_sharpOfAll N 4 [(0, .ref cb), (1, .int (nI (q_sum L i))), (2, .int (nI i))] [] (en S σ) = some (some (.int (nI (q_sum L n))), en S σ)
  | m, i, 0, _, h2 => absurd h2 (by omega)
  | 0, i, N + 1, h1, _ => by
    rw [rn_X0_sharpOfAll_4, en_gi hS.1 rfl, hn, if_pos (by rw [show i = n by omega]; exact Int32.le_refl _), show i = n by omega]
    rfl
  | m + 1, i, N + 1, h1, h2 => by
    have hi : i < n := by omega
    rw [rn_X0_sharpOfAll_4, en_gi hS.1 rfl, hn, if_neg (nI_ge hi (by omega)), en_gr hS.1 rfl, cl_aa hS (by omega), en_gi (hS.2.2.2.2.2.2.2 i (by omega)) rfl, hq i hi 2 (by decide), nI_1, nI_add]
    exact cl_sum_loop hS h10 hn hq m (i + 1) N (by omega) (by omega)
theorem cl_sharpOfAll (hS : isCl S cb) (h10 : n ≤ 10) (hn : σ cb 1 = nI n) (hq : q_legs σ cb n L) : mx_ev xs mx_P (d + 1) 36 [.ref cb] (en S σ) = some (some (.int (nI (q_sum L n))), en S σ) := by
  rw [ev_X0_sharpOfAll]
  exact cl_sum_loop hS h10 hn hq n 0 99999 (by omega) (by omega)
theorem cl_dbl_loop (hS : isCl S cb) (h10 : n ≤ 10) (hn : σ cb 1 = nI n) (hq : q_legs σ cb n L) (hL : ∀ i, i < n → q_leg (L i)) : ∀ (m i N : Nat), i + m = n → m < N → mx_rn xs (mx_ev xs mx_P d) kk_X0_doubled N 4 [(0, .ref cb), (1, .int (q_dbl L i)), (2, .int (nI i))] [] (en S σ) = some (some (.int (q_dbl L n)), en S σ)
  | m, i, 0, _, h2 => absurd h2 (by omega)
  | 0, i, N + 1, h1, _ => by
    rw [rn_X0_doubled_4, en_gi hS.1 rfl, hn, if_pos (by rw [show i = n by omega]; exact Int32.le_refl _), show i = n by omega]
    rfl
  | m + 1, i, N + 1, h1, h2 => by
    have hi : i < n := by omega
    have k1 := (hL i hi).2.2.2.1
    rw [rn_X0_doubled_4, en_gi hS.1 rfl, hn, if_neg (nI_ge hi (by omega)), en_gr hS.1 rfl, cl_aa hS (by omega), en_gi (hS.2.2.2.2.2.2.2 i (by omega)) rfl, hq i hi 3 (by decide), nI_1]
    have ih := cl_dbl_loop hS h10 hn hq hL m (i + 1) N (by omega) (by omega)
    rw [q_dbl_s] at ih
    by_cases e : L i 3 = 0
    · rw [e, if_pos (by decide)]
      rw [if_pos e] at ih
      exact ih
    · rw [if_neg (nI_nle (by omega) (by omega))]
      rw [if_neg e] at ih
      exact ih
theorem cl_doubled (hS : isCl S cb) (h10 : n ≤ 10) (hn : σ cb 1 = nI n) (hq : q_legs σ cb n L) (hL : ∀ i, i < n → q_leg (L i)) : mx_ev xs mx_P (d + 1) 37 [.ref cb] (en S σ) = some (some (.int (q_dbl L n)), en S σ) := by
  rw [ev_X0_doubled]
  exact cl_dbl_loop hS h10 hn hq hL n 0 99999 (by omega) (by omega)
end CL2
section MO2
variable {S : List en_S} {σ : Nat → Nat → Int32} {d n : Nat} {xs : List Int32} {L : Nat → Nat → Nat}
theorem m_draw (hM : isMo S) : mx_ev xs mx_P (d + 1) 157 [.ref 90] (en S σ) = some (some (.int (nI (q_dr (q_z (σ 91 0))))), en S (en_up σ 91 0 (q_z (σ 91 0)))) := by
  rw [ev_X7_draw, en_gr hM.o rfl, en_gr hM.o rfl, show (0 : Int32) = nI 0 from rfl, en_aiN hM.w (by decide) (by decide), en_asN hM.w (by decide) (by decide), en_gr hM.o rfl, en_aiN hM.w (by decide) (by decide), en_up_s, ri0, q_z_eq, q_us]
theorem m_dull_loop (hM : isMo S) (h10 : n ≤ 10) (hn : σ 91 1 = nI n) (hq : mLegs σ n L) (hL : ∀ i, i < n → q_leg (L i)) : ∀ (m i N : Nat), i + m = n → 0 < i → m < N → mx_rn xs (mx_ev xs mx_P (d + 1)) kk_X7_dullest N 4 [(0, .ref 90), (1, .int (nI (q_dull L i))), (2, .int (nI i))] [] (en S σ) = some (some (.int (nI (q_dull L n))), en S σ)
  | m, i, 0, _, _, h2 => absurd h2 (by omega)
  | 0, i, N + 1, h1, _, _ => by
    rw [rn_X7_dullest_4, en_gr hM.o rfl, show (1 : Int32) = nI 1 from rfl, en_aiN hM.w (by decide) (by decide), hn, if_pos (by rw [show i = n by omega]; exact Int32.le_refl _), show i = n by omega]
    rfl
  | m + 1, i, N + 1, h1, h0, h2 => by
    have hi : i < n := by omega
    have hb : q_dull L i < i := q_dull_lt h0
    have hb2 : q_dull L i < n := by omega
    have k1 := (hL i hi).2.2.1
    have k2 := (hL _ hb2).2.2.1
    rw [rn_X7_dullest_4, en_gr hM.o rfl, show (1 : Int32) = nI 1 from rfl, en_aiN hM.w (by decide) (by decide), hn, if_neg (nI_ge hi (by omega)), if_neg (nI_pos (by omega)), en_cl hM.o, m_of (w := 2) (j := 2) hM (by omega) (by decide) rfl, c1s, en_cl hM.o, m_of (w := 2) (j := 2) hM (by omega) (by decide) rfl, c1s, hq i hi 2 (by decide), hq _ hb2 2 (by decide), nI_add]
    have ih := m_dull_loop hM h10 hn hq hL m (i + 1) N (by omega) (by omega) (by omega)
    rw [q_dull_s] at ih
    by_cases e : L (q_dull L i) 2 ≤ L i 2
    · rw [if_pos ((nI_leI (by omega) (by omega)).mpr e)]
      rw [if_neg (by omega)] at ih
      exact ih
    · rw [if_neg (fun h => e ((nI_leI (by omega) (by omega)).mp h))]
      rw [if_pos (by omega)] at ih
      exact ih
theorem m_dullest (hM : isMo S) (h0 : 0 < n) (h10 : n ≤ 10) (hn : σ 91 1 = nI n) (hq : mLegs σ n L) (hL : ∀ i, i < n → q_leg (L i)) : mx_ev xs mx_P (d + 2) 160 [.ref 90] (en S σ) = some (some (.int (nI (q_dull L n))), en S σ) := by
  rw [ev_X7_dullest, show (99999 : Nat) = 99998 + 1 from rfl, rn_X7_dullest_4, en_gr hM.o rfl, show (1 : Int32) = nI 1 from rfl, en_aiN hM.w (by decide) (by decide), hn, if_neg (by exact nI_ge (a := 0) h0 (by omega)), if_pos (by decide)]
  have h := m_dull_loop (xs := xs) (d := d) hM h10 hn hq hL (n - 1) 1 99998 (by omega) (by omega) (by omega)
  rw [q_dull_1] at h
  exact h
theorem m_dullest0 (hM : isMo S) (hn : σ 91 1 = 0) : mx_ev xs mx_P (d + 2) 160 [.ref 90] (en S σ) = some (some (.int (-1)), en S σ) := by
  rw [ev_X7_dullest, show (99999 : Nat) = 99998 + 1 from rfl, rn_X7_dullest_4, en_gr hM.o rfl, show (1 : Int32) = nI 1 from rfl, en_aiN hM.w (by decide) (by decide), hn, if_pos (by decide)]
  rfl
theorem m_sum_loop (hM : isMo S) (h10 : n ≤ 10) (hn : σ 91 1 = nI n) (hq : mLegs σ n L) : ∀ (m i N : Nat), i + m = n → m < N → mx_rn xs (mx_ev xs mx_P (d + 1)) kk_X7_allSharp N 4 [(0, .ref 90), (1, .int (nI (q_sum L i))), (2, .int (nI i))] [] (en S σ) = some (some (.int (nI (q_sum L n))), en S σ)
  | m, i, 0, _, h2 => absurd h2 (by omega)
  | 0, i, N + 1, h1, _ => by
    rw [rn_X7_allSharp_4, en_gr hM.o rfl, show (1 : Int32) = nI 1 from rfl, en_aiN hM.w (by decide) (by decide), hn, if_pos (by rw [show i = n by omega]; exact Int32.le_refl _), show i = n by omega]
    rfl
  | m + 1, i, N + 1, h1, h2 => by
    have hi : i < n := by omega
    rw [rn_X7_allSharp_4, en_gr hM.o rfl, show (1 : Int32) = nI 1 from rfl, en_aiN hM.w (by decide) (by decide), hn, if_neg (nI_ge hi (by omega)), en_cl hM.o, m_of (w := 2) (j := 2) hM (by omega) (by decide) rfl, c1s, hq i hi 2 (by decide), nI_add, nI_add]
    exact m_sum_loop hM h10 hn hq m (i + 1) N (by omega) (by omega)
theorem m_allSharp (hM : isMo S) (h10 : n ≤ 10) (hn : σ 91 1 = nI n) (hq : mLegs σ n L) : mx_ev xs mx_P (d + 2) 165 [.ref 90] (en S σ) = some (some (.int (nI (q_sum L n))), en S σ) := by
  rw [ev_X7_allSharp]
  exact m_sum_loop hM h10 hn hq n 0 99999 (by omega) (by omega)
end MO2
