/-! ===== words and names ===== -/
def q_ww : Nat → List Nat
  | 0 => [112, 114, 101, 115, 115]
  | 1 => [102, 101, 101]
  | 2 => [102, 105, 110, 101]
  | 3 => [104, 111, 107, 116]
  | 4 => [112, 116]
  | _ => [115, 107]
def q_fi (w : List Nat) (b : Nat) : Nat → Nat → Int32
  | 0, _ => -1
  | m + 1, i => if w.getD i 0 = b then nI i else q_fi w b m (i + 1)
theorem q_fi_s (w : List Nat) (b m i : Nat) : q_fi w b (m + 1) i = if w.getD i 0 = b then nI i else q_fi w b m (i + 1) := rfl
theorem q_fi_n {key b : Nat} (hk : key < 3) : q_fi (q_ww (3 + key)) b (q_ww (3 + key)).length 0 = if q_nm key b < 99 then nI (q_nm key b) else -1 := by
  rcases (show key = 0 ∨ key = 1 ∨ key = 2 by omega) with rfl | rfl | rfl
  · show (if 104 = b then nI 0 else if 111 = b then nI 1 else if 107 = b then nI 2 else if 116 = b then nI 3 else -1) = if q_nm 0 b < 99 then nI (q_nm 0 b) else -1
    by_cases c0 : b = 104
    · subst c0; rfl
    by_cases c1 : b = 111
    · subst c1; rfl
    by_cases c2 : b = 107
    · subst c2; rfl
    by_cases c3 : b = 116
    · subst c3; rfl
    have e : q_nm 0 b = 99 := by
      unfold q_nm
      rw [if_pos rfl, if_neg c0, if_neg c1, if_neg c2, if_neg c3]
    rw [if_neg (Ne.symm c0), if_neg (Ne.symm c1), if_neg (Ne.symm c2), if_neg (Ne.symm c3), e, if_neg (by decide)]
  · show (if 112 = b then nI 0 else if 116 = b then nI 1 else -1) = if q_nm 1 b < 99 then nI (q_nm 1 b) else -1
    by_cases c0 : b = 112
    · subst c0; rfl
    by_cases c1 : b = 116
    · subst c1; rfl
    have e : q_nm 1 b = 99 := by
      unfold q_nm
      rw [if_neg (by decide), if_pos rfl, if_neg c0, if_neg c1]
    rw [if_neg (Ne.symm c0), if_neg (Ne.symm c1), e, if_neg (by decide)]
  · show (if 115 = b then nI 0 else if 107 = b then nI 1 else -1) = if q_nm 2 b < 99 then nI (q_nm 2 b) else -1
    by_cases c0 : b = 115
    · subst c0; rfl
    by_cases c1 : b = 107
    · subst c1; rfl
    have e : q_nm 2 b = 99 := by
      unfold q_nm
      rw [if_neg (by decide), if_neg (by decide), if_neg c0, if_neg c1]
    rw [if_neg (Ne.symm c0), if_neg (Ne.symm c1), e, if_neg (by decide)]
def q_ew (tp : Nat → Nat) (s : Nat) (w : List Nat) : Nat → Nat → Bool
  | 0, _ => true
  | m + 1, i => decide (tp (s + i) = w.getD i 0) && q_ew tp s w m (i + 1)
theorem q_ew_s (tp : Nat → Nat) (s : Nat) (w : List Nat) (m i : Nat) : q_ew tp s w (m + 1) i = (decide (tp (s + i) = w.getD i 0) && q_ew tp s w m (i + 1)) := rfl
/-- whether a token is the word a -/
def q_iw (tp : Nat → Nat) (t : Nat × Nat × Nat) (a : Nat) : Bool := decide (t.1 = 1) && (decide (t.2.2 - t.2.1 = (q_ww a).length) && q_ew tp t.2.1 (q_ww a) (q_ww a).length 0)
/-- the key that a token is; 3: none -/
def q_ky (tp : Nat → Nat) (t : Nat × Nat × Nat) : Nat := if q_iw tp t 0 = true then 0 else if q_iw tp t 1 = true then 1 else if q_iw tp t 2 = true then 2 else 3
theorem q_i8 : ∀ b, b < 128 → (nI b).toInt8.toInt32 = nI b := by decide +kernel
theorem q_u16 : ∀ b, b < 256 → ((nI b).toUInt32 % 65536).toInt32 = nI b := by decide +kernel
theorem q_u16' : ∀ b, b < 256 → ((nI b &&& 255).toUInt32 % 65536).toInt32 = nI b := by decide +kernel
theorem q_ww_b {a i : Nat} : (q_ww a).getD i 0 < 128 := by
  unfold q_ww
  split <;> (rcases i with _ | _ | _ | _ | _ | i) <;> first | decide | (show (0 : Nat) < 128; decide)
section JW
variable {S : List en_S} {d n key na B : Nat} {xs : List Int32} {tp : Nat → Nat} {σ0 σ σ1 : Nat → Nat → Int32} {st cd : List Nat} {w : Bool} {cm : Nat → Bool} {t : Nat × Nat × Nat} {h : mx_H}
theorem j_ble {a : Nat} (ha : a < 6) : Nat.ble (a + 1) 6 = true := Nat.ble_eq_true_of_le (by omega)
theorem cn_w {a : Nat} (ha : a < 6) {f : Int32 → mx_R} : mx_cn xs (100 + a) f = f (nI (q_ww a).length) := by
  rcases (show a = 0 ∨ a = 1 ∨ a = 2 ∨ a = 3 ∨ a = 4 ∨ a = 5 by omega) with rfl | rfl | rfl | rfl | rfl | rfl <;> rfl
theorem q_ww_l {a : Nat} (ha : a < 6) : (q_ww a).length < 6 ∧ 0 < (q_ww a).length := by
  rcases (show a = 0 ∨ a = 1 ∨ a = 2 ∨ a = 3 ∨ a = 4 ∨ a = 5 by omega) with rfl | rfl | rfl | rfl | rfl | rfl <;> decide
theorem kt_w {a : Nat} (ha : a < 6) : mx_kt xs (100 + a) = some (7, (q_ww a).map nI) := by
  rcases (show a = 0 ∨ a = 1 ∨ a = 2 ∨ a = 3 ∨ a = 4 ∨ a = 5 by omega) with rfl | rfl | rfl | rfl | rfl | rfl <;> rfl
theorem ck_w {a i : Nat} (ha : a < 6) (hi : i < (q_ww a).length) {f : Int32 → mx_R} : mx_ck xs 7 (100 + a) (nI i) f = f (nI ((q_ww a).getD i 0)) := by
  have hl := q_ww_l ha
  unfold mx_ck
  rw [kt_w ha]
  show (if 7 = 7 ∧ ¬ (nI i < 0 ∨ ((q_ww a).map nI).length ≤ (nI i).toNatClampNeg) then _ else _) = _
  rw [if_pos ⟨rfl, by rw [List.length_map]; exact nI_in hi (by omega)⟩, nI_clamp (by omega)]
  congr 1
  simp [List.getD, List.getElem?_map, List.getElem?_eq_getElem hi]
theorem j_lat {a : Nat} (ha : a < 6) : mx_ev xs mx_P (d + 1) 12 [.retAddr a] h = some (some (.int 1), h) := by
  rw [ev_J0_isLatin1_aae02, if_neg (by decide), j_ble ha, cond_true, if_pos rfl, ri1_1]
theorem j_cod {a : Nat} (ha : a < 6) : mx_ev xs mx_P (d + 1) 11 [.retAddr a] h = some (some (.int 0), h) := by
  rw [ev_J0_coder_7d493, if_neg (by decide), j_ble ha, cond_true]
  rfl
theorem q_shr0 : ∀ b, b < 6 → nI b >>> ((0 : Int32) &&& 31) = nI b := by decide
theorem j_len {a : Nat} (ha : a < 6) : mx_ev xs mx_P (d + 2) 7 [.retAddr a] h = some (some (.int (nI (q_ww a).length)), h) := by
  rw [ev_J0_length_8abf5, j_ble ha, cond_true, cn_w ha, cond_true, j_cod ha, c1s, ri0, q_shr0 _ (q_ww_l ha).1]
theorem j_chk {i l : Nat} (hi : i < l) (hl : l < 100) : mx_ev xs mx_P (d + 2) 13 [.int (nI i), .int (nI l)] h = some (none, h) := by
  rw [ev_J0_checkIndex_df160, ev_J3_checkIndex_8e157, if_neg (nI_pos (by omega)), if_pos (nI_lt hi (by omega)), ri0, c1s, rv0]
theorem j_char {a i : Nat} (ha : a < 6) (hi : i < (q_ww a).length) : mx_ev xs mx_P (d + 4) 8 [.retAddr a, .int (nI i)] h = some (some (.int (nI ((q_ww a).getD i 0))), h) := by
  have hl := q_ww_l ha
  have hb : (q_ww a).getD i 0 < 128 := q_ww_b
  have r2 : ∀ b, b < 128 → mx_ri 2 [.int (nI b)] h = some (some (.int (nI b)), h) := fun b hb => by
    show (if ((nI b).toUInt32 % 65536).toInt32 = nI b then some (some (Value.int (nI b)), h) else none) = _
    rw [if_pos (q_u16 b (by omega))]
  rw [ev_J0_charAt_5068e, j_ble ha, cond_true, j_lat ha, c1s, if_neg (by decide), cond_true, ev_J1_charAt_3b067, cn_w ha, j_chk hi (by omega), c0s, ck_w ha hi, q_u16' _ (by omega), r2 _ hb, c1s, r2 _ hb]
theorem j_ixc {a b l : Nat} (ha : a < 6) (hb' : b < 128) (hl : l = (q_ww a).length) (call : Nat → List Value → mx_H → mx_R) : ∀ (m i N : Nat), i + m = l → m < N → mx_rn xs call kk_J1_indexOfChar_4cfef N 7 [(0, .retAddr (100 + a)), (3, .int (nI l)), (4, .int (nI b)), (5, .int (nI i))] [] h = some (some (.int (q_fi (q_ww a) b m i)), h)
  | m, i, 0, _, h2 => absurd h2 (by omega)
  | 0, i, N + 1, h1, _ => by
    have hw := q_ww_l ha
    rw [rn_J1_indexOfChar_4cfef_7, if_pos (nI_le (by omega) (by omega)), ri0]
    rfl
  | m + 1, i, N + 1, h1, h2 => by
    have hw := q_ww_l ha
    have hb : (q_ww a).getD i 0 < 128 := q_ww_b
    rw [rn_J1_indexOfChar_4cfef_7, if_neg (nI_ge (by omega) (by omega)), ck_w ha (by omega), nI_1, q_fi_s]
    by_cases c : (q_ww a).getD i 0 = b
    · rw [if_pos (by rw [c]), if_pos c, ri0]
    · rw [if_neg (fun x => c ((nI_eq (by omega) (by omega)).mp x)), if_neg c]
      exact j_ixc ha hb' hl call m (i + 1) N (by omega) (by omega)
theorem j_idx {b : Nat} (hk : key < 3) (hb : b < 128) : mx_ev xs mx_P (d + 5) 9 [.retAddr (3 + key), .int (nI b)] h = some (some (.int (if q_nm key b < 99 then nI (q_nm key b) else -1)), h) := by
  have ha : 3 + key < 6 := by omega
  have hw := q_ww_l ha
  have hmx : mx_ev xs mx_P (d + 2) 2 [.int 0, .int 0] h = some (some (.int 0), h) := q_max xs (d + 1) (a := 0) (b := 0) h (by decide) (by decide)
  have hmn : mx_ev xs mx_P (d + 2) 3 [.int (nI (q_ww (3 + key)).length), .int (nI (q_ww (3 + key)).length)] h = some (some (.int (nI (q_ww (3 + key)).length)), h) := by
    have := q_min xs (d + 1) (a := (q_ww (3 + key)).length) (b := (q_ww (3 + key)).length) h (by omega) (by omega)
    rw [Nat.min_self] at this
    exact this
  have hcan : mx_ev xs mx_P (d + 2) 15 [.int (nI b)] h = some (some (.int 1), h) := by
    rw [ev_J1_canEncode_9a6ad, if_neg (nI_pos (by omega)), if_neg (by exact nI_nlt (a := 255) (by omega) (by decide)), ri1_1]
  have hix : mx_ev xs mx_P (d + 2) 17 [.retAddr (100 + (3 + key)), .int (nI b), .int 0, .int (nI (q_ww (3 + key)).length)] h = some (some (.int (q_fi (q_ww (3 + key)) b (q_ww (3 + key)).length 0)), h) := by
    rw [ev_J1_indexOfChar_4cfef, q_i8 b hb]
    exact j_ixc ha hb rfl _ (q_ww (3 + key)).length 0 99999 (by omega) (by omega)
  rw [ev_J0_indexOf_0f7a4, j_ble ha, cond_true, ev_J0_indexOf_7cf53, j_ble ha, cond_true, j_lat ha, c1s, if_neg (by decide), cond_true, cond_true, j_len ha, c1s, ev_J1_indexOf_4cfef, hcan, c1s, if_neg (by decide), hmx, c1s, cn_w ha, hmn, c1s, if_pos (by exact nI_lt (a := 0) hw.2 (by omega)), hix, c1s, ri0, c1s, ri0, c1s, ri0, q_fi_n hk]
theorem x_names (hR : isRd S) (hk : key < 3) (h13 : σ 54 13 = nI key) : mx_ev xs mx_P (d + 1) 61 [.ref 54] (en S σ) = some (some (.retAddr (3 + key)), en S σ) := by
  rw [ev_X2_namesOfKey, rdg13 hR, h13]
  rcases (show key = 0 ∨ key = 1 ∨ key = 2 by omega) with rfl | rfl | rfl
  · rfl
  · rfl
  · rfl
theorem c4s (x : Nat) (h : mx_H) (f : Nat → mx_H → mx_R) : mx_c4 (some (some (.retAddr x), h)) f = f x h := rfl
/-- a word where a piece is wanted -/
theorem x_nmA (hR : isRd S) (h : XP tp n key σ0 σ true st cd na cm t) (pi : PI B tp n true st cd na t) (hk : key < 3) (ht : t.1 = 1) : mx_ev xs mx_P (d + 7) 58 [.ref 54] (en S σ) = (mx_c1 (if nI (t.2.2 - t.2.1) = 1 then if 0 ≤ (if q_nm key (tp t.2.1) < 99 then nI (q_nm key (tp t.2.1)) else -1) then mx_cl (en S σ) 54 2 (mx_c0 (mx_ev xs mx_P (d + 5) 63 [.ref 54, .int (10000 + (if q_nm key (tp t.2.1) < 99 then nI (q_nm key (tp t.2.1)) else -1))] (en S σ)) (fun h10 => mx_ri 1 [.int 1] h10)) else mx_ri 1 [.int 0] (en S σ) else mx_ri 1 [.int 0] (en S σ)) (fun x3 h2 => mx_ri 1 [.int x3] h2)) := by
  have h1 := pi.lt (by omega)
  have h3 := pi.n
  have tk := pi.tk
  have hd := tk.2.2.2.2.2.1 ht t.2.1 (Nat.le_refl _) (tk.2.2.2.2.1 (by omega))
  have es : nI t.2.2 - nI t.2.1 = nI (t.2.2 - t.2.1) := pk_sub tk.1
  rw [ev_X2_takesPiece, rdg2 hR, h.tk, ht, if_pos (by decide), rdcl hR, ev_X2_takesName, rdcl hR, x_names hR hk h.ky, c4s, rdr0 hR, rdg3 hR, h.s, rdb53 hR (by omega), h.bt _ h1, j_ble (by omega), cond_true, q_u16 _ (by omega), j_idx hk (by omega), c1s, rdg4 hR, rdg3 hR, h.e, h.s, es]
theorem x_tName (hR : isRd S) (h : XP tp n key σ0 σ true st cd na cm t) (pi : PI (q_B key) tp n true st cd na t) (hk : key < 3) (ht : t.1 = 1) (hl : t.2.2 - t.2.1 = 1) (hq : q_nm key (tp t.2.1) < 99) : ∃ σ', mx_ev xs mx_P (d + 7) 58 [.ref 54] (en S σ) = some (some (.int 1), en S σ') ∧ XP tp n key σ0 σ' false (q_nt st ((10000 + q_nm key (tp t.2.1)) :: cd)).1 (q_nt st ((10000 + q_nm key (tp t.2.1)) :: cd)).2 (na + 1) cm t := by
  have hB : q_nm key (tp t.2.1) < q_B key := by
    rcases q_nm_c key (tp t.2.1) with x | x
    · omega
    · exact x
  have hRD : q_RD (q_B key) ((10000 + q_nm key (tp t.2.1)) :: cd) (q_cb st + 1) := by
    have := q_cb_le st
    have := pi.ln
    have := pi.n
    have := pi.lt (by omega)
    exact Or.inl ⟨by omega, by omega, by omega, pi.rd⟩
  obtain ⟨σ', r1, r2⟩ := x_leaf' (d := d + 2) (xs := xs) hR h pi (by omega) (c := 10000 + q_nm key (tp t.2.1)) (by omega) (q_nt_ok st _ pi.sy pi.j hRD).2.2.2.2.1
  refine ⟨σ', ?_, r2⟩
  rw [x_nmA hR h pi hk ht, hl, if_pos hq, if_pos (by decide), if_pos (by exact nI_le (a := 0) (by omega) (by omega)), rdcl hR, show (10000 : Int32) = nI 10000 from rfl, nI_add, r1, c0s, ri1_1, c1s, ri1_1]
theorem x_fName (hR : isRd S) (h : XP tp n key σ0 σ true st cd na cm t) (pi : PI B tp n true st cd na t) (hk : key < 3) (ht : t.1 = 1) (hq : ¬ (t.2.2 - t.2.1 = 1 ∧ q_nm key (tp t.2.1) < 99)) : mx_ev xs mx_P (d + 7) 58 [.ref 54] (en S σ) = some (some (.int 0), en S σ) := by
  have h3 := pi.n
  have tk := pi.tk
  have h4 := tk.2.1
  rw [x_nmA hR h pi hk ht]
  by_cases c1 : t.2.2 - t.2.1 = 1
  · rw [c1, if_pos (by decide), if_neg (fun x => hq ⟨c1, x⟩), if_neg (by decide), ri1_0, c1s, ri1_0]
  · rw [if_neg (nI_nel (y := 1) (b := 1) rfl (by omega) (by decide) c1), ri1_0, c1s, ri1_0]
theorem x_iw_loop (hR : isRd S) {a : Nat} (ha : a < 6) (hb : ∀ k, k < n → tp k < 256) (hn : n ≤ 96) {s : Nat} (hs : s + (q_ww a).length ≤ n) (ht : ∀ k, k < n → σ 53 k = nI (tp k)) (h3 : σ 54 3 = nI s) : ∀ (m i N : Nat), i + m = (q_ww a).length → m < N → mx_rn xs (mx_ev xs mx_P (d + 4)) kk_X2_isWord N 28 [(0, .ref 54), (1, .retAddr a), (2, .int (nI i))] [] (en S σ) = some (some (.int (if q_ew tp s (q_ww a) m i = true then 1 else 0)), en S σ)
  | m, i, 0, _, h2 => absurd h2 (by omega)
  | 0, i, N + 1, h1, _ => by
    have hw := q_ww_l ha
    rw [rn_X2_isWord_28, j_ble ha, cond_true, j_len ha, c1s, if_pos (nI_le (by omega) (by omega)), ri1_1]
    rfl
  | m + 1, i, N + 1, h1, h2 => by
    have hw := q_ww_l ha
    have hq : (q_ww a).getD i 0 < 128 := q_ww_b
    have hbi := hb (s + i) (by omega)
    rw [rn_X2_isWord_28, j_ble ha, cond_true, j_len ha, c1s, if_neg (nI_ge (by omega) (by omega)), rdr0 hR, rdg3 hR, h3, nI_add, rdb53 hR (by omega), ht _ (by omega), cond_true, j_char ha (by omega), c1s, nI_1, q_ew_s]
    by_cases c : tp (s + i) = (q_ww a).getD i 0
    · rw [if_pos (by rw [c]), decide_eq_true c, Bool.true_and]
      exact x_iw_loop hR ha hb hn hs ht h3 m (i + 1) N (by omega) (by omega)
    · rw [if_neg (fun x => c ((nI_eq (by omega) (by omega)).mp x)), decide_eq_false c, Bool.false_and, ri1_0]
      rfl
theorem x_iw (hR : isRd S) {a : Nat} (ha : a < 6) (hb : ∀ k, k < n → tp k < 256) (hn : n ≤ 96) (tk : q_tok tp n t) (ht : ∀ k, k < n → σ 53 k = nI (tp k)) (h2 : σ 54 2 = nI t.1) (h3 : σ 54 3 = nI t.2.1) (h4 : σ 54 4 = nI t.2.2) : mx_ev xs mx_P (d + 5) 57 [.ref 54, .retAddr a] (en S σ) = some (some (.int (if q_iw tp t a = true then 1 else 0)), en S σ) := by
  have hw := q_ww_l ha
  have k1 := tk.1
  have k2 := tk.2.1
  have k3 := tk.2.2.1
  have es : nI t.2.2 - nI t.2.1 = nI (t.2.2 - t.2.1) := pk_sub k1
  unfold q_iw
  rw [ev_X2_isWord, rdg2 hR, h2]
  by_cases c1 : t.1 = 1
  · rw [if_pos (by rw [c1]; rfl), rdg4 hR, rdg3 hR, h3, h4, es, j_ble ha, cond_true, j_len ha, c1s, decide_eq_true c1, Bool.true_and]
    by_cases c2 : t.2.2 - t.2.1 = (q_ww a).length
    · rw [if_pos (by rw [c2]), decide_eq_true c2, Bool.true_and]
      exact x_iw_loop hR ha hb hn (by omega) ht h3 (q_ww a).length 0 99999 (by omega) (by omega)
    · rw [if_neg (fun x => c2 ((nI_eq (by omega) (by omega)).mp x)), decide_eq_false c2, Bool.false_and, ri1_0]
      rfl
  · rw [if_neg (nI_nel (y := 1) (b := 1) rfl (by omega) (by decide) c1), decide_eq_false c1, Bool.false_and, ri1_0]
    rfl
theorem x_key (hR : isRd S) (hb : ∀ k, k < n → tp k < 256) (hn : n ≤ 96) (tk : q_tok tp n t) (ht : ∀ k, k < n → σ 53 k = nI (tp k)) (h2 : σ 54 2 = nI t.1) (h3 : σ 54 3 = nI t.2.1) (h4 : σ 54 4 = nI t.2.2) : mx_ev xs mx_P (d + 6) 56 [.ref 54] (en S σ) = some (some (.int (if q_ky tp t = 3 then -1 else nI (q_ky tp t))), en S σ) := by
  rw [ev_X2_keyOfWord, rdcl hR, x_iw hR (a := 0) (by omega) hb hn tk ht h2 h3 h4, c1s]
  unfold q_ky
  cases q_iw tp t 0 with
  | true => rfl
  | false =>
    rw [if_pos (show (if (false : Bool) = true then (1 : Int32) else 0) = 0 from rfl), rdcl hR, x_iw hR (a := 1) (by omega) hb hn tk ht h2 h3 h4, c1s]
    cases q_iw tp t 1 with
    | true => rfl
    | false =>
      rw [if_pos (show (if (false : Bool) = true then (1 : Int32) else 0) = 0 from rfl), rdcl hR, x_iw hR (a := 2) (by omega) hb hn tk ht h2 h3 h4, c1s]
      cases q_iw tp t 2 with
      | true => rfl
      | false => rfl
end JW
