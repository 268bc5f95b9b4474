/-! ===== the class's parser: what it takes ===== -/
def XP (tp : Nat → Nat) (n key : Nat) (σ0 σ : Nat → Nat → Int32) (w : Bool) (st cd : List Nat) (na : Nat) (cm : Nat → Bool) (t : Nat × Nat × Nat) : Prop := (σ 54 1 = nI n) ∧ (∀ k, k < n → σ 53 k = nI (tp k)) ∧ (σ 54 2 = nI t.1) ∧ (σ 54 3 = nI t.2.1) ∧ (σ 54 4 = nI t.2.2) ∧ (XU σ σ st cd) ∧ (σ 54 10 = nI (q_cn 20011 st)) ∧ (σ 54 12 = if w = true then 1 else 0) ∧ (σ 54 13 = nI key) ∧ (σ 54 14 = nI na) ∧ (∀ i, i ≤ q_cn 20011 st → σ 58 i = if cm i = true then 1 else 0) ∧ (∀ b, b ≠ 54 → b ≠ 56 → b ≠ 57 → b ≠ 58 → σ b = σ0 b)
theorem XP.ln {tp : Nat → Nat} {n key : Nat} {σ0 σ : Nat → Nat → Int32} {w : Bool} {st cd : List Nat} {na : Nat} {cm : Nat → Bool} {t : Nat × Nat × Nat} (h : XP tp n key σ0 σ w st cd na cm t) : σ 54 1 = nI n := h.1
theorem XP.bt {tp : Nat → Nat} {n key : Nat} {σ0 σ : Nat → Nat → Int32} {w : Bool} {st cd : List Nat} {na : Nat} {cm : Nat → Bool} {t : Nat × Nat × Nat} (h : XP tp n key σ0 σ w st cd na cm t) : ∀ k, k < n → σ 53 k = nI (tp k) := h.2.1
theorem XP.tk {tp : Nat → Nat} {n key : Nat} {σ0 σ : Nat → Nat → Int32} {w : Bool} {st cd : List Nat} {na : Nat} {cm : Nat → Bool} {t : Nat × Nat × Nat} (h : XP tp n key σ0 σ w st cd na cm t) : σ 54 2 = nI t.1 := h.2.2.1
theorem XP.s {tp : Nat → Nat} {n key : Nat} {σ0 σ : Nat → Nat → Int32} {w : Bool} {st cd : List Nat} {na : Nat} {cm : Nat → Bool} {t : Nat × Nat × Nat} (h : XP tp n key σ0 σ w st cd na cm t) : σ 54 3 = nI t.2.1 := h.2.2.2.1
theorem XP.e {tp : Nat → Nat} {n key : Nat} {σ0 σ : Nat → Nat → Int32} {w : Bool} {st cd : List Nat} {na : Nat} {cm : Nat → Bool} {t : Nat × Nat × Nat} (h : XP tp n key σ0 σ w st cd na cm t) : σ 54 4 = nI t.2.2 := h.2.2.2.2.1
theorem XP.u {tp : Nat → Nat} {n key : Nat} {σ0 σ : Nat → Nat → Int32} {w : Bool} {st cd : List Nat} {na : Nat} {cm : Nat → Bool} {t : Nat × Nat × Nat} (h : XP tp n key σ0 σ w st cd na cm t) : XU σ σ st cd := h.2.2.2.2.2.1
theorem XP.op {tp : Nat → Nat} {n key : Nat} {σ0 σ : Nat → Nat → Int32} {w : Bool} {st cd : List Nat} {na : Nat} {cm : Nat → Bool} {t : Nat × Nat × Nat} (h : XP tp n key σ0 σ w st cd na cm t) : σ 54 10 = nI (q_cn 20011 st) := h.2.2.2.2.2.2.1
theorem XP.w {tp : Nat → Nat} {n key : Nat} {σ0 σ : Nat → Nat → Int32} {w : Bool} {st cd : List Nat} {na : Nat} {cm : Nat → Bool} {t : Nat × Nat × Nat} (h : XP tp n key σ0 σ w st cd na cm t) : σ 54 12 = if w = true then 1 else 0 := h.2.2.2.2.2.2.2.1
theorem XP.ky {tp : Nat → Nat} {n key : Nat} {σ0 σ : Nat → Nat → Int32} {w : Bool} {st cd : List Nat} {na : Nat} {cm : Nat → Bool} {t : Nat × Nat × Nat} (h : XP tp n key σ0 σ w st cd na cm t) : σ 54 13 = nI key := h.2.2.2.2.2.2.2.2.1
theorem XP.na {tp : Nat → Nat} {n key : Nat} {σ0 σ : Nat → Nat → Int32} {w : Bool} {st cd : List Nat} {na : Nat} {cm : Nat → Bool} {t : Nat × Nat × Nat} (h : XP tp n key σ0 σ w st cd na cm t) : σ 54 14 = nI na := h.2.2.2.2.2.2.2.2.2.1
theorem XP.cm {tp : Nat → Nat} {n key : Nat} {σ0 σ : Nat → Nat → Int32} {w : Bool} {st cd : List Nat} {na : Nat} {cm : Nat → Bool} {t : Nat × Nat × Nat} (h : XP tp n key σ0 σ w st cd na cm t) : ∀ i, i ≤ q_cn 20011 st → σ 58 i = if cm i = true then 1 else 0 := h.2.2.2.2.2.2.2.2.2.2.1
theorem XP.f {tp : Nat → Nat} {n key : Nat} {σ0 σ : Nat → Nat → Int32} {w : Bool} {st cd : List Nat} {na : Nat} {cm : Nat → Bool} {t : Nat × Nat × Nat} (h : XP tp n key σ0 σ w st cd na cm t) : ∀ b, b ≠ 54 → b ≠ 56 → b ≠ 57 → b ≠ 58 → σ b = σ0 b := h.2.2.2.2.2.2.2.2.2.2.2
section XT
variable {S : List en_S} {d n key na B : Nat} {xs : List Int32} {tp : Nat → Nat} {σ0 σ σ1 : Nat → Nat → Int32} {st cd : List Nat} {w : Bool} {cm : Nat → Bool} {t : Nat × Nat × Nat}
theorem XU.own (h : XU σ0 σ st cd) {k : Nat} {v : Int32} (h6 : k ≠ 6) (h8 : k ≠ 8) (h11 : k ≠ 11) : XU (en_up σ0 54 k v) (en_up σ 54 k v) st cd := by
  refine ⟨by rw [en_up_k (Ne.symm h6)]; exact h.sc, by rw [en_up_k (Ne.symm h8)]; exact h.ph, q_PR_m h.st (fun i _ => by rw [en_up_a (by decide)]), q_PR_m h.cd (fun i _ => by rw [en_up_a (by decide)]), by rw [en_up_k (Ne.symm h11)]; exact h.nt, fun j k6 k8 k11 => ?_, fun b b1 b2 b3 => ?_⟩
  · by_cases e : j = k
    · subst e; rw [en_up_s, en_up_s]
    · rw [en_up_k e, en_up_k e]; exact h.o j k6 k8 k11
  · rw [show en_up σ 54 k v b = σ b by funext j; rw [en_up_a b1], show en_up σ0 54 k v b = σ0 b by funext j; rw [en_up_a b1]]
    exact h.f b b1 b2 b3
theorem XU.row (h : XU σ0 σ st cd) {k : Nat} {v : Int32} : XU (en_up σ0 58 k v) (en_up σ 58 k v) st cd := by
  refine ⟨by rw [en_up_a (by decide)]; exact h.sc, by rw [en_up_a (by decide)]; exact h.ph, q_PR_m h.st (fun i _ => by rw [en_up_a (by decide)]), q_PR_m h.cd (fun i _ => by rw [en_up_a (by decide)]), by rw [en_up_a (by decide)]; exact h.nt, fun j k6 k8 k11 => by rw [en_up_a (by decide), en_up_a (by decide)]; exact h.o j k6 k8 k11, fun b b1 b2 b3 => ?_⟩
  by_cases e : b = 58
  · subst e
    funext j
    rw [en_up_i, en_up_i, h.f 58 b1 b2 b3]
  · rw [show en_up σ 58 k v b = σ b by funext j; rw [en_up_a e], show en_up σ0 58 k v b = σ0 b by funext j; rw [en_up_a e]]
    exact h.f b b1 b2 b3
theorem XU.self (h : XU σ0 σ st cd) : XU σ σ st cd := ⟨h.sc, h.ph, h.st, h.cd, h.nt, fun _ _ _ _ => rfl, fun _ _ _ _ => rfl⟩
/-- out of a new pile and code, with one's own ints changed at 10, 12, 14 -/
theorem XP.mk (h : XP tp n key σ0 σ w st cd na cm t) {σa : Nat → Nat → Int32} {st' cd' : List Nat} {w' : Bool} {na' : Nat} {cm' : Nat → Bool} (hu : XU σa σ1 st' cd') (ho : ∀ k, k ≠ 10 → k ≠ 12 → k ≠ 14 → σa 54 k = σ 54 k) (hf : ∀ b, b ≠ 54 → b ≠ 58 → σa b = σ b) (h10 : σa 54 10 = nI (q_cn 20011 st')) (h12 : σa 54 12 = if w' = true then 1 else 0) (h14 : σa 54 14 = nI na') (hc : ∀ i, i ≤ q_cn 20011 st' → σa 58 i = if cm' i = true then 1 else 0) : XP tp n key σ0 σ1 w' st' cd' na' cm' t := by
  have o : ∀ k, k ≠ 6 → k ≠ 8 → k ≠ 11 → k ≠ 10 → k ≠ 12 → k ≠ 14 → σ1 54 k = σ 54 k := fun k a b c d e f => by rw [hu.o k a b c, ho k d e f]
  refine ⟨by rw [o 1 (by decide) (by decide) (by decide) (by decide) (by decide) (by decide)]; exact h.ln, fun k hk => by rw [hu.f 53 (by decide) (by decide) (by decide), hf 53 (by decide) (by decide)]; exact h.bt k hk, by rw [o 2 (by decide) (by decide) (by decide) (by decide) (by decide) (by decide)]; exact h.tk, by rw [o 3 (by decide) (by decide) (by decide) (by decide) (by decide) (by decide)]; exact h.s, by rw [o 4 (by decide) (by decide) (by decide) (by decide) (by decide) (by decide)]; exact h.e, hu.self, by rw [hu.o 10 (by decide) (by decide) (by decide)]; exact h10, by rw [hu.o 12 (by decide) (by decide) (by decide)]; exact h12, by rw [o 13 (by decide) (by decide) (by decide) (by decide) (by decide) (by decide)]; exact h.ky, by rw [hu.o 14 (by decide) (by decide) (by decide)]; exact h14, fun i hi => by rw [hu.f 58 (by decide) (by decide) (by decide)]; exact hc i hi, fun b b1 b2 b3 b4 => by rw [hu.f b b1 b2 b3, hf b b1 b4]; exact h.f b b1 b2 b3 b4⟩
/-- the next token -/
theorem XP.next (hR : isRd S) (hb : ∀ k, k < n → tp k < 256) (h : XP tp n key σ0 σ w st cd na cm t) (hn : n ≤ 96) (ht : q_tok tp n t) : ∃ σ', mx_ev xs mx_P (d + 2) 54 [.ref 54] (en S σ) = some (none, en S σ') ∧ XP tp n key σ0 σ' w st cd na cm (q_nx tp n t) := by
  obtain ⟨σ', r1, l1, l2, l3, l4, l5⟩ := x_next (d := d) (xs := xs) hR hn hb (σ := σ) h.bt h.ln (c := t.1) (e := t.2.2) ht.2.2.1 ht.2.1 h.tk h.e
  have o : ∀ k, k ≠ 2 → k ≠ 3 → k ≠ 4 → σ' 54 k = σ 54 k := l4
  refine ⟨σ', r1, by rw [o 1 (by decide) (by decide) (by decide)]; exact h.ln, fun k hk => by rw [l5 53 (by decide)]; exact h.bt k hk, l1, l2, l3, ⟨by rw [o 6 (by decide) (by decide) (by decide)]; exact h.u.sc, by rw [o 8 (by decide) (by decide) (by decide)]; exact h.u.ph, by rw [l5 57 (by decide)]; exact h.u.st, by rw [l5 56 (by decide)]; exact h.u.cd, by rw [o 11 (by decide) (by decide) (by decide)]; exact h.u.nt, fun _ _ _ _ => rfl, fun _ _ _ _ => rfl⟩, by rw [o 10 (by decide) (by decide) (by decide)]; exact h.op, by rw [o 12 (by decide) (by decide) (by decide)]; exact h.w, by rw [o 13 (by decide) (by decide) (by decide)]; exact h.ky, by rw [o 14 (by decide) (by decide) (by decide)]; exact h.na, fun i hi => by rw [l5 58 (by decide)]; exact h.cm i hi, fun b b1 b2 b3 b4 => by rw [l5 b b1]; exact h.f b b1 b2 b3 b4⟩
theorem q_ec_n {c : Nat} (hc : c < 20000) : q_ec c = nI c := by unfold q_ec; rw [if_pos hc]
theorem x_leaf' (hR : isRd S) (h : XP tp n key σ0 σ w st cd na cm t) (pi : PI B tp n w st cd na t) (ht : t.1 ≠ 0) {c : Nat} (hc : c < 20000) (hO : q_cn 20011 (q_nt st (c :: cd)).1 = q_cn 20011 st) : ∃ σ', mx_ev xs mx_P (d + 3) 63 [.ref 54, .int (nI c)] (en S σ) = some (none, en S σ') ∧ XP tp n key σ0 σ' false (q_nt st (c :: cd)).1 (q_nt st (c :: cd)).2 (na + 1) cm t := by
  have h1 := pi.lt ht
  have h2 := pi.ln
  have h3 := pi.n
  obtain ⟨σ', r1, r2⟩ := x_leaf (d := d) (xs := xs) hR (c := c) (na := na) (by omega) pi.sy h.u h.na
  rw [q_ec_n hc] at r1
  refine ⟨σ', r1, h.mk r2 (fun k k1 k2 k3 => by rw [en_up_k k2, en_up_k k3]) (fun b b1 _ => by funext j; rw [en_up_a b1, en_up_a b1]) (by rw [en_up_k (by decide), en_up_k (by decide), hO]; exact h.op) (by rw [en_up_s]; rfl) (by rw [en_up_k (by decide), en_up_s]) (fun i hi => ?_)⟩
  rw [en_up_a (by decide), en_up_a (by decide)]
  exact h.cm i (by rw [← hO]; exact hi)
theorem x_num_loop (hR : isRd S) (hn : n ≤ 96) {s e : Nat} (hse : s ≤ e) (hen : e ≤ n) (hd : ∀ k, s ≤ k → k < e → 48 ≤ tp k ∧ tp k ≤ 57) (ht : ∀ k, k < n → σ 53 k = nI (tp k)) (h4 : σ 54 4 = nI e) {v : mx_R} (hv : mx_c0 (mx_ev xs mx_P d 63 [.ref 54, .int (nI (q_nv tp s (e - s)))] (en S σ)) (fun h2 => mx_ri 1 [.int 1] h2) = v) : ∀ (m i N : Nat), i + m = e → s ≤ i → m < N → mx_rn xs (mx_ev xs mx_P d) kk_X2_takesNumber N 22 [(0, .ref 54), (1, .int (nI (q_nv tp s (i - s)))), (2, .int (nI i))] [] (en S σ) = v
  | m, i, 0, _, _, h => absurd h (by omega)
  | 0, i, N + 1, h1, _, _ => by
    have e1 : i = e := by omega
    subst e1
    rw [rn_X2_takesNumber_22, rdg4 hR, h4, if_pos (Int32.le_refl _), rdcl hR]
    exact hv
  | m + 1, i, N + 1, h1, h2, h3 => by
    have hd' := hd i h2 (by omega)
    have e1 : nI (q_nv tp s (i - s)) * 10 + nI (tp i) - 48 = nI (q_nv tp s (i + 1 - s)) := by
      rw [show i + 1 - s = (i - s) + 1 by omega, q_nv_s, show s + (i - s) = i by omega, show (10 : Int32) = nI 10 from rfl, show (48 : Int32) = nI 48 from rfl, pk_mul, nI_add, pk_sub (by omega)]
      congr 1
      omega
    rw [rn_X2_takesNumber_22, rdg4 hR, h4, if_neg (nI_ge (by omega) (by omega)), rdr0 hR, rdb53 hR (by omega), ht i (by omega), e1, nI_1]
    exact x_num_loop hR hn hse hen hd ht h4 hv m (i + 1) N (by omega) (by omega) (by omega)
theorem x_tNum (hR : isRd S) (h : XP tp n key σ0 σ true st cd na cm t) (pi : PI B tp n true st cd na t) (ht : t.1 = 2) (hl : t.2.2 - t.2.1 ≤ 4) : ∃ σ', mx_ev xs mx_P (d + 5) 58 [.ref 54] (en S σ) = some (some (.int 1), en S σ') ∧ XP tp n key σ0 σ' false (q_nt st (q_nv tp t.2.1 (t.2.2 - t.2.1) :: cd)).1 (q_nt st (q_nv tp t.2.1 (t.2.2 - t.2.1) :: cd)).2 (na + 1) cm t := by
  have tk := pi.tk
  have hd := tk.2.2.2.2.2.2 ht
  have h0 := tk.1
  have h1 := tk.2.1
  have h3 := pi.n
  have hlt : q_nv tp t.2.1 (t.2.2 - t.2.1) < 10000 := q_nv_lt (fun j a b => (hd j a (by omega)).2) hl
  have hB : q_RD B (q_nv tp t.2.1 (t.2.2 - t.2.1) :: cd) (q_cb st + 1) := by
    have := q_cb_le st
    have := pi.ln
    have := pi.lt (by omega)
    exact Or.inl ⟨by omega, by omega, by omega, pi.rd⟩
  obtain ⟨σ', r1, r2⟩ := x_leaf' (d := d) (xs := xs) hR h pi (by omega) (c := q_nv tp t.2.1 (t.2.2 - t.2.1)) (by omega) (q_nt_ok st _ pi.sy pi.j hB).2.2.2.2.1
  refine ⟨σ', ?_, r2⟩
  have es : nI t.2.2 - nI t.2.1 = nI (t.2.2 - t.2.1) := pk_sub h0
  have q := x_num_loop (xs := xs) (d := d + 3) hR h3 h0 h1 hd h.bt h.e (v := some (some (.int 1), en S σ')) (by rw [r1, c0s]; rfl) (t.2.2 - t.2.1) t.2.1 99999 (by omega) (by omega) (by omega)
  rw [Nat.sub_self] at q
  have q' : mx_rn xs (mx_ev xs mx_P (d + 3)) kk_X2_takesNumber 99999 22 [(0, .ref 54), (1, .int 0), (2, .int (nI t.2.1))] [] (en S σ) = some (some (.int 1), en S σ') := q
  rw [ev_X2_takesPiece, rdg2 hR, h.tk, ht, if_neg (by decide), if_pos (by decide), rdcl hR, ev_X2_takesNumber, rdg4 hR, rdg3 hR, h.e, h.s, es, if_pos (by exact nI_le (b := 4) hl (by decide)), rdg3 hR, h.s, q', c1s]
  rfl
theorem x_tOp (hR : isRd S) (h : XP tp n key σ0 σ true st cd na cm t) (pi : PI B tp n true st cd na t) (ht : t.1 = 3) (hb : tp t.2.1 = 40) (ho : q_cn 20011 st < 8) : ∃ σ', mx_ev xs mx_P (d + 3) 58 [.ref 54] (en S σ) = some (some (.int 1), en S σ') ∧ XP tp n key σ0 σ' true (20011 :: st) cd na (fun i => if i = q_cn 20011 st + 1 then false else cm i) t := by
  have h1 := pi.lt (by omega)
  have h2 := pi.ln
  have h3 := pi.n
  have hu := ((h.u.own (k := 10) (v := nI (q_cn 20011 st + 1)) (by decide) (by decide) (by decide)).row (k := q_cn 20011 st + 1) (v := vp_nar .boolean 0)).push (s := 20011) (by decide)
  refine ⟨_, ?_, h.mk hu (fun k k1 k2 k3 => by rw [en_up_a (by decide), en_up_k k1]) (fun b b1 b2 => by funext j; rw [en_up_a b2, en_up_a b1]) ?_ ?_ ?_ (fun i hi => ?_)⟩
  · rw [ev_X2_takesPiece, rdg2 hR, h.tk, ht, if_neg (by decide), if_neg (by decide), if_pos (by decide), rdcl hR, ev_X2_takesOpening, rdr0 hR, rdg3 hR, h.s, rdb53 hR (by omega), h.bt _ h1, hb, if_neg (by decide), if_pos (by decide), rdg10 hR, h.op, if_neg (by exact nI_ge (b := 8) ho (by decide)), rdg10 hR, h.op, nI_1, rdp10 hR, rdr9 hR, rdg10 hR, en_up_s, rds58 hR (by omega), rdcl hR, show nI 40 = q_pbI 20011 from rfl, x_put hR (L := st.length) (by omega) (by rw [en_up_a (by decide), en_up_k (by decide)]; exact h.u.ph), c0s]
    rfl
  · rw [en_up_a (by decide), en_up_s]
    show _ = nI ((if 20011 = 20011 then 1 else 0) + q_cn 20011 st)
    rw [if_pos rfl, Nat.add_comm]
  · rw [en_up_a (by decide), en_up_k (by decide)]
    exact h.w
  · rw [en_up_a (by decide), en_up_k (by decide)]
    exact h.na
  · have hi : i ≤ (if 20011 = 20011 then 1 else 0) + q_cn 20011 st := hi
    rw [if_pos rfl] at hi
    rw [en_up_i]
    show _ = if (if i = q_cn 20011 st + 1 then false else cm i) = true then 1 else 0
    by_cases e : i = q_cn 20011 st + 1
    · rw [if_pos ⟨rfl, e⟩, if_pos e]
      rfl
    · rw [if_neg (fun x => e x.2), if_neg e, en_up_a (by decide)]
      exact h.cm i (by omega)
theorem x_tNot (hR : isRd S) (h : XP tp n key σ0 σ true st cd na cm t) (pi : PI B tp n true st cd na t) (ht : t.1 = 3) (hb : tp t.2.1 = 33) (ho : q_cn 20010 st < 8) : ∃ σ', mx_ev xs mx_P (d + 3) 58 [.ref 54] (en S σ) = some (some (.int 1), en S σ') ∧ XP tp n key σ0 σ' true (20010 :: st) cd na cm t := by
  have h1 := pi.lt (by omega)
  have h2 := pi.ln
  have h3 := pi.n
  have hu : XU σ (en_up (en_up (en_up σ 54 11 (nI (q_cn 20010 st + 1))) 57 st.length (q_pbI 20010)) 54 8 (nI (st.length + 1))) (20010 :: st) cd := by
    refine ⟨by rw [en_up_k (by decide), en_up_a (by decide), en_up_k (by decide)]; exact h.u.sc, by rw [en_up_s, List.length_cons], ?_, ?_, ?_, fun k k6 k8 k11 => by rw [en_up_k k8, en_up_a (by decide), en_up_k k11], fun b b1 b2 b3 => by funext j; rw [en_up_a b1, en_up_a b3, en_up_a b1]⟩
    · refine q_PR_m (q_PR_i (σ := σ) (a := 57) (c := 20010) rfl h.u.st) (fun i hi => ?_)
      rw [en_up_a (by decide), en_up_i, en_up_a (a := 54) (by decide), en_up_i]
    · exact q_PR_m h.u.cd (fun i _ => by rw [en_up_a (by decide), en_up_a (by decide), en_up_a (by decide)])
    · rw [en_up_k (by decide), en_up_a (by decide), en_up_s]
      show _ = nI ((if 20010 = 20010 then 1 else 0) + q_cn 20010 st)
      rw [if_pos rfl, Nat.add_comm]
  have e0 : q_cn 20011 (20010 :: st) = q_cn 20011 st := by
    show (if 20010 = 20011 then 1 else 0) + q_cn 20011 st = _
    rw [if_neg (by decide), Nat.zero_add]
  refine ⟨_, ?_, h.mk hu (fun _ _ _ _ => rfl) (fun _ _ _ => rfl) (by rw [e0]; exact h.op) h.w h.na (fun i hi => h.cm i (by rw [← e0]; exact hi))⟩
  rw [ev_X2_takesPiece, rdg2 hR, h.tk, ht, if_neg (by decide), if_neg (by decide), if_pos (by decide), rdcl hR, ev_X2_takesOpening, rdr0 hR, rdg3 hR, h.s, rdb53 hR (by omega), h.bt _ h1, hb, if_pos (by decide), rdg11 hR, h.u.nt, if_neg (by exact nI_ge (b := 8) ho (by decide)), rdg11 hR, h.u.nt, nI_1, rdp11 hR, rdcl hR, show nI 33 = q_pbI 20010 from rfl, x_put hR (L := st.length) (by omega) (by rw [en_up_k (by decide)]; exact h.u.ph), c0s]
  rfl
theorem x_tCl (hR : isRd S) (h : XP tp n key σ0 σ false st cd na cm t) (pi : PI B tp n false st cd na t) (ht : t.1 = 3) (hb : tp t.2.1 = 41) (ho : 0 < q_cn 20011 st) : ∃ σ', mx_ev xs mx_P (d + 4) 65 [.ref 54] (en S σ) = some (some (.int 1), en S σ') ∧ XP tp n key σ0 σ' false (q_nt (q_ul 1 st cd).1.tail (q_ul 1 st cd).2).1 (q_nt (q_ul 1 st cd).1.tail (q_ul 1 st cd).2).2 na cm t := by
  have h1 := pi.lt (by omega)
  have h2 := pi.ln
  have h3 := pi.n
  have h8 := pi.o8
  obtain ⟨σ1, r1, u1⟩ := x_unp (d := d) (xs := xs) hR (k := 1) (by omega) (by omega) pi.sy h.u
  obtain ⟨r, er, c1, c2, pi2⟩ := pi.cl (by omega) ho
  obtain ⟨i1, i2, i3, i4, i5, i6, i7⟩ := q_ul_ok (k := 1) st cd pi.sy pi.j pi.rd
  rw [er] at u1 i1 i4
  rw [List.length_cons] at i4
  have u2 := u1.pop (by decide)
  have u3 := u2.own (k := 10) (v := nI (q_cn 20011 r)) (by decide) (by decide) (by decide)
  obtain ⟨σ2, r2, u4⟩ := x_endp (d := d) (xs := xs) hR (by omega) (q_sy_c i1).2 u3
  have jr : q_J true r := by
    obtain ⟨r', e', j'⟩ := q_ul_op st cd pi.sy pi.j ho
    rw [er] at e'
    cases e'
    exact j'
  have rdr : q_RD B (q_ul 1 st cd).2 (q_cb r + 1) := by
    rw [er] at i3
    have i3 : q_RD B (q_ul 1 st cd).2 ((if 20011 ≤ 20009 then 1 else 0) + q_cb r + 1) := i3
    rw [if_neg (by decide), Nat.zero_add] at i3
    exact i3
  have eO := (q_nt_ok r (q_ul 1 st cd).2 (q_sy_c i1).2 jr rdr).2.2.2.2.1
  rw [er, List.tail_cons]
  refine ⟨σ2, ?_, h.mk u4 (fun k k1 k2 k3 => by rw [en_up_k k2, en_up_k k1]) (fun b b1 _ => by funext j; rw [en_up_a b1, en_up_a b1]) (by rw [en_up_k (by decide), en_up_s, eO]) (by rw [en_up_s]; rfl) (by rw [en_up_k (by decide), en_up_k (by decide)]; exact h.na) (fun i hi => by rw [en_up_a (by decide), en_up_a (by decide)]; exact h.cm i (by rw [eO] at hi; omega))⟩
  have e1 : nI (r.length + 1) - 1 = nI r.length := by rw [show (1 : Int32) = nI 1 from rfl, pk_sub (by omega)]; rfl
  have e2 : nI (q_cn 20011 st) - 1 = nI (q_cn 20011 r) := by rw [show (1 : Int32) = nI 1 from rfl, pk_sub (by omega), show q_cn 20011 st - 1 = q_cn 20011 r by omega]
  have ph1 : σ1 54 8 = nI (r.length + 1) := u1.ph
  have op1 : σ1 54 10 = nI (q_cn 20011 st) := by rw [u1.o 10 (by decide) (by decide) (by decide)]; exact h.op
  have r1' : mx_ev xs mx_P (d + 2) 68 [.ref 54, .int 1] (en S σ) = some (none, en S σ1) := r1
  rw [ev_X2_takesSign, rdg2 hR, h.tk, ht, if_pos (by decide), rdr0 hR, rdg3 hR, h.s, rdb53 hR (by omega), h.bt _ h1, hb, if_pos (by decide), rdcl hR, ev_X2_takesClosing, rdg10 hR, h.op, if_neg (q_nz ho (by omega)), rdcl hR]
  rw [r1', c0s, rdg8 hR, ph1, if_neg (nI_nle (by omega) (by omega)), rdg8 hR, ph1, e1, rdp8 hR, rdg10 hR, en_up_k (by decide), op1, e2, rdp10 hR, rdcl hR, r2, c0s, ri1_1, c1s]
  rfl
/-- a sign's end: the pile is worked off, the sign is put on it -/
theorem x_tSiE (hR : isRd S) {σb σa : Nat → Nat → Int32} {s : Nat} (hs : 20001 ≤ s ∧ s ≤ 20009) (hL : st.length + cd.length < 96) (hy : q_sy st) (h : XU σb σa st cd) : ∃ σ', mx_cl (en S σa) 54 2 (mx_c0 (mx_ev xs mx_P (d + 2) 68 [.ref 54, .int (nI (q_str s))] (en S σa)) (fun h25 => mx_cl h25 54 2 (mx_c0 (mx_ev xs mx_P (d + 2) 69 [.ref 54, .int (nI (q_pb s))] h25) (fun h26 => mx_pz h26 54 2 12 1 (fun h27 => mx_ri 1 [.int 1] h27))))) = some (some (.int 1), en S σ') ∧ XU (en_up σb 54 12 1) σ' (s :: (q_ul (q_str s) st cd).1) (q_ul (q_str s) st cd).2 := by
  have hc := q_str_c s
  obtain ⟨σ1, r1, u1⟩ := x_unp (d := d) (xs := xs) hR (k := q_str s) hc (by omega) hy h
  have hl : (q_ul (q_str s) st cd).1.length ≤ st.length := by
    have : ∀ (st cd : List Nat), (q_ul (q_str s) st cd).1.length ≤ st.length := fun st => by
      induction st with
      | nil => intro cd; exact Nat.le_refl _
      | cons x r ih =>
        intro cd
        rw [q_ul]
        split
        · have := ih (x :: cd)
          rw [List.length_cons]
          omega
        · exact Nat.le_refl _
    exact this st cd
  have u2 := (u1.push (s := s) (by omega)).own (k := 12) (v := 1) (by decide) (by decide) (by decide)
  refine ⟨_, ?_, u2⟩
  rw [rdcl hR, r1, c0s, rdcl hR, show nI (q_pb s) = q_pbI s from rfl, x_put hR (L := (q_ul (q_str s) st cd).1.length) (by omega) u1.ph, c0s, rdz12_1 hR, ri1_1]
theorem x_tSi (hR : isRd S) (h : XP tp n key σ0 σ false st cd na cm t) (pi : PI B tp n false st cd na t) (hbt : tp t.2.1 < 256) (ht : t.1 = 3) (hb : q_sg (tp t.2.1) ≠ 0) (ho : ¬ (q_str (q_sg (tp t.2.1)) = 3 ∧ cm (q_cn 20011 st) = true)) : ∃ σ', mx_ev xs mx_P (d + 3) 65 [.ref 54] (en S σ) = some (some (.int 1), en S σ') ∧ XP tp n key σ0 σ' true (q_sg (tp t.2.1) :: (q_ul (q_str (q_sg (tp t.2.1))) st cd).1) (q_ul (q_str (q_sg (tp t.2.1))) st cd).2 na (fun i => if i = q_cn 20011 st ∧ q_str (q_sg (tp t.2.1)) ≤ 3 then decide (q_str (q_sg (tp t.2.1)) = 3) else cm i) t := by
  have h1 := pi.lt (by omega)
  have h2 := pi.ln
  have h3 := pi.n
  have h8 := pi.o8
  have hs : 20001 ≤ q_sg (tp t.2.1) ∧ q_sg (tp t.2.1) ≤ 20009 := by
    rcases q_sg_c (tp t.2.1) with x | x
    · exact absurd x hb
    · exact x
  have epb : q_pb (q_sg (tp t.2.1)) = tp t.2.1 := q_sg_pb hb
  have n41 : ¬ tp t.2.1 = 41 := fun e => by rw [e] at hb; exact hb rfl
  have hst := x_stren (xs := xs) (d := d + 1) (tp t.2.1) hbt (en S σ)
  rw [if_neg hb] at hst
  generalize q_sg (tp t.2.1) = s at *
  have hc := q_str_c s
  obtain ⟨i1, i2, i3, i4, i5, i6, i7⟩ := q_ul_ok (k := q_str s) st cd pi.sy pi.j pi.rd
  have eO : q_cn 20011 (s :: (q_ul (q_str s) st cd).1) = q_cn 20011 st := by
    show (if s = 20011 then 1 else 0) + q_cn 20011 _ = _
    rw [if_neg (by omega), Nat.zero_add, i6]
  have hcm := h.cm (q_cn 20011 st) (Nat.le_refl _)
  rw [ev_X2_takesSign, rdg2 hR, h.tk, ht, if_pos (by decide), rdr0 hR, rdg3 hR, h.s, rdb53 hR (by omega), h.bt _ h1, if_neg (nI_nel (y := 41) (b := 41) rfl (by omega) (by decide) n41), hst, c1s, if_neg (q_nz (by omega) (by omega)), ← epb]
  have fin : ∀ v : Int32, v = (if decide (q_str s = 3) = true then 1 else 0) → q_str s ≤ 3 → ∃ σ', mx_cl (en S (en_up σ 58 (q_cn 20011 st) v)) 54 2 (mx_c0 (mx_ev xs mx_P (d + 2) 68 [.ref 54, .int (nI (q_str s))] (en S (en_up σ 58 (q_cn 20011 st) v))) (fun h25 => mx_cl h25 54 2 (mx_c0 (mx_ev xs mx_P (d + 2) 69 [.ref 54, .int (nI (q_pb s))] h25) (fun h26 => mx_pz h26 54 2 12 1 (fun h27 => mx_ri 1 [.int 1] h27))))) = some (some (.int 1), en S σ') ∧ XP tp n key σ0 σ' true (s :: (q_ul (q_str s) st cd).1) (q_ul (q_str s) st cd).2 na (fun i => if i = q_cn 20011 st ∧ q_str s ≤ 3 then decide (q_str s = 3) else cm i) t := fun v hv h3' => by
    obtain ⟨σ', r1, u1⟩ := x_tSiE (d := d) (xs := xs) hR hs (by omega) pi.sy (h.u.row (k := q_cn 20011 st) (v := v))
    refine ⟨σ', r1, h.mk u1 (fun k k1 k2 k3 => by rw [en_up_k k2, en_up_a (by decide)]) (fun b b1 b2 => by funext j; rw [en_up_a b1, en_up_a b2]) (by rw [en_up_k (by decide), en_up_a (by decide), eO]; exact h.op) (by rw [en_up_s]; rfl) (by rw [en_up_k (by decide), en_up_a (by decide)]; exact h.na) (fun i hi => ?_)⟩
    rw [eO] at hi
    rw [en_up_a (by decide), en_up_i]
    show _ = if (if i = q_cn 20011 st ∧ q_str s ≤ 3 then decide (q_str s = 3) else cm i) = true then 1 else 0
    by_cases e : i = q_cn 20011 st
    · rw [if_pos ⟨rfl, e⟩, if_pos (show i = q_cn 20011 st ∧ q_str s ≤ 3 from ⟨e, h3'⟩), hv]
    · rw [if_neg (show ¬ (58 = 58 ∧ i = q_cn 20011 st) from fun x => e x.2), if_neg (show ¬ (i = q_cn 20011 st ∧ q_str s ≤ 3) from fun x => e x.1)]
      exact h.cm i hi
  by_cases c3 : q_str s = 3
  · have hcf : σ 58 (q_cn 20011 st) = 0 := by
      rw [hcm, if_neg (fun x => ho ⟨c3, x⟩)]
    rw [c3, if_pos (by decide), rdr9 hR, rdg10 hR, h.op, rda58 hR (by omega), hcf, if_pos rfl, if_neg (by decide), rdr9 hR, rdg10 hR, h.op, if_pos (by decide), rds58 hR (by omega)]
    have q := fin (vp_nar .boolean 1) (by rw [c3]; rfl) (by omega)
    rw [c3] at q
    exact q
  · rw [if_neg (nI_nel (y := 3) (b := 3) rfl (by omega) (by decide) c3)]
    by_cases c4 : 3 < q_str s
    · rw [if_pos (by exact nI_lt (a := 3) c4 (by omega))]
      obtain ⟨σ', r1, u1⟩ := x_tSiE (d := d) (xs := xs) hR hs (by omega) pi.sy h.u
      refine ⟨σ', r1, h.mk u1 (fun k k1 k2 k3 => by rw [en_up_k k2]) (fun b b1 b2 => by funext j; rw [en_up_a b1]) (by rw [en_up_k (by decide), eO]; exact h.op) (by rw [en_up_s]; rfl) (by rw [en_up_k (by decide)]; exact h.na) (fun i hi => ?_)⟩
      rw [eO] at hi
      rw [en_up_a (by decide)]
      show _ = if (if i = q_cn 20011 st ∧ q_str s ≤ 3 then decide (q_str s = 3) else cm i) = true then 1 else 0
      rw [if_neg (show ¬ (i = q_cn 20011 st ∧ q_str s ≤ 3) from fun x => by have := x.2; omega)]
      exact h.cm i hi
    · rw [if_neg (by exact nI_nlt (a := 3) (by omega) (by decide)), rdr9 hR, rdg10 hR, h.op, if_neg (nI_nel (y := 3) (b := 3) rfl (by omega) (by decide) c3), rds58 hR (by omega)]
      exact fin (vp_nar .boolean 0) (by rw [decide_eq_false c3]; rfl) (by omega)
end XT
