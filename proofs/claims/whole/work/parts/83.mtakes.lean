/-! ===== the reference's parser: what it takes ===== -/
def ME (S : List en_S) (key : Nat) (σ0 : Nat → Nat → Int32) (r : mx_R) : Nat ⊕ (List Nat × Nat) → Prop
  | .inl p => ∃ σ', r = some (some (.int 0), en S σ') ∧ σ' 90 8 = nI p ∧ (∀ k, k < 6 ∨ 19 < k → σ' 90 k = σ0 90 k) ∧ ∀ b, b ≠ 90 → b ≠ 98 → b ≠ 99 → b ≠ 100 → σ' b = σ0 b
  | .inr (cd, na) => ∃ σ', r = some (some (.int 1), en S σ') ∧ σ' 90 16 = nI cd.length ∧ σ' 90 17 = nI na ∧ σ' 90 12 = nI key ∧ q_PR (σ' 98) q_em cd ∧ (∀ k, k < 6 ∨ 19 < k → σ' 90 k = σ0 90 k) ∧ ∀ b, b ≠ 90 → b ≠ 98 → b ≠ 99 → b ≠ 100 → σ' b = σ0 b
theorem q_em_n {c : Nat} (hc : c < 20000) : q_em c = nI c := by unfold q_em; rw [if_pos hc]
section MT
variable {S : List en_S} {d n key na B pa nt N : Nat} {xs : List Int32} {tp : Nat → Nat} {σ0 σ σ1 : Nat → Nat → Int32} {st cd : List Nat} {cm : Nat → Bool} {t : Nat × Nat × Nat}
theorem MU.step (h : MU σ0 σ st cd) (c : Nat) : MU σ0 (en_up (en_up σ 98 cd.length (q_em c)) 90 16 (nI (cd.length + 1))) st (c :: cd) := by
  refine ⟨by rw [en_up_s, List.length_cons], by rw [en_up_k (by decide), en_up_a (by decide)]; exact h.ph, q_PR_m h.st (fun i _ => by rw [en_up_a (by decide), en_up_a (by decide)]), q_PR_m (q_PR_i (c := c) rfl h.cd) (fun i _ => by rw [en_up_a (by decide)]), fun k k1 k2 => by rw [en_up_k k1, en_up_a (by decide)]; exact h.o k k1 k2, fun b b1 b2 b3 => by rw [show en_up (en_up σ 98 cd.length (q_em c)) 90 16 (nI (cd.length + 1)) b = σ b by funext k; rw [en_up_a b1, en_up_a b2]]; exact h.f b b1 b2 b3⟩
theorem m_leafT (hM : isMo S) (hb : ∀ k, k < n → tp k < 256) (h : MP tp n key σ0 σ st cd na cm t) (pi : PI B tp n true st cd na t) (ht : t.1 = 1 ∨ t.1 = 2 ∨ t.1 = 3) {c : Nat} (hc : c < 20000) (hB : c < 10000 + B) : ∃ σ', mx_as (en S σ) 98 0 (nI cd.length) (nI c) (fun h12 => mx_gi h12 90 7 16 (fun x13 => mx_pt h12 90 7 16 (.int (x13 + 1)) (fun h14 => mx_gi h14 90 7 17 (fun x15 => mx_pt h14 90 7 17 (.int (x15 + 1)) (fun h16 => mx_cl h16 90 7 (mx_c0 (mx_ev xs mx_P (d + 5) 190 [.ref 90, .int 6] h16) (fun h17 => mx_cl h17 90 7 (mx_c0 (mx_ev xs mx_P (d + 5) 186 [.ref 90] h17) (fun h18 => mx_ri 1 [.int 1] h18))))))))) = some (some (.int 1), en S σ') ∧ MP tp n key σ0 σ' (q_nt st (c :: cd)).1 (q_nt st (c :: cd)).2 (na + 1) cm (q_nx tp n t) := by
  have t0 : t.1 ≠ 0 := by omega
  have h1 := pi.lt t0
  have h2 := pi.ln
  have h3 := pi.n
  have hcb := q_cb_le st
  have hRD : q_RD B (c :: cd) (q_cb st + 1) := Or.inl ⟨hB, by omega, by omega, pi.rd⟩
  have eO := (q_nt_ok st (c :: cd) pi.sy pi.j hRD).2.2.2.2.1
  have u1 := (h.u.step c).own (k := 17) (v := nI (na + 1)) (by decide) (by decide)
  obtain ⟨σ1, r1, u2⟩ := m_set6 (d := d + 3) (xs := xs) hM (st := st) (cd := c :: cd) (by rw [List.length_cons]; omega) pi.sy u1
  have p1 : MP tp n key σ0 σ1 (q_nt st (c :: cd)).1 (q_nt st (c :: cd)).2 (na + 1) cm t := h.mk u2 (fun k k1 => by rw [en_up_k k1]) (fun b b1 _ => by funext j; rw [en_up_a b1]) en_up_s (fun i hi => by rw [en_up_a (by decide)]; exact h.cm i (by rw [← eO]; exact hi))
  obtain ⟨σ2, r2, p2⟩ := p1.next (d := d + 3) (xs := xs) hM hb h3 pi.tk ht
  refine ⟨σ2, ?_, p2⟩
  rw [← q_em_n hc, mos98 hM (by omega), mog16 hM, en_up_a (by decide), h.u.sc, nI_1, mop16 hM, mog17 hM, en_up_k (by decide), en_up_a (by decide), h.na, nI_1, mop17 hM, mocl hM, r1, c0s, mocl hM, r2, c0s, ri1_1]
theorem m_tNum (hM : isMo S) (hb : ∀ k, k < n → tp k < 256) (h : MP tp n key σ0 σ st cd na cm t) (pi : PI B tp n true st cd na t) (ht : t.1 = 2) (hl : t.2.2 - t.2.1 ≤ 4) : ∃ σ', mx_ev xs mx_P (d + 6) 192 [.ref 90] (en S σ) = some (some (.int 1), en S σ') ∧ MP tp n key σ0 σ' (q_nt st (q_nv tp t.2.1 (t.2.2 - t.2.1) :: cd)).1 (q_nt st (q_nv tp t.2.1 (t.2.2 - t.2.1) :: cd)).2 (na + 1) cm (q_nx tp n t) := by
  have hd := pi.tk.2.2.2.2.2.2 ht
  have k1 := pi.tk.1
  have hlt : q_nv tp t.2.1 (t.2.2 - t.2.1) < 10000 := q_nv_lt (fun j a b => (hd j a (by omega)).2) hl
  obtain ⟨σ', r1, p1⟩ := m_leafT (d := d) (xs := xs) hM hb h pi (by omega) (c := q_nv tp t.2.1 (t.2.2 - t.2.1)) (by omega) (by omega)
  refine ⟨σ', ?_, p1⟩
  have hk : σ 90 9 = 2 := by
    rw [h.k]
    unfold q_mt
    rw [if_neg (fun x => by have := x.2; omega), ht]
    rfl
  rw [ev_X7_takesPart, mog9 hM, hk, if_neg (by decide), mog9 hM, hk, if_pos (by decide), mor15 hM, mog16 hM, h.u.sc, mog9 hM, hk, if_pos (by decide), mog10 hM, h.v2 ht hl]
  exact r1
theorem m_tName (hM : isMo S) (hb : ∀ k, k < n → tp k < 256) (h : MP tp n key σ0 σ st cd na cm t) (pi : PI (q_B key) tp n true st cd na t) (hk : key < 3) (ht : t.1 = 1) (hl : t.2.2 - t.2.1 = 1) (hq : q_nm key (tp t.2.1) < 99) : ∃ σ', mx_ev xs mx_P (d + 6) 192 [.ref 90] (en S σ) = some (some (.int 1), en S σ') ∧ MP tp n key σ0 σ' (q_nt st ((10000 + q_nm key (tp t.2.1)) :: cd)).1 (q_nt st ((10000 + q_nm key (tp t.2.1)) :: cd)).2 (na + 1) cm (q_nx tp n t) := by
  have hB : q_nm key (tp t.2.1) < q_B key := by
    rcases q_nm_c key (tp t.2.1) with x | x
    · omega
    · exact x
  have k1 := pi.tk.1
  have h1 := pi.lt (by omega)
  have hbt := hb _ h1
  obtain ⟨σ', r1, p1⟩ := m_leafT (d := d) (xs := xs) hM hb h pi (by omega) (c := 10000 + q_nm key (tp t.2.1)) (by omega) (by omega)
  refine ⟨σ', ?_, p1⟩
  have hk9 : σ 90 9 = 1 := by
    rw [h.k]
    unfold q_mt
    rw [if_neg (fun x => by have := x.1; omega), ht]
    rfl
  have es : nI t.2.2 - nI t.2.1 = 1 := by rw [pk_sub k1, hl]; rfl
  have nm := m_name (xs := xs) (d := d + 4) hM hk h.ky (b := tp t.2.1) hbt
  rw [if_pos hq] at nm
  have e10 : (10000 : Int32) + nI (q_nm key (tp t.2.1)) = nI (10000 + q_nm key (tp t.2.1)) := nI_add 10000 _
  rw [ev_X7_takesPart, mog9 hM, hk9, if_pos rfl, mog7 hM, mog8 hM, h.e, h.s, es, if_pos rfl, mog10 hM, h.v1 (Or.inl ht), mocl hM, nm, c1s, if_neg (nI_pos (by omega)), mog9 hM, hk9, if_neg (by decide), if_neg (by decide), mor15 hM, mog16 hM, h.u.sc, mog9 hM, hk9, if_neg (by decide), mog10 hM, h.v1 (Or.inl ht), mocl hM, nm, c1s, e10]
  exact r1
theorem m_fPart (hM : isMo S) (hb : ∀ k, k < n → tp k < 256) (h : MP tp n key σ0 σ st cd na cm t) (pi : PI B tp n true st cd na t) (hk : key < 3) (c1 : ¬ (t.1 = 2 ∧ t.2.2 - t.2.1 ≤ 4)) (c2 : ¬ (t.1 = 1 ∧ t.2.2 - t.2.1 = 1 ∧ q_nm key (tp t.2.1) < 99)) : mx_ev xs mx_P (d + 6) 192 [.ref 90] (en S σ) = some (some (.int 0), en S σ) := by
  have k1 := pi.tk.1
  have k2 := pi.tk.2.1
  have k4 := pi.tk.2.2.1
  have h3 := pi.n
  have hm : q_mt t ≤ 4 ∧ ¬ q_mt t = 2 ∧ (q_mt t = 1 ↔ t.1 = 1) := by
    unfold q_mt
    by_cases x : t.1 = 2 ∧ 4 < t.2.2 - t.2.1
    · rw [if_pos x]; omega
    · rw [if_neg x]
      exact ⟨k4, fun y => by omega, Iff.rfl⟩
  have n2 : ¬ nI (q_mt t) = 2 := nI_nel (y := 2) (b := 2) rfl (by omega) (by decide) hm.2.1
  rw [ev_X7_takesPart, mog9 hM, h.k]
  by_cases e1 : t.1 = 1
  · have h1 := pi.lt (by omega)
    have hbt := hb _ h1
    rw [if_pos (show nI (q_mt t) = 1 by rw [hm.2.2.mpr e1]; rfl), mog7 hM, mog8 hM, h.e, h.s, pk_sub k1]
    by_cases e2 : t.2.2 - t.2.1 = 1
    · have nm := m_name (xs := xs) (d := d + 4) hM hk h.ky (b := tp t.2.1) hbt
      rw [if_neg (fun x => c2 ⟨e1, e2, x⟩)] at nm
      rw [e2, if_pos (by decide), mog10 hM, h.v1 (Or.inl e1), mocl hM, nm, c1s, if_pos (by decide), mog9 hM, h.k, if_neg n2, if_pos rfl, ri1_0]
    · rw [if_neg (nI_nel (y := 1) (b := 1) rfl (by omega) (by decide) e2), mog9 hM, h.k, if_neg n2, if_pos rfl, ri1_0]
  · rw [if_neg (nI_nel (y := 1) (b := 1) rfl (by omega) (by decide) (fun x => e1 (hm.2.2.mp x))), mog9 hM, h.k, if_neg n2, if_pos rfl, ri1_0]
/-- a sign, put on the pile -/
theorem m_sgnT (hM : isMo S) (hb : ∀ k, k < n → tp k < 256) (h : MP tp n key σ0 σ st cd na cm t) (pi : PI B tp n false st cd na t) (ht : t.1 = 3) {s : Nat} (hs : 20001 ≤ s ∧ s ≤ 20009) {v : Int32} {cm' : Nat → Bool} (hv : ∀ i, i ≤ q_cn 20011 st → en_up σ 100 pa v 100 i = if cm' i = true then 1 else 0) {σa : Nat → Nat → Int32} (ha : σa = en_up σ 100 pa v) : ∃ σ', mx_c1 ((mx_ev xs mx_P (d + 6)) 189 [.int (q_em s)] (en S σa)) (fun x16 h15 => mx_cl h15 90 7 (mx_c0 ((mx_ev xs mx_P (d + 6)) 190 [.ref 90, .int x16] h15) (fun h17 => mx_gr h17 90 7 18 (fun r18 => mx_gi h17 90 7 19 (fun x19 => mx_as h17 r18 0 x19 (q_em s) (fun h20 => mx_gi h20 90 7 19 (fun x21 => mx_pt h20 90 7 19 (.int (x21 + 1)) (fun h22 => mx_cl h22 90 7 (mx_c0 ((mx_ev xs mx_P (d + 6)) 186 [.ref 90] h22) (fun h23 => mx_rn xs (mx_ev xs mx_P (d + 6)) kk_X7_takesE N 28 [(0, .ref 90), (1, .int (nI pa)), (2, .int (nI nt)), (3, .int 1)] [] h23)))))))))) = mx_rn xs (mx_ev xs mx_P (d + 6)) kk_X7_takesE N 28 [(0, .ref 90), (1, .int (nI pa)), (2, .int (nI nt)), (3, .int 1)] [] (en S σ') ∧ MP tp n key σ0 σ' (s :: (q_ul (q_str s) st cd).1) (q_ul (q_str s) st cd).2 na cm' (q_nx tp n t) := by
  subst ha
  have h1 := pi.lt (by omega)
  have h2 := pi.ln
  have h3 := pi.n
  have hc := q_str_c s
  obtain ⟨i1, i2, i3, i4, i5, i6, i7⟩ := q_ul_ok (k := q_str s) st cd pi.sy pi.j pi.rd
  have eO : q_cn 20011 (s :: (q_ul (q_str s) st cd).1) = q_cn 20011 st := by
    show (if s = 20011 then 1 else 0) + q_cn 20011 _ = _
    rw [if_neg (by omega), Nat.zero_add, i6]
  obtain ⟨σ1, r1, u1⟩ := m_settle (d := d + 4) (xs := xs) hM (k := q_str s) (by omega) (by omega) pi.sy pi.j (h.u.row (k := pa) (v := v))
  have u2 := u1.push s
  have p1 : MP tp n key σ0 (en_up (en_up σ1 99 (q_ul (q_str s) st cd).1.length (q_wm s)) 90 19 (nI ((q_ul (q_str s) st cd).1.length + 1))) (s :: (q_ul (q_str s) st cd).1) (q_ul (q_str s) st cd).2 na cm' t := h.mk u2 (fun k k1 => by rw [en_up_a (by decide)]) (fun b b1 b2 => by funext j; rw [en_up_a b2]) (by rw [en_up_a (by decide)]; exact h.na) (fun i hi => hv i (by rw [← eO]; exact hi))
  obtain ⟨σ2, r2, p2⟩ := p1.next (d := d + 4) (xs := xs) hM hb h3 pi.tk (by omega)
  refine ⟨σ2, ?_, p2⟩
  rw [m_rank' hs, c1s, mocl hM, r1, c0s, mor18 hM, mog19 hM, u1.ph, ← q_wm_e (s := s) (by omega), mos99 hM (by omega), mog19 hM, en_up_a (by decide), u1.ph, nI_1, mop19 hM, mocl hM, r2, c0s]
theorem m_sign (hM : isMo S) (h : MP tp n key σ0 σ st cd na cm t) (ht : t.1 = 3) (hbt : tp t.2.1 < 256) : mx_ev xs mx_P (d + 1) 191 [.ref 90] (en S σ) = some (some (.int (if q_sg (tp t.2.1) = 0 then 0 else q_em (q_sg (tp t.2.1)))), en S σ) := by
  have hk : σ 90 9 = 3 := by
    rw [h.k]
    unfold q_mt
    rw [if_neg (fun x => by have := x.1; omega), ht]
    rfl
  rw [ev_X7_signHere, mog9 hM, hk, if_pos rfl, mog10 hM, h.v1 (Or.inr ht), ← q_sh_b _ hbt]
  unfold q_sh
  (repeat' split) <;> rfl
theorem m_sgn (hM : isMo S) (hb : ∀ k, k < n → tp k < 256) (h : MP tp n key σ0 σ st cd na cm t) (pi : PI B tp n false st cd na t) (hpa : pa = q_cn 20011 st) (ht : t.1 = 3) (hg : q_sg (tp t.2.1) ≠ 0) (ho : ¬ (q_str (q_sg (tp t.2.1)) = 3 ∧ cm (q_cn 20011 st) = true)) : ∃ σ', mx_cl (en S σ) 90 7 (mx_c1 ((mx_ev xs mx_P (d + 6)) 191 [.ref 90] (en S σ)) (fun x6 h5 => if x6 = 0 then mx_ri 1 [.int 0] h5 else mx_c1 ((mx_ev xs mx_P (d + 6)) 189 [.int x6] h5) (fun x8 h7 => if x8 = 3 then mx_gr h7 90 7 20 (fun r9 => mx_ai h7 r9 1 (nI pa) (fun x10 => if x10 = 0 then mx_gr h7 90 7 20 (fun r11 => mx_c1 ((mx_ev xs mx_P (d + 6)) 189 [.int x6] h7) (fun x13 h12 => if x13 = 3 then mx_as h12 r11 1 (nI pa) (vp_nar .boolean 1) (fun h14 => mx_c1 ((mx_ev xs mx_P (d + 6)) 189 [.int x6] h14) (fun x16 h15 => mx_cl h15 90 7 (mx_c0 ((mx_ev xs mx_P (d + 6)) 190 [.ref 90, .int x16] h15) (fun h17 => mx_gr h17 90 7 18 (fun r18 => mx_gi h17 90 7 19 (fun x19 => mx_as h17 r18 0 x19 x6 (fun h20 => mx_gi h20 90 7 19 (fun x21 => mx_pt h20 90 7 19 (.int (x21 + 1)) (fun h22 => mx_cl h22 90 7 (mx_c0 ((mx_ev xs mx_P (d + 6)) 186 [.ref 90] h22) (fun h23 => mx_rn xs (mx_ev xs mx_P (d + 6)) kk_X7_takesE N 28 [(0, .ref 90), (1, .int (nI pa)), (2, .int (nI nt)), (3, .int 1)] [] h23))))))))))) else mx_c1 ((mx_ev xs mx_P (d + 6)) 189 [.int x6] h12) (fun x25 h24 => if x25 ≤ 3 then mx_as h24 r11 1 (nI pa) (vp_nar .boolean 0) (fun h26 => mx_c1 ((mx_ev xs mx_P (d + 6)) 189 [.int x6] h26) (fun x28 h27 => mx_cl h27 90 7 (mx_c0 ((mx_ev xs mx_P (d + 6)) 190 [.ref 90, .int x28] h27) (fun h29 => mx_gr h29 90 7 18 (fun r30 => mx_gi h29 90 7 19 (fun x31 => mx_as h29 r30 0 x31 x6 (fun h32 => mx_gi h32 90 7 19 (fun x33 => mx_pt h32 90 7 19 (.int (x33 + 1)) (fun h34 => mx_cl h34 90 7 (mx_c0 ((mx_ev xs mx_P (d + 6)) 186 [.ref 90] h34) (fun h35 => mx_rn xs (mx_ev xs mx_P (d + 6)) kk_X7_takesE N 28 [(0, .ref 90), (1, .int (nI pa)), (2, .int (nI nt)), (3, .int 1)] [] h35))))))))))) else mx_gr h24 90 7 20 (fun r36 => mx_ai h24 r36 1 (nI pa) (fun x37 => if x37 = 0 then mx_as h24 r11 1 (nI pa) (vp_nar .boolean 0) (fun h38 => mx_c1 ((mx_ev xs mx_P (d + 6)) 189 [.int x6] h38) (fun x40 h39 => mx_cl h39 90 7 (mx_c0 ((mx_ev xs mx_P (d + 6)) 190 [.ref 90, .int x40] h39) (fun h41 => mx_gr h41 90 7 18 (fun r42 => mx_gi h41 90 7 19 (fun x43 => mx_as h41 r42 0 x43 x6 (fun h44 => mx_gi h44 90 7 19 (fun x45 => mx_pt h44 90 7 19 (.int (x45 + 1)) (fun h46 => mx_cl h46 90 7 (mx_c0 ((mx_ev xs mx_P (d + 6)) 186 [.ref 90] h46) (fun h47 => mx_rn xs (mx_ev xs mx_P (d + 6)) kk_X7_takesE N 28 [(0, .ref 90), (1, .int (nI pa)), (2, .int (nI nt)), (3, .int 1)] [] h47))))))))))) else mx_as h24 r11 1 (nI pa) (vp_nar .boolean 1) (fun h48 => mx_c1 ((mx_ev xs mx_P (d + 6)) 189 [.int x6] h48) (fun x50 h49 => mx_cl h49 90 7 (mx_c0 ((mx_ev xs mx_P (d + 6)) 190 [.ref 90, .int x50] h49) (fun h51 => mx_gr h51 90 7 18 (fun r52 => mx_gi h51 90 7 19 (fun x53 => mx_as h51 r52 0 x53 x6 (fun h54 => mx_gi h54 90 7 19 (fun x55 => mx_pt h54 90 7 19 (.int (x55 + 1)) (fun h56 => mx_cl h56 90 7 (mx_c0 ((mx_ev xs mx_P (d + 6)) 186 [.ref 90] h56) (fun h57 => mx_rn xs (mx_ev xs mx_P (d + 6)) kk_X7_takesE N 28 [(0, .ref 90), (1, .int (nI pa)), (2, .int (nI nt)), (3, .int 1)] [] h57)))))))))))))))) else mx_ri 1 [.int 0] h7)) else mx_gr h7 90 7 20 (fun r58 => mx_c1 ((mx_ev xs mx_P (d + 6)) 189 [.int x6] h7) (fun x60 h59 => if x60 = 3 then mx_as h59 r58 1 (nI pa) (vp_nar .boolean 1) (fun h61 => mx_c1 ((mx_ev xs mx_P (d + 6)) 189 [.int x6] h61) (fun x63 h62 => mx_cl h62 90 7 (mx_c0 ((mx_ev xs mx_P (d + 6)) 190 [.ref 90, .int x63] h62) (fun h64 => mx_gr h64 90 7 18 (fun r65 => mx_gi h64 90 7 19 (fun x66 => mx_as h64 r65 0 x66 x6 (fun h67 => mx_gi h67 90 7 19 (fun x68 => mx_pt h67 90 7 19 (.int (x68 + 1)) (fun h69 => mx_cl h69 90 7 (mx_c0 ((mx_ev xs mx_P (d + 6)) 186 [.ref 90] h69) (fun h70 => mx_rn xs (mx_ev xs mx_P (d + 6)) kk_X7_takesE N 28 [(0, .ref 90), (1, .int (nI pa)), (2, .int (nI nt)), (3, .int 1)] [] h70))))))))))) else mx_c1 ((mx_ev xs mx_P (d + 6)) 189 [.int x6] h59) (fun x72 h71 => if x72 ≤ 3 then mx_as h71 r58 1 (nI pa) (vp_nar .boolean 0) (fun h73 => mx_c1 ((mx_ev xs mx_P (d + 6)) 189 [.int x6] h73) (fun x75 h74 => mx_cl h74 90 7 (mx_c0 ((mx_ev xs mx_P (d + 6)) 190 [.ref 90, .int x75] h74) (fun h76 => mx_gr h76 90 7 18 (fun r77 => mx_gi h76 90 7 19 (fun x78 => mx_as h76 r77 0 x78 x6 (fun h79 => mx_gi h79 90 7 19 (fun x80 => mx_pt h79 90 7 19 (.int (x80 + 1)) (fun h81 => mx_cl h81 90 7 (mx_c0 ((mx_ev xs mx_P (d + 6)) 186 [.ref 90] h81) (fun h82 => mx_rn xs (mx_ev xs mx_P (d + 6)) kk_X7_takesE N 28 [(0, .ref 90), (1, .int (nI pa)), (2, .int (nI nt)), (3, .int 1)] [] h82))))))))))) else mx_gr h71 90 7 20 (fun r83 => mx_ai h71 r83 1 (nI pa) (fun x84 => if x84 = 0 then mx_as h71 r58 1 (nI pa) (vp_nar .boolean 0) (fun h85 => mx_c1 ((mx_ev xs mx_P (d + 6)) 189 [.int x6] h85) (fun x87 h86 => mx_cl h86 90 7 (mx_c0 ((mx_ev xs mx_P (d + 6)) 190 [.ref 90, .int x87] h86) (fun h88 => mx_gr h88 90 7 18 (fun r89 => mx_gi h88 90 7 19 (fun x90 => mx_as h88 r89 0 x90 x6 (fun h91 => mx_gi h91 90 7 19 (fun x92 => mx_pt h91 90 7 19 (.int (x92 + 1)) (fun h93 => mx_cl h93 90 7 (mx_c0 ((mx_ev xs mx_P (d + 6)) 186 [.ref 90] h93) (fun h94 => mx_rn xs (mx_ev xs mx_P (d + 6)) kk_X7_takesE N 28 [(0, .ref 90), (1, .int (nI pa)), (2, .int (nI nt)), (3, .int 1)] [] h94))))))))))) else mx_as h71 r58 1 (nI pa) (vp_nar .boolean 1) (fun h95 => mx_c1 ((mx_ev xs mx_P (d + 6)) 189 [.int x6] h95) (fun x97 h96 => mx_cl h96 90 7 (mx_c0 ((mx_ev xs mx_P (d + 6)) 190 [.ref 90, .int x97] h96) (fun h98 => mx_gr h98 90 7 18 (fun r99 => mx_gi h98 90 7 19 (fun x100 => mx_as h98 r99 0 x100 x6 (fun h101 => mx_gi h101 90 7 19 (fun x102 => mx_pt h101 90 7 19 (.int (x102 + 1)) (fun h103 => mx_cl h103 90 7 (mx_c0 ((mx_ev xs mx_P (d + 6)) 186 [.ref 90] h103) (fun h104 => mx_rn xs (mx_ev xs mx_P (d + 6)) kk_X7_takesE N 28 [(0, .ref 90), (1, .int (nI pa)), (2, .int (nI nt)), (3, .int 1)] [] h104))))))))))))))))))) = mx_rn xs (mx_ev xs mx_P (d + 6)) kk_X7_takesE N 28 [(0, .ref 90), (1, .int (nI pa)), (2, .int (nI nt)), (3, .int 1)] [] (en S σ') ∧ MP tp n key σ0 σ' (q_sg (tp t.2.1) :: (q_ul (q_str (q_sg (tp t.2.1))) st cd).1) (q_ul (q_str (q_sg (tp t.2.1))) st cd).2 na (fun i => if i = q_cn 20011 st ∧ q_str (q_sg (tp t.2.1)) ≤ 3 then decide (q_str (q_sg (tp t.2.1)) = 3) else cm i) (q_nx tp n t) := by
  have h1 := pi.lt (by omega)
  have h8 := pi.o8
  have hbt := hb _ h1
  have hs : 20001 ≤ q_sg (tp t.2.1) ∧ q_sg (tp t.2.1) ≤ 20009 := by
    rcases q_sg_c (tp t.2.1) with x | x
    · exact absurd x hg
    · exact x
  have hsg := m_sign (xs := xs) (d := d + 5) hM h ht hbt
  rw [if_neg hg] at hsg
  generalize q_sg (tp t.2.1) = s at *
  have hc := q_str_c s
  have hz := q_em_nz (s := s) (by omega)
  have hcm := h.cm (q_cn 20011 st) (Nat.le_refl _)
  rw [mocl hM, hsg, c1s, if_neg hz.1, m_rank' hs, c1s]
  have cmv : ∀ v : Int32, (v = if (if q_str s ≤ 3 then decide (q_str s = 3) else cm (q_cn 20011 st)) = true then 1 else 0) → ∀ i, i ≤ q_cn 20011 st → en_up σ 100 pa v 100 i = if (if i = q_cn 20011 st ∧ q_str s ≤ 3 then decide (q_str s = 3) else cm i) = true then 1 else 0 := fun v hv i hi => by
    rw [en_up_i]
    by_cases e : i = pa
    · rw [if_pos ⟨rfl, e⟩, hv]
      subst hpa
      subst e
      by_cases x : q_str s ≤ 3
      · rw [if_pos x, if_pos (show q_cn 20011 st = q_cn 20011 st ∧ q_str s ≤ 3 from ⟨rfl, x⟩)]
      · rw [if_neg x, if_neg (show ¬ (q_cn 20011 st = q_cn 20011 st ∧ q_str s ≤ 3) from fun y => x y.2)]
    · rw [if_neg (show ¬ (100 = 100 ∧ i = pa) from fun x => e x.2), if_neg (show ¬ (i = q_cn 20011 st ∧ q_str s ≤ 3) from fun x => e (x.1.trans hpa.symm))]
      exact h.cm i hi
  by_cases c3 : q_str s = 3
  · have hcf : σ 100 pa = 0 := by
      rw [hpa, hcm, if_neg (fun x => ho ⟨c3, x⟩)]
    have k3 : nI (q_str s) = 3 := by rw [c3]; rfl
    rw [k3, if_pos rfl, mor20 hM, moa100 hM (by omega), hcf, if_pos rfl, mor20 hM, m_rank' hs, c1s, k3, if_pos rfl, mos100 hM (by omega)]
    exact m_sgnT hM hb h pi ht hs (cmv (vp_nar .boolean 1) (by rw [if_pos (show q_str s ≤ 3 by omega), decide_eq_true c3]; rfl)) rfl
  · have k3 : ¬ nI (q_str s) = 3 := nI_nel (y := 3) (b := 3) rfl (by omega) (by decide) c3
    rw [if_neg k3, mor20 hM, m_rank' hs, c1s, if_neg k3, m_rank' hs, c1s]
    by_cases c4 : q_str s ≤ 3
    · rw [if_pos (by exact nI_le (b := 3) c4 (by decide)), mos100 hM (by omega)]
      exact m_sgnT hM hb h pi ht hs (cmv (vp_nar .boolean 0) (by rw [if_pos c4, decide_eq_false c3]; rfl)) rfl
    · rw [if_neg (by exact nI_ge (a := 3) (by omega) (by omega)), mor20 hM, moa100 hM (by omega)]
      have e100 : σ 100 pa = if cm (q_cn 20011 st) = true then 1 else 0 := by rw [hpa]; exact hcm
      by_cases cz : cm (q_cn 20011 st) = true
      · rw [if_pos cz] at e100
        rw [e100, if_neg (by decide), mos100 hM (by omega)]
        exact m_sgnT hM hb h pi ht hs (cmv (vp_nar .boolean 1) (by rw [if_neg c4, if_pos cz]; rfl)) rfl
      · rw [if_neg cz] at e100
        rw [e100, if_pos rfl, mos100 hM (by omega)]
        exact m_sgnT hM hb h pi ht hs (cmv (vp_nar .boolean 0) (by rw [if_neg c4, if_neg cz]; rfl)) rfl
theorem m_sgnF (hM : isMo S) (hb : ∀ k, k < n → tp k < 256) (h : MP tp n key σ0 σ st cd na cm t) (pi : PI B tp n false st cd na t) (hpa : pa = q_cn 20011 st) (c2 : ¬ (t.1 = 3 ∧ q_sg (tp t.2.1) ≠ 0 ∧ ¬ (q_str (q_sg (tp t.2.1)) = 3 ∧ cm (q_cn 20011 st) = true))) : mx_cl (en S σ) 90 7 (mx_c1 ((mx_ev xs mx_P (d + 6)) 191 [.ref 90] (en S σ)) (fun x6 h5 => if x6 = 0 then mx_ri 1 [.int 0] h5 else mx_c1 ((mx_ev xs mx_P (d + 6)) 189 [.int x6] h5) (fun x8 h7 => if x8 = 3 then mx_gr h7 90 7 20 (fun r9 => mx_ai h7 r9 1 (nI pa) (fun x10 => if x10 = 0 then mx_gr h7 90 7 20 (fun r11 => mx_c1 ((mx_ev xs mx_P (d + 6)) 189 [.int x6] h7) (fun x13 h12 => if x13 = 3 then mx_as h12 r11 1 (nI pa) (vp_nar .boolean 1) (fun h14 => mx_c1 ((mx_ev xs mx_P (d + 6)) 189 [.int x6] h14) (fun x16 h15 => mx_cl h15 90 7 (mx_c0 ((mx_ev xs mx_P (d + 6)) 190 [.ref 90, .int x16] h15) (fun h17 => mx_gr h17 90 7 18 (fun r18 => mx_gi h17 90 7 19 (fun x19 => mx_as h17 r18 0 x19 x6 (fun h20 => mx_gi h20 90 7 19 (fun x21 => mx_pt h20 90 7 19 (.int (x21 + 1)) (fun h22 => mx_cl h22 90 7 (mx_c0 ((mx_ev xs mx_P (d + 6)) 186 [.ref 90] h22) (fun h23 => mx_rn xs (mx_ev xs mx_P (d + 6)) kk_X7_takesE N 28 [(0, .ref 90), (1, .int (nI pa)), (2, .int (nI nt)), (3, .int 1)] [] h23))))))))))) else mx_c1 ((mx_ev xs mx_P (d + 6)) 189 [.int x6] h12) (fun x25 h24 => if x25 ≤ 3 then mx_as h24 r11 1 (nI pa) (vp_nar .boolean 0) (fun h26 => mx_c1 ((mx_ev xs mx_P (d + 6)) 189 [.int x6] h26) (fun x28 h27 => mx_cl h27 90 7 (mx_c0 ((mx_ev xs mx_P (d + 6)) 190 [.ref 90, .int x28] h27) (fun h29 => mx_gr h29 90 7 18 (fun r30 => mx_gi h29 90 7 19 (fun x31 => mx_as h29 r30 0 x31 x6 (fun h32 => mx_gi h32 90 7 19 (fun x33 => mx_pt h32 90 7 19 (.int (x33 + 1)) (fun h34 => mx_cl h34 90 7 (mx_c0 ((mx_ev xs mx_P (d + 6)) 186 [.ref 90] h34) (fun h35 => mx_rn xs (mx_ev xs mx_P (d + 6)) kk_X7_takesE N 28 [(0, .ref 90), (1, .int (nI pa)), (2, .int (nI nt)), (3, .int 1)] [] h35))))))))))) else mx_gr h24 90 7 20 (fun r36 => mx_ai h24 r36 1 (nI pa) (fun x37 => if x37 = 0 then mx_as h24 r11 1 (nI pa) (vp_nar .boolean 0) (fun h38 => mx_c1 ((mx_ev xs mx_P (d + 6)) 189 [.int x6] h38) (fun x40 h39 => mx_cl h39 90 7 (mx_c0 ((mx_ev xs mx_P (d + 6)) 190 [.ref 90, .int x40] h39) (fun h41 => mx_gr h41 90 7 18 (fun r42 => mx_gi h41 90 7 19 (fun x43 => mx_as h41 r42 0 x43 x6 (fun h44 => mx_gi h44 90 7 19 (fun x45 => mx_pt h44 90 7 19 (.int (x45 + 1)) (fun h46 => mx_cl h46 90 7 (mx_c0 ((mx_ev xs mx_P (d + 6)) 186 [.ref 90] h46) (fun h47 => mx_rn xs (mx_ev xs mx_P (d + 6)) kk_X7_takesE N 28 [(0, .ref 90), (1, .int (nI pa)), (2, .int (nI nt)), (3, .int 1)] [] h47))))))))))) else mx_as h24 r11 1 (nI pa) (vp_nar .boolean 1) (fun h48 => mx_c1 ((mx_ev xs mx_P (d + 6)) 189 [.int x6] h48) (fun x50 h49 => mx_cl h49 90 7 (mx_c0 ((mx_ev xs mx_P (d + 6)) 190 [.ref 90, .int x50] h49) (fun h51 => mx_gr h51 90 7 18 (fun r52 => mx_gi h51 90 7 19 (fun x53 => mx_as h51 r52 0 x53 x6 (fun h54 => mx_gi h54 90 7 19 (fun x55 => mx_pt h54 90 7 19 (.int (x55 + 1)) (fun h56 => mx_cl h56 90 7 (mx_c0 ((mx_ev xs mx_P (d + 6)) 186 [.ref 90] h56) (fun h57 => mx_rn xs (mx_ev xs mx_P (d + 6)) kk_X7_takesE N 28 [(0, .ref 90), (1, .int (nI pa)), (2, .int (nI nt)), (3, .int 1)] [] h57)))))))))))))))) else mx_ri 1 [.int 0] h7)) else mx_gr h7 90 7 20 (fun r58 => mx_c1 ((mx_ev xs mx_P (d + 6)) 189 [.int x6] h7) (fun x60 h59 => if x60 = 3 then mx_as h59 r58 1 (nI pa) (vp_nar .boolean 1) (fun h61 => mx_c1 ((mx_ev xs mx_P (d + 6)) 189 [.int x6] h61) (fun x63 h62 => mx_cl h62 90 7 (mx_c0 ((mx_ev xs mx_P (d + 6)) 190 [.ref 90, .int x63] h62) (fun h64 => mx_gr h64 90 7 18 (fun r65 => mx_gi h64 90 7 19 (fun x66 => mx_as h64 r65 0 x66 x6 (fun h67 => mx_gi h67 90 7 19 (fun x68 => mx_pt h67 90 7 19 (.int (x68 + 1)) (fun h69 => mx_cl h69 90 7 (mx_c0 ((mx_ev xs mx_P (d + 6)) 186 [.ref 90] h69) (fun h70 => mx_rn xs (mx_ev xs mx_P (d + 6)) kk_X7_takesE N 28 [(0, .ref 90), (1, .int (nI pa)), (2, .int (nI nt)), (3, .int 1)] [] h70))))))))))) else mx_c1 ((mx_ev xs mx_P (d + 6)) 189 [.int x6] h59) (fun x72 h71 => if x72 ≤ 3 then mx_as h71 r58 1 (nI pa) (vp_nar .boolean 0) (fun h73 => mx_c1 ((mx_ev xs mx_P (d + 6)) 189 [.int x6] h73) (fun x75 h74 => mx_cl h74 90 7 (mx_c0 ((mx_ev xs mx_P (d + 6)) 190 [.ref 90, .int x75] h74) (fun h76 => mx_gr h76 90 7 18 (fun r77 => mx_gi h76 90 7 19 (fun x78 => mx_as h76 r77 0 x78 x6 (fun h79 => mx_gi h79 90 7 19 (fun x80 => mx_pt h79 90 7 19 (.int (x80 + 1)) (fun h81 => mx_cl h81 90 7 (mx_c0 ((mx_ev xs mx_P (d + 6)) 186 [.ref 90] h81) (fun h82 => mx_rn xs (mx_ev xs mx_P (d + 6)) kk_X7_takesE N 28 [(0, .ref 90), (1, .int (nI pa)), (2, .int (nI nt)), (3, .int 1)] [] h82))))))))))) else mx_gr h71 90 7 20 (fun r83 => mx_ai h71 r83 1 (nI pa) (fun x84 => if x84 = 0 then mx_as h71 r58 1 (nI pa) (vp_nar .boolean 0) (fun h85 => mx_c1 ((mx_ev xs mx_P (d + 6)) 189 [.int x6] h85) (fun x87 h86 => mx_cl h86 90 7 (mx_c0 ((mx_ev xs mx_P (d + 6)) 190 [.ref 90, .int x87] h86) (fun h88 => mx_gr h88 90 7 18 (fun r89 => mx_gi h88 90 7 19 (fun x90 => mx_as h88 r89 0 x90 x6 (fun h91 => mx_gi h91 90 7 19 (fun x92 => mx_pt h91 90 7 19 (.int (x92 + 1)) (fun h93 => mx_cl h93 90 7 (mx_c0 ((mx_ev xs mx_P (d + 6)) 186 [.ref 90] h93) (fun h94 => mx_rn xs (mx_ev xs mx_P (d + 6)) kk_X7_takesE N 28 [(0, .ref 90), (1, .int (nI pa)), (2, .int (nI nt)), (3, .int 1)] [] h94))))))))))) else mx_as h71 r58 1 (nI pa) (vp_nar .boolean 1) (fun h95 => mx_c1 ((mx_ev xs mx_P (d + 6)) 189 [.int x6] h95) (fun x97 h96 => mx_cl h96 90 7 (mx_c0 ((mx_ev xs mx_P (d + 6)) 190 [.ref 90, .int x97] h96) (fun h98 => mx_gr h98 90 7 18 (fun r99 => mx_gi h98 90 7 19 (fun x100 => mx_as h98 r99 0 x100 x6 (fun h101 => mx_gi h101 90 7 19 (fun x102 => mx_pt h101 90 7 19 (.int (x102 + 1)) (fun h103 => mx_cl h103 90 7 (mx_c0 ((mx_ev xs mx_P (d + 6)) 186 [.ref 90] h103) (fun h104 => mx_rn xs (mx_ev xs mx_P (d + 6)) kk_X7_takesE N 28 [(0, .ref 90), (1, .int (nI pa)), (2, .int (nI nt)), (3, .int 1)] [] h104))))))))))))))))))) = some (some (.int 0), en S σ) := by
  have h8 := pi.o8
  have k4 := pi.tk.2.2.1
  by_cases e : t.1 = 3
  · have h1 := pi.lt (by omega)
    have hbt := hb _ h1
    have hsg := m_sign (xs := xs) (d := d + 5) hM h e hbt
    by_cases b2 : q_sg (tp t.2.1) = 0
    · rw [if_pos b2] at hsg
      rw [mocl hM, hsg, c1s, if_pos rfl, ri1_0]
    · rw [if_neg b2] at hsg
      have hs : 20001 ≤ q_sg (tp t.2.1) ∧ q_sg (tp t.2.1) ≤ 20009 := by
        rcases q_sg_c (tp t.2.1) with x | x
        · exact absurd x b2
        · exact x
      have c3 : q_str (q_sg (tp t.2.1)) = 3 ∧ cm (q_cn 20011 st) = true := by
        by_cases x : q_str (q_sg (tp t.2.1)) = 3 ∧ cm (q_cn 20011 st) = true
        · exact x
        · exact absurd ⟨e, b2, x⟩ c2
      have hcm := h.cm (q_cn 20011 st) (Nat.le_refl _)
      rw [if_pos c3.2] at hcm
      have k3 : nI (q_str (q_sg (tp t.2.1))) = 3 := by rw [c3.1]; rfl
      rw [mocl hM, hsg, c1s, if_neg (q_em_nz (s := q_sg (tp t.2.1)) (by omega)).1, m_rank' hs, c1s, k3, if_pos rfl, mor20 hM, moa100 hM (by omega), show σ 100 pa = 1 by rw [hpa]; exact hcm, if_neg (by decide), ri1_0]
  · have hm : ¬ nI (q_mt t) = 3 := by
      refine nI_nel (y := 3) (b := 3) rfl ?_ (by decide) ?_
      · unfold q_mt; split <;> omega
      · unfold q_mt; split <;> omega
    have hsg : mx_ev xs mx_P (d + 6) 191 [.ref 90] (en S σ) = some (some (.int 0), en S σ) := by
      rw [ev_X7_signHere, mog9 hM, h.k, if_neg hm, ri0]
    rw [mocl hM, hsg, c1s, if_pos rfl, ri1_0]
theorem m_cls (hM : isMo S) (hb : ∀ k, k < n → tp k < 256) (h : MP tp n key σ0 σ st cd na cm t) (pi : PI B tp n false st cd na t) (hpa : pa = q_cn 20011 st) (ht : t.1 = 3) (ho : 0 < q_cn 20011 st) : ∃ σ', mx_cl (en S σ) 90 7 (mx_c0 ((mx_ev xs mx_P (d + 6)) 190 [.ref 90, .int 0] (en S σ)) (fun h105 => mx_gi h105 90 7 19 (fun x106 => mx_pt h105 90 7 19 (.int (x106 - 1)) (fun h107 => mx_cl h107 90 7 (mx_c0 ((mx_ev xs mx_P (d + 6)) 190 [.ref 90, .int 6] h107) (fun h108 => mx_cl h108 90 7 (mx_c1 ((mx_ev xs mx_P (d + 6)) 194 [.ref 90] h108) (fun x110 h109 => mx_cl h109 90 7 (mx_c0 ((mx_ev xs mx_P (d + 6)) 186 [.ref 90] h109) (fun h111 => mx_rn xs (mx_ev xs mx_P (d + 6)) kk_X7_takesE N 28 [(0, .ref 90), (1, .int ((nI pa) + (-1))), (2, .int x110), (3, .int 0)] [] h111)))))))))) = mx_rn xs (mx_ev xs mx_P (d + 6)) kk_X7_takesE N 28 [(0, .ref 90), (1, .int (nI (q_cn 20011 (q_nt (q_ul 1 st cd).1.tail (q_ul 1 st cd).2).1))), (2, .int (nI (q_cn 20010 (q_nt (q_ul 1 st cd).1.tail (q_ul 1 st cd).2).1))), (3, .int 0)] [] (en S σ') ∧ MP tp n key σ0 σ' (q_nt (q_ul 1 st cd).1.tail (q_ul 1 st cd).2).1 (q_nt (q_ul 1 st cd).1.tail (q_ul 1 st cd).2).2 na cm (q_nx tp n t) := by
  have h1 := pi.lt (by omega)
  have h2 := pi.ln
  have h3 := pi.n
  have h8 := pi.o8
  obtain ⟨σ1, r1, u1⟩ := m_settle (d := d + 4) (xs := xs) hM (k := 0) (by omega) (by omega) pi.sy pi.j h.u
  rw [q_ul_0] at u1
  obtain ⟨r, er, c1, c2, pi2⟩ := pi.cl (by omega) ho
  obtain ⟨i1, i2, i3, i4, i5, i6, i7⟩ := q_ul_ok (k := 1) st cd pi.sy pi.j pi.rd
  rw [er] at u1 i1 i4
  rw [List.length_cons] at i4
  obtain ⟨σ2, r2, u2⟩ := m_set6 (d := d + 4) (xs := xs) hM (by omega) (q_sy_c i1).2 u1.pop
  have jr : q_J true r := by
    obtain ⟨r', e', j'⟩ := q_ul_op st cd pi.sy pi.j ho
    rw [er] at e'
    cases e'
    exact j'
  have rdr : q_RD B (q_ul 1 st cd).2 (q_cb r + 1) := by
    rw [er] at i3
    have i3 : q_RD B (q_ul 1 st cd).2 ((if 20011 ≤ 20009 then 1 else 0) + q_cb r + 1) := i3
    rw [if_neg (by decide), Nat.zero_add] at i3
    exact i3
  obtain ⟨n1, n2, n3, n4, n5, n6⟩ := q_nt_ok r (q_ul 1 st cd).2 (q_sy_c i1).2 jr rdr
  rw [er, List.tail_cons]
  have p1 : MP tp n key σ0 σ2 (q_nt r (q_ul 1 st cd).2).1 (q_nt r (q_ul 1 st cd).2).2 na cm t := h.mk u2 (fun _ _ => rfl) (fun _ _ _ => rfl) h.na (fun i hi => h.cm i (by rw [n5] at hi; omega))
  have r3 := m_nots (xs := xs) (d := d + 5) hM u2 (by omega) n1
  obtain ⟨σ3, r4, p2⟩ := p1.next (d := d + 4) (xs := xs) hM hb h3 pi.tk (by omega)
  refine ⟨σ3, ?_, p2⟩
  have r1' : mx_ev xs mx_P (d + 6) 190 [.ref 90, .int 0] (en S σ) = some (none, en S σ1) := r1
  have e1 : nI (r.length + 1) - 1 = nI r.length := by rw [show (1 : Int32) = nI 1 from rfl, pk_sub (by omega)]; rfl
  have ph1 : σ1 90 19 = nI (r.length + 1) := u1.ph
  have e2 : nI pa + -1 = nI (q_cn 20011 r) := by rw [sb_m1 (by omega), show pa - 1 = q_cn 20011 r by omega]
  rw [mocl hM, r1', c0s, mog19 hM, ph1, e1, mop19 hM, mocl hM, r2, c0s, mocl hM, r3, c1s, mocl hM, r4, c0s, e2, n5]
theorem m_opn (hM : isMo S) (hb : ∀ k, k < n → tp k < 256) (h : MP tp n key σ0 σ st cd na cm t) (pi : PI B tp n true st cd na t) (hpa : pa = q_cn 20011 st) (ht : t.1 = 3) (ho : q_cn 20011 st < 8) : ∃ σ', mx_gr (en S σ) 90 7 18 (fun r320 => mx_gi (en S σ) 90 7 19 (fun x321 => mx_as (en S σ) r320 0 x321 (-11) (fun h322 => mx_gi h322 90 7 19 (fun x323 => mx_pt h322 90 7 19 (.int (x323 + 1)) (fun h324 => mx_gr h324 90 7 20 (fun r325 => mx_as h324 r325 1 ((nI pa) + 1) (vp_nar .boolean 0) (fun h326 => mx_cl h326 90 7 (mx_c0 ((mx_ev xs mx_P (d + 6)) 186 [.ref 90] h326) (fun h327 => mx_cl h327 90 7 (mx_c1 ((mx_ev xs mx_P (d + 6)) 194 [.ref 90] h327) (fun x329 h328 => mx_rn xs (mx_ev xs mx_P (d + 6)) kk_X7_takesE N 28 [(0, .ref 90), (1, .int ((nI pa) + 1)), (2, .int x329), (3, .int 1)] [] h328))))))))))) = mx_rn xs (mx_ev xs mx_P (d + 6)) kk_X7_takesE N 28 [(0, .ref 90), (1, .int (nI (q_cn 20011 (20011 :: st)))), (2, .int (nI (q_cn 20010 (20011 :: st)))), (3, .int 1)] [] (en S σ') ∧ MP tp n key σ0 σ' (20011 :: st) cd na (fun i => if i = q_cn 20011 st + 1 then false else cm i) (q_nx tp n t) := by
  have h1 := pi.lt (by omega)
  have h2 := pi.ln
  have h3 := pi.n
  have u1 := (h.u.push 20011).row (k := q_cn 20011 st + 1) (v := vp_nar .boolean 0)
  have eO : q_cn 20011 (20011 :: st) = q_cn 20011 st + 1 := by
    show (if 20011 = 20011 then 1 else 0) + q_cn 20011 st = _
    rw [if_pos rfl, Nat.add_comm]
  have p1 : MP tp n key σ0 (en_up (en_up (en_up σ 99 st.length (q_wm 20011)) 90 19 (nI (st.length + 1))) 100 (q_cn 20011 st + 1) (vp_nar .boolean 0)) (20011 :: st) cd na (fun i => if i = q_cn 20011 st + 1 then false else cm i) t := by
    refine h.mk u1 (fun k k1 => by rw [en_up_a (by decide)]) (fun b b1 b2 => by funext j; rw [en_up_a b2]) (by rw [en_up_a (by decide)]; exact h.na) (fun i hi => ?_)
    rw [eO] at hi
    rw [en_up_i]
    show _ = if (if i = q_cn 20011 st + 1 then false else cm i) = true then 1 else 0
    by_cases e : i = q_cn 20011 st + 1
    · rw [if_pos ⟨rfl, e⟩, if_pos e]; rfl
    · rw [if_neg (show ¬ (100 = 100 ∧ i = q_cn 20011 st + 1) from fun x => e x.2), if_neg e]
      exact h.cm i (by omega)
  obtain ⟨σ2, r2, p2⟩ := p1.next (d := d + 4) (xs := xs) hM hb h3 pi.tk (by omega)
  have r3 := m_nots (xs := xs) (d := d + 5) hM p2.u (by rw [List.length_cons]; omega) (q_sy_i (by omega) pi.sy)
  refine ⟨σ2, ?_, p2⟩
  rw [mor18 hM, mog19 hM, h.u.ph, show (-11 : Int32) = q_wm 20011 from rfl, mos99 hM (by omega), mog19 hM, en_up_a (by decide), h.u.ph, nI_1, mop19 hM, mor20 hM, hpa, nI_1, mos100 hM (by omega), mocl hM, r2, c0s, mocl hM, r3, c1s, eO]
theorem m_not (hM : isMo S) (hb : ∀ k, k < n → tp k < 256) (h : MP tp n key σ0 σ st cd na cm t) (pi : PI B tp n true st cd na t) (ht : t.1 = 3) : ∃ σ', mx_gr (en S σ) 90 7 18 (fun r338 => mx_gi (en S σ) 90 7 19 (fun x339 => mx_as (en S σ) r338 0 x339 (-10) (fun h340 => mx_gi h340 90 7 19 (fun x341 => mx_pt h340 90 7 19 (.int (x341 + 1)) (fun h342 => mx_cl h342 90 7 (mx_c0 ((mx_ev xs mx_P (d + 6)) 186 [.ref 90] h342) (fun h343 => mx_cl h343 90 7 (mx_c1 ((mx_ev xs mx_P (d + 6)) 194 [.ref 90] h343) (fun x345 h344 => mx_rn xs (mx_ev xs mx_P (d + 6)) kk_X7_takesE N 28 [(0, .ref 90), (1, .int (nI pa)), (2, .int x345), (3, .int 1)] [] h344))))))))) = mx_rn xs (mx_ev xs mx_P (d + 6)) kk_X7_takesE N 28 [(0, .ref 90), (1, .int (nI pa)), (2, .int (nI (q_cn 20010 (20010 :: st)))), (3, .int 1)] [] (en S σ') ∧ MP tp n key σ0 σ' (20010 :: st) cd na cm (q_nx tp n t) := by
  have h1 := pi.lt (by omega)
  have h2 := pi.ln
  have h3 := pi.n
  have u1 := h.u.push 20010
  have e0 : q_cn 20011 (20010 :: st) = q_cn 20011 st := by
    show (if 20010 = 20011 then 1 else 0) + q_cn 20011 st = _
    rw [if_neg (by decide), Nat.zero_add]
  have p1 : MP tp n key σ0 (en_up (en_up σ 99 st.length (q_wm 20010)) 90 19 (nI (st.length + 1))) (20010 :: st) cd na cm t := h.mk u1 (fun _ _ => rfl) (fun _ _ _ => rfl) h.na (fun i hi => h.cm i (by rw [← e0]; exact hi))
  obtain ⟨σ2, r2, p2⟩ := p1.next (d := d + 4) (xs := xs) hM hb h3 pi.tk (by omega)
  have r3 := m_nots (xs := xs) (d := d + 5) hM p2.u (by rw [List.length_cons]; omega) (q_sy_i (by omega) pi.sy)
  refine ⟨σ2, ?_, p2⟩
  rw [mor18 hM, mog19 hM, h.u.ph, show (-10 : Int32) = q_wm 20010 from rfl, mos99 hM (by omega), mog19 hM, en_up_a (by decide), h.u.ph, nI_1, mop19 hM, mocl hM, r2, c0s, mocl hM, r3, c1s]
end MT
