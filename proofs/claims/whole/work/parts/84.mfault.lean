/-! ===== the reference reads a text ===== -/
section MF
variable {S : List en_S} {d n key na B : Nat} {xs : List Int32} {tp : Nat → Nat} {σ0 σ σ1 : Nat → Nat → Int32} {st cd : List Nat} {cm : Nat → Bool} {t : Nat × Nat × Nat}
theorem m_fl (hM : isMo S) (hb : ∀ k, k < n → tp k < 256) (hk : key < 3) : ∀ (m N : Nat) (σ : Nat → Nat → Int32) (w : Bool) (st cd : List Nat) (na : Nat) (cm : Nat → Bool) (t : Nat × Nat × Nat), PI (q_B key) tp n w st cd na t → MP tp n key σ0 σ st cd na cm t → n < t.2.1 + m → m < N → ME S key σ0 (mx_rn xs (mx_ev xs mx_P (d + 6)) kk_X7_takesE N 28 [(0, .ref 90), (1, .int (nI (q_cn 20011 st))), (2, .int (nI (q_cn 20010 st))), (3, .int (if w = true then 1 else 0))] [] (en S σ)) (q_pz tp n key m w st cd na cm t)
  | _, 0, _, _, _, _, _, _, _, _, _, _, h => absurd h (by omega)
  | 0, N + 1, σ, w, st, cd, na, cm, t, pi, h, hm, hN => by
    have := pi.tk.1
    have := pi.tk.2.1
    omega
  | m + 1, N + 1, σ, w, st, cd, na, cm, t, pi, h, hm, hN => by
    have tk := pi.tk
    have h3 := pi.n
    have k1 := tk.1
    have k2 := tk.2.1
    have k4 := tk.2.2.1
    have h8 := pi.o8
    have hl := pi.ln
    have cnl : ∀ (x : Nat) (l : List Nat), q_cn x l ≤ l.length := fun x l => by
      induction l with
      | nil => exact Nat.le_refl _
      | cons a r ih =>
        unfold q_cn
        rw [List.length_cons]
        split <;> omega
    have cn1 := cnl 20010 st
    have cn2 := cnl 20011 st
    have m0 : q_mt t = 0 ↔ t.1 = 0 := by
      unfold q_mt
      by_cases x : t.1 = 2 ∧ 4 < t.2.2 - t.2.1
      · rw [if_pos x]; omega
      · rw [if_neg x]
    have m3 : q_mt t = 3 ↔ t.1 = 3 := by
      unfold q_mt
      by_cases x : t.1 = 2 ∧ 4 < t.2.2 - t.2.1
      · rw [if_pos x]; omega
      · rw [if_neg x]
    have m4 : q_mt t ≤ 4 := by
      unfold q_mt
      split <;> omega
    have e3 : t.1 = 3 → σ 90 9 = 3 := fun e => by rw [h.k, m3.mpr e]; rfl
    have n3 : ¬ t.1 = 3 → ¬ σ 90 9 = 3 := fun e => by rw [h.k]; exact nI_nel (y := 3) (b := 3) rfl (by omega) (by decide) (fun x => e (m3.mp x))
    rw [q_pz_s]
    have no : ∀ {r : mx_R}, r = some (some (.int 0), en S σ) → ME S key σ0 r (.inl t.2.1) := fun e => ⟨σ, e, h.s, h.o, h.f⟩
    cases w with
    | true =>
      rw [rn_X7_takesE_28, if_neg (show ¬ (if (true : Bool) = true then (1 : Int32) else 0) = 0 by decide), if_neg (show ¬ (if (true : Bool) = true then (1 : Int32) else 0) = 0 by decide), if_pos (show (true : Bool) = true from rfl)]
      -- a part is taken
      have part : ∀ {c na' : Nat} {st' cd' : List Nat} {σ' : Nat → Nat → Int32}, t.1 ≠ 0 → mx_ev xs mx_P (d + 6) 192 [.ref 90] (en S σ) = some (some (.int 1), en S σ') → PI (q_B key) tp n false st' cd' na' (q_nx tp n t) → MP tp n key σ0 σ' st' cd' na' cm (q_nx tp n t) → q_cn 20011 st' = q_cn 20011 st → ME S key σ0 (mx_cl (en S σ) 90 7 (mx_c1 (mx_ev xs mx_P (d + 6) 192 [.ref 90] (en S σ)) (fun x317 h316 => if x317 = 0 then mx_ri 1 [.int 0] h316 else mx_cl h316 90 7 (mx_c1 (mx_ev xs mx_P (d + 6) 194 [.ref 90] h316) (fun x319 h318 => mx_rn xs (mx_ev xs mx_P (d + 6)) kk_X7_takesE N 28 [(0, .ref 90), (1, .int (nI (q_cn 20011 st))), (2, .int x319), (3, .int 0)] [] h318))))) (q_pz tp n key m false st' cd' na' cm (q_nx tp n t)) := fun {c na' st' cd' σ'} t0 hr pi' hx eO => by
        have hnx := pi.nx t0
        have hl' := pi'.ln
        have ht' := pi'.tk.1
        have ht2 := pi'.tk.2.1
        rw [mocl hM, hr, c1s, if_neg (by decide), mocl hM, m_nots (d := d + 5) hM hx.u (by omega) pi'.sy, c1s, ← eO]
        exact m_fl hM hb hk m N σ' false st' cd' na' cm (q_nx tp n t) pi' hx (by omega) (by omega)
      have partF : mx_ev xs mx_P (d + 6) 192 [.ref 90] (en S σ) = some (some (.int 0), en S σ) → ME S key σ0 (mx_cl (en S σ) 90 7 (mx_c1 (mx_ev xs mx_P (d + 6) 192 [.ref 90] (en S σ)) (fun x317 h316 => if x317 = 0 then mx_ri 1 [.int 0] h316 else mx_cl h316 90 7 (mx_c1 (mx_ev xs mx_P (d + 6) 194 [.ref 90] h316) (fun x319 h318 => mx_rn xs (mx_ev xs mx_P (d + 6)) kk_X7_takesE N 28 [(0, .ref 90), (1, .int (nI (q_cn 20011 st))), (2, .int x319), (3, .int 0)] [] h318))))) (.inl t.2.1) := fun hr => by
        rw [mocl hM, hr, c1s, if_pos rfl]
        exact no rfl
      by_cases c1 : t.1 = 2 ∧ t.2.2 - t.2.1 ≤ 4
      · obtain ⟨σ', r1, x1⟩ := m_tNum (d := d) (xs := xs) hM hb h pi c1.1 c1.2
        have hd := tk.2.2.2.2.2.2 c1.1
        have hlt : q_nv tp t.2.1 (t.2.2 - t.2.1) < 10000 := q_nv_lt (fun j a b => (hd j a (by omega)).2) c1.2
        have hcb := q_cb_le st
        have hlt2 := pi.lt (by omega)
        have hRD : q_RD (q_B key) (q_nv tp t.2.1 (t.2.2 - t.2.1) :: cd) (q_cb st + 1) := Or.inl ⟨by omega, by omega, by omega, pi.rd⟩
        rw [if_pos c1, mog9 hM, if_neg (n3 (by omega)), mog9 hM, if_neg (n3 (by omega))]
        exact part (c := 0) (by omega) r1 (pi.leaf (by omega) (by omega)) x1 (q_nt_ok st _ pi.sy pi.j hRD).2.2.2.2.1
      rw [if_neg c1]
      by_cases c2 : t.1 = 1 ∧ t.2.2 - t.2.1 = 1 ∧ q_nm key (tp t.2.1) < 99
      · obtain ⟨σ', r1, x1⟩ := m_tName (d := d) (xs := xs) hM hb h pi hk c2.1 c2.2.1 c2.2.2
        have hB : q_nm key (tp t.2.1) < q_B key := by
          rcases q_nm_c key (tp t.2.1) with x | x
          · omega
          · exact x
        have hcb := q_cb_le st
        have hlt2 := pi.lt (by omega)
        have hRD : q_RD (q_B key) ((10000 + q_nm key (tp t.2.1)) :: cd) (q_cb st + 1) := Or.inl ⟨by omega, by omega, by omega, pi.rd⟩
        rw [if_pos c2, mog9 hM, if_neg (n3 (by omega)), mog9 hM, if_neg (n3 (by omega))]
        exact part (c := 0) (by omega) r1 (pi.leaf (by omega) (by omega)) x1 (q_nt_ok st _ pi.sy pi.j hRD).2.2.2.2.1
      rw [if_neg c2]
      have fp := m_fPart (d := d) (xs := xs) hM hb h pi hk c1 c2
      by_cases e : t.1 = 3
      · have h1 := pi.lt (by omega)
        have hbt := hb _ h1
        have v10 := h.v1 (Or.inr e)
        rw [mog9 hM, if_pos (e3 e), mog10 hM, v10]
        by_cases b1 : tp t.2.1 = 33
        · rw [if_pos (show nI (tp t.2.1) = 33 by rw [b1]; rfl)]
          by_cases c8 : q_cn 20010 st < 8
          · obtain ⟨σ', r1, x1⟩ := m_not (d := d) (xs := xs) (N := N) (pa := q_cn 20011 st) hM hb h pi e
            have hnx := pi.nx (by omega)
            have e0 : q_cn 20011 (20010 :: st) = q_cn 20011 st := by
              show (if 20010 = 20011 then 1 else 0) + q_cn 20011 st = _
              rw [if_neg (by decide), Nat.zero_add]
            rw [if_neg (by exact nI_ge (b := 8) c8 (by decide)), if_pos (show t.1 = 3 ∧ tp t.2.1 = 33 ∧ q_cn 20010 st < 8 from ⟨e, b1, c8⟩), r1, ← e0]
            exact m_fl hM hb hk m N σ' true (20010 :: st) cd na cm (q_nx tp n t) (pi.nt (by omega)) x1 (by omega) (by omega)
          · rw [if_pos (by exact nI_le (a := 8) (by omega) (by omega)), mog9 hM, if_pos (e3 e), mog10 hM, v10, if_neg (show ¬ nI (tp t.2.1) = 40 by rw [b1]; decide), if_neg (show ¬ (t.1 = 3 ∧ tp t.2.1 = 33 ∧ q_cn 20010 st < 8) from fun x => c8 x.2.2), if_neg (show ¬ (t.1 = 3 ∧ tp t.2.1 = 40 ∧ q_cn 20011 st < 8) from fun x => by have := x.2.1; omega)]
            exact partF fp
        · rw [if_neg (nI_nel (y := 33) (b := 33) rfl (by omega) (by decide) b1), mog9 hM, if_pos (e3 e), mog10 hM, v10, if_neg (show ¬ (t.1 = 3 ∧ tp t.2.1 = 33 ∧ q_cn 20010 st < 8) from fun x => b1 x.2.1)]
          by_cases b2 : tp t.2.1 = 40
          · rw [if_pos (show nI (tp t.2.1) = 40 by rw [b2]; rfl)]
            by_cases c8 : q_cn 20011 st < 8
            · obtain ⟨σ', r1, x1⟩ := m_opn (d := d) (xs := xs) (N := N) (pa := q_cn 20011 st) hM hb h pi rfl e c8
              have hnx := pi.nx (by omega)
              rw [if_neg (by exact nI_ge (b := 8) c8 (by decide)), if_pos (show t.1 = 3 ∧ tp t.2.1 = 40 ∧ q_cn 20011 st < 8 from ⟨e, b2, c8⟩), r1]
              exact m_fl hM hb hk m N σ' true (20011 :: st) cd na _ (q_nx tp n t) (pi.op (by omega) c8) x1 (by omega) (by omega)
            · rw [if_pos (by exact nI_le (a := 8) (by omega) (by omega)), if_neg (show ¬ (t.1 = 3 ∧ tp t.2.1 = 40 ∧ q_cn 20011 st < 8) from fun x => c8 x.2.2)]
              exact partF fp
          · rw [if_neg (nI_nel (y := 40) (b := 40) rfl (by omega) (by decide) b2), if_neg (show ¬ (t.1 = 3 ∧ tp t.2.1 = 40 ∧ q_cn 20011 st < 8) from fun x => b2 x.2.1)]
            exact partF fp
      · rw [mog9 hM, if_neg (n3 e), mog9 hM, if_neg (n3 e), if_neg (show ¬ (t.1 = 3 ∧ tp t.2.1 = 33 ∧ q_cn 20010 st < 8) from fun x => e x.1), if_neg (show ¬ (t.1 = 3 ∧ tp t.2.1 = 40 ∧ q_cn 20011 st < 8) from fun x => e x.1)]
        exact partF fp
    | false =>
      rw [rn_X7_takesE_28, if_pos (show (if (false : Bool) = true then (1 : Int32) else 0) = 0 from rfl), mog9 hM, if_neg (show ¬ (false : Bool) = true by decide)]
      by_cases c0 : t.1 = 0
      · obtain ⟨σ', r1, u1⟩ := m_settle (d := d + 4) (xs := xs) hM (k := 0) (by omega) (by omega) pi.sy pi.j h.u
        rw [q_ul_0] at u1
        have r1' : mx_ev xs mx_P (d + 6) 190 [.ref 90, .int 0] (en S σ) = some (none, en S σ') := r1
        have oo : ∀ k, k < 6 ∨ 19 < k → σ' 90 k = σ0 90 k := fun k hk => by rw [u1.o k (by omega) (by omega)]; exact h.o k hk
        have ff : ∀ b, b ≠ 90 → b ≠ 98 → b ≠ 99 → b ≠ 100 → σ' b = σ0 b := fun b b1 b2 b3 b4 => by rw [u1.f b b1 b2 b3]; exact h.f b b1 b2 b3 b4
        rw [if_pos (show σ 90 9 = 0 by rw [h.k, m0.mpr c0]; rfl), if_pos c0, mocl hM, r1', c0s]
        by_cases cO : q_cn 20011 st = 0
        · rw [if_pos cO, cO, if_pos (by decide), ri1_1]
          exact ⟨σ', rfl, u1.sc, by rw [u1.o 17 (by decide) (by decide)]; exact h.na, by rw [u1.o 12 (by decide) (by decide)]; exact h.ky, u1.cd, oo, ff⟩
        · rw [if_neg cO, if_neg (q_nz (by omega) (by omega)), ri1_0]
          exact ⟨σ', rfl, by rw [u1.o 8 (by decide) (by decide)]; exact h.s, oo, ff⟩
      rw [if_neg (show ¬ σ 90 9 = 0 by rw [h.k]; exact nI_nel (y := 0) (b := 0) rfl (by omega) (by decide) (fun x => c0 (m0.mp x))), if_neg c0, if_pos (show (0 : Int32) = 0 from rfl), mog9 hM]
      by_cases e : t.1 = 3
      · have h1 := pi.lt (by omega)
        have hbt := hb _ h1
        have hnx := pi.nx c0
        rw [if_pos (e3 e), mog10 hM, h.v1 (Or.inr e)]
        by_cases b1 : tp t.2.1 = 41
        · rw [if_pos (show nI (tp t.2.1) = 41 by rw [b1]; rfl)]
          by_cases cO : 0 < q_cn 20011 st
          · obtain ⟨σ', r1, x1⟩ := m_cls (d := d) (xs := xs) (N := N) (pa := q_cn 20011 st) hM hb h pi rfl e cO
            obtain ⟨r, er, e1, e2, pi2⟩ := pi.cl (by omega) cO
            have et : (q_ul 1 st cd).1.tail = r := by rw [er, List.tail_cons]
            rw [if_neg (nI_nle cO (by omega)), if_pos (show t.1 = 3 ∧ tp t.2.1 = 41 ∧ 0 < q_cn 20011 st from ⟨e, b1, cO⟩)]
            have r1' := r1
            rw [et] at r1' x1 ⊢
            refine Eq.mp (congrArg (fun z => ME S key σ0 z (q_pz tp n key m false (q_nt r (q_ul 1 st cd).2).1 (q_nt r (q_ul 1 st cd).2).2 na cm (q_nx tp n t))) r1'.symm) ?_
            exact m_fl hM hb hk m N σ' false (q_nt r (q_ul 1 st cd).2).1 (q_nt r (q_ul 1 st cd).2).2 na cm (q_nx tp n t) pi2 x1 (by omega) (by omega)
          · have z0 : q_cn 20011 st = 0 := by omega
            have hsg0 : ¬ (t.1 = 3 ∧ q_sg (tp t.2.1) ≠ 0 ∧ ¬ (q_str (q_sg (tp t.2.1)) = 3 ∧ cm (q_cn 20011 st) = true)) := fun x => x.2.1 (by rw [b1]; rfl)
            rw [if_pos (show nI (q_cn 20011 st) ≤ 0 by rw [z0]; decide), if_neg (show ¬ (t.1 = 3 ∧ tp t.2.1 = 41 ∧ 0 < q_cn 20011 st) from fun x => cO x.2.2), if_neg hsg0]
            exact no (m_sgnF (d := d) (xs := xs) (N := N) (pa := q_cn 20011 st) (nt := q_cn 20010 st) hM hb h pi rfl hsg0)
        · rw [if_neg (nI_nel (y := 41) (b := 41) rfl (by omega) (by decide) b1), if_neg (show ¬ (t.1 = 3 ∧ tp t.2.1 = 41 ∧ 0 < q_cn 20011 st) from fun x => b1 x.2.1)]
          by_cases c2 : t.1 = 3 ∧ q_sg (tp t.2.1) ≠ 0 ∧ ¬ (q_str (q_sg (tp t.2.1)) = 3 ∧ cm (q_cn 20011 st) = true)
          · obtain ⟨σ', r1, x1⟩ := m_sgn (d := d) (xs := xs) (N := N) (pa := q_cn 20011 st) (nt := q_cn 20010 st) hM hb h pi rfl e c2.2.1 c2.2.2
            have hs : 20001 ≤ q_sg (tp t.2.1) ∧ q_sg (tp t.2.1) ≤ 20009 := by
              rcases q_sg_c (tp t.2.1) with x | x
              · exact absurd x c2.2.1
              · exact x
            obtain ⟨i1, i2, i3, i4, i5, i6, i7⟩ := q_ul_ok (k := q_str (q_sg (tp t.2.1))) st cd pi.sy pi.j pi.rd
            have eO : q_cn 20011 (q_sg (tp t.2.1) :: (q_ul (q_str (q_sg (tp t.2.1))) st cd).1) = q_cn 20011 st := by
              show (if q_sg (tp t.2.1) = 20011 then 1 else 0) + q_cn 20011 _ = _
              rw [if_neg (by omega), Nat.zero_add, i6]
            have eN : q_cn 20010 (q_sg (tp t.2.1) :: (q_ul (q_str (q_sg (tp t.2.1))) st cd).1) = q_cn 20010 st := by
              show (if q_sg (tp t.2.1) = 20010 then 1 else 0) + q_cn 20010 _ = _
              rw [if_neg (by omega), Nat.zero_add, i5]
            have ih := m_fl hM hb hk m N σ' true _ _ na _ (q_nx tp n t) (pi.si (by omega) hs) x1 (by omega) (by omega)
            rw [eO, eN] at ih
            rw [if_pos c2]
            refine Eq.mp (congrArg (fun z => ME S key σ0 z _) r1.symm) ?_
            exact ih
          · rw [if_neg c2]
            exact no (m_sgnF (d := d) (xs := xs) (N := N) (pa := q_cn 20011 st) (nt := q_cn 20010 st) hM hb h pi rfl c2)
      · have hsg0 : ¬ (t.1 = 3 ∧ q_sg (tp t.2.1) ≠ 0 ∧ ¬ (q_str (q_sg (tp t.2.1)) = 3 ∧ cm (q_cn 20011 st) = true)) := fun x => e x.1
        rw [if_neg (n3 e), if_neg (show ¬ (t.1 = 3 ∧ tp t.2.1 = 41 ∧ 0 < q_cn 20011 st) from fun x => e x.1), if_neg hsg0]
        exact no (m_sgnF (d := d) (xs := xs) (N := N) (pa := q_cn 20011 st) (nt := q_cn 20010 st) hM hb h pi rfl hsg0)
end MF
