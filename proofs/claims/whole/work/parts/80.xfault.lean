/-! ===== the class reads a text ===== -/
theorem q_pz_s (tp : Nat → Nat) (n key m : Nat) (w : Bool) (st cd : List Nat) (na : Nat) (cm : Nat → Bool) (t : Nat × Nat × Nat) : q_pz tp n key (m + 1) w st cd na cm t =
    if w = true then
      if t.1 = 2 ∧ t.2.2 - t.2.1 ≤ 4 then q_pz tp n key m false (q_nt st (q_nv tp t.2.1 (t.2.2 - t.2.1) :: cd)).1 (q_nt st (q_nv tp t.2.1 (t.2.2 - t.2.1) :: cd)).2 (na + 1) cm (q_nx tp n t)
      else if t.1 = 1 ∧ t.2.2 - t.2.1 = 1 ∧ q_nm key (tp t.2.1) < 99 then q_pz tp n key m false (q_nt st ((10000 + q_nm key (tp t.2.1)) :: cd)).1 (q_nt st ((10000 + q_nm key (tp t.2.1)) :: cd)).2 (na + 1) cm (q_nx tp n t)
      else if t.1 = 3 ∧ tp t.2.1 = 33 ∧ q_cn 20010 st < 8 then q_pz tp n key m true (20010 :: st) cd na cm (q_nx tp n t)
      else if t.1 = 3 ∧ tp t.2.1 = 40 ∧ q_cn 20011 st < 8 then q_pz tp n key m true (20011 :: st) cd na (fun i => if i = q_cn 20011 st + 1 then false else cm i) (q_nx tp n t)
      else .inl t.2.1
    else
      if t.1 = 0 then (if q_cn 20011 st = 0 then .inr ((q_ul 1 st cd).2, na) else .inl t.2.1)
      else if t.1 = 3 ∧ tp t.2.1 = 41 ∧ 0 < q_cn 20011 st then q_pz tp n key m false (q_nt (q_ul 1 st cd).1.tail (q_ul 1 st cd).2).1 (q_nt (q_ul 1 st cd).1.tail (q_ul 1 st cd).2).2 na cm (q_nx tp n t)
      else if t.1 = 3 ∧ q_sg (tp t.2.1) ≠ 0 ∧ ¬ (q_str (q_sg (tp t.2.1)) = 3 ∧ cm (q_cn 20011 st) = true) then q_pz tp n key m true (q_sg (tp t.2.1) :: (q_ul (q_str (q_sg (tp t.2.1))) st cd).1) (q_ul (q_str (q_sg (tp t.2.1))) st cd).2 na (fun i => if i = q_cn 20011 st ∧ q_str (q_sg (tp t.2.1)) ≤ 3 then decide (q_str (q_sg (tp t.2.1)) = 3) else cm i) (q_nx tp n t)
      else .inl t.2.1 := rfl
def XE (S : List en_S) (key : Nat) (σ0 : Nat → Nat → Int32) (r : mx_R) : Nat ⊕ (List Nat × Nat) → Prop
  | .inl p => ∃ σ', r = some (some (.int (nI p)), en S σ') ∧ ∀ b, b ≠ 54 → b ≠ 56 → b ≠ 57 → b ≠ 58 → σ' b = σ0 b
  | .inr (cd, na) => ∃ σ', r = some (some (.int (-1)), en S σ') ∧ σ' 54 6 = nI cd.length ∧ q_PR (σ' 56) q_ec cd ∧ σ' 54 13 = nI key ∧ σ' 54 14 = nI na ∧ ∀ b, b ≠ 54 → b ≠ 56 → b ≠ 57 → b ≠ 58 → σ' b = σ0 b
section XF
variable {S : List en_S} {d n key na B : Nat} {xs : List Int32} {tp : Nat → Nat} {σ0 σ σ1 : Nat → Nat → Int32} {st cd : List Nat} {w : Bool} {cm : Nat → Bool} {t : Nat × Nat × Nat}
theorem x_fPiece (hR : isRd S) (hb : ∀ k, k < n → tp k < 256) (h : XP tp n key σ0 σ true st cd na cm t) (pi : PI B tp n true st cd na t) (hk : key < 3) (c1 : ¬ (t.1 = 2 ∧ t.2.2 - t.2.1 ≤ 4)) (c2 : ¬ (t.1 = 1 ∧ t.2.2 - t.2.1 = 1 ∧ q_nm key (tp t.2.1) < 99)) (c3 : ¬ (t.1 = 3 ∧ tp t.2.1 = 33 ∧ q_cn 20010 st < 8)) (c4 : ¬ (t.1 = 3 ∧ tp t.2.1 = 40 ∧ q_cn 20011 st < 8)) : mx_ev xs mx_P (d + 7) 58 [.ref 54] (en S σ) = some (some (.int 0), en S σ) := by
  have h3 := pi.n
  have tk := pi.tk
  have k1 := tk.1
  have k2 := tk.2.1
  have k4 := tk.2.2.1
  have h8 := pi.o8
  have hl := pi.ln
  rcases (show t.1 = 0 ∨ t.1 = 1 ∨ t.1 = 2 ∨ t.1 = 3 ∨ t.1 = 4 by omega) with e | e | e | e | e
  · rw [ev_X2_takesPiece, rdg2 hR, h.tk, e]
    rfl
  · exact x_fName hR h pi hk e (fun x => c2 ⟨e, x.1, x.2⟩)
  · have es : nI t.2.2 - nI t.2.1 = nI (t.2.2 - t.2.1) := pk_sub k1
    rw [ev_X2_takesPiece, rdg2 hR, h.tk, e, if_neg (by decide), if_pos (by decide), rdcl hR, ev_X2_takesNumber, rdg4 hR, rdg3 hR, h.e, h.s, es, if_neg (by exact nI_ge (a := 4) (by omega) (by omega))]
    rfl
  · have h1 := pi.lt (by omega)
    have hbt := hb _ h1
    have hc := q_cb_le st
    have cnl : ∀ (x : Nat) (l : List Nat), q_cn x l ≤ l.length := fun x l => by
      induction l with
      | nil => exact Nat.le_refl _
      | cons a r ih =>
        unfold q_cn
        rw [List.length_cons]
        split <;> omega
    have cn1 := cnl 20010 st
    have cn2 := cnl 20011 st
    rw [ev_X2_takesPiece, rdg2 hR, h.tk, e, if_neg (by decide), if_neg (by decide), if_pos (by decide), rdcl hR, ev_X2_takesOpening, rdr0 hR, rdg3 hR, h.s, rdb53 hR (by omega), h.bt _ h1]
    by_cases b1 : tp t.2.1 = 33
    · rw [if_pos (show nI (tp t.2.1) = 33 by rw [b1]; rfl), rdg11 hR, h.u.nt, if_pos (by exact nI_le (a := 8) (by have := fun x => c3 ⟨e, b1, x⟩; omega) (by omega)), if_neg (show ¬ nI (tp t.2.1) = 40 by rw [b1]; decide)]
      rfl
    · rw [if_neg (nI_nel (y := 33) (b := 33) rfl (by omega) (by decide) b1)]
      by_cases b2 : tp t.2.1 = 40
      · rw [if_pos (show nI (tp t.2.1) = 40 by rw [b2]; rfl), rdg10 hR, h.op, if_pos (by exact nI_le (a := 8) (by have := fun x => c4 ⟨e, b2, x⟩; omega) (by omega))]
        rfl
      · rw [if_neg (nI_nel (y := 40) (b := 40) rfl (by omega) (by decide) b2)]
        rfl
  · rw [ev_X2_takesPiece, rdg2 hR, h.tk, e]
    rfl
theorem x_fSign (hR : isRd S) (hb : ∀ k, k < n → tp k < 256) (h : XP tp n key σ0 σ false st cd na cm t) (pi : PI B tp n false st cd na t) (c1 : ¬ (t.1 = 3 ∧ tp t.2.1 = 41 ∧ 0 < q_cn 20011 st)) (c2 : ¬ (t.1 = 3 ∧ q_sg (tp t.2.1) ≠ 0 ∧ ¬ (q_str (q_sg (tp t.2.1)) = 3 ∧ cm (q_cn 20011 st) = true))) : mx_ev xs mx_P (d + 4) 65 [.ref 54] (en S σ) = some (some (.int 0), en S σ) := by
  have h3 := pi.n
  have k4 := pi.tk.2.2.1
  have h8 := pi.o8
  by_cases e : t.1 = 3
  · have h1 := pi.lt (by omega)
    have hbt := hb _ h1
    rw [ev_X2_takesSign, rdg2 hR, h.tk, e, if_pos (by decide), rdr0 hR, rdg3 hR, h.s, rdb53 hR (by omega), h.bt _ h1]
    by_cases b1 : tp t.2.1 = 41
    · rw [if_pos (show nI (tp t.2.1) = 41 by rw [b1]; rfl), rdcl hR, ev_X2_takesClosing, rdg10 hR, h.op, show q_cn 20011 st = 0 by have := fun x => c1 ⟨e, b1, x⟩; omega, if_pos (by decide)]
      rfl
    · rw [if_neg (nI_nel (y := 41) (b := 41) rfl (by omega) (by decide) b1), x_stren _ hbt, c1s]
      by_cases b2 : q_sg (tp t.2.1) = 0
      · rw [if_pos b2, if_pos rfl]
        rfl
      · have c3 : q_str (q_sg (tp t.2.1)) = 3 ∧ cm (q_cn 20011 st) = true := by
          by_cases x : q_str (q_sg (tp t.2.1)) = 3 ∧ cm (q_cn 20011 st) = true
          · exact x
          · exact absurd ⟨e, b2, x⟩ c2
        have hcm := h.cm (q_cn 20011 st) (Nat.le_refl _)
        rw [if_pos c3.2] at hcm
        rw [if_neg b2, c3.1, if_neg (by decide), if_pos (by decide), rdr9 hR, rdg10 hR, h.op, rda58 hR (by omega), hcm, if_neg (by decide)]
        rfl
  · rw [ev_X2_takesSign, rdg2 hR, h.tk, if_neg (nI_nel (y := 3) (b := 3) rfl (by omega) (by decide) e)]
    rfl
theorem x_whole (hR : isRd S) (h : XP tp n key σ0 σ w st cd na cm t) (pi : PI B tp n w st cd na t) : mx_ev xs mx_P (d + 1) 53 [.ref 54] (en S σ) = some (some (.int (if t.1 = 0 ∧ w = false ∧ q_cn 20011 st = 0 then 1 else 0)), en S σ) := by
  have k4 := pi.tk.2.2.1
  have h8 := pi.o8
  rw [ev_X2_isWhole, rdg2 hR, h.tk]
  by_cases e : t.1 = 0
  · rw [if_pos (by rw [e]; rfl), rdg12 hR, h.w]
    cases w with
    | true =>
      rw [if_neg (show ¬ (if (true : Bool) = true then (1 : Int32) else 0) = 0 by decide), if_neg (fun x => by cases x.2.1)]
      rfl
    | false =>
      rw [if_pos (show (if (false : Bool) = true then (1 : Int32) else 0) = 0 from rfl), rdg10 hR, h.op]
      by_cases c : q_cn 20011 st = 0
      · rw [c, if_pos (by decide), if_pos ⟨e, rfl, rfl⟩]
        rfl
      · rw [if_neg (q_nz (by omega) (by omega)), if_neg (fun x => c x.2.2)]
        rfl
  · rw [if_neg (q_nz (by omega) (by omega)), if_neg (fun x => e x.1)]
    rfl
theorem x_fl (hR : isRd S) (hb : ∀ k, k < n → tp k < 256) (hk : key < 3) : ∀ (m i N : Nat) (σ : Nat → Nat → Int32) (w : Bool) (st cd : List Nat) (na : Nat) (cm : Nat → Bool) (t : Nat × Nat × Nat), PI (q_B key) tp n w st cd na t → XP tp n key σ0 σ w st cd na cm t → n < t.2.1 + m → i + 3 ≤ t.2.1 → m + 5 < N → XE S key σ0 (mx_rn xs (mx_ev xs mx_P (d + 8)) kk_X2_faultOf N 36 [(0, .ref 54), (3, .int (nI i))] [] (en S σ)) (q_pz tp n key m w st cd na cm t)
  | _, _, 0, _, _, _, _, _, _, _, _, _, _, _, h => absurd h (by omega)
  | 0, i, N + 1, σ, w, st, cd, na, cm, t, pi, h, hm, hi, hN => by
    have := pi.tk.1
    have := pi.tk.2.1
    omega
  | m + 1, i, N + 1, σ, w, st, cd, na, cm, t, pi, h, hm, hi, hN => by
    have tk := pi.tk
    have h3 := pi.n
    have k1 := tk.1
    have k2 := tk.2.1
    rw [rn_X2_faultOf_36, rdg1 hR, h.ln, if_neg (nI_nlt (by omega) (by omega)), rdcl hR, x_whole hR h pi, c1s, q_pz_s]
    -- how it goes on behind a token that was taken
    have go : ∀ (j : Nat), j = 58 ∨ j = 65 → ∀ (w' : Bool) (st' cd' : List Nat) (na' : Nat) (cm' : Nat → Bool) (σ' : Nat → Nat → Int32), t.1 ≠ 0 → mx_ev xs mx_P (d + 8) j [.ref 54] (en S σ) = some (some (.int 1), en S σ') → PI (q_B key) tp n w' st' cd' na' (q_nx tp n t) → XP tp n key σ0 σ' w' st' cd' na' cm' t → XE S key σ0 (mx_cl (en S σ) 54 2 (mx_c1 (mx_ev xs mx_P (d + 8) j [.ref 54] (en S σ)) (fun x7 h6 => if x7 = 0 then mx_gi h6 54 2 3 (fun x8 => mx_ri 0 [.int x8] h6) else mx_cl h6 54 2 (mx_c0 (mx_ev xs mx_P (d + 8) 54 [.ref 54] h6) (fun h9 => mx_rn xs (mx_ev xs mx_P (d + 8)) kk_X2_faultOf N 36 [(0, .ref 54), (3, .int (nI i + 1))] [] h9))))) (q_pz tp n key m w' st' cd' na' cm' (q_nx tp n t)) := fun j _ w' st' cd' na' cm' σ' t0 hr pi' hx => by
      obtain ⟨σ2, r2, x2⟩ := hx.next (d := d + 6) (xs := xs) hR hb h3 tk
      have hnx := pi.nx t0
      rw [rdcl hR, hr, c1s, if_neg (by decide), rdcl hR, r2, c0s, nI_1]
      exact x_fl hR hb hk m (i + 1) N σ2 w' st' cd' na' cm' (q_nx tp n t) pi' x2 (by omega) (by omega) (by omega)
    have no : ∀ (j : Nat), mx_ev xs mx_P (d + 8) j [.ref 54] (en S σ) = some (some (.int 0), en S σ) → XE S key σ0 (mx_cl (en S σ) 54 2 (mx_c1 (mx_ev xs mx_P (d + 8) j [.ref 54] (en S σ)) (fun x7 h6 => if x7 = 0 then mx_gi h6 54 2 3 (fun x8 => mx_ri 0 [.int x8] h6) else mx_cl h6 54 2 (mx_c0 (mx_ev xs mx_P (d + 8) 54 [.ref 54] h6) (fun h9 => mx_rn xs (mx_ev xs mx_P (d + 8)) kk_X2_faultOf N 36 [(0, .ref 54), (3, .int (nI i + 1))] [] h9))))) (.inl t.2.1) := fun j hr => by
      rw [rdcl hR, hr, c1s, if_pos rfl, rdg3 hR, h.s, ri0]
      exact ⟨σ, rfl, h.f⟩
    cases w with
    | true =>
      rw [if_pos (show (if t.1 = 0 ∧ (true : Bool) = false ∧ q_cn 20011 st = 0 then (1 : Int32) else 0) = 0 by rw [if_neg (fun x => by cases x.2.1)]), rdg12 hR, h.w, if_neg (show ¬ (if (true : Bool) = true then (1 : Int32) else 0) = 0 by decide), if_pos rfl]
      by_cases c1 : t.1 = 2 ∧ t.2.2 - t.2.1 ≤ 4
      · obtain ⟨σ', r1, x1⟩ := x_tNum (d := d + 3) (xs := xs) hR h pi c1.1 c1.2
        have hd := tk.2.2.2.2.2.2 c1.1
        have hlt : q_nv tp t.2.1 (t.2.2 - t.2.1) < 10000 := q_nv_lt (fun j a b => (hd j a (by omega)).2) c1.2
        rw [if_pos c1]
        exact go 58 (Or.inl rfl) _ _ _ _ _ σ' (by omega) r1 (pi.leaf (by omega) (by omega)) x1
      rw [if_neg c1]
      by_cases c2 : t.1 = 1 ∧ t.2.2 - t.2.1 = 1 ∧ q_nm key (tp t.2.1) < 99
      · obtain ⟨σ', r1, x1⟩ := x_tName (d := d + 1) (xs := xs) hR h pi hk c2.1 c2.2.1 c2.2.2
        have hB : q_nm key (tp t.2.1) < q_B key := by
          rcases q_nm_c key (tp t.2.1) with x | x
          · omega
          · exact x
        rw [if_pos c2]
        exact go 58 (Or.inl rfl) _ _ _ _ _ σ' (by omega) r1 (pi.leaf (by omega) (by omega)) x1
      rw [if_neg c2]
      by_cases c3 : t.1 = 3 ∧ tp t.2.1 = 33 ∧ q_cn 20010 st < 8
      · obtain ⟨σ', r1, x1⟩ := x_tNot (d := d + 5) (xs := xs) hR h pi c3.1 c3.2.1 c3.2.2
        rw [if_pos c3]
        exact go 58 (Or.inl rfl) _ _ _ _ _ σ' (by omega) r1 (pi.nt (by omega)) x1
      rw [if_neg c3]
      by_cases c4 : t.1 = 3 ∧ tp t.2.1 = 40 ∧ q_cn 20011 st < 8
      · obtain ⟨σ', r1, x1⟩ := x_tOp (d := d + 5) (xs := xs) hR h pi c4.1 c4.2.1 c4.2.2
        rw [if_pos c4]
        exact go 58 (Or.inl rfl) _ _ _ _ _ σ' (by omega) r1 (pi.op (by omega) c4.2.2) x1
      rw [if_neg c4]
      exact no 58 (x_fPiece (d := d + 1) hR hb h pi hk c1 c2 c3 c4)
    | false =>
      rw [if_neg (show ¬ (false : Bool) = true by decide)]
      by_cases c0 : t.1 = 0
      · rw [if_pos c0]
        by_cases cO : q_cn 20011 st = 0
        · have hl := pi.ln
          obtain ⟨σ', r1, u1⟩ := x_unp (d := d + 6) (xs := xs) hR (k := 1) (by omega) (by omega) pi.sy h.u
          have r1' : mx_ev xs mx_P (d + 8) 68 [.ref 54, .int 1] (en S σ) = some (none, en S σ') := r1
          rw [if_pos cO, if_neg (show ¬ (if t.1 = 0 ∧ (false : Bool) = false ∧ q_cn 20011 st = 0 then (1 : Int32) else 0) = 0 by rw [if_pos ⟨c0, rfl, cO⟩]; decide), rdcl hR, r1', c0s, ri0]
          exact ⟨σ', rfl, u1.sc, u1.cd, by rw [u1.o 13 (by decide) (by decide) (by decide)]; exact h.ky, by rw [u1.o 14 (by decide) (by decide) (by decide)]; exact h.na, fun b b1 b2 b3 b4 => by rw [u1.f b b1 b2 b3]; exact h.f b b1 b2 b3 b4⟩
        · rw [if_neg cO, if_pos (show (if t.1 = 0 ∧ (false : Bool) = false ∧ q_cn 20011 st = 0 then (1 : Int32) else 0) = 0 by rw [if_neg (fun x => cO x.2.2)]), rdg12 hR, h.w, if_pos (show (if (false : Bool) = true then (1 : Int32) else 0) = 0 from rfl)]
          exact no 65 (x_fSign (d := d + 4) hR hb h pi (fun x => by have := x.1; omega) (fun x => by have := x.1; omega))
      rw [if_neg c0, if_pos (show (if t.1 = 0 ∧ (false : Bool) = false ∧ q_cn 20011 st = 0 then (1 : Int32) else 0) = 0 by rw [if_neg (fun x => c0 x.1)]), rdg12 hR, h.w, if_pos (show (if (false : Bool) = true then (1 : Int32) else 0) = 0 from rfl)]
      by_cases c1 : t.1 = 3 ∧ tp t.2.1 = 41 ∧ 0 < q_cn 20011 st
      · obtain ⟨σ', r1, x1⟩ := x_tCl (d := d + 4) (xs := xs) hR h pi c1.1 c1.2.1 c1.2.2
        obtain ⟨r, er, e1, e2, pi2⟩ := pi.cl (by omega) c1.2.2
        rw [if_pos c1]
        have et : (q_ul 1 st cd).1.tail = r := by rw [er, List.tail_cons]
        rw [et] at x1 ⊢
        exact go 65 (Or.inr rfl) _ _ _ _ _ σ' (by omega) r1 pi2 x1
      rw [if_neg c1]
      by_cases c2 : t.1 = 3 ∧ q_sg (tp t.2.1) ≠ 0 ∧ ¬ (q_str (q_sg (tp t.2.1)) = 3 ∧ cm (q_cn 20011 st) = true)
      · obtain ⟨σ', r1, x1⟩ := x_tSi (d := d + 5) (xs := xs) hR h pi (hb _ (pi.lt (by omega))) c2.1 c2.2.1 c2.2.2
        rw [if_pos c2]
        exact go 65 (Or.inr rfl) _ _ _ _ _ σ' (by omega) r1 (pi.si (by omega) (by rcases q_sg_c (tp t.2.1) with x | x; exact absurd x c2.2.1; exact x)) x1
      rw [if_neg c2]
      exact no 65 (x_fSign (d := d + 4) hR hb h pi c1 c2)
end XF
