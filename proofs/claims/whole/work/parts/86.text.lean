/-! ===== text: both sides ===== -/
def en_z : en_S → Nat
  | .inl (_, tm) => tm.length
  | .inr (.inl (_, n)) => n
  | .inr (.inr (.inl (_, n, _))) => n
  | .inr (.inr (.inr (_, n))) => n
def en_zs (S : List en_S) : Nat := (S.map en_z).sum
theorem en_zs_sz {S : List en_S} {σ : Nat → Nat → Int32} : mx_sz (en S σ) = en_zs S := by
  unfold mx_sz en_zs
  congr 1
  apply List.ext_getElem?
  intro j
  rw [List.getElem?_map, List.getElem?_map]
  unfold en
  rw [List.getElem?_mapIdx]
  cases S[j]? with
  | none => rfl
  | some x =>
    match x with
    | .inl (ci, tm) => simp [en_c, mx_se, en_z]
    | .inr (.inl (t, n)) => simp [en_c, mx_se, en_z]
    | .inr (.inr (.inl (t, n, g))) => simp [en_c, mx_se, en_z]
    | .inr (.inr (.inr (t, n))) => simp [en_c, mx_se, en_z]
theorem q_pz_ok {tp : Nat → Nat} {n key : Nat} : ∀ (m : Nat) (w : Bool) (st cd : List Nat) (na : Nat) (cm : Nat → Bool) (t : Nat × Nat × Nat), PI (q_B key) tp n w st cd na t → (∀ p, q_pz tp n key m w st cd na cm t = .inl p → p ≤ n) ∧ ∀ c a, q_pz tp n key m w st cd na cm t = .inr (c, a) → q_RD (q_B key) c 1 ∧ c.length ≤ 93 ∧ a ≤ c.length
  | 0, w, st, cd, na, cm, t, pi => by
    have k1 := pi.tk.1
    have k2 := pi.tk.2.1
    refine ⟨fun p e => ?_, fun c a e => (by cases e)⟩
    have e : t.2.1 = p := by injection e
    omega
  | m + 1, w, st, cd, na, cm, t, pi => by
    have tk := pi.tk
    have k1 := tk.1
    have k2 := tk.2.1
    have h3 := pi.n
    have hl := pi.ln
    have ha := pi.a
    have no : (∀ p, (Sum.inl t.2.1 : Nat ⊕ (List Nat × Nat)) = .inl p → p ≤ n) ∧ ∀ c a, (Sum.inl t.2.1 : Nat ⊕ (List Nat × Nat)) = .inr (c, a) → q_RD (q_B key) c 1 ∧ c.length ≤ 93 ∧ a ≤ c.length := by
      refine ⟨fun p e => ?_, fun c a e => (by cases e)⟩
      have e : t.2.1 = p := by injection e
      omega
    rw [q_pz_s]
    cases w with
    | true =>
      rw [if_pos (show (true : Bool) = true from rfl)]
      by_cases c1 : t.1 = 2 ∧ t.2.2 - t.2.1 ≤ 4
      · have hd := tk.2.2.2.2.2.2 c1.1
        have hlt : q_nv tp t.2.1 (t.2.2 - t.2.1) < 10000 := q_nv_lt (fun j a b => (hd j a (by omega)).2) c1.2
        rw [if_pos c1]
        exact q_pz_ok m _ _ _ _ _ _ (pi.leaf (by omega) (by omega))
      rw [if_neg c1]
      by_cases c2 : t.1 = 1 ∧ t.2.2 - t.2.1 = 1 ∧ q_nm key (tp t.2.1) < 99
      · have hB : q_nm key (tp t.2.1) < q_B key := by
          rcases q_nm_c key (tp t.2.1) with x | x
          · omega
          · exact x
        rw [if_pos c2]
        exact q_pz_ok m _ _ _ _ _ _ (pi.leaf (by omega) (by omega))
      rw [if_neg c2]
      by_cases c3 : t.1 = 3 ∧ tp t.2.1 = 33 ∧ q_cn 20010 st < 8
      · rw [if_pos c3]
        exact q_pz_ok m _ _ _ _ _ _ (pi.nt (by omega))
      rw [if_neg c3]
      by_cases c4 : t.1 = 3 ∧ tp t.2.1 = 40 ∧ q_cn 20011 st < 8
      · rw [if_pos c4]
        exact q_pz_ok m _ _ _ _ _ _ (pi.op (by omega) c4.2.2)
      rw [if_neg c4]
      exact no
    | false =>
      rw [if_neg (show ¬ (false : Bool) = true by decide)]
      by_cases c0 : t.1 = 0
      · rw [if_pos c0]
        by_cases cO : q_cn 20011 st = 0
        · rw [if_pos cO]
          refine ⟨fun p e => (by cases e), fun c a e => ?_⟩
          injection e with e
          injection e with e1 e2
          subst e1
          subst e2
          obtain ⟨i1, i2, i3, i4, i5, i6, i7⟩ := q_ul_ok (k := 1) st cd pi.sy pi.j pi.rd
          rw [q_ul_no st cd pi.sy pi.j cO] at i3 i4
          have i3 : q_RD (q_B key) (q_ul 1 st cd).2 1 := i3
          have i4 : 0 + (q_ul 1 st cd).2.length = st.length + cd.length := i4
          exact ⟨i3, by omega, by omega⟩
        · rw [if_neg cO]
          exact no
      rw [if_neg c0]
      by_cases c1 : t.1 = 3 ∧ tp t.2.1 = 41 ∧ 0 < q_cn 20011 st
      · obtain ⟨r, er, e1, e2, pi2⟩ := pi.cl c0 c1.2.2
        have et : (q_ul 1 st cd).1.tail = r := by rw [er, List.tail_cons]
        rw [if_pos c1, et]
        exact q_pz_ok m _ _ _ _ _ _ pi2
      rw [if_neg c1]
      by_cases c2 : t.1 = 3 ∧ q_sg (tp t.2.1) ≠ 0 ∧ ¬ (q_str (q_sg (tp t.2.1)) = 3 ∧ cm (q_cn 20011 st) = true)
      · rw [if_pos c2]
        exact q_pz_ok m _ _ _ _ _ _ (pi.si c0 (by rcases q_sg_c (tp t.2.1) with x | x; exact absurd x c2.2.1; exact x))
      rw [if_neg c2]
      exact no
theorem ap_set {α : Type} (x : α) : ∀ (H l : List α) (j : Nat), (H ++ l).set (H.length + j) x = H ++ l.set j x
  | [], l, j => by rw [List.length_nil, Nat.zero_add]; rfl
  | a :: H, l, j => by
    rw [List.length_cons, show H.length + 1 + j = (H.length + j) + 1 by omega]
    show a :: (H ++ l).set (H.length + j) x = a :: (H ++ l.set j x)
    rw [ap_set x H l j]
theorem ap_at {α : Type} (H l : List α) (j : Nat) : (H ++ l)[H.length + j]? = l[j]? := by
  rw [List.getElem?_append_right (by omega), Nat.add_sub_cancel_left]
section AP
variable {h l : mx_H} {r ci k : Nat}
theorem ap_gi (hr : r < h.length) {f : Int32 → mx_R} : mx_gi (h ++ l) r ci k f = mx_gi h r ci k f := by unfold mx_gi; rw [List.getElem?_append_left hr]
theorem ap_gr (hr : r < h.length) {f : Nat → mx_R} : mx_gr (h ++ l) r ci k f = mx_gr h r ci k f := by unfold mx_gr; rw [List.getElem?_append_left hr]
theorem ap_al (hr : r < h.length) {f : Int32 → mx_R} : mx_al (h ++ l) r f = mx_al h r f := by unfold mx_al; rw [List.getElem?_append_left hr]
end AP
section TT
variable {S : List en_S} {d n key na B : Nat} {xs : List Int32} {tp : Nat → Nat} {σ0 σ σ1 τ : Nat → Nat → Int32} {st cd : List Nat} {G : q_G} {C : q_C} {K : q_K}
def q_S2 (S : List en_S) (len : Nat) : List en_S := S ++ [.inl (5, [none, none, some (S.length + 1)]), .inr (.inl (0, len))]
def q_o2 (S : List en_S) (key na len : Nat) (σ : Nat → Nat → Int32) : Nat → Nat → Int32 := fun b => if b = S.length then (fun k => if k = 0 then nI key else nI na) else if b = S.length + 1 then va_cpy (σ 56) (fun _ => 0) 0 0 len else σ b
theorem en_S2 {len : Nat} : en (q_S2 S len) (q_o2 S key na len σ) = en S σ ++ [.inr (5, [.int (nI key), .int (nI na), .ref (S.length + 1)]), .inl (0, len, .inl (va_cpy (σ 56) (fun _ => 0) 0 0 len))] := by
  unfold q_S2
  apply List.ext_getElem?
  intro j
  unfold en
  rw [List.getElem?_mapIdx]
  by_cases h1 : j < S.length
  · rw [List.getElem?_append_left h1, List.getElem?_append_left (by rw [List.length_mapIdx]; exact h1), List.getElem?_mapIdx]
    have e : q_o2 S key na len σ j = σ j := by
      unfold q_o2
      rw [if_neg (by omega), if_neg (by omega)]
    rw [e]
  · obtain ⟨i, rfl⟩ : ∃ i, j = S.length + i := ⟨j - S.length, by omega⟩
    have e2 : ∀ (l : mx_H), (S.mapIdx (fun a x => en_c (σ a) x) ++ l)[S.length + i]? = l[i]? := fun l => by
      have := ap_at (S.mapIdx (fun a x => en_c (σ a) x)) l i
      rw [List.length_mapIdx] at this
      exact this
    rw [ap_at, e2]
    match i with
    | 0 =>
      have e : q_o2 S key na len σ (S.length + 0) = fun k => if k = 0 then nI key else nI na := by
        unfold q_o2
        rw [if_pos (by omega)]
      rw [e]
      rfl
    | 1 =>
      have e : q_o2 S key na len σ (S.length + 1) = va_cpy (σ 56) (fun _ => 0) 0 0 len := by
        unfold q_o2
        rw [if_neg (by omega), if_pos rfl]
      rw [e]
      rfl
    | i + 2 => rfl
theorem x_textRead (hR : isRd S) (h112 : 112 ≤ S.length) (hc : cd.length ≤ 93) (h6 : σ 54 6 = nI cd.length) (h13 : σ 54 13 = nI key) (h14 : σ 54 14 = nI na) : mx_ev xs mx_P (d + 3) 51 [.ref 54] (en S σ) = some (some (.ref S.length), en (q_S2 S cd.length) (q_o2 S key na cd.length σ)) := by
  have hL : (en S σ).length = S.length := en_len
  have h54 : 54 < (en S σ).length := by rw [hL]; omega
  have h56 : 56 < (en S σ).length := by rw [hL]; omega
  have hmin : ∀ h, mx_ev xs mx_P (d + 1) 3 [.int (Int32.ofNat 96), .int (nI cd.length)] h = some (some (.int (nI cd.length)), h) := fun h => by
    have := q_min xs d (a := 96) (b := cd.length) h (by decide) (by omega)
    rw [Nat.min_eq_right (by omega)] at this
    exact this
  have hcp : ∀ (o : va_E) (f : mx_H → mx_R), mx_cp (en S σ ++ [o, .inl (0, cd.length, .inl (fun _ => 0))]) 56 0 (S.length + 1) 0 (nI cd.length) f = f (en S σ ++ [o, .inl (0, cd.length, .inl (va_cpy (σ 56) (fun _ => 0) 0 0 cd.length))]) := fun o f => by
    unfold mx_cp
    rw [List.getElem?_append_left h56, en_get hR.2.2.1]
    have e1 : (en S σ ++ [o, .inl (0, cd.length, .inl (fun _ => 0))])[S.length + 1]? = some (.inl (0, cd.length, .inl (fun _ => 0))) := by
      rw [← hL, ap_at]; rfl
    rw [e1]
    simp only [en_c]
    rw [if_pos ⟨trivial, trivial, by decide, by decide, nI_pos (by omega), by rw [nI_clamp (by omega)]; show 0 + cd.length ≤ 96; omega, by rw [nI_clamp (by omega)]; show 0 + cd.length ≤ cd.length; omega⟩, nI_clamp (by omega), ← hL, ap_set]
    rfl
  have hcopy : mx_ev xs mx_P (d + 2) 6 [.ref 56, .int (nI cd.length)] (en S σ ++ [.inr (5, mx_df 5)]) = some (some (.ref (S.length + 1)), en S σ ++ [.inr (5, mx_df 5), .inl (0, cd.length, .inl (va_cpy (σ 56) (fun _ => 0) 0 0 cd.length))]) := by
    rw [ev_J7_copyOf_59c91, ap_al h56, en_al hR.2.2.1 (by decide), if_neg (by exact fun x => by have := (nI_eq (a := cd.length) (b := 96) (by omega) (by decide)).mp x; omega)]
    unfold mx_na
    rw [if_pos ⟨nI_pos (by omega), by rw [nI_clamp (by omega)]; omega⟩, nI_clamp (by omega), List.length_append, hL, List.append_assoc]
    show mx_al (en S σ ++ _) 56 _ = _
    rw [ap_al h56, en_al hR.2.2.1 (by decide), hmin, c1s]
    show mx_cp (en S σ ++ [.inr (5, mx_df 5), .inl (0, cd.length, .inl (fun _ => 0))]) 56 0 (S.length + 1) 0 (nI cd.length) _ = _
    rw [hcp]
    rfl
  have hpt : ∀ (fs : List Value) (a : va_E) (k : Nat) (v : Value) (f : mx_H → mx_R), k < fs.length → mx_pt (en S σ ++ [.inr (5, fs), a]) S.length 5 k v f = f (en S σ ++ [.inr (5, fs.set k v), a]) := fun fs a k v f hk => by
    have e1 : (en S σ ++ [.inr (5, fs), a])[S.length]? = some (.inr (5, fs)) := by
      have := ap_at (en S σ) [.inr (5, fs), a] 0
      rw [hL, Nat.add_zero] at this
      rw [this]
      rfl
    unfold mx_pt
    rw [e1]
    simp only []
    rw [if_pos ⟨trivial, hk⟩]
    have e2 := ap_set (Sum.inr (5, fs.set k v) : va_E) (en S σ) [.inr (5, fs), a] 0
    rw [hL, Nat.add_zero] at e2
    rw [e2]
    rfl
  rw [ev_X2_textRead]
  unfold mx_nw
  simp only []
  rw [ap_gi h54, rdg13 hR, ap_gi h54, rdg14 hR, ap_gr h54, rdr5 hR, ap_gi h54, rdg6 hR, h6, h13, h14, hcopy, c2s, hL, ev_X5_init, hpt _ _ _ _ _ (by decide), hpt _ _ _ _ _ (by rw [List.length_set]; decide), hpt _ _ _ _ _ (by rw [List.length_set, List.length_set]; decide), rv0, c0s, en_S2]
  rfl
end TT
