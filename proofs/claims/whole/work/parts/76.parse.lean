/-! ===== the pure parser: 20001 .. 20009 a sign between two sides, 20010 a not, 20011 an opening ===== -/
def q_sg (b : Nat) : Nat := if b = 124 then 20001 else if b = 38 then 20002 else if b = 60 then 20003 else if b = 61 then 20004 else if b = 62 then 20005 else if b = 43 then 20006 else if b = 45 then 20007 else if b = 42 then 20008 else if b = 47 then 20009 else 0
def q_str (s : Nat) : Nat := if s = 20001 then 1 else if s = 20002 then 2 else if s ≤ 20005 then 3 else if s ≤ 20007 then 4 else 5
theorem q_str_c (s : Nat) : 1 ≤ q_str s ∧ q_str s ≤ 5 := by
  unfold q_str
  (repeat' split) <;> omega
theorem q_sg_c (b : Nat) : q_sg b = 0 ∨ (20001 ≤ q_sg b ∧ q_sg b ≤ 20009) := by
  unfold q_sg
  (repeat' split) <;> omega
def q_cn (x : Nat) : List Nat → Nat
  | [] => 0
  | s :: r => (if s = x then 1 else 0) + q_cn x r
def q_cb : List Nat → Nat
  | [] => 0
  | s :: r => (if s ≤ 20009 then 1 else 0) + q_cb r
theorem q_cb_le : ∀ st : List Nat, q_cb st ≤ st.length
  | [] => Nat.le_refl _
  | s :: r => by
    have := q_cb_le r
    unfold q_cb
    rw [List.length_cons]
    split <;> omega
/-- signs that bind at least as tightly are done with -/
def q_ul (k : Nat) : List Nat → List Nat → List Nat × List Nat
  | [], cd => ([], cd)
  | s :: r, cd => if s ≤ 20009 ∧ k ≤ q_str s then q_ul k r (s :: cd) else (s :: r, cd)
def q_nt : List Nat → List Nat → List Nat × List Nat
  | [], cd => ([], cd)
  | s :: r, cd => if s = 20010 then q_nt r (20010 :: cd) else (s :: r, cd)
/-- a not stands below a not, below an opening, or (true) on top -/
def q_J : Bool → List Nat → Prop
  | _, [] => True
  | b, s :: r => if s = 20010 then b = true ∧ q_J true r else if s = 20011 then q_J true r else q_J false r
theorem q_J_m : ∀ {st : List Nat}, q_J false st → q_J true st
  | [], _ => trivial
  | s :: r, h => by
    unfold q_J at h ⊢
    split
    · rename_i e
      rw [if_pos e] at h
      exact absurd h.1 (by decide)
    · rename_i e
      rw [if_neg e] at h
      exact h
/-- a code, the last step first, is worked out to t values -/
def q_RD (B : Nat) : List Nat → Nat → Prop
  | [], t => t = 0
  | c :: r, t => (c < 10000 + B ∧ 1 ≤ t ∧ t ≤ 96 ∧ q_RD B r (t - 1)) ∨ (c = 20010 ∧ 1 ≤ t ∧ q_RD B r t) ∨ ((20001 ≤ c ∧ c ≤ 20009) ∧ 1 ≤ t ∧ q_RD B r (t + 1))
theorem q_RD_wf {B : Nat} : ∀ (r : List Nat) (t : Nat) (cs : List Nat), q_RD B r t → q_wf B cs t → q_wf B (r.reverse ++ cs) 0
  | [], t, cs, h, w => by
    have h : t = 0 := h
    subst h
    exact w
  | c :: r, t, cs, h, w => by
    rw [List.reverse_cons, List.append_assoc]
    rcases h with ⟨h1, h2, h3, h4⟩ | ⟨h1, h2, h4⟩ | ⟨h1, h2, h4⟩
    · exact q_RD_wf r _ (c :: cs) h4 (Or.inl ⟨h1, by omega, by rw [show t - 1 + 1 = t by omega]; exact w⟩)
    · exact q_RD_wf r _ (c :: cs) h4 (Or.inr (Or.inl ⟨h1, h2, w⟩))
    · exact q_RD_wf r _ (c :: cs) h4 (Or.inr (Or.inr ⟨h1, by omega, by rw [show t + 1 - 1 = t by omega]; exact w⟩))
def q_sy (st : List Nat) : Prop := ∀ s, s ∈ st → 20001 ≤ s ∧ s ≤ 20011
theorem q_sy_c {s : Nat} {r : List Nat} (h : q_sy (s :: r)) : (20001 ≤ s ∧ s ≤ 20011) ∧ q_sy r := ⟨h s List.mem_cons_self, fun x hx => h x (List.mem_cons_of_mem _ hx)⟩
theorem q_sy_i {s : Nat} {r : List Nat} (h1 : 20001 ≤ s ∧ s ≤ 20011) (h : q_sy r) : q_sy (s :: r) := fun x hx => by
  rcases List.mem_cons.mp hx with rfl | hx
  · exact h1
  · exact h x hx
theorem q_ul_ok {B k : Nat} : ∀ (st cd : List Nat), q_sy st → q_J false st → q_RD B cd (q_cb st + 1) → q_sy (q_ul k st cd).1 ∧ q_J false (q_ul k st cd).1 ∧ q_RD B (q_ul k st cd).2 (q_cb (q_ul k st cd).1 + 1) ∧ (q_ul k st cd).1.length + (q_ul k st cd).2.length = st.length + cd.length ∧ q_cn 20010 (q_ul k st cd).1 = q_cn 20010 st ∧ q_cn 20011 (q_ul k st cd).1 = q_cn 20011 st ∧ cd.length ≤ (q_ul k st cd).2.length
  | [], cd, h1, h2, h3 => ⟨h1, h2, h3, rfl, rfl, rfl, Nat.le_refl _⟩
  | s :: r, cd, h1, h2, h3 => by
    unfold q_ul
    by_cases c : s ≤ 20009 ∧ k ≤ q_str s
    · rw [if_pos c]
      obtain ⟨y1, y2⟩ := q_sy_c h1
      have j2 : q_J false r := by
        unfold q_J at h2
        rw [if_neg (by omega), if_neg (by omega)] at h2
        exact h2
      have r2 : q_RD B (s :: cd) (q_cb r + 1) := by
        refine Or.inr (Or.inr ⟨⟨y1.1, c.1⟩, by omega, ?_⟩)
        unfold q_cb at h3
        rw [if_pos c.1] at h3
        rw [show q_cb r + 1 + 1 = 1 + q_cb r + 1 by omega]
        exact h3
      obtain ⟨i1, i2, i3, i4, i5, i6, i7⟩ := q_ul_ok r (s :: cd) y2 j2 r2
      refine ⟨i1, i2, i3, by rw [i4, List.length_cons, List.length_cons]; omega, ?_, ?_, by rw [List.length_cons] at i7; omega⟩
      · rw [i5]
        show _ = (if s = 20010 then 1 else 0) + q_cn 20010 r
        rw [if_neg (by omega)]; omega
      · rw [i6]
        show _ = (if s = 20011 then 1 else 0) + q_cn 20011 r
        rw [if_neg (by omega)]; omega
    · rw [if_neg c]
      exact ⟨h1, h2, h3, rfl, rfl, rfl, Nat.le_refl _⟩
/-- behind all signs stands an opening, where there is one -/
theorem q_ul_op : ∀ (st cd : List Nat), q_sy st → q_J false st → 0 < q_cn 20011 st → ∃ r, (q_ul 1 st cd).1 = 20011 :: r ∧ q_J true r
  | [], cd, h1, h2, h3 => absurd h3 (by unfold q_cn; omega)
  | s :: r, cd, h1, h2, h3 => by
    obtain ⟨y1, y2⟩ := q_sy_c h1
    unfold q_ul
    unfold q_J at h2
    unfold q_cn at h3
    by_cases c : s ≤ 20009
    · rw [if_pos ⟨c, (q_str_c s).1⟩]
      rw [if_neg (by omega), if_neg (by omega)] at h2
      rw [if_neg (by omega)] at h3
      exact q_ul_op r (s :: cd) y2 h2 (by omega)
    · rw [if_neg (fun x => c x.1)]
      by_cases e : s = 20010
      · rw [if_pos e] at h2
        exact absurd h2.1 (by decide)
      · have e2 : s = 20011 := by omega
        subst e2
        rw [if_neg (by decide), if_pos rfl] at h2
        exact ⟨r, rfl, h2⟩
theorem q_ul_no : ∀ (st cd : List Nat), q_sy st → q_J false st → q_cn 20011 st = 0 → (q_ul 1 st cd).1 = []
  | [], cd, h1, h2, h3 => rfl
  | s :: r, cd, h1, h2, h3 => by
    obtain ⟨y1, y2⟩ := q_sy_c h1
    unfold q_ul
    unfold q_J at h2
    unfold q_cn at h3
    by_cases c : s ≤ 20009
    · rw [if_pos ⟨c, (q_str_c s).1⟩]
      rw [if_neg (by omega), if_neg (by omega)] at h2
      exact q_ul_no r (s :: cd) y2 h2 (by omega)
    · by_cases e : s = 20010
      · rw [if_pos e] at h2
        exact absurd h2.1 (by decide)
      · rw [if_pos (by omega)] at h3
        omega
theorem q_ul_0 : ∀ (st cd : List Nat), q_ul 0 st cd = q_ul 1 st cd
  | [], cd => rfl
  | s :: r, cd => by
    unfold q_ul
    by_cases c : s ≤ 20009
    · rw [if_pos ⟨c, by omega⟩, if_pos ⟨c, (q_str_c s).1⟩]
      exact q_ul_0 r (s :: cd)
    · rw [if_neg (fun x => c x.1), if_neg (fun x => c x.1)]
theorem q_nt_ok {B : Nat} : ∀ (st cd : List Nat), q_sy st → q_J true st → q_RD B cd (q_cb st + 1) → q_sy (q_nt st cd).1 ∧ q_J false (q_nt st cd).1 ∧ q_RD B (q_nt st cd).2 (q_cb (q_nt st cd).1 + 1) ∧ (q_nt st cd).1.length + (q_nt st cd).2.length = st.length + cd.length ∧ q_cn 20011 (q_nt st cd).1 = q_cn 20011 st ∧ cd.length ≤ (q_nt st cd).2.length
  | [], cd, h1, h2, h3 => ⟨h1, trivial, h3, rfl, rfl, Nat.le_refl _⟩
  | s :: r, cd, h1, h2, h3 => by
    obtain ⟨y1, y2⟩ := q_sy_c h1
    unfold q_nt
    by_cases c : s = 20010
    · rw [if_pos c]
      have j2 : q_J true r := by
        unfold q_J at h2
        rw [if_pos c] at h2
        exact h2.2
      have r2 : q_RD B (20010 :: cd) (q_cb r + 1) := by
        refine Or.inr (Or.inl ⟨rfl, by omega, ?_⟩)
        unfold q_cb at h3
        rw [if_neg (by omega), Nat.zero_add] at h3
        exact h3
      obtain ⟨i1, i2, i3, i4, i6, i7⟩ := q_nt_ok r (20010 :: cd) y2 j2 r2
      refine ⟨i1, i2, i3, by rw [i4, List.length_cons, List.length_cons]; omega, ?_, by rw [List.length_cons] at i7; omega⟩
      rw [i6]
      show _ = (if s = 20011 then 1 else 0) + q_cn 20011 r
      rw [if_neg (by omega)]; omega
    · rw [if_neg c]
      refine ⟨h1, ?_, h3, rfl, rfl, Nat.le_refl _⟩
      unfold q_J at h2 ⊢
      rw [if_neg c] at h2 ⊢
      exact h2
def PI (B : Nat) (tp : Nat → Nat) (n : Nat) (w : Bool) (st cd : List Nat) (na : Nat) (t : Nat × Nat × Nat) : Prop := (q_sy st) ∧ (q_J w st) ∧ (st.length + cd.length + 3 ≤ t.2.1) ∧ (n ≤ 96) ∧ (q_cn 20011 st ≤ 8) ∧ (q_RD B cd (q_cb st + (if w = true then 0 else 1))) ∧ (na ≤ cd.length) ∧ (q_tok tp n t)
theorem PI.sy {B : Nat} {tp : Nat → Nat} {n : Nat} {w : Bool} {st cd : List Nat} {na : Nat} {t : Nat × Nat × Nat} (h : PI B tp n w st cd na t) : q_sy st := h.1
theorem PI.j {B : Nat} {tp : Nat → Nat} {n : Nat} {w : Bool} {st cd : List Nat} {na : Nat} {t : Nat × Nat × Nat} (h : PI B tp n w st cd na t) : q_J w st := h.2.1
theorem PI.ln {B : Nat} {tp : Nat → Nat} {n : Nat} {w : Bool} {st cd : List Nat} {na : Nat} {t : Nat × Nat × Nat} (h : PI B tp n w st cd na t) : st.length + cd.length + 3 ≤ t.2.1 := h.2.2.1
theorem PI.n {B : Nat} {tp : Nat → Nat} {n : Nat} {w : Bool} {st cd : List Nat} {na : Nat} {t : Nat × Nat × Nat} (h : PI B tp n w st cd na t) : n ≤ 96 := h.2.2.2.1
theorem PI.o8 {B : Nat} {tp : Nat → Nat} {n : Nat} {w : Bool} {st cd : List Nat} {na : Nat} {t : Nat × Nat × Nat} (h : PI B tp n w st cd na t) : q_cn 20011 st ≤ 8 := h.2.2.2.2.1
theorem PI.rd {B : Nat} {tp : Nat → Nat} {n : Nat} {w : Bool} {st cd : List Nat} {na : Nat} {t : Nat × Nat × Nat} (h : PI B tp n w st cd na t) : q_RD B cd (q_cb st + (if w = true then 0 else 1)) := h.2.2.2.2.2.1
theorem PI.a {B : Nat} {tp : Nat → Nat} {n : Nat} {w : Bool} {st cd : List Nat} {na : Nat} {t : Nat × Nat × Nat} (h : PI B tp n w st cd na t) : na ≤ cd.length := h.2.2.2.2.2.2.1
theorem PI.tk {B : Nat} {tp : Nat → Nat} {n : Nat} {w : Bool} {st cd : List Nat} {na : Nat} {t : Nat × Nat × Nat} (h : PI B tp n w st cd na t) : q_tok tp n t := h.2.2.2.2.2.2.2
section PIS
variable {B : Nat} {tp : Nat → Nat} {n : Nat} {st cd : List Nat} {na : Nat} {t : Nat × Nat × Nat}
theorem PI.lt {w : Bool} (h : PI B tp n w st cd na t) (ht : t.1 ≠ 0) : t.2.1 < n := by
  have := h.tk
  have h2 := this.2.2.2.2.1 ht
  have h3 := this.2.1
  omega
theorem PI.nx {w : Bool} (h : PI B tp n w st cd na t) (ht : t.1 ≠ 0) : t.2.1 + 1 ≤ (q_nx tp n t).2.1 := by
  have h1 := (q_nx_ok h.tk).2
  have h2 := h.tk.2.2.2.2.1 ht
  omega
theorem PI.leaf (h : PI B tp n true st cd na t) (ht : t.1 ≠ 0) {c : Nat} (hc : c < 10000 + B) : PI B tp n false (q_nt st (c :: cd)).1 (q_nt st (c :: cd)).2 (na + 1) (q_nx tp n t) := by
  have h1 := h.nx ht
  have h2 := h.lt ht
  have h3 := h.ln
  have h4 := h.n
  have h5 := q_cb_le st
  have h6 := h.a
  have rd : q_RD B (c :: cd) (q_cb st + 1) := Or.inl ⟨hc, by omega, by omega, h.rd⟩
  obtain ⟨i1, i2, i3, i4, i5, i6⟩ := q_nt_ok st (c :: cd) h.sy h.j rd
  rw [List.length_cons] at i4 i6
  exact ⟨i1, i2, by omega, h4, by rw [i5]; exact h.o8, i3, by omega, (q_nx_ok h.tk).1⟩
theorem PI.nt (h : PI B tp n true st cd na t) (ht : t.1 ≠ 0) : PI B tp n true (20010 :: st) cd na (q_nx tp n t) := by
  have h1 := h.nx ht
  have h3 := h.ln
  refine ⟨q_sy_i (by omega) h.sy, ?_, by rw [List.length_cons]; omega, h.n, ?_, ?_, h.a, (q_nx_ok h.tk).1⟩
  · unfold q_J
    rw [if_pos rfl]
    exact ⟨rfl, h.j⟩
  · show (if 20010 = 20011 then 1 else 0) + q_cn 20011 st ≤ 8
    rw [if_neg (by decide), Nat.zero_add]
    exact h.o8
  · show q_RD B cd ((if 20010 ≤ 20009 then 1 else 0) + q_cb st + 0)
    rw [if_neg (by decide), Nat.zero_add]
    exact h.rd
theorem PI.op (h : PI B tp n true st cd na t) (ht : t.1 ≠ 0) (ho : q_cn 20011 st < 8) : PI B tp n true (20011 :: st) cd na (q_nx tp n t) := by
  have h1 := h.nx ht
  have h3 := h.ln
  refine ⟨q_sy_i (by omega) h.sy, ?_, by rw [List.length_cons]; omega, h.n, ?_, ?_, h.a, (q_nx_ok h.tk).1⟩
  · unfold q_J
    rw [if_neg (by decide), if_pos rfl]
    exact h.j
  · show (if 20011 = 20011 then 1 else 0) + q_cn 20011 st ≤ 8
    rw [if_pos rfl]
    omega
  · show q_RD B cd ((if 20011 ≤ 20009 then 1 else 0) + q_cb st + 0)
    rw [if_neg (by decide), Nat.zero_add]
    exact h.rd
/-- a closing: what stands below the opening -/
theorem PI.cl (h : PI B tp n false st cd na t) (ht : t.1 ≠ 0) (ho : 0 < q_cn 20011 st) : ∃ r, (q_ul 1 st cd).1 = 20011 :: r ∧ q_cn 20011 r + 1 = q_cn 20011 st ∧ q_cn 20010 r = q_cn 20010 st ∧ PI B tp n false (q_nt r (q_ul 1 st cd).2).1 (q_nt r (q_ul 1 st cd).2).2 na (q_nx tp n t) := by
  have h1 := h.nx ht
  have h3 := h.ln
  have h6 := h.a
  have h8 := h.o8
  obtain ⟨r, e, jr⟩ := q_ul_op st cd h.sy h.j ho
  obtain ⟨i1, i2, i3, i4, i5, i6, i7⟩ := q_ul_ok (k := 1) st cd h.sy h.j h.rd
  rw [e] at i1 i3 i4 i5 i6
  have e6 : (if 20011 = 20011 then 1 else 0) + q_cn 20011 r = q_cn 20011 st := i6
  have e5 : (if 20011 = 20010 then 1 else 0) + q_cn 20010 r = q_cn 20010 st := i5
  rw [if_pos rfl] at e6
  rw [if_neg (by decide)] at e5
  have rd : q_RD B (q_ul 1 st cd).2 (q_cb r + 1) := by
    have i3 : q_RD B (q_ul 1 st cd).2 ((if 20011 ≤ 20009 then 1 else 0) + q_cb r + 1) := i3
    rw [if_neg (by decide), Nat.zero_add] at i3
    exact i3
  obtain ⟨k1, k2, k3, k4, k5, k6⟩ := q_nt_ok r (q_ul 1 st cd).2 (q_sy_c i1).2 jr rd
  rw [List.length_cons] at i4
  exact ⟨r, e, by omega, by omega, k1, k2, by omega, h.n, by omega, k3, by omega, (q_nx_ok h.tk).1⟩
theorem PI.si (h : PI B tp n false st cd na t) (ht : t.1 ≠ 0) {s : Nat} (hs : 20001 ≤ s ∧ s ≤ 20009) : PI B tp n true (s :: (q_ul (q_str s) st cd).1) (q_ul (q_str s) st cd).2 na (q_nx tp n t) := by
  have h1 := h.nx ht
  have h3 := h.ln
  have h6 := h.a
  obtain ⟨i1, i2, i3, i4, i5, i6, i7⟩ := q_ul_ok (k := q_str s) st cd h.sy h.j h.rd
  refine ⟨q_sy_i (by omega) i1, ?_, by rw [List.length_cons]; omega, h.n, ?_, ?_, by omega, (q_nx_ok h.tk).1⟩
  · unfold q_J
    rw [if_neg (by omega), if_neg (by omega)]
    exact i2
  · show (if s = 20011 then 1 else 0) + q_cn 20011 _ ≤ 8
    rw [if_neg (by omega), Nat.zero_add, i6]
    exact h.o8
  · show q_RD B _ ((if s ≤ 20009 then 1 else 0) + q_cb _ + 0)
    rw [if_pos hs.2, Nat.add_zero, Nat.add_comm]
    exact i3
end PIS
/-- a name's place among a key's -/
def q_nm (key b : Nat) : Nat := if key = 0 then (if b = 104 then 0 else if b = 111 then 1 else if b = 107 then 2 else if b = 116 then 3 else 99) else if key = 1 then (if b = 112 then 0 else if b = 116 then 1 else 99) else (if b = 115 then 0 else if b = 107 then 1 else 99)
theorem q_nm_c (key b : Nat) : q_nm key b = 99 ∨ q_nm key b < q_B key := by
  unfold q_nm q_B
  (repeat' split) <;> omega
/-- what a text is: the place of its fault, or its steps, the last first, and its pieces -/
def q_pz (tp : Nat → Nat) (n key : Nat) : Nat → Bool → List Nat → List Nat → Nat → (Nat → Bool) → Nat × Nat × Nat → Nat ⊕ (List Nat × Nat)
  | 0, _, _, _, _, _, t => .inl t.2.1
  | m + 1, w, st, cd, na, cm, t =>
    if w = true then
      if t.1 = 2 ∧ t.2.2 - t.2.1 ≤ 4 then q_pz tp n key m false (q_nt st (q_nv tp t.2.1 (t.2.2 - t.2.1) :: cd)).1 (q_nt st (q_nv tp t.2.1 (t.2.2 - t.2.1) :: cd)).2 (na + 1) cm (q_nx tp n t)
      else if t.1 = 1 ∧ t.2.2 - t.2.1 = 1 ∧ q_nm key (tp t.2.1) < 99 then q_pz tp n key m false (q_nt st ((10000 + q_nm key (tp t.2.1)) :: cd)).1 (q_nt st ((10000 + q_nm key (tp t.2.1)) :: cd)).2 (na + 1) cm (q_nx tp n t)
      else if t.1 = 3 ∧ tp t.2.1 = 33 ∧ q_cn 20010 st < 8 then q_pz tp n key m true (20010 :: st) cd na cm (q_nx tp n t)
      else if t.1 = 3 ∧ tp t.2.1 = 40 ∧ q_cn 20011 st < 8 then q_pz tp n key m true (20011 :: st) cd na (fun i => if i = q_cn 20011 st + 1 then false else cm i) (q_nx tp n t)
      else .inl t.2.1
    else
      if t.1 = 0 then (if q_cn 20011 st = 0 then .inr ((q_ul 1 st cd).2, na) else .inl t.2.1)
      else if t.1 = 3 ∧ tp t.2.1 = 41 ∧ 0 < q_cn 20011 st then q_pz tp n key m false (q_nt (q_ul 1 st cd).1.tail (q_ul 1 st cd).2).1 (q_nt (q_ul 1 st cd).1.tail (q_ul 1 st cd).2).2 na cm (q_nx tp n t)
      else if t.1 = 3 ∧ q_sg (tp t.2.1) ≠ 0 ∧ ¬ (q_str (q_sg (tp t.2.1)) = 3 ∧ cm (q_cn 20011 st) = true) then q_pz tp n key m true (q_sg (tp t.2.1) :: (q_ul (q_str (q_sg (tp t.2.1))) st cd).1) (q_ul (q_str (q_sg (tp t.2.1))) st cd).2 na (fun i => if i = q_cn 20011 st ∧ q_str (q_sg (tp t.2.1)) ≤ 3 then decide (q_str (q_sg (tp t.2.1)) = 3) else cm i) (q_nx tp n t)
      else .inl t.2.1
