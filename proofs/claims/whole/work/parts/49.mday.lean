/-! ===== the reference's day is the same day ===== -/
def q_wp (C : q_C) (p : Int32) : q_C := q_mk C.n C.L C.ru C.K (p) C.t C.s C.day C.z
theorem q_wp_n (C : q_C) (p : Int32) : (q_wp C p).n = C.n := mk_n _ _ _ _ _ _ _ _ _
theorem q_wp_L (C : q_C) (p : Int32) : (q_wp C p).L = C.L := mk_L _ _ _ _ _ _ _ _ _
theorem q_wp_ru (C : q_C) (p : Int32) : (q_wp C p).ru = C.ru := mk_ru _ _ _ _ _ _ _ _ _
theorem q_wp_K (C : q_C) (p : Int32) : (q_wp C p).K = C.K := mk_K _ _ _ _ _ _ _ _ _
theorem q_wp_p (C : q_C) (p : Int32) : (q_wp C p).p = (p) := mk_p _ _ _ _ _ _ _ _ _
theorem q_wp_t (C : q_C) (p : Int32) : (q_wp C p).t = C.t := mk_t _ _ _ _ _ _ _ _ _
theorem q_wp_s (C : q_C) (p : Int32) : (q_wp C p).s = C.s := mk_s _ _ _ _ _ _ _ _ _
theorem q_wp_day (C : q_C) (p : Int32) : (q_wp C p).day = C.day := mk_day _ _ _ _ _ _ _ _ _
theorem q_wp_z (C : q_C) (p : Int32) : (q_wp C p).z = C.z := mk_z _ _ _ _ _ _ _ _ _
def q_wt (C : q_C) (t : Int32) : q_C := q_mk C.n C.L C.ru C.K C.p (t) C.s C.day C.z
theorem q_wt_n (C : q_C) (t : Int32) : (q_wt C t).n = C.n := mk_n _ _ _ _ _ _ _ _ _
theorem q_wt_L (C : q_C) (t : Int32) : (q_wt C t).L = C.L := mk_L _ _ _ _ _ _ _ _ _
theorem q_wt_ru (C : q_C) (t : Int32) : (q_wt C t).ru = C.ru := mk_ru _ _ _ _ _ _ _ _ _
theorem q_wt_K (C : q_C) (t : Int32) : (q_wt C t).K = C.K := mk_K _ _ _ _ _ _ _ _ _
theorem q_wt_p (C : q_C) (t : Int32) : (q_wt C t).p = C.p := mk_p _ _ _ _ _ _ _ _ _
theorem q_wt_t (C : q_C) (t : Int32) : (q_wt C t).t = (t) := mk_t _ _ _ _ _ _ _ _ _
theorem q_wt_s (C : q_C) (t : Int32) : (q_wt C t).s = C.s := mk_s _ _ _ _ _ _ _ _ _
theorem q_wt_day (C : q_C) (t : Int32) : (q_wt C t).day = C.day := mk_day _ _ _ _ _ _ _ _ _
theorem q_wt_z (C : q_C) (t : Int32) : (q_wt C t).z = C.z := mk_z _ _ _ _ _ _ _ _ _
def q_ws (C : q_C) (s : Int32) : q_C := q_mk C.n C.L C.ru C.K C.p C.t (s) C.day C.z
theorem q_ws_n (C : q_C) (s : Int32) : (q_ws C s).n = C.n := mk_n _ _ _ _ _ _ _ _ _
theorem q_ws_L (C : q_C) (s : Int32) : (q_ws C s).L = C.L := mk_L _ _ _ _ _ _ _ _ _
theorem q_ws_ru (C : q_C) (s : Int32) : (q_ws C s).ru = C.ru := mk_ru _ _ _ _ _ _ _ _ _
theorem q_ws_K (C : q_C) (s : Int32) : (q_ws C s).K = C.K := mk_K _ _ _ _ _ _ _ _ _
theorem q_ws_p (C : q_C) (s : Int32) : (q_ws C s).p = C.p := mk_p _ _ _ _ _ _ _ _ _
theorem q_ws_t (C : q_C) (s : Int32) : (q_ws C s).t = C.t := mk_t _ _ _ _ _ _ _ _ _
theorem q_ws_s (C : q_C) (s : Int32) : (q_ws C s).s = (s) := mk_s _ _ _ _ _ _ _ _ _
theorem q_ws_day (C : q_C) (s : Int32) : (q_ws C s).day = C.day := mk_day _ _ _ _ _ _ _ _ _
theorem q_ws_z (C : q_C) (s : Int32) : (q_ws C s).z = C.z := mk_z _ _ _ _ _ _ _ _ _
def q_wz (C : q_C) (z : Int32) : q_C := q_mk C.n C.L C.ru C.K C.p C.t C.s C.day (z)
theorem q_wz_n (C : q_C) (z : Int32) : (q_wz C z).n = C.n := mk_n _ _ _ _ _ _ _ _ _
theorem q_wz_L (C : q_C) (z : Int32) : (q_wz C z).L = C.L := mk_L _ _ _ _ _ _ _ _ _
theorem q_wz_ru (C : q_C) (z : Int32) : (q_wz C z).ru = C.ru := mk_ru _ _ _ _ _ _ _ _ _
theorem q_wz_K (C : q_C) (z : Int32) : (q_wz C z).K = C.K := mk_K _ _ _ _ _ _ _ _ _
theorem q_wz_p (C : q_C) (z : Int32) : (q_wz C z).p = C.p := mk_p _ _ _ _ _ _ _ _ _
theorem q_wz_t (C : q_C) (z : Int32) : (q_wz C z).t = C.t := mk_t _ _ _ _ _ _ _ _ _
theorem q_wz_s (C : q_C) (z : Int32) : (q_wz C z).s = C.s := mk_s _ _ _ _ _ _ _ _ _
theorem q_wz_day (C : q_C) (z : Int32) : (q_wz C z).day = C.day := mk_day _ _ _ _ _ _ _ _ _
theorem q_wz_z (C : q_C) (z : Int32) : (q_wz C z).z = (z) := mk_z _ _ _ _ _ _ _ _ _
def q_wd (C : q_C) (day : Nat) : q_C := q_mk C.n C.L C.ru C.K C.p C.t C.s (day) C.z
theorem q_wd_n (C : q_C) (day : Nat) : (q_wd C day).n = C.n := mk_n _ _ _ _ _ _ _ _ _
theorem q_wd_L (C : q_C) (day : Nat) : (q_wd C day).L = C.L := mk_L _ _ _ _ _ _ _ _ _
theorem q_wd_ru (C : q_C) (day : Nat) : (q_wd C day).ru = C.ru := mk_ru _ _ _ _ _ _ _ _ _
theorem q_wd_K (C : q_C) (day : Nat) : (q_wd C day).K = C.K := mk_K _ _ _ _ _ _ _ _ _
theorem q_wd_p (C : q_C) (day : Nat) : (q_wd C day).p = C.p := mk_p _ _ _ _ _ _ _ _ _
theorem q_wd_t (C : q_C) (day : Nat) : (q_wd C day).t = C.t := mk_t _ _ _ _ _ _ _ _ _
theorem q_wd_s (C : q_C) (day : Nat) : (q_wd C day).s = C.s := mk_s _ _ _ _ _ _ _ _ _
theorem q_wd_day (C : q_C) (day : Nat) : (q_wd C day).day = (day) := mk_day _ _ _ _ _ _ _ _ _
theorem q_wd_z (C : q_C) (day : Nat) : (q_wd C day).z = C.z := mk_z _ _ _ _ _ _ _ _ _
def q_wr (C : q_C) (k v : Nat) : q_C := q_mk C.n C.L (fun j => if j = k then v else C.ru j) C.K C.p C.t C.s C.day C.z
theorem q_wr_n (C : q_C) (k v : Nat) : (q_wr C k v).n = C.n := mk_n _ _ _ _ _ _ _ _ _
theorem q_wr_L (C : q_C) (k v : Nat) : (q_wr C k v).L = C.L := mk_L _ _ _ _ _ _ _ _ _
theorem q_wr_ru (C : q_C) (k v : Nat) : (q_wr C k v).ru = (fun j => if j = k then v else C.ru j) := mk_ru _ _ _ _ _ _ _ _ _
theorem q_wr_K (C : q_C) (k v : Nat) : (q_wr C k v).K = C.K := mk_K _ _ _ _ _ _ _ _ _
theorem q_wr_p (C : q_C) (k v : Nat) : (q_wr C k v).p = C.p := mk_p _ _ _ _ _ _ _ _ _
theorem q_wr_t (C : q_C) (k v : Nat) : (q_wr C k v).t = C.t := mk_t _ _ _ _ _ _ _ _ _
theorem q_wr_s (C : q_C) (k v : Nat) : (q_wr C k v).s = C.s := mk_s _ _ _ _ _ _ _ _ _
theorem q_wr_day (C : q_C) (k v : Nat) : (q_wr C k v).day = C.day := mk_day _ _ _ _ _ _ _ _ _
theorem q_wr_z (C : q_C) (k v : Nat) : (q_wr C k v).z = C.z := mk_z _ _ _ _ _ _ _ _ _
section MC1
variable {S : List en_S} {σ0 σ : Nat → Nat → Int32} {d : Nat} {xs : List Int32} {C D : q_C}
theorem MC.cg (h : MC S σ0 σ D) (e1 : D.n = C.n) (eL : ∀ i, i < C.n → ∀ j, j < 6 → D.L i j = C.L i j) (e3 : D.ru = C.ru) (e4 : D.K = C.K) (e5 : D.p = C.p) (e6 : D.t = C.t) (e7 : D.s = C.s) (e8 : D.day = C.day) (e9 : D.z = C.z) : MC S σ0 σ C :=
  ⟨h.mo, ⟨by rw [← e1]; exact h.r.n, fun i hi j hj => by rw [← eL i hi j hj]; exact h.r.L i (by rw [e1]; exact hi) j hj, by rw [← e3]; exact h.r.ru, by rw [← e4]; exact h.r.K, by rw [← e5]; exact h.r.p, by rw [← e6]; exact h.r.t, by rw [← e7]; exact h.r.s, by rw [← e8]; exact h.r.day, by rw [← e9]; exact h.r.z⟩, h.fr⟩
theorem XC.cg {cb : Nat} (h : XC S σ0 σ cb D) (e1 : D.n = C.n) (eL : ∀ i, i < C.n → ∀ j, j < 6 → D.L i j = C.L i j) (e3 : D.ru = C.ru) (e4 : D.K = C.K) (e5 : D.p = C.p) (e6 : D.t = C.t) (e7 : D.s = C.s) (e8 : D.day = C.day) (e9 : D.z = C.z) : XC S σ0 σ cb C :=
  ⟨h.cl, h.lt, ⟨by rw [← e1]; exact h.r.n, fun i hi j hj => by rw [← eL i hi j hj]; exact h.r.L i (by rw [e1]; exact hi) j hj, by rw [← e3]; exact h.r.ru, by rw [← e4]; exact h.r.K, by rw [← e5]; exact h.r.p, by rw [← e6]; exact h.r.t, by rw [← e7]; exact h.r.s, by rw [← e8]; exact h.r.day, by rw [← e9]; exact h.r.z⟩, h.fr⟩
/-- one cell of the first eleven -/
theorem MC.own (h : MC S σ0 σ C) {k : Nat} {v : Int32} (hk : k < 10) (hk1 : k ≠ 1) (e1 : D.n = C.n) (e2 : D.L = C.L) (e4 : D.K = C.K) (e3 : ∀ j, j < 4 → nI (D.ru j) = if k = 3 + j then v else nI (C.ru j)) (e5 : D.p = if k = 7 then v else C.p) (e6 : D.t = if k = 8 then v else C.t) (e7 : D.s = if k = 9 then v else C.s) (e8 : nI D.day = if k = 2 then v else nI C.day) (e9 : D.z = if k = 0 then v else C.z) : MC S σ0 (en_up σ 91 k v) D := by
  have hr := h.r
  have key : ∀ (j : Nat) (a b : Int32), σ 91 j = a → b = (if k = j then v else a) → en_up σ 91 k v 91 j = b := fun j a b ha hb => by
    rw [en_up_i, hb, ha]
    by_cases e : k = j
    · rw [if_pos ⟨rfl, e.symm⟩, if_pos e]
    · rw [if_neg (fun x => e x.2.symm), if_neg e]
  refine ⟨h.mo, ⟨?_, fun i hi j hj => ?_, fun j hj => key _ _ _ (hr.ru j hj) (e3 j hj), ?_, key _ _ _ hr.p e5, key _ _ _ hr.t e6, key _ _ _ hr.s e7, key _ _ _ hr.day e8, key _ _ _ hr.z e9⟩, fun b hb1 hb2 hb3 => ?_⟩
  · rw [en_up_k (Ne.symm hk1), e1]; exact hr.n
  · rw [en_up_k (by omega), e2]; exact hr.L i (by rw [← e1]; exact hi) j hj
  · rw [e4]
    refine ⟨by show en_up σ 91 k v 91 10 = _; rw [en_up_k (by omega)]; exact hr.K.1, fun t ht => ⟨?_, ?_, fun j c hc => ?_⟩⟩
    · show en_up σ 91 k v 91 _ = _; rw [en_up_k (by omega)]; exact (hr.K.2 t ht).1
    · show en_up σ 91 k v 91 _ = _; rw [en_up_k (by omega)]; exact (hr.K.2 t ht).2.1
    · show en_up σ 91 k v 91 _ = _; rw [en_up_k (by omega)]; exact (hr.K.2 t ht).2.2 j c hc
  · rw [show en_up σ 91 k v b = σ b by unfold en_up; rw [if_neg hb1]]
    exact h.fr b hb1 hb2 hb3
theorem MC.put (h : MC S σ0 σ C) {i j v : Nat} (hi : i < 10) (hj : j < 6) : MC S σ0 (en_up σ 91 (11 + 6 * i + j) (nI v)) (q_pt C i j v) := by
  have hr := h.r
  refine ⟨h.mo, ⟨by rw [en_up_k (by omega), q_pt_n]; exact hr.n, fun a ha b hb => ?_, fun k hk => by rw [en_up_k (by omega), q_pt_ru]; exact hr.ru k hk, ?_, by rw [en_up_k (by omega), q_pt_p]; exact hr.p, by rw [en_up_k (by omega), q_pt_t]; exact hr.t, by rw [en_up_k (by omega), q_pt_s]; exact hr.s, by rw [en_up_k (by omega), q_pt_day]; exact hr.day, by rw [en_up_k (by omega), q_pt_z]; exact hr.z⟩, fun b hb1 hb2 hb3 => ?_⟩
  · rw [q_pt_n] at ha
    rw [q_pt_L, en_up_i, hr.L a ha b hb]
    by_cases e : a = i ∧ b = j
    · obtain ⟨rfl, rfl⟩ := e
      simp
    · rw [if_neg (by omega)]
      simp [e]
  · rw [q_pt_K]
    refine ⟨by show en_up σ 91 _ _ 91 10 = _; rw [en_up_k (by omega)]; exact hr.K.1, fun t ht => ⟨?_, ?_, fun j c hc => ?_⟩⟩
    · show en_up σ 91 _ _ 91 _ = _; rw [en_up_k (by omega)]; exact (hr.K.2 t ht).1
    · show en_up σ 91 _ _ 91 _ = _; rw [en_up_k (by omega)]; exact (hr.K.2 t ht).2.1
    · show en_up σ 91 _ _ 91 _ = _; rw [en_up_k (by omega)]; exact (hr.K.2 t ht).2.2 _ c hc
  · rw [show en_up σ 91 (11 + 6 * i + j) (nI v) b = σ b by unfold en_up; rw [if_neg hb1]]
    exact h.fr b hb1 hb2 hb3
/-- cells beside the row -/
theorem MC.side (h : MC S σ0 σ C) {σ' : Nat → Nat → Int32} (e : σ' 91 = σ 91) (hf : ∀ b, b ≠ 91 → b ≠ 101 → b ≠ 102 → σ' b = σ b) : MC S σ0 σ' C := ⟨h.mo, by rw [e]; exact h.r, fun b h1 h2 h3 => by rw [hf b h1 h2 h3]; exact h.fr b h1 h2 h3⟩
theorem m_of' (h : MC S σ0 σ C) {i j : Nat} {w : Int32} (hi : i < C.n) (h10 : C.n ≤ 10) (hj : j < 6) (hw : w = nI j) : mx_ev xs mx_P (d + 1) 138 [.ref 90, .int (nI i), .int w] (en S σ) = some (some (.int (nI (C.L i j))), en S σ) := by
  rw [m_of h.mo (by omega) hj hw, h.r.L i hi j hj]
theorem m_rd (h : MC S σ0 σ C) {k : Nat} {w : Int32} (hk : k < 11) (hw : w = nI k) {f : Int32 → mx_R} : mx_ai (en S σ) 91 0 w f = f (σ 91 k) := by
  subst hw
  rw [en_aiN h.mo.w (by omega) (by decide)]
theorem m_wr (h : MC S σ0 σ C) {k : Nat} {w v : Int32} (hk : k < 11) (hw : w = nI k) {f : mx_H → mx_R} : mx_as (en S σ) 91 0 w v f = f (en S (en_up σ 91 k v)) := by
  subst hw
  rw [en_asN h.mo.w (by omega) (by decide)]
def m_cv (o : Option Nat) : Int32 := match o with
  | none => -1
  | some t => nI t
theorem m_cnt_loop (h : MC S σ0 σ C) (ok : q_ok C) {key : Nat} (hkey : key < 3) : ∀ (t N : Nat), t ≤ C.K.length → t < N → mx_rn xs (mx_ev xs mx_P d) kk_X7_counts N 10 [(0, .ref 90), (1, .int (nI key)), (2, .int (nI t - 1))] [] (en S σ) = some (some (.int (m_cv (q_lst C.K key t))), en S σ)
  | _, 0, _, h2 => absurd h2 (by omega)
  | 0, N + 1, _, _ => by
    rw [rn_X7_counts_10, if_pos (by decide)]
    rfl
  | t + 1, N + 1, h1, h2 => by
    have h14 := ok.K.1
    have e1 : nI (t + 1) - 1 = nI t := by rw [show (1 : Int32) = nI 1 from rfl, pk_sub (by omega)]; rfl
    have e2 : (71 : Int32) + 2 * nI t = nI (71 + 2 * t) := by rw [show (71 : Int32) = nI 71 from rfl, show (2 : Int32) = nI 2 from rfl, pk_mul, nI_add]
    have hk := (h.r.K.2 t (by omega)).1
    have hb := ok.K.2 t (by omega)
    have e3 : nI (1000 * (C.K.getD t (0, 0, [])).1 + (q_code C.K t).length) / 1000 = nI (C.K.getD t (0, 0, [])).1 := by
      rw [show (1000 : Int32) = nI 1000 from rfl, pk_div (d := 1000) (by omega) (by decide) (by decide)]
      congr 1
      omega
    have e4 : nI t + (-1) = nI t - 1 := by rw [Int32.sub_eq_add_neg]
    rw [rn_X7_counts_10, e1, if_neg (nI_pos (by omega)), en_gr h.mo.o rfl, e2, en_aiN h.mo.w (by omega) (by decide), show σ 91 (71 + 2 * t) = _ from hk, if_neg (by decide), e3, e4]
    have ih := m_cnt_loop h ok hkey t N (by omega) (by omega)
    show _ = some (some (Value.int (m_cv (if (C.K.getD t (0, 0, [])).1 = key then some t else q_lst C.K key t))), _)
    by_cases e : (C.K.getD t (0, 0, [])).1 = key
    · rw [if_pos (by rw [e]), if_pos e]
      rfl
    · rw [if_neg (fun x => e ((nI_eq (by omega) (by omega)).mp x)), if_neg e]
      exact ih
theorem m_counts (h : MC S σ0 σ C) (ok : q_ok C) {key : Nat} {w : Int32} (hw : w = nI key) (hkey : key < 3) : mx_ev xs mx_P (d + 1) 197 [.ref 90, .int w] (en S σ) = some (some (.int (m_cv (q_last C.K key))), en S σ) := by
  subst hw
  have h14 := ok.K.1
  rw [ev_X7_counts, en_gr h.mo.o rfl, m_rd h (k := 10) (w := 10) (by decide) rfl, show σ 91 10 = nI C.K.length from h.r.K.1]
  exact m_cnt_loop h ok hkey C.K.length 99999 (Nat.le_refl _) (by omega)
theorem m_plain (h : MC S σ0 σ C) (ok : q_ok C) {i : Nat} (hi : i < C.n) : ∃ σ', mx_ev xs mx_P (d + 3) 142 [.ref 90, .int (nI i)] (en S σ) = some (some (.int (nI (q_plain C.K (C.ru 3) (C.L i)))), en S σ') ∧ MC S σ0 σ' C := by
  have h10 := ok.n
  obtain ⟨l0, l1, l2, l3, l4, l5⟩ := ok.L i hi
  have kr3 := ok.r3
  have hr := h.r
  have fa := h.mo.fa
  have side : ∀ (τ : Nat → Nat → Int32) (k : Nat) (v : Int32), MC S σ0 τ C → MC S σ0 (en_up τ 102 k v) C := fun τ k v g => g.side (by funext j; exact en_up_a (by decide)) (fun b h1 h2 h3 => by unfold en_up; rw [if_neg h3])
  have s1 := side σ 0 (nI (C.ru 3)) h
  have s2 := side _ 1 (nI (C.L i 5)) s1
  have s3 := side _ 2 (nI (C.L i 4)) s2
  have s4 := side _ 3 (nI (C.L i 3)) s3
  rw [ev_X7_plainPress, en_cl h.mo.o, m_counts h ok (key := 0) (w := 0) rfl (by decide), c1s, en_gr h.mo.o rfl, en_gr h.mo.o rfl, m_rd h (k := 6) (w := 6) (by decide) rfl, hr.ru 3 (by decide), show (mx_as (en S σ) 102 0 0 (nI (C.ru 3)) : (mx_H → mx_R) → mx_R) = mx_as (en S σ) 102 0 (nI 0) (nI (C.ru 3)) from rfl, en_asN fa (by decide) (by decide), en_gr h.mo.o rfl, en_cl h.mo.o, m_of' s1 (w := 5) (j := 5) hi h10 (by decide) rfl, c1s, show (1 : Int32) = nI 1 from rfl, en_asN fa (by decide) (by decide), en_gr h.mo.o rfl, en_cl h.mo.o, m_of' s2 (w := 4) (j := 4) hi h10 (by decide) rfl, c1s, show (2 : Int32) = nI 2 from rfl, en_asN fa (by decide) (by decide), en_gr h.mo.o rfl, en_cl h.mo.o, m_of' s3 (w := 3) (j := 3) hi h10 (by decide) rfl, c1s, show (3 : Int32) = nI 3 from rfl, en_asN fa (by decide) (by decide)]
  unfold q_plain
  cases hq : q_last C.K 0 with
  | none =>
    rw [if_neg (by show ¬ (0 : Int32) ≤ -1; decide), en_gr h.mo.o rfl, m_rd s4 (k := 6) (w := 6) (by decide) rfl, s4.r.ru 3 (by decide), en_cl h.mo.o, m_of' s4 (w := 5) (j := 5) hi h10 (by decide) rfl, c1s, pk_mul, nI_add, m_within xs (d + 1) (lo := 0) (hi := 99) (v := C.ru 3 + 3 * C.L i 5) (y := 0) (z := 99) _ rfl rfl rfl (by omega) (by omega) (by decide), c1s]
    refine ⟨_, ?_, s4⟩
    show some (some (Value.int (nI (max 0 (min 99 (C.ru 3 + 3 * C.L i 5))))), _) = some (some (Value.int (nI (min 99 (C.ru 3 + 3 * C.L i 5)))), _)
    rw [show max 0 (min 99 (C.ru 3 + 3 * C.L i 5)) = min 99 (C.ru 3 + 3 * C.L i 5) by omega]
  | some t =>
    obtain ⟨ht, hkt⟩ := q_lst_some hq
    have h14 := ok.K.1
    have hB := ok.K.2 t ht
    have hKt := h.r.K.2 t ht
    rw [hkt] at hB hKt
    obtain ⟨σ5, r1, r2⟩ := m_worksOut (xs := xs) (d := d) (σ := en_up (en_up (en_up (en_up σ 102 0 (nI (C.ru 3))) 102 1 (nI (C.L i 5))) 102 2 (nI (C.L i 4))) 102 3 (nI (C.L i 3))) (t := t) (key := 0) (B := 4) (nm := q_nm4 (C.ru 3) (C.L i 5) (C.L i 4) (C.L i 3)) (cs := q_code C.K t) h.mo (by omega) (by decide) (by decide) hB.2.2.1 (by rw [en_up_a (by decide), en_up_a (by decide), en_up_a (by decide), en_up_a (by decide)]; exact hKt.1) (fun k c hc => by rw [en_up_a (by decide), en_up_a (by decide), en_up_a (by decide), en_up_a (by decide)]; exact hKt.2.2 k c hc) (fun k hk => by
      rcases (show k = 0 ∨ k = 1 ∨ k = 2 ∨ k = 3 by omega) with rfl | rfl | rfl | rfl <;> simp [en_up_i, q_nm4]) hB.2.2.2
    rw [if_pos (by exact nI_pos' (by omega)), en_cl h.mo.o, show m_cv (some t) = nI t from rfl, r1, c1s, m_held xs (d + 1), c1s]
    exact ⟨σ5, rfl, s4.side (by rw [r2 91 (by decide)]) (fun b h1 h2 h3 => r2 b h2)⟩
theorem m_takesBy (h : MC S σ0 σ C) (ok : q_ok C) {i : Nat} (hi : i < C.n) : ∃ σ', mx_ev xs mx_P (d + 4) 143 [.ref 90, .int (nI i)] (en S σ) = some (some (.int (nI (q_takes (C.L i) (q_plain C.K (C.ru 3) (C.L i))))), en S σ') ∧ MC S σ0 σ' C := by
  have h10 := ok.n
  obtain ⟨l0, l1, l2, l3, l4, l5⟩ := ok.L i hi
  have hp := q_plain_le C.K (C.ru 3) (C.L i)
  obtain ⟨σ1, r1, g⟩ := m_plain (xs := xs) (d := d) h ok hi
  have e2 : nI (q_plain C.K (C.ru 3) (C.L i)) / 2 = nI (q_plain C.K (C.ru 3) (C.L i) / 2) := pk_div (d := 2) (by omega) (by decide) (by decide)
  have e1 : nI (q_plain C.K (C.ru 3) (C.L i)) + 10 = nI (q_plain C.K (C.ru 3) (C.L i) + 10) := nI_add _ 10
  rw [ev_X7_takesBy, en_cl h.mo.o, r1, c1s, e1, e2]
  generalize hP : q_plain C.K (C.ru 3) (C.L i) = P at *
  rw [m_within xs (d + 2) (lo := 0) (hi := 99) (v := P + 10) (y := 0) (z := 99) _ rfl rfl rfl (by omega) (by omega) (by decide), c1s, en_cl h.mo.o, m_of' g (w := 0) (j := 0) hi h10 (by decide) rfl, c1s]
  refine ⟨σ1, ?_, g⟩
  unfold q_takes
  rcases (show C.L i 0 = 0 ∨ C.L i 0 = 1 ∨ C.L i 0 = 2 ∨ C.L i 0 = 3 ∨ C.L i 0 = 4 ∨ C.L i 0 = 5 by omega) with e | e | e | e | e | e <;> rw [e]
  · rfl
  · show some (some (Value.int (nI (max 0 (min 99 (P + 10))))), _) = some (some (Value.int (nI (min 99 (P + 10)))), _)
    rw [show max 0 (min 99 (P + 10)) = min 99 (P + 10) by omega]
  · rfl
  · show mx_cl (en S σ1) 90 7 _ = some (some (Value.int (nI (min 99 (min 99 (P + 10) + 2 * C.L i 5)))), _)
    rw [en_cl h.mo.o, m_of' g (w := 5) (j := 5) hi h10 (by decide) rfl, c1s, show (2 : Int32) = nI 2 from rfl, pk_mul, nI_add, m_within xs (d + 2) (lo := 0) (hi := 99) (v := max 0 (min 99 (P + 10)) + 2 * C.L i 5) (y := 0) (z := 99) _ rfl rfl rfl (by omega) (by omega) (by decide), c1s, ri0, show max 0 (min 99 (max 0 (min 99 (P + 10)) + 2 * C.L i 5)) = min 99 (min 99 (P + 10) + 2 * C.L i 5) by omega]
  · show mx_c1 (mx_ev xs mx_P (d + 3) 134 [.int (nI (P / 2)), .int 30, .int 99] (en S σ1)) _ = some (some (Value.int (nI (max 30 (P / 2)))), _)
    rw [m_within xs (d + 2) (lo := 30) (hi := 99) (v := P / 2) (y := 30) (z := 99) _ rfl rfl rfl (by omega) (by omega) (by decide), c1s, ri0, show max 30 (min 99 (P / 2)) = max 30 (P / 2) by omega]
  · rfl
end MC1
