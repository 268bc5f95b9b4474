def q_addT (C : q_C) (x : Nat × Nat × List Nat) : q_C := q_mk C.n C.L C.ru (C.K ++ [x]) C.p C.t C.s C.day C.z
theorem q_addT_n (C : q_C) (x : Nat × Nat × List Nat) : (q_addT C x).n = C.n := mk_n _ _ _ _ _ _ _ _ _
theorem q_addT_L (C : q_C) (x : Nat × Nat × List Nat) : (q_addT C x).L = C.L := mk_L _ _ _ _ _ _ _ _ _
theorem q_addT_ru (C : q_C) (x : Nat × Nat × List Nat) : (q_addT C x).ru = C.ru := mk_ru _ _ _ _ _ _ _ _ _
theorem q_addT_K (C : q_C) (x : Nat × Nat × List Nat) : (q_addT C x).K = (C.K ++ [x]) := mk_K _ _ _ _ _ _ _ _ _
theorem q_addT_p (C : q_C) (x : Nat × Nat × List Nat) : (q_addT C x).p = C.p := mk_p _ _ _ _ _ _ _ _ _
theorem q_addT_t (C : q_C) (x : Nat × Nat × List Nat) : (q_addT C x).t = C.t := mk_t _ _ _ _ _ _ _ _ _
theorem q_addT_s (C : q_C) (x : Nat × Nat × List Nat) : (q_addT C x).s = C.s := mk_s _ _ _ _ _ _ _ _ _
theorem q_addT_day (C : q_C) (x : Nat × Nat × List Nat) : (q_addT C x).day = C.day := mk_day _ _ _ _ _ _ _ _ _
theorem q_addT_z (C : q_C) (x : Nat × Nat × List Nat) : (q_addT C x).z = C.z := mk_z _ _ _ _ _ _ _ _ _
noncomputable def g_txt (G : q_G) (C : q_C) : q_G := g_mk (C) G.img (0) G.tp G.so G.sz G.ce G.th G.lg G.rs G.rc G.nu G.wc G.wt
theorem g_txt_now (G : q_G) (C : q_C) : (g_txt G C).now = (C) := gk_now _ _ _ _ _ _ _ _ _ _ _ _ _ _
theorem g_txt_img (G : q_G) (C : q_C) : (g_txt G C).img = G.img := gk_img _ _ _ _ _ _ _ _ _ _ _ _ _ _
theorem g_txt_tl (G : q_G) (C : q_C) : (g_txt G C).tl = (0) := gk_tl _ _ _ _ _ _ _ _ _ _ _ _ _ _
theorem g_txt_tp (G : q_G) (C : q_C) : (g_txt G C).tp = G.tp := gk_tp _ _ _ _ _ _ _ _ _ _ _ _ _ _
theorem g_txt_so (G : q_G) (C : q_C) : (g_txt G C).so = G.so := gk_so _ _ _ _ _ _ _ _ _ _ _ _ _ _
theorem g_txt_sz (G : q_G) (C : q_C) : (g_txt G C).sz = G.sz := gk_sz _ _ _ _ _ _ _ _ _ _ _ _ _ _
theorem g_txt_ce (G : q_G) (C : q_C) : (g_txt G C).ce = G.ce := gk_ce _ _ _ _ _ _ _ _ _ _ _ _ _ _
theorem g_txt_th (G : q_G) (C : q_C) : (g_txt G C).th = G.th := gk_th _ _ _ _ _ _ _ _ _ _ _ _ _ _
theorem g_txt_lg (G : q_G) (C : q_C) : (g_txt G C).lg = G.lg := gk_lg _ _ _ _ _ _ _ _ _ _ _ _ _ _
theorem g_txt_rs (G : q_G) (C : q_C) : (g_txt G C).rs = G.rs := gk_rs _ _ _ _ _ _ _ _ _ _ _ _ _ _
theorem g_txt_rc (G : q_G) (C : q_C) : (g_txt G C).rc = G.rc := gk_rc _ _ _ _ _ _ _ _ _ _ _ _ _ _
theorem g_txt_nu (G : q_G) (C : q_C) : (g_txt G C).nu = G.nu := gk_nu _ _ _ _ _ _ _ _ _ _ _ _ _ _
theorem g_txt_wc (G : q_G) (C : q_C) : (g_txt G C).wc = G.wc := gk_wc _ _ _ _ _ _ _ _ _ _ _ _ _ _
theorem g_txt_wt (G : q_G) (C : q_C) : (g_txt G C).wt = G.wt := gk_wt _ _ _ _ _ _ _ _ _ _ _ _ _ _
theorem q_lst_app {K : q_K} {x : Nat × Nat × List Nat} {key : Nat} : ∀ t, t ≤ K.length → q_lst (K ++ [x]) key t = q_lst K key t
  | 0, _ => rfl
  | t + 1, h => by
    have ih := q_lst_app (K := K) (x := x) (key := key) t (by omega)
    have e : (K ++ [x]).getD t (0, 0, []) = K.getD t (0, 0, []) := by
      rw [List.getD_eq_getElem?_getD, List.getD_eq_getElem?_getD, List.getElem?_append_left (by omega)]
    show (if ((K ++ [x]).getD t (0, 0, [])).1 = key then some t else q_lst (K ++ [x]) key t) = (if (K.getD t (0, 0, [])).1 = key then some t else q_lst K key t)
    rw [e, ih]
theorem q_getD_app {K : q_K} {x : Nat × Nat × List Nat} {t : Nat} (h : t < K.length) : (K ++ [x]).getD t (0, 0, []) = K.getD t (0, 0, []) := by
  rw [List.getD_eq_getElem?_getD, List.getD_eq_getElem?_getD, List.getElem?_append_left h]
theorem q_getD_new {K : q_K} {x : Nat × Nat × List Nat} : (K ++ [x]).getD K.length (0, 0, []) = x := by
  rw [List.getD_eq_getElem?_getD, List.getElem?_append_right (Nat.le_refl _), Nat.sub_self]
  rfl
theorem q_last_app {K : q_K} {x : Nat × Nat × List Nat} {key : Nat} : q_last (K ++ [x]) key = if x.1 = key then some K.length else q_last K key := by
  unfold q_last
  rw [List.length_append]
  show (if ((K ++ [x]).getD K.length (0, 0, [])).1 = key then some K.length else q_lst (K ++ [x]) key K.length) = _
  rw [q_getD_new, q_lst_app _ (Nat.le_refl _)]
theorem q_Kok_app {K : q_K} {key na : Nat} {c : List Nat} (h : q_Kok K) (h14 : K.length < 14) (hk : key < 3) (hn : na ≤ 96) (hc : c.length ≤ 96) (hw : q_wf (q_B key) c 0) : q_Kok (K ++ [(key, na, c)]) := by
  refine ⟨by rw [List.length_append]; show K.length + 1 ≤ 14; omega, fun t ht => ?_⟩
  rw [List.length_append] at ht
  have ht : t < K.length + 1 := ht
  unfold q_code
  by_cases e : t = K.length
  · subst e
    rw [q_getD_new]
    exact ⟨hk, hn, hc, hw⟩
  · rw [q_getD_app (by omega)]
    exact h.2 t (by omega)
section TA
variable {S S2 : List en_S} {d n key na B : Nat} {xs : List Int32} {tp : Nat → Nat} {σ0 σ σ1 σ2 τ : Nat → Nat → Int32} {st cd : List Nat} {G : q_G} {C : q_C} {K : q_K}
/-- cells beyond the fixed ones stay -/
def en_ext (S S2 : List en_S) (σ τ : Nat → Nat → Int32) : Prop := ∀ a x, 112 ≤ a → S[a]? = some x → S2[a]? = some x ∧ τ a = σ a
theorem cText.ext {cb : Nat} (h : cText S σ cb K) (hE : en_ext S S2 σ τ) (h0 : τ cb 4 = σ cb 4) (h3 : ∀ t, t < K.length → τ (cb + 3) t = σ (cb + 3) t) (h4 : ∀ k, k < 3 → τ (cb + 4) k = σ (cb + 4) k) : cText S2 τ cb K := by
  refine ⟨by rw [h0]; exact h.1, fun t ht => ?_, fun key hk => by rw [h4 key hk]; exact h.2.2 key hk⟩
  obtain ⟨ta, as, k1, k2, k3, k4, k5, k6, k7, k8, k9⟩ := h.2.1 t ht
  obtain ⟨e1, e2⟩ := hE ta _ k3 k5
  obtain ⟨e3, e4⟩ := hE as _ k4 k6
  exact ⟨ta, as, by rw [h3 t ht]; exact k1, k2, k3, k4, e1, e3, by rw [e2]; exact k7, by rw [e2]; exact k8, fun k c hc => by rw [e4]; exact k9 k c hc⟩
/-- the class's side behind a text -/
theorem XR.txt (hX : XR S σ G) (ok : GO G) (hS2 : XS S2) (hE : en_ext S S2 σ τ) (e0 : ∀ k, k ≠ 6 → τ 0 k = σ 0 k) (e6 : τ 0 6 = 0) (hf : ∀ b, b < 112 → b ≠ 0 → ¬ (1 ≤ b ∧ b < 18) → ¬ scr b → τ b = σ b) (hnow : cR S2 τ 1 C) : XR S2 τ (g_txt G C) := by
  refine ⟨hS2, ?_, ?_, fun D hD => ?_, ?_, fun k hk => ?_, fun i hi => ?_, fun i hi => ?_, fun i hi k hk => ?_, fun i hi => ?_, fun i hi ht => ?_, fun i hi ht => ?_, fun i hi ht k hk => ?_, fun i hi ht => ?_, ?_, fun k hk => ?_⟩
  · rw [g_txt_now]; exact hnow
  · rw [g_txt_img, e0 3 (by decide)]; exact hX.ik
  · rw [g_txt_img] at hD
    have h := hX.img D hD
    have h10 := (ok.img D hD).1.n
    have e : ∀ j, j ≤ 16 → j ≠ 5 → j ≠ 6 → τ (18 + j) = σ (18 + j) := fun j hj j5 j6 => hf _ (by omega) (by omega) (by omega) (by unfold scr; omega)
    have q0 := e 0 (by omega) (by omega) (by omega)
    rw [Nat.add_zero] at q0
    exact ⟨by rw [q0]; exact h.n, fun i hi => by have g := h.L i hi; rw [show 18 + 7 + i = 18 + (7 + i) by omega] at g ⊢; rw [e (7 + i) (by omega) (by omega) (by omega)]; exact g, fun k hk => by rw [e 2 (by omega) (by omega) (by omega)]; exact h.ru k hk, h.K.ext hE (by rw [q0]) (fun t _ => by rw [e 3 (by omega) (by omega) (by omega)]) (fun k _ => by rw [e 4 (by omega) (by omega) (by omega)]), by rw [q0]; exact h.p, by rw [q0]; exact h.t, by rw [q0]; exact h.s, by rw [q0]; exact h.day, by rw [q0]; exact h.z⟩
  · rw [g_txt_tl, e6]; rfl
  · rw [g_txt_tl] at hk; omega
  · rw [g_txt_so, hf _ (by omega) (by omega) (by omega) (by unfold scr; omega)]; exact hX.so i hi
  · rw [g_txt_sz, hf _ (by omega) (by omega) (by omega) (by unfold scr; omega)]; exact hX.sz i hi
  · rw [g_txt_ce, hf _ (by omega) (by omega) (by omega) (by unfold scr; omega)]; exact hX.ce i hi k hk
  · rw [g_txt_th, hf _ (by omega) (by omega) (by omega) (by unfold scr; omega)]; exact hX.th i hi
  · rw [g_txt_th] at ht; rw [g_txt_lg, hf _ (by omega) (by omega) (by omega) (by unfold scr; omega)]; exact hX.lg i hi ht
  · rw [g_txt_th] at ht; rw [g_txt_rs, hf _ (by omega) (by omega) (by omega) (by unfold scr; omega)]; exact hX.rs i hi ht
  · rw [g_txt_th] at ht; rw [g_txt_rc, hf _ (by omega) (by omega) (by omega) (by unfold scr; omega)]; exact hX.rc i hi ht k hk
  · rw [g_txt_th] at ht; rw [g_txt_nu, hf _ (by omega) (by omega) (by omega) (by unfold scr; omega)]; exact hX.nu i hi ht
  · rw [g_txt_wc, e0 11 (by decide)]; exact hX.wc
  · rw [g_txt_wc] at hk; rw [g_txt_wt, hf 61 (by omega) (by omega) (by omega) (by unfold scr; omega)]; exact hX.wt k hk
theorem MR.txt (hM : MR S σ G) (hS2 : isMo S2) (e3 : τ 90 3 = σ 90 3) (e6 : τ 90 6 = 0) (e32 : τ 90 32 = σ 90 32) (hf : ∀ b, 91 < b → b < 112 → b ≠ 98 → b ≠ 99 → b ≠ 100 → τ b = σ b) (hnow : mR (τ 91) C) : MR S2 τ (g_txt G C) := by
  refine ⟨hS2, ?_, ?_, fun D hD => ?_, ?_, fun k hk => ?_, fun k hk => ?_, fun k hk => ?_, fun i hi => ?_, fun i hi => ?_, fun i hi k hk => ?_, fun i hi => ?_, fun i hi ht => ?_, fun i hi ht => ?_, fun i hi ht => ?_, ?_, fun k hk => ?_⟩
  · rw [g_txt_now]; exact hnow
  · rw [g_txt_img, e3]; exact hM.ik
  · rw [g_txt_img] at hD; rw [hf 92 (by omega) (by omega) (by omega) (by omega) (by omega)]; exact hM.img D hD
  · rw [g_txt_tl, e6]; rfl
  · rw [g_txt_tl] at hk; omega
  · rw [hf 96 (by omega) (by omega) (by omega) (by omega) (by omega)]; exact hM.ks k hk
  · rw [hf 97 (by omega) (by omega) (by omega) (by omega) (by omega)]; exact hM.ka k hk
  · rw [g_txt_so, hf 103 (by omega) (by omega) (by omega) (by omega) (by omega)]; exact hM.so i hi
  · rw [g_txt_sz, hf 104 (by omega) (by omega) (by omega) (by omega) (by omega)]; exact hM.sz i hi
  · rw [g_txt_ce, hf 105 (by omega) (by omega) (by omega) (by omega) (by omega)]; exact hM.ce i hi k hk
  · rw [g_txt_th, hf 106 (by omega) (by omega) (by omega) (by omega) (by omega)]; exact hM.th i hi
  · rw [g_txt_th] at ht; rw [g_txt_lg, hf 107 (by omega) (by omega) (by omega) (by omega) (by omega), hf 108 (by omega) (by omega) (by omega) (by omega) (by omega)]; exact hM.h1 i hi ht
  · rw [g_txt_th] at ht; rw [g_txt_rs, g_txt_rc, hf 107 (by omega) (by omega) (by omega) (by omega) (by omega), hf 109 (by omega) (by omega) (by omega) (by omega) (by omega)]; exact hM.h2 i hi ht
  · rw [g_txt_th] at ht; rw [g_txt_nu, hf 107 (by omega) (by omega) (by omega) (by omega) (by omega)]; exact hM.h3 i hi ht
  · rw [g_txt_wc, e32]; exact hM.wc
  · rw [g_txt_wc] at hk; rw [g_txt_wt, hf 111 (by omega) (by omega) (by omega) (by omega) (by omega)]; exact hM.wt k hk
theorem GO.txt (ok : GO G) (oC : q_ok C) (hd : C.day ≤ 9999) : GO (g_txt G C) := by
  refine ⟨by rw [g_txt_now]; exact oC, by rw [g_txt_now]; exact hd, fun D hD => ok.img D (by rw [g_txt_img] at hD; exact hD), by rw [g_txt_tl]; omega, fun k hk => by rw [g_txt_tl] at hk; omega, fun i hi => by rw [g_txt_so]; exact ok.so i hi, fun i hi => by rw [g_txt_sz]; exact ok.sz i hi, fun i hi => by rw [g_txt_th]; exact ok.th i hi, fun i hi ht => by rw [g_txt_th] at ht; rw [g_txt_lg]; exact ok.lg i hi ht, fun i hi ht => by rw [g_txt_th] at ht; rw [g_txt_rs]; exact ok.rs i hi ht, by rw [g_txt_wc]; exact ok.wc⟩
theorem XS.of (hX : XS S) (h : ∀ a, a < 112 → a ≠ 54 → S2[a]? = S[a]?) (h54 : S2[54]? = some (.inl (2, rd_tm))) : XS S2 := by
  have cl : ∀ cb, cb = 1 ∨ cb = 18 ∨ cb = 35 → isCl S cb → isCl S2 cb := fun cb hcb c => by
    obtain ⟨a, b, c, d, e, f, g, l⟩ := c
    exact ⟨by rw [h _ (by omega) (by omega)]; exact a, by rw [h _ (by omega) (by omega)]; exact b, by rw [h _ (by omega) (by omega)]; exact c, by rw [h _ (by omega) (by omega)]; exact d, by rw [h _ (by omega) (by omega)]; exact e, by rw [h _ (by omega) (by omega)]; exact f, by rw [h _ (by omega) (by omega)]; exact g, fun i hi => by rw [h _ (by omega) (by omega)]; exact l i hi⟩
  exact ⟨by rw [h _ (by omega) (by omega)]; exact hX.o, cl 1 (by omega) hX.c1, cl 18 (by omega) hX.c2, cl 35 (by omega) hX.c3, by rw [h _ (by omega) (by omega)]; exact hX.df, by rw [h _ (by omega) (by omega)]; exact hX.tp, ⟨53, h54⟩, by rw [h _ (by omega) (by omega)]; exact hX.st, by rw [h _ (by omega) (by omega)]; exact hX.pi, by rw [h _ (by omega) (by omega)]; exact hX.cm, by rw [h _ (by omega) (by omega)]; exact hX.sh, by rw [h _ (by omega) (by omega)]; exact hX.sl, by rw [h _ (by omega) (by omega)]; exact hX.wa, fun i hi => by rw [h _ (by omega) (by omega)]; exact hX.so i hi, fun i hi => by rw [h _ (by omega) (by omega)]; exact hX.sp i hi, fun i hi => by rw [h _ (by omega) (by omega)]; exact hX.lo i hi, fun i hi => by rw [h _ (by omega) (by omega)]; exact hX.ll i hi, fun i hi => by rw [h _ (by omega) (by omega)]; exact hX.lr i hi, fun i hi => by rw [h _ (by omega) (by omega)]; exact hX.lp i hi⟩
theorem isMo.of (hM : isMo S) (h : ∀ a, a < 112 → a ≠ 54 → S2[a]? = S[a]?) : isMo S2 := fun k x hk => by
  have hl : k < 22 := (List.getElem?_eq_some_iff.mp hk).1
  rw [h _ (by omega) (by omega)]
  exact hM k x hk
end TA
