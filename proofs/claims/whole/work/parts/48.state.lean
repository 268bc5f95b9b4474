/-! ===== what a closet is: a plain record; how the class's cells and the reference's row hold it ===== -/
def q_C : Type := Nat × (Nat → Nat → Nat) × (Nat → Nat) × q_K × Int32 × Int32 × Int32 × Nat × Int32
def q_mk (n : Nat) (L : Nat → Nat → Nat) (ru : Nat → Nat) (K : q_K) (p t s : Int32) (day : Nat) (z : Int32) : q_C := (n, L, ru, K, p, t, s, day, z)
def q_C.n (C : q_C) : Nat := C.1
def q_C.L (C : q_C) : Nat → Nat → Nat := C.2.1
def q_C.ru (C : q_C) : Nat → Nat := C.2.2.1
def q_C.K (C : q_C) : q_K := C.2.2.2.1
def q_C.p (C : q_C) : Int32 := C.2.2.2.2.1
def q_C.t (C : q_C) : Int32 := C.2.2.2.2.2.1
def q_C.s (C : q_C) : Int32 := C.2.2.2.2.2.2.1
def q_C.day (C : q_C) : Nat := C.2.2.2.2.2.2.2.1
def q_C.z (C : q_C) : Int32 := C.2.2.2.2.2.2.2.2
theorem mk_n (n : Nat) (L : Nat → Nat → Nat) (ru : Nat → Nat) (K : q_K) (p t s : Int32) (day : Nat) (z : Int32) : (q_mk n L ru K p t s day z).n = n := rfl
theorem mk_L (n : Nat) (L : Nat → Nat → Nat) (ru : Nat → Nat) (K : q_K) (p t s : Int32) (day : Nat) (z : Int32) : (q_mk n L ru K p t s day z).L = L := rfl
theorem mk_ru (n : Nat) (L : Nat → Nat → Nat) (ru : Nat → Nat) (K : q_K) (p t s : Int32) (day : Nat) (z : Int32) : (q_mk n L ru K p t s day z).ru = ru := rfl
theorem mk_K (n : Nat) (L : Nat → Nat → Nat) (ru : Nat → Nat) (K : q_K) (p t s : Int32) (day : Nat) (z : Int32) : (q_mk n L ru K p t s day z).K = K := rfl
theorem mk_p (n : Nat) (L : Nat → Nat → Nat) (ru : Nat → Nat) (K : q_K) (p t s : Int32) (day : Nat) (z : Int32) : (q_mk n L ru K p t s day z).p = p := rfl
theorem mk_t (n : Nat) (L : Nat → Nat → Nat) (ru : Nat → Nat) (K : q_K) (p t s : Int32) (day : Nat) (z : Int32) : (q_mk n L ru K p t s day z).t = t := rfl
theorem mk_s (n : Nat) (L : Nat → Nat → Nat) (ru : Nat → Nat) (K : q_K) (p t s : Int32) (day : Nat) (z : Int32) : (q_mk n L ru K p t s day z).s = s := rfl
theorem mk_day (n : Nat) (L : Nat → Nat → Nat) (ru : Nat → Nat) (K : q_K) (p t s : Int32) (day : Nat) (z : Int32) : (q_mk n L ru K p t s day z).day = day := rfl
theorem mk_z (n : Nat) (L : Nat → Nat → Nat) (ru : Nat → Nat) (K : q_K) (p t s : Int32) (day : Nat) (z : Int32) : (q_mk n L ru K p t s day z).z = z := rfl
def q_ok (C : q_C) : Prop := (C.n ≤ 10) ∧ (∀ i, i < C.n → q_leg (C.L i)) ∧ (C.ru 0 ≤ 100) ∧ (C.ru 1 ≤ 3) ∧ (C.ru 2 ≤ 99) ∧ (C.ru 3 ≤ 99) ∧ (q_Kok C.K)
theorem q_ok.n {C : q_C} (h : q_ok C) : C.n ≤ 10 := h.1
theorem q_ok.L {C : q_C} (h : q_ok C) : ∀ i, i < C.n → q_leg (C.L i) := h.2.1
theorem q_ok.r0 {C : q_C} (h : q_ok C) : C.ru 0 ≤ 100 := h.2.2.1
theorem q_ok.r1 {C : q_C} (h : q_ok C) : C.ru 1 ≤ 3 := h.2.2.2.1
theorem q_ok.r2 {C : q_C} (h : q_ok C) : C.ru 2 ≤ 99 := h.2.2.2.2.1
theorem q_ok.r3 {C : q_C} (h : q_ok C) : C.ru 3 ≤ 99 := h.2.2.2.2.2.1
theorem q_ok.K {C : q_C} (h : q_ok C) : q_Kok C.K := h.2.2.2.2.2.2
def cR (S : List en_S) (σ : Nat → Nat → Int32) (cb : Nat) (C : q_C) : Prop := (σ cb 1 = nI C.n) ∧ (q_legs σ cb C.n C.L) ∧ (∀ k, k < 4 → σ (cb + 2) k = nI (C.ru k)) ∧ (cText S σ cb C.K) ∧ (σ cb 6 = C.p) ∧ (σ cb 7 = C.t) ∧ (σ cb 8 = C.s) ∧ (σ cb 9 = nI C.day) ∧ (σ cb 10 = C.z)
theorem cR.n {S : List en_S} {σ : Nat → Nat → Int32} {cb : Nat} {C : q_C} (h : cR S σ cb C) : σ cb 1 = nI C.n := h.1
theorem cR.L {S : List en_S} {σ : Nat → Nat → Int32} {cb : Nat} {C : q_C} (h : cR S σ cb C) : q_legs σ cb C.n C.L := h.2.1
theorem cR.ru {S : List en_S} {σ : Nat → Nat → Int32} {cb : Nat} {C : q_C} (h : cR S σ cb C) : ∀ k, k < 4 → σ (cb + 2) k = nI (C.ru k) := h.2.2.1
theorem cR.K {S : List en_S} {σ : Nat → Nat → Int32} {cb : Nat} {C : q_C} (h : cR S σ cb C) : cText S σ cb C.K := h.2.2.2.1
theorem cR.p {S : List en_S} {σ : Nat → Nat → Int32} {cb : Nat} {C : q_C} (h : cR S σ cb C) : σ cb 6 = C.p := h.2.2.2.2.1
theorem cR.t {S : List en_S} {σ : Nat → Nat → Int32} {cb : Nat} {C : q_C} (h : cR S σ cb C) : σ cb 7 = C.t := h.2.2.2.2.2.1
theorem cR.s {S : List en_S} {σ : Nat → Nat → Int32} {cb : Nat} {C : q_C} (h : cR S σ cb C) : σ cb 8 = C.s := h.2.2.2.2.2.2.1
theorem cR.day {S : List en_S} {σ : Nat → Nat → Int32} {cb : Nat} {C : q_C} (h : cR S σ cb C) : σ cb 9 = nI C.day := h.2.2.2.2.2.2.2.1
theorem cR.z {S : List en_S} {σ : Nat → Nat → Int32} {cb : Nat} {C : q_C} (h : cR S σ cb C) : σ cb 10 = C.z := h.2.2.2.2.2.2.2.2
def XC (S : List en_S) (σ0 σ : Nat → Nat → Int32) (cb : Nat) (C : q_C) : Prop := (isCl S cb) ∧ (cb ≤ 73) ∧ (cR S σ cb C) ∧ (∀ b, ¬ (cb ≤ b ∧ b < cb + 17) → σ b = σ0 b)
theorem XC.cl {S : List en_S} {σ0 σ : Nat → Nat → Int32} {cb : Nat} {C : q_C} (h : XC S σ0 σ cb C) : isCl S cb := h.1
theorem XC.lt {S : List en_S} {σ0 σ : Nat → Nat → Int32} {cb : Nat} {C : q_C} (h : XC S σ0 σ cb C) : cb ≤ 73 := h.2.1
theorem XC.r {S : List en_S} {σ0 σ : Nat → Nat → Int32} {cb : Nat} {C : q_C} (h : XC S σ0 σ cb C) : cR S σ cb C := h.2.2.1
theorem XC.fr {S : List en_S} {σ0 σ : Nat → Nat → Int32} {cb : Nat} {C : q_C} (h : XC S σ0 σ cb C) : ∀ b, ¬ (cb ≤ b ∧ b < cb + 17) → σ b = σ0 b := h.2.2.2
def mText' (s : Nat → Int32) (K : q_K) : Prop := mText (fun _ => s) K
def mR (s : Nat → Int32) (C : q_C) : Prop := (s 1 = nI C.n) ∧ (∀ i, i < C.n → ∀ j, j < 6 → s (11 + 6 * i + j) = nI (C.L i j)) ∧ (∀ k, k < 4 → s (3 + k) = nI (C.ru k)) ∧ (mText' s C.K) ∧ (s 7 = C.p) ∧ (s 8 = C.t) ∧ (s 9 = C.s) ∧ (s 2 = nI C.day) ∧ (s 0 = C.z)
theorem mR.n {s : Nat → Int32} {C : q_C} (h : mR s C) : s 1 = nI C.n := h.1
theorem mR.L {s : Nat → Int32} {C : q_C} (h : mR s C) : ∀ i, i < C.n → ∀ j, j < 6 → s (11 + 6 * i + j) = nI (C.L i j) := h.2.1
theorem mR.ru {s : Nat → Int32} {C : q_C} (h : mR s C) : ∀ k, k < 4 → s (3 + k) = nI (C.ru k) := h.2.2.1
theorem mR.K {s : Nat → Int32} {C : q_C} (h : mR s C) : mText' s C.K := h.2.2.2.1
theorem mR.p {s : Nat → Int32} {C : q_C} (h : mR s C) : s 7 = C.p := h.2.2.2.2.1
theorem mR.t {s : Nat → Int32} {C : q_C} (h : mR s C) : s 8 = C.t := h.2.2.2.2.2.1
theorem mR.s {s : Nat → Int32} {C : q_C} (h : mR s C) : s 9 = C.s := h.2.2.2.2.2.2.1
theorem mR.day {s : Nat → Int32} {C : q_C} (h : mR s C) : s 2 = nI C.day := h.2.2.2.2.2.2.2.1
theorem mR.z {s : Nat → Int32} {C : q_C} (h : mR s C) : s 0 = C.z := h.2.2.2.2.2.2.2.2
def MC (S : List en_S) (σ0 σ : Nat → Nat → Int32) (C : q_C) : Prop := (isMo S) ∧ (mR (σ 91) C) ∧ (∀ b, b ≠ 91 → b ≠ 101 → b ≠ 102 → σ b = σ0 b)
theorem MC.mo {S : List en_S} {σ0 σ : Nat → Nat → Int32} {C : q_C} (h : MC S σ0 σ C) : isMo S := h.1
theorem MC.r {S : List en_S} {σ0 σ : Nat → Nat → Int32} {C : q_C} (h : MC S σ0 σ C) : mR (σ 91) C := h.2.1
theorem MC.fr {S : List en_S} {σ0 σ : Nat → Nat → Int32} {C : q_C} (h : MC S σ0 σ C) : ∀ b, b ≠ 91 → b ≠ 101 → b ≠ 102 → σ b = σ0 b := h.2.2
theorem XC.refl {S : List en_S} {σ : Nat → Nat → Int32} {cb : Nat} {C : q_C} (h1 : isCl S cb) (h2 : cb ≤ 73) (h3 : cR S σ cb C) : XC S σ σ cb C := ⟨h1, h2, h3, fun _ _ => rfl⟩
theorem cText.fr {S : List en_S} {σ σ' : Nat → Nat → Int32} {cb : Nat} {K : q_K} (h : cText S σ cb K) (h0 : σ' cb 4 = σ cb 4) (h3 : σ' (cb + 3) = σ (cb + 3)) (h4 : σ' (cb + 4) = σ (cb + 4)) (h5 : ∀ b, 112 ≤ b → σ' b = σ b) : cText S σ' cb K := by
  refine ⟨by rw [h0]; exact h.1, fun t ht => ?_, fun key hk => by rw [h4]; exact h.2.2 key hk⟩
  obtain ⟨ta, as, k1, k2, k3, k4, k5, k6, k7, k8, k9⟩ := h.2.1 t ht
  exact ⟨ta, as, by rw [h3]; exact k1, k2, k3, k4, k5, k6, by rw [h5 ta k3]; exact k7, by rw [h5 ta k3]; exact k8, fun k c hc => by rw [h5 as k4]; exact k9 k c hc⟩
theorem mR.congr {s s' : Nat → Int32} {C : q_C} (h : mR s C) (hK : q_Kok C.K) (h10 : C.n ≤ 10) (e : ∀ k, k < 1443 → s' k = s k) : mR s' C := by
  refine ⟨by rw [e 1 (by decide)]; exact h.n, fun i hi j hj => by rw [e _ (by omega)]; exact h.L i hi j hj, fun k hk => by rw [e _ (by omega)]; exact h.ru k hk, ?_, by rw [e 7 (by decide)]; exact h.p, by rw [e 8 (by decide)]; exact h.t, by rw [e 9 (by decide)]; exact h.s, by rw [e 2 (by decide)]; exact h.day, by rw [e 0 (by decide)]; exact h.z⟩
  have hk := h.K
  have h14 := hK.1
  refine ⟨by show s' 10 = _; rw [e 10 (by decide)]; exact hk.1, fun t ht => ⟨?_, ?_, fun k c hc => ?_⟩⟩
  · show s' _ = _
    rw [e _ (by omega)]
    exact (hk.2 t ht).1
  · show s' _ = _
    rw [e _ (by omega)]
    exact (hk.2 t ht).2.1
  · show s' _ = _
    have hl := (hK.2 t ht).2.2.1
    have hk2 : k < (q_code C.K t).length := (List.getElem?_eq_some_iff.mp hc).1
    rw [e _ (by omega)]
    exact (hk.2 t ht).2.2 k c hc
/-! a day -/
def q_pt (C : q_C) (i j v : Nat) : q_C := q_mk C.n (fun a b => if a = i ∧ b = j then v else C.L a b) C.ru C.K C.p C.t C.s C.day C.z
theorem q_pt_n (C : q_C) (i j v : Nat) : (q_pt C i j v).n = C.n := mk_n _ _ _ _ _ _ _ _ _
theorem q_pt_L (C : q_C) (i j v : Nat) : (q_pt C i j v).L = (fun a b => if a = i ∧ b = j then v else C.L a b) := mk_L _ _ _ _ _ _ _ _ _
theorem q_pt_ru (C : q_C) (i j v : Nat) : (q_pt C i j v).ru = C.ru := mk_ru _ _ _ _ _ _ _ _ _
theorem q_pt_K (C : q_C) (i j v : Nat) : (q_pt C i j v).K = C.K := mk_K _ _ _ _ _ _ _ _ _
theorem q_pt_p (C : q_C) (i j v : Nat) : (q_pt C i j v).p = C.p := mk_p _ _ _ _ _ _ _ _ _
theorem q_pt_t (C : q_C) (i j v : Nat) : (q_pt C i j v).t = C.t := mk_t _ _ _ _ _ _ _ _ _
theorem q_pt_s (C : q_C) (i j v : Nat) : (q_pt C i j v).s = C.s := mk_s _ _ _ _ _ _ _ _ _
theorem q_pt_day (C : q_C) (i j v : Nat) : (q_pt C i j v).day = C.day := mk_day _ _ _ _ _ _ _ _ _
theorem q_pt_z (C : q_C) (i j v : Nat) : (q_pt C i j v).z = C.z := mk_z _ _ _ _ _ _ _ _ _
def q_wearC (C : q_C) : q_C := q_mk C.n (q_wear (C.day % C.n) C.L) C.ru C.K C.p C.t C.s C.day C.z
theorem q_wearC_n (C : q_C) : (q_wearC C).n = C.n := mk_n _ _ _ _ _ _ _ _ _
theorem q_wearC_L (C : q_C) : (q_wearC C).L = (q_wear (C.day % C.n) C.L) := mk_L _ _ _ _ _ _ _ _ _
theorem q_wearC_ru (C : q_C) : (q_wearC C).ru = C.ru := mk_ru _ _ _ _ _ _ _ _ _
theorem q_wearC_K (C : q_C) : (q_wearC C).K = C.K := mk_K _ _ _ _ _ _ _ _ _
theorem q_wearC_p (C : q_C) : (q_wearC C).p = C.p := mk_p _ _ _ _ _ _ _ _ _
theorem q_wearC_t (C : q_C) : (q_wearC C).t = C.t := mk_t _ _ _ _ _ _ _ _ _
theorem q_wearC_s (C : q_C) : (q_wearC C).s = C.s := mk_s _ _ _ _ _ _ _ _ _
theorem q_wearC_day (C : q_C) : (q_wearC C).day = C.day := mk_day _ _ _ _ _ _ _ _ _
theorem q_wearC_z (C : q_C) : (q_wearC C).z = C.z := mk_z _ _ _ _ _ _ _ _ _
noncomputable def q_drawC (C : q_C) : q_C := q_mk C.n C.L C.ru C.K C.p C.t C.s C.day (q_z C.z)
theorem q_drawC_n (C : q_C) : (q_drawC C).n = C.n := mk_n _ _ _ _ _ _ _ _ _
theorem q_drawC_L (C : q_C) : (q_drawC C).L = C.L := mk_L _ _ _ _ _ _ _ _ _
theorem q_drawC_ru (C : q_C) : (q_drawC C).ru = C.ru := mk_ru _ _ _ _ _ _ _ _ _
theorem q_drawC_K (C : q_C) : (q_drawC C).K = C.K := mk_K _ _ _ _ _ _ _ _ _
theorem q_drawC_p (C : q_C) : (q_drawC C).p = C.p := mk_p _ _ _ _ _ _ _ _ _
theorem q_drawC_t (C : q_C) : (q_drawC C).t = C.t := mk_t _ _ _ _ _ _ _ _ _
theorem q_drawC_s (C : q_C) : (q_drawC C).s = C.s := mk_s _ _ _ _ _ _ _ _ _
theorem q_drawC_day (C : q_C) : (q_drawC C).day = C.day := mk_day _ _ _ _ _ _ _ _ _
theorem q_drawC_z (C : q_C) : (q_drawC C).z = (q_z C.z) := mk_z _ _ _ _ _ _ _ _ _
def q_soakC (C : q_C) (w : Nat) : q_C := q_mk C.n (fun a b => if a = w ∧ (b = 2 ∨ b = 3) then C.L a b / 2 else C.L a b) C.ru C.K C.p C.t (C.s + 1) C.day C.z
theorem q_soakC_n (C : q_C) (w : Nat) : (q_soakC C w).n = C.n := mk_n _ _ _ _ _ _ _ _ _
theorem q_soakC_L (C : q_C) (w : Nat) : (q_soakC C w).L = (fun a b => if a = w ∧ (b = 2 ∨ b = 3) then C.L a b / 2 else C.L a b) := mk_L _ _ _ _ _ _ _ _ _
theorem q_soakC_ru (C : q_C) (w : Nat) : (q_soakC C w).ru = C.ru := mk_ru _ _ _ _ _ _ _ _ _
theorem q_soakC_K (C : q_C) (w : Nat) : (q_soakC C w).K = C.K := mk_K _ _ _ _ _ _ _ _ _
theorem q_soakC_p (C : q_C) (w : Nat) : (q_soakC C w).p = C.p := mk_p _ _ _ _ _ _ _ _ _
theorem q_soakC_t (C : q_C) (w : Nat) : (q_soakC C w).t = C.t := mk_t _ _ _ _ _ _ _ _ _
theorem q_soakC_s (C : q_C) (w : Nat) : (q_soakC C w).s = (C.s + 1) := mk_s _ _ _ _ _ _ _ _ _
theorem q_soakC_day (C : q_C) (w : Nat) : (q_soakC C w).day = C.day := mk_day _ _ _ _ _ _ _ _ _
theorem q_soakC_z (C : q_C) (w : Nat) : (q_soakC C w).z = C.z := mk_z _ _ _ _ _ _ _ _ _
def q_pressC (C : q_C) (i u : Nat) : q_C := q_mk C.n (fun a => if a = i then q_pr u (C.ru 1) (q_takes (C.L i) (q_plain C.K (C.ru 3) (C.L i))) (C.L i) else C.L a) C.ru C.K (C.p + 1) (if q_ab u ≤ C.ru 1 then C.t else C.t + 1) C.s C.day C.z
theorem q_pressC_n (C : q_C) (i u : Nat) : (q_pressC C i u).n = C.n := mk_n _ _ _ _ _ _ _ _ _
theorem q_pressC_L (C : q_C) (i u : Nat) : (q_pressC C i u).L = (fun a => if a = i then q_pr u (C.ru 1) (q_takes (C.L i) (q_plain C.K (C.ru 3) (C.L i))) (C.L i) else C.L a) := mk_L _ _ _ _ _ _ _ _ _
theorem q_pressC_ru (C : q_C) (i u : Nat) : (q_pressC C i u).ru = C.ru := mk_ru _ _ _ _ _ _ _ _ _
theorem q_pressC_K (C : q_C) (i u : Nat) : (q_pressC C i u).K = C.K := mk_K _ _ _ _ _ _ _ _ _
theorem q_pressC_p (C : q_C) (i u : Nat) : (q_pressC C i u).p = (C.p + 1) := mk_p _ _ _ _ _ _ _ _ _
theorem q_pressC_t (C : q_C) (i u : Nat) : (q_pressC C i u).t = (if q_ab u ≤ C.ru 1 then C.t else C.t + 1) := mk_t _ _ _ _ _ _ _ _ _
theorem q_pressC_s (C : q_C) (i u : Nat) : (q_pressC C i u).s = C.s := mk_s _ _ _ _ _ _ _ _ _
theorem q_pressC_day (C : q_C) (i u : Nat) : (q_pressC C i u).day = C.day := mk_day _ _ _ _ _ _ _ _ _
theorem q_pressC_z (C : q_C) (i u : Nat) : (q_pressC C i u).z = C.z := mk_z _ _ _ _ _ _ _ _ _
def q_tick (C : q_C) : q_C := q_mk C.n C.L C.ru C.K C.p C.t C.s (C.day + 1) C.z
theorem q_tick_n (C : q_C) : (q_tick C).n = C.n := mk_n _ _ _ _ _ _ _ _ _
theorem q_tick_L (C : q_C) : (q_tick C).L = C.L := mk_L _ _ _ _ _ _ _ _ _
theorem q_tick_ru (C : q_C) : (q_tick C).ru = C.ru := mk_ru _ _ _ _ _ _ _ _ _
theorem q_tick_K (C : q_C) : (q_tick C).K = C.K := mk_K _ _ _ _ _ _ _ _ _
theorem q_tick_p (C : q_C) : (q_tick C).p = C.p := mk_p _ _ _ _ _ _ _ _ _
theorem q_tick_t (C : q_C) : (q_tick C).t = C.t := mk_t _ _ _ _ _ _ _ _ _
theorem q_tick_s (C : q_C) : (q_tick C).s = C.s := mk_s _ _ _ _ _ _ _ _ _
theorem q_tick_day (C : q_C) : (q_tick C).day = (C.day + 1) := mk_day _ _ _ _ _ _ _ _ _
theorem q_tick_z (C : q_C) : (q_tick C).z = C.z := mk_z _ _ _ _ _ _ _ _ _
def q_wL (C : q_C) (L : Nat → Nat → Nat) : q_C := q_mk C.n (L) C.ru C.K C.p C.t C.s C.day C.z
theorem q_wL_n (C : q_C) (L : Nat → Nat → Nat) : (q_wL C L).n = C.n := mk_n _ _ _ _ _ _ _ _ _
theorem q_wL_L (C : q_C) (L : Nat → Nat → Nat) : (q_wL C L).L = (L) := mk_L _ _ _ _ _ _ _ _ _
theorem q_wL_ru (C : q_C) (L : Nat → Nat → Nat) : (q_wL C L).ru = C.ru := mk_ru _ _ _ _ _ _ _ _ _
theorem q_wL_K (C : q_C) (L : Nat → Nat → Nat) : (q_wL C L).K = C.K := mk_K _ _ _ _ _ _ _ _ _
theorem q_wL_p (C : q_C) (L : Nat → Nat → Nat) : (q_wL C L).p = C.p := mk_p _ _ _ _ _ _ _ _ _
theorem q_wL_t (C : q_C) (L : Nat → Nat → Nat) : (q_wL C L).t = C.t := mk_t _ _ _ _ _ _ _ _ _
theorem q_wL_s (C : q_C) (L : Nat → Nat → Nat) : (q_wL C L).s = C.s := mk_s _ _ _ _ _ _ _ _ _
theorem q_wL_day (C : q_C) (L : Nat → Nat → Nat) : (q_wL C L).day = C.day := mk_day _ _ _ _ _ _ _ _ _
theorem q_wL_z (C : q_C) (L : Nat → Nat → Nat) : (q_wL C L).z = C.z := mk_z _ _ _ _ _ _ _ _ _
noncomputable def q_care (C : q_C) : q_C := if C.L (q_dull C.L C.n) 2 < C.ru 2 then q_pressC (q_drawC C) (q_dull C.L C.n) (q_dr (q_z C.z) % 7) else C
def q_rain (C : q_C) (w : Nat) : q_C := if q_dr C.z % 100 < C.ru 0 then q_soakC C w else C
noncomputable def q_day (C : q_C) : q_C := if C.n = 0 then q_tick (q_drawC C) else q_tick (q_care (q_rain (q_drawC (q_wearC C)) (C.day % C.n)))
noncomputable def q_days (C : q_C) : Nat → q_C
  | 0 => C
  | k + 1 => q_day (q_days C k)
theorem q_days_s (C : q_C) (k : Nat) : q_days C (k + 1) = q_day (q_days C k) := rfl
theorem q_nz {n : Nat} (h0 : 0 < n) (h : n < 2 ^ 31) : ¬ nI n = 0 := fun e => by
  have h1 : nI n = nI 0 := e
  rw [nI_eq h (by decide)] at h1
  omega
theorem q_takes_le {l : Nat → Nat} {p : Nat} (hp : p ≤ 99) : q_takes l p ≤ 99 := by
  unfold q_takes
  (repeat' split) <;> omega
theorem q_ok_of {C D : q_C} (h : q_ok C) (e1 : D.n = C.n) (eL : ∀ i, i < C.n → q_leg (D.L i)) (e3 : D.ru = C.ru) (e4 : D.K = C.K) : q_ok D :=
  ⟨by rw [e1]; exact h.n, fun i hi => eL i (by rw [← e1]; exact hi), by rw [e3]; exact h.r0, by rw [e3]; exact h.r1, by rw [e3]; exact h.r2, by rw [e3]; exact h.r3, by rw [e4]; exact h.K⟩
theorem q_ok_wear {C : q_C} (h : q_ok C) : q_ok (q_wearC C) := by
  refine q_ok_of h (q_wearC_n C) (fun i hi => ?_) (q_wearC_ru C) (q_wearC_K C)
  obtain ⟨h0, h1, h2, h3, h4, h5⟩ := h.L i hi
  rw [q_wearC_L]
  unfold q_wear
  by_cases e : i = C.day % C.n
  · simp only [e, if_true]
    rw [e] at h0 h1 h2 h3 h4 h5
    refine ⟨h0, h1, ?_, h3, ?_, h5⟩ <;> simp <;> omega
  · simp only [e, if_false]
    refine ⟨h0, h1, h2, h3, ?_, h5⟩ <;> simp <;> omega
theorem q_ok_draw {C : q_C} (h : q_ok C) : q_ok (q_drawC C) := q_ok_of h (q_drawC_n C) (fun i hi => by rw [q_drawC_L]; exact h.L i hi) (q_drawC_ru C) (q_drawC_K C)
theorem q_ok_tick {C : q_C} (h : q_ok C) : q_ok (q_tick C) := q_ok_of h (q_tick_n C) (fun i hi => by rw [q_tick_L]; exact h.L i hi) (q_tick_ru C) (q_tick_K C)
theorem q_ok_soak {C : q_C} {w : Nat} (h : q_ok C) : q_ok (q_soakC C w) := by
  refine q_ok_of h (q_soakC_n C w) (fun i hi => ?_) (q_soakC_ru C w) (q_soakC_K C w)
  obtain ⟨h0, h1, h2, h3, h4, h5⟩ := h.L i hi
  rw [q_soakC_L]
  by_cases e : i = w
  · subst e
    refine ⟨?_, ?_, ?_, ?_, ?_, ?_⟩ <;> simp <;> omega
  · simp only [e, false_and, if_false]
    exact ⟨h0, h1, h2, h3, h4, h5⟩
theorem q_ok_press {C : q_C} {i u : Nat} (h : q_ok C) : q_ok (q_pressC C i u) := by
  refine q_ok_of h (q_pressC_n C i u) (fun a ha => ?_) (q_pressC_ru C i u) (q_pressC_K C i u)
  rw [q_pressC_L]
  by_cases e : a = i
  · subst e
    simp only [if_true]
    exact q_pr_leg (h.L a ha) (q_takes_le (q_plain_le _ _ _))
  · simp only [e, if_false]
    exact h.L a ha
theorem q_ok_care {C : q_C} (h : q_ok C) : q_ok (q_care C) := by
  unfold q_care
  split
  · exact q_ok_press (q_ok_draw h)
  · exact h
theorem q_ok_rain {C : q_C} {w : Nat} (h : q_ok C) : q_ok (q_rain C w) := by
  unfold q_rain
  split
  · exact q_ok_soak h
  · exact h
theorem q_ok_day {C : q_C} (h : q_ok C) : q_ok (q_day C) := by
  unfold q_day
  split
  · exact q_ok_tick (q_ok_draw h)
  · exact q_ok_tick (q_ok_care (q_ok_rain (q_ok_draw (q_ok_wear h))))
theorem q_ok_days {C : q_C} (h : q_ok C) : ∀ k, q_ok (q_days C k)
  | 0 => h
  | k + 1 => q_ok_day (q_ok_days h k)
theorem q_care_n (C : q_C) : (q_care C).n = C.n := by unfold q_care; split <;> simp only [mk_n, mk_L, mk_ru, mk_K, mk_p, mk_t, mk_s, mk_day, mk_z, q_pt_n, q_pt_L, q_pt_ru, q_pt_K, q_pt_p, q_pt_t, q_pt_s, q_pt_day, q_pt_z, q_wearC_n, q_wearC_L, q_wearC_ru, q_wearC_K, q_wearC_p, q_wearC_t, q_wearC_s, q_wearC_day, q_wearC_z, q_drawC_n, q_drawC_L, q_drawC_ru, q_drawC_K, q_drawC_p, q_drawC_t, q_drawC_s, q_drawC_day, q_drawC_z, q_soakC_n, q_soakC_L, q_soakC_ru, q_soakC_K, q_soakC_p, q_soakC_t, q_soakC_s, q_soakC_day, q_soakC_z, q_pressC_n, q_pressC_L, q_pressC_ru, q_pressC_K, q_pressC_p, q_pressC_t, q_pressC_s, q_pressC_day, q_pressC_z, q_tick_n, q_tick_L, q_tick_ru, q_tick_K, q_tick_p, q_tick_t, q_tick_s, q_tick_day, q_tick_z, q_wL_n, q_wL_L, q_wL_ru, q_wL_K, q_wL_p, q_wL_t, q_wL_s, q_wL_day, q_wL_z]
theorem q_rain_n (C : q_C) (w : Nat) : (q_rain C w).n = C.n := by unfold q_rain; split <;> simp only [mk_n, mk_L, mk_ru, mk_K, mk_p, mk_t, mk_s, mk_day, mk_z, q_pt_n, q_pt_L, q_pt_ru, q_pt_K, q_pt_p, q_pt_t, q_pt_s, q_pt_day, q_pt_z, q_wearC_n, q_wearC_L, q_wearC_ru, q_wearC_K, q_wearC_p, q_wearC_t, q_wearC_s, q_wearC_day, q_wearC_z, q_drawC_n, q_drawC_L, q_drawC_ru, q_drawC_K, q_drawC_p, q_drawC_t, q_drawC_s, q_drawC_day, q_drawC_z, q_soakC_n, q_soakC_L, q_soakC_ru, q_soakC_K, q_soakC_p, q_soakC_t, q_soakC_s, q_soakC_day, q_soakC_z, q_pressC_n, q_pressC_L, q_pressC_ru, q_pressC_K, q_pressC_p, q_pressC_t, q_pressC_s, q_pressC_day, q_pressC_z, q_tick_n, q_tick_L, q_tick_ru, q_tick_K, q_tick_p, q_tick_t, q_tick_s, q_tick_day, q_tick_z, q_wL_n, q_wL_L, q_wL_ru, q_wL_K, q_wL_p, q_wL_t, q_wL_s, q_wL_day, q_wL_z]
theorem q_care_day (C : q_C) : (q_care C).day = C.day := by unfold q_care; split <;> simp only [mk_n, mk_L, mk_ru, mk_K, mk_p, mk_t, mk_s, mk_day, mk_z, q_pt_n, q_pt_L, q_pt_ru, q_pt_K, q_pt_p, q_pt_t, q_pt_s, q_pt_day, q_pt_z, q_wearC_n, q_wearC_L, q_wearC_ru, q_wearC_K, q_wearC_p, q_wearC_t, q_wearC_s, q_wearC_day, q_wearC_z, q_drawC_n, q_drawC_L, q_drawC_ru, q_drawC_K, q_drawC_p, q_drawC_t, q_drawC_s, q_drawC_day, q_drawC_z, q_soakC_n, q_soakC_L, q_soakC_ru, q_soakC_K, q_soakC_p, q_soakC_t, q_soakC_s, q_soakC_day, q_soakC_z, q_pressC_n, q_pressC_L, q_pressC_ru, q_pressC_K, q_pressC_p, q_pressC_t, q_pressC_s, q_pressC_day, q_pressC_z, q_tick_n, q_tick_L, q_tick_ru, q_tick_K, q_tick_p, q_tick_t, q_tick_s, q_tick_day, q_tick_z, q_wL_n, q_wL_L, q_wL_ru, q_wL_K, q_wL_p, q_wL_t, q_wL_s, q_wL_day, q_wL_z]
theorem q_rain_day (C : q_C) (w : Nat) : (q_rain C w).day = C.day := by unfold q_rain; split <;> simp only [mk_n, mk_L, mk_ru, mk_K, mk_p, mk_t, mk_s, mk_day, mk_z, q_pt_n, q_pt_L, q_pt_ru, q_pt_K, q_pt_p, q_pt_t, q_pt_s, q_pt_day, q_pt_z, q_wearC_n, q_wearC_L, q_wearC_ru, q_wearC_K, q_wearC_p, q_wearC_t, q_wearC_s, q_wearC_day, q_wearC_z, q_drawC_n, q_drawC_L, q_drawC_ru, q_drawC_K, q_drawC_p, q_drawC_t, q_drawC_s, q_drawC_day, q_drawC_z, q_soakC_n, q_soakC_L, q_soakC_ru, q_soakC_K, q_soakC_p, q_soakC_t, q_soakC_s, q_soakC_day, q_soakC_z, q_pressC_n, q_pressC_L, q_pressC_ru, q_pressC_K, q_pressC_p, q_pressC_t, q_pressC_s, q_pressC_day, q_pressC_z, q_tick_n, q_tick_L, q_tick_ru, q_tick_K, q_tick_p, q_tick_t, q_tick_s, q_tick_day, q_tick_z, q_wL_n, q_wL_L, q_wL_ru, q_wL_K, q_wL_p, q_wL_t, q_wL_s, q_wL_day, q_wL_z]
theorem q_day_n (C : q_C) : (q_day C).n = C.n := by
  unfold q_day
  split <;> simp only [q_care_n, q_rain_n, mk_n, mk_L, mk_ru, mk_K, mk_p, mk_t, mk_s, mk_day, mk_z, q_pt_n, q_pt_L, q_pt_ru, q_pt_K, q_pt_p, q_pt_t, q_pt_s, q_pt_day, q_pt_z, q_wearC_n, q_wearC_L, q_wearC_ru, q_wearC_K, q_wearC_p, q_wearC_t, q_wearC_s, q_wearC_day, q_wearC_z, q_drawC_n, q_drawC_L, q_drawC_ru, q_drawC_K, q_drawC_p, q_drawC_t, q_drawC_s, q_drawC_day, q_drawC_z, q_soakC_n, q_soakC_L, q_soakC_ru, q_soakC_K, q_soakC_p, q_soakC_t, q_soakC_s, q_soakC_day, q_soakC_z, q_pressC_n, q_pressC_L, q_pressC_ru, q_pressC_K, q_pressC_p, q_pressC_t, q_pressC_s, q_pressC_day, q_pressC_z, q_tick_n, q_tick_L, q_tick_ru, q_tick_K, q_tick_p, q_tick_t, q_tick_s, q_tick_day, q_tick_z, q_wL_n, q_wL_L, q_wL_ru, q_wL_K, q_wL_p, q_wL_t, q_wL_s, q_wL_day, q_wL_z]
theorem q_days_n (C : q_C) : ∀ k, (q_days C k).n = C.n
  | 0 => rfl
  | k + 1 => by rw [q_days_s, q_day_n, q_days_n C k]
theorem q_day_day (C : q_C) : (q_day C).day = C.day + 1 := by
  unfold q_day
  split <;> simp only [q_care_day, q_rain_day, mk_n, mk_L, mk_ru, mk_K, mk_p, mk_t, mk_s, mk_day, mk_z, q_pt_n, q_pt_L, q_pt_ru, q_pt_K, q_pt_p, q_pt_t, q_pt_s, q_pt_day, q_pt_z, q_wearC_n, q_wearC_L, q_wearC_ru, q_wearC_K, q_wearC_p, q_wearC_t, q_wearC_s, q_wearC_day, q_wearC_z, q_drawC_n, q_drawC_L, q_drawC_ru, q_drawC_K, q_drawC_p, q_drawC_t, q_drawC_s, q_drawC_day, q_drawC_z, q_soakC_n, q_soakC_L, q_soakC_ru, q_soakC_K, q_soakC_p, q_soakC_t, q_soakC_s, q_soakC_day, q_soakC_z, q_pressC_n, q_pressC_L, q_pressC_ru, q_pressC_K, q_pressC_p, q_pressC_t, q_pressC_s, q_pressC_day, q_pressC_z, q_tick_n, q_tick_L, q_tick_ru, q_tick_K, q_tick_p, q_tick_t, q_tick_s, q_tick_day, q_tick_z, q_wL_n, q_wL_L, q_wL_ru, q_wL_K, q_wL_p, q_wL_t, q_wL_s, q_wL_day, q_wL_z]
theorem q_days_day (C : q_C) : ∀ k, (q_days C k).day = C.day + k
  | 0 => rfl
  | k + 1 => by rw [q_days_s, q_day_day, q_days_day C k]; omega
section XC1
variable {S : List en_S} {σ0 σ : Nat → Nat → Int32} {cb d : Nat} {xs : List Int32} {C : q_C}
theorem XC.leg (h : XC S σ0 σ cb C) {i : Nat} (hi : i < 10) : S[cb + 7 + i]? = some en_leg := h.cl.2.2.2.2.2.2.2 i hi
/-- one of the object's own ints -/
theorem XC.own (h : XC S σ0 σ cb C) {k : Nat} {v : Int32} {D : q_C} (e1 : D.n = C.n) (e2 : D.L = C.L) (e3 : D.ru = C.ru) (e4 : D.K = C.K) (hk1 : k ≠ 1) (hk4 : k ≠ 4) (e5 : D.p = if k = 6 then v else C.p) (e6 : D.t = if k = 7 then v else C.t) (e7 : D.s = if k = 8 then v else C.s) (e8 : nI D.day = if k = 9 then v else nI C.day) (e9 : D.z = if k = 10 then v else C.z) : XC S σ0 (en_up σ cb k v) cb D := by
  have hr := h.r
  refine ⟨h.cl, h.lt, ⟨?_, ?_, ?_, ?_, ?_, ?_, ?_, ?_, ?_⟩, fun b hb => ?_⟩
  · rw [en_up_k (Ne.symm hk1), e1]; exact hr.n
  · intro i hi
    rw [e1] at hi
    rw [e2]
    exact q_at_ne (by omega) (hr.L i hi)
  · intro j hj
    rw [en_up_a (by omega), e3]; exact hr.ru j hj
  · rw [e4]
    exact hr.K.fr (en_up_k (Ne.symm hk4)) (by funext j; exact en_up_a (by omega)) (by funext j; exact en_up_a (by omega)) (fun b hb => by funext j; exact en_up_a (by have := h.lt; omega))
  · rw [e5, en_up_i, hr.p]
    by_cases e : k = 6
    · rw [if_pos ⟨rfl, e.symm⟩, if_pos e]
    · rw [if_neg (fun x => e x.2.symm), if_neg e]
  · rw [e6, en_up_i, hr.t]
    by_cases e : k = 7
    · rw [if_pos ⟨rfl, e.symm⟩, if_pos e]
    · rw [if_neg (fun x => e x.2.symm), if_neg e]
  · rw [e7, en_up_i, hr.s]
    by_cases e : k = 8
    · rw [if_pos ⟨rfl, e.symm⟩, if_pos e]
    · rw [if_neg (fun x => e x.2.symm), if_neg e]
  · rw [e8, en_up_i, hr.day]
    by_cases e : k = 9
    · rw [if_pos ⟨rfl, e.symm⟩, if_pos e]
    · rw [if_neg (fun x => e x.2.symm), if_neg e]
  · rw [e9, en_up_i, hr.z]
    by_cases e : k = 10
    · rw [if_pos ⟨rfl, e.symm⟩, if_pos e]
    · rw [if_neg (fun x => e x.2.symm), if_neg e]
  · have : b ≠ cb := by omega
    rw [show en_up σ cb k v b = σ b by unfold en_up; rw [if_neg this]]
    exact h.fr b hb
/-- legs anew, all else as it was -/
theorem XC.legs (h : XC S σ0 σ cb C) {σ' : Nat → Nat → Int32} {L : Nat → Nat → Nat} (hL : q_legs σ' cb C.n L) (hf : ∀ b, (∀ i, i < 10 → b ≠ cb + 7 + i) → b ≠ cb + 5 → b ≠ cb + 6 → σ' b = σ b) : XC S σ0 σ' cb (q_wL C L) := by
  have hr := h.r
  have hl := h.lt
  have g0 : σ' cb = σ cb := hf cb (fun i hi => by omega) (by omega) (by omega)
  have g2 : σ' (cb + 2) = σ (cb + 2) := hf _ (fun i hi => by omega) (by omega) (by omega)
  have g3 : σ' (cb + 3) = σ (cb + 3) := hf _ (fun i hi => by omega) (by omega) (by omega)
  have g4 : σ' (cb + 4) = σ (cb + 4) := hf _ (fun i hi => by omega) (by omega) (by omega)
  refine ⟨h.cl, h.lt, ⟨by rw [g0, q_wL_n]; exact hr.n, by rw [q_wL_n, q_wL_L]; exact hL, fun k hk => by rw [g2, q_wL_ru]; exact hr.ru k hk, by rw [q_wL_K]; exact hr.K.fr (by rw [g0]) g3 g4 (fun b hb => hf b (fun i hi => by omega) (by omega) (by omega)), by rw [g0, q_wL_p]; exact hr.p, by rw [g0, q_wL_t]; exact hr.t, by rw [g0, q_wL_s]; exact hr.s, by rw [g0, q_wL_day]; exact hr.day, by rw [g0, q_wL_z]; exact hr.z⟩, fun b hb => ?_⟩
  rw [hf b (fun i hi => by omega) (by omega) (by omega)]
  exact h.fr b hb
theorem x_wear (h : XC S σ0 σ cb C) (ok : q_ok C) (hn : 0 < C.n) : ∃ σ', mx_ev xs mx_P (d + 3) 28 [.ref cb, .int (nI (C.day % C.n))] (en S σ) = some (none, en S σ') ∧ XC S σ0 σ' cb (q_wearC C) := by
  obtain ⟨σ', r1, r2, r3⟩ := cl_wear (xs := xs) (d := d) h.cl ok.n (Nat.mod_lt C.day hn) ok.L h.r.n h.r.L
  refine ⟨σ', r1, h.legs r2 (fun b hb _ _ => r3 b (fun k hk => hb k (by have := ok.n; omega)))⟩
theorem x_draw (h : XC S σ0 σ cb C) : mx_ev xs mx_P (d + 1) 24 [.ref cb] (en S σ) = some (some (.int (nI (q_dr (q_z C.z)))), en S (en_up σ cb 10 (q_z C.z))) ∧ XC S σ0 (en_up σ cb 10 (q_z C.z)) cb (q_drawC C) := by
  constructor
  · rw [cl_draw h.cl, h.r.z]
  · exact h.own (by simp only [mk_n, mk_L, mk_ru, mk_K, mk_p, mk_t, mk_s, mk_day, mk_z, q_pt_n, q_pt_L, q_pt_ru, q_pt_K, q_pt_p, q_pt_t, q_pt_s, q_pt_day, q_pt_z, q_wearC_n, q_wearC_L, q_wearC_ru, q_wearC_K, q_wearC_p, q_wearC_t, q_wearC_s, q_wearC_day, q_wearC_z, q_drawC_n, q_drawC_L, q_drawC_ru, q_drawC_K, q_drawC_p, q_drawC_t, q_drawC_s, q_drawC_day, q_drawC_z, q_soakC_n, q_soakC_L, q_soakC_ru, q_soakC_K, q_soakC_p, q_soakC_t, q_soakC_s, q_soakC_day, q_soakC_z, q_pressC_n, q_pressC_L, q_pressC_ru, q_pressC_K, q_pressC_p, q_pressC_t, q_pressC_s, q_pressC_day, q_pressC_z, q_tick_n, q_tick_L, q_tick_ru, q_tick_K, q_tick_p, q_tick_t, q_tick_s, q_tick_day, q_tick_z, q_wL_n, q_wL_L, q_wL_ru, q_wL_K, q_wL_p, q_wL_t, q_wL_s, q_wL_day, q_wL_z]) (by simp only [mk_n, mk_L, mk_ru, mk_K, mk_p, mk_t, mk_s, mk_day, mk_z, q_pt_n, q_pt_L, q_pt_ru, q_pt_K, q_pt_p, q_pt_t, q_pt_s, q_pt_day, q_pt_z, q_wearC_n, q_wearC_L, q_wearC_ru, q_wearC_K, q_wearC_p, q_wearC_t, q_wearC_s, q_wearC_day, q_wearC_z, q_drawC_n, q_drawC_L, q_drawC_ru, q_drawC_K, q_drawC_p, q_drawC_t, q_drawC_s, q_drawC_day, q_drawC_z, q_soakC_n, q_soakC_L, q_soakC_ru, q_soakC_K, q_soakC_p, q_soakC_t, q_soakC_s, q_soakC_day, q_soakC_z, q_pressC_n, q_pressC_L, q_pressC_ru, q_pressC_K, q_pressC_p, q_pressC_t, q_pressC_s, q_pressC_day, q_pressC_z, q_tick_n, q_tick_L, q_tick_ru, q_tick_K, q_tick_p, q_tick_t, q_tick_s, q_tick_day, q_tick_z, q_wL_n, q_wL_L, q_wL_ru, q_wL_K, q_wL_p, q_wL_t, q_wL_s, q_wL_day, q_wL_z]) (by simp only [mk_n, mk_L, mk_ru, mk_K, mk_p, mk_t, mk_s, mk_day, mk_z, q_pt_n, q_pt_L, q_pt_ru, q_pt_K, q_pt_p, q_pt_t, q_pt_s, q_pt_day, q_pt_z, q_wearC_n, q_wearC_L, q_wearC_ru, q_wearC_K, q_wearC_p, q_wearC_t, q_wearC_s, q_wearC_day, q_wearC_z, q_drawC_n, q_drawC_L, q_drawC_ru, q_drawC_K, q_drawC_p, q_drawC_t, q_drawC_s, q_drawC_day, q_drawC_z, q_soakC_n, q_soakC_L, q_soakC_ru, q_soakC_K, q_soakC_p, q_soakC_t, q_soakC_s, q_soakC_day, q_soakC_z, q_pressC_n, q_pressC_L, q_pressC_ru, q_pressC_K, q_pressC_p, q_pressC_t, q_pressC_s, q_pressC_day, q_pressC_z, q_tick_n, q_tick_L, q_tick_ru, q_tick_K, q_tick_p, q_tick_t, q_tick_s, q_tick_day, q_tick_z, q_wL_n, q_wL_L, q_wL_ru, q_wL_K, q_wL_p, q_wL_t, q_wL_s, q_wL_day, q_wL_z]) (by simp only [mk_n, mk_L, mk_ru, mk_K, mk_p, mk_t, mk_s, mk_day, mk_z, q_pt_n, q_pt_L, q_pt_ru, q_pt_K, q_pt_p, q_pt_t, q_pt_s, q_pt_day, q_pt_z, q_wearC_n, q_wearC_L, q_wearC_ru, q_wearC_K, q_wearC_p, q_wearC_t, q_wearC_s, q_wearC_day, q_wearC_z, q_drawC_n, q_drawC_L, q_drawC_ru, q_drawC_K, q_drawC_p, q_drawC_t, q_drawC_s, q_drawC_day, q_drawC_z, q_soakC_n, q_soakC_L, q_soakC_ru, q_soakC_K, q_soakC_p, q_soakC_t, q_soakC_s, q_soakC_day, q_soakC_z, q_pressC_n, q_pressC_L, q_pressC_ru, q_pressC_K, q_pressC_p, q_pressC_t, q_pressC_s, q_pressC_day, q_pressC_z, q_tick_n, q_tick_L, q_tick_ru, q_tick_K, q_tick_p, q_tick_t, q_tick_s, q_tick_day, q_tick_z, q_wL_n, q_wL_L, q_wL_ru, q_wL_K, q_wL_p, q_wL_t, q_wL_s, q_wL_day, q_wL_z]) (by decide) (by decide) (by simp [mk_n, mk_L, mk_ru, mk_K, mk_p, mk_t, mk_s, mk_day, mk_z, q_pt_n, q_pt_L, q_pt_ru, q_pt_K, q_pt_p, q_pt_t, q_pt_s, q_pt_day, q_pt_z, q_wearC_n, q_wearC_L, q_wearC_ru, q_wearC_K, q_wearC_p, q_wearC_t, q_wearC_s, q_wearC_day, q_wearC_z, q_drawC_n, q_drawC_L, q_drawC_ru, q_drawC_K, q_drawC_p, q_drawC_t, q_drawC_s, q_drawC_day, q_drawC_z, q_soakC_n, q_soakC_L, q_soakC_ru, q_soakC_K, q_soakC_p, q_soakC_t, q_soakC_s, q_soakC_day, q_soakC_z, q_pressC_n, q_pressC_L, q_pressC_ru, q_pressC_K, q_pressC_p, q_pressC_t, q_pressC_s, q_pressC_day, q_pressC_z, q_tick_n, q_tick_L, q_tick_ru, q_tick_K, q_tick_p, q_tick_t, q_tick_s, q_tick_day, q_tick_z, q_wL_n, q_wL_L, q_wL_ru, q_wL_K, q_wL_p, q_wL_t, q_wL_s, q_wL_day, q_wL_z]) (by simp [mk_n, mk_L, mk_ru, mk_K, mk_p, mk_t, mk_s, mk_day, mk_z, q_pt_n, q_pt_L, q_pt_ru, q_pt_K, q_pt_p, q_pt_t, q_pt_s, q_pt_day, q_pt_z, q_wearC_n, q_wearC_L, q_wearC_ru, q_wearC_K, q_wearC_p, q_wearC_t, q_wearC_s, q_wearC_day, q_wearC_z, q_drawC_n, q_drawC_L, q_drawC_ru, q_drawC_K, q_drawC_p, q_drawC_t, q_drawC_s, q_drawC_day, q_drawC_z, q_soakC_n, q_soakC_L, q_soakC_ru, q_soakC_K, q_soakC_p, q_soakC_t, q_soakC_s, q_soakC_day, q_soakC_z, q_pressC_n, q_pressC_L, q_pressC_ru, q_pressC_K, q_pressC_p, q_pressC_t, q_pressC_s, q_pressC_day, q_pressC_z, q_tick_n, q_tick_L, q_tick_ru, q_tick_K, q_tick_p, q_tick_t, q_tick_s, q_tick_day, q_tick_z, q_wL_n, q_wL_L, q_wL_ru, q_wL_K, q_wL_p, q_wL_t, q_wL_s, q_wL_day, q_wL_z]) (by simp [mk_n, mk_L, mk_ru, mk_K, mk_p, mk_t, mk_s, mk_day, mk_z, q_pt_n, q_pt_L, q_pt_ru, q_pt_K, q_pt_p, q_pt_t, q_pt_s, q_pt_day, q_pt_z, q_wearC_n, q_wearC_L, q_wearC_ru, q_wearC_K, q_wearC_p, q_wearC_t, q_wearC_s, q_wearC_day, q_wearC_z, q_drawC_n, q_drawC_L, q_drawC_ru, q_drawC_K, q_drawC_p, q_drawC_t, q_drawC_s, q_drawC_day, q_drawC_z, q_soakC_n, q_soakC_L, q_soakC_ru, q_soakC_K, q_soakC_p, q_soakC_t, q_soakC_s, q_soakC_day, q_soakC_z, q_pressC_n, q_pressC_L, q_pressC_ru, q_pressC_K, q_pressC_p, q_pressC_t, q_pressC_s, q_pressC_day, q_pressC_z, q_tick_n, q_tick_L, q_tick_ru, q_tick_K, q_tick_p, q_tick_t, q_tick_s, q_tick_day, q_tick_z, q_wL_n, q_wL_L, q_wL_ru, q_wL_K, q_wL_p, q_wL_t, q_wL_s, q_wL_day, q_wL_z]) (by simp [mk_n, mk_L, mk_ru, mk_K, mk_p, mk_t, mk_s, mk_day, mk_z, q_pt_n, q_pt_L, q_pt_ru, q_pt_K, q_pt_p, q_pt_t, q_pt_s, q_pt_day, q_pt_z, q_wearC_n, q_wearC_L, q_wearC_ru, q_wearC_K, q_wearC_p, q_wearC_t, q_wearC_s, q_wearC_day, q_wearC_z, q_drawC_n, q_drawC_L, q_drawC_ru, q_drawC_K, q_drawC_p, q_drawC_t, q_drawC_s, q_drawC_day, q_drawC_z, q_soakC_n, q_soakC_L, q_soakC_ru, q_soakC_K, q_soakC_p, q_soakC_t, q_soakC_s, q_soakC_day, q_soakC_z, q_pressC_n, q_pressC_L, q_pressC_ru, q_pressC_K, q_pressC_p, q_pressC_t, q_pressC_s, q_pressC_day, q_pressC_z, q_tick_n, q_tick_L, q_tick_ru, q_tick_K, q_tick_p, q_tick_t, q_tick_s, q_tick_day, q_tick_z, q_wL_n, q_wL_L, q_wL_ru, q_wL_K, q_wL_p, q_wL_t, q_wL_s, q_wL_day, q_wL_z]) (by simp [mk_n, mk_L, mk_ru, mk_K, mk_p, mk_t, mk_s, mk_day, mk_z, q_pt_n, q_pt_L, q_pt_ru, q_pt_K, q_pt_p, q_pt_t, q_pt_s, q_pt_day, q_pt_z, q_wearC_n, q_wearC_L, q_wearC_ru, q_wearC_K, q_wearC_p, q_wearC_t, q_wearC_s, q_wearC_day, q_wearC_z, q_drawC_n, q_drawC_L, q_drawC_ru, q_drawC_K, q_drawC_p, q_drawC_t, q_drawC_s, q_drawC_day, q_drawC_z, q_soakC_n, q_soakC_L, q_soakC_ru, q_soakC_K, q_soakC_p, q_soakC_t, q_soakC_s, q_soakC_day, q_soakC_z, q_pressC_n, q_pressC_L, q_pressC_ru, q_pressC_K, q_pressC_p, q_pressC_t, q_pressC_s, q_pressC_day, q_pressC_z, q_tick_n, q_tick_L, q_tick_ru, q_tick_K, q_tick_p, q_tick_t, q_tick_s, q_tick_day, q_tick_z, q_wL_n, q_wL_L, q_wL_ru, q_wL_K, q_wL_p, q_wL_t, q_wL_s, q_wL_day, q_wL_z])
theorem x_soak (h : XC S σ0 σ cb C) (ok : q_ok C) {w : Nat} (hw : w < C.n) : ∃ σ', mx_ev xs mx_P (d + 1) 29 [.ref cb, .ref (cb + 7 + w)] (en S σ) = some (none, en S σ') ∧ XC S σ0 σ' cb (q_soakC C w) := by
  have h10 := ok.n
  have hl := h.leg (i := w) (by omega)
  have hw2 := h.r.L w hw
  obtain ⟨k0, k1, k2, k3, k4, k5⟩ := ok.L w hw
  have e2 : nI (C.L w 2) / 2 = nI (C.L w 2 / 2) := pk_div (d := 2) (by omega) (by decide) (by decide)
  have e3 : nI (C.L w 3) / 2 = nI (C.L w 3 / 2) := pk_div (d := 2) (by omega) (by decide) (by decide)
  have g := h.legs (L := fun a b => if a = w ∧ (b = 2 ∨ b = 3) then C.L a b / 2 else C.L a b) (σ' := en_up (en_up σ (cb + 7 + w) 2 (nI (C.L w 2 / 2))) (cb + 7 + w) 3 (nI (C.L w 3 / 2))) (fun i hi j hj => by
    by_cases e : i = w
    · subst e
      rw [en_up_i, en_up_i, hw2 j hj]
      by_cases j2 : j = 2
      · subst j2; simp
      · by_cases j3 : j = 3
        · subst j3; simp
        · simp [j2, j3]
    · rw [en_up_a (by omega), en_up_a (by omega), h.r.L i hi j hj]
      simp [e]) (fun b hb _ _ => by
    funext j
    rw [en_up_a (hb w (by omega)), en_up_a (hb w (by omega))])
  rw [ev_X0_soak, en_gi hl rfl, hw2 2 (by decide), if_neg (by decide), e2, en_pt hl rfl, en_gi hl rfl, en_up_k (by decide), hw2 3 (by decide), if_neg (by decide), e3, en_pt hl rfl, en_gi h.cl.1 rfl, g.r.s, q_wL_s, en_pt h.cl.1 rfl]
  exact ⟨_, rfl, g.own (by simp only [mk_n, mk_L, mk_ru, mk_K, mk_p, mk_t, mk_s, mk_day, mk_z, q_pt_n, q_pt_L, q_pt_ru, q_pt_K, q_pt_p, q_pt_t, q_pt_s, q_pt_day, q_pt_z, q_wearC_n, q_wearC_L, q_wearC_ru, q_wearC_K, q_wearC_p, q_wearC_t, q_wearC_s, q_wearC_day, q_wearC_z, q_drawC_n, q_drawC_L, q_drawC_ru, q_drawC_K, q_drawC_p, q_drawC_t, q_drawC_s, q_drawC_day, q_drawC_z, q_soakC_n, q_soakC_L, q_soakC_ru, q_soakC_K, q_soakC_p, q_soakC_t, q_soakC_s, q_soakC_day, q_soakC_z, q_pressC_n, q_pressC_L, q_pressC_ru, q_pressC_K, q_pressC_p, q_pressC_t, q_pressC_s, q_pressC_day, q_pressC_z, q_tick_n, q_tick_L, q_tick_ru, q_tick_K, q_tick_p, q_tick_t, q_tick_s, q_tick_day, q_tick_z, q_wL_n, q_wL_L, q_wL_ru, q_wL_K, q_wL_p, q_wL_t, q_wL_s, q_wL_day, q_wL_z]) (by simp only [mk_n, mk_L, mk_ru, mk_K, mk_p, mk_t, mk_s, mk_day, mk_z, q_pt_n, q_pt_L, q_pt_ru, q_pt_K, q_pt_p, q_pt_t, q_pt_s, q_pt_day, q_pt_z, q_wearC_n, q_wearC_L, q_wearC_ru, q_wearC_K, q_wearC_p, q_wearC_t, q_wearC_s, q_wearC_day, q_wearC_z, q_drawC_n, q_drawC_L, q_drawC_ru, q_drawC_K, q_drawC_p, q_drawC_t, q_drawC_s, q_drawC_day, q_drawC_z, q_soakC_n, q_soakC_L, q_soakC_ru, q_soakC_K, q_soakC_p, q_soakC_t, q_soakC_s, q_soakC_day, q_soakC_z, q_pressC_n, q_pressC_L, q_pressC_ru, q_pressC_K, q_pressC_p, q_pressC_t, q_pressC_s, q_pressC_day, q_pressC_z, q_tick_n, q_tick_L, q_tick_ru, q_tick_K, q_tick_p, q_tick_t, q_tick_s, q_tick_day, q_tick_z, q_wL_n, q_wL_L, q_wL_ru, q_wL_K, q_wL_p, q_wL_t, q_wL_s, q_wL_day, q_wL_z]) (by simp only [mk_n, mk_L, mk_ru, mk_K, mk_p, mk_t, mk_s, mk_day, mk_z, q_pt_n, q_pt_L, q_pt_ru, q_pt_K, q_pt_p, q_pt_t, q_pt_s, q_pt_day, q_pt_z, q_wearC_n, q_wearC_L, q_wearC_ru, q_wearC_K, q_wearC_p, q_wearC_t, q_wearC_s, q_wearC_day, q_wearC_z, q_drawC_n, q_drawC_L, q_drawC_ru, q_drawC_K, q_drawC_p, q_drawC_t, q_drawC_s, q_drawC_day, q_drawC_z, q_soakC_n, q_soakC_L, q_soakC_ru, q_soakC_K, q_soakC_p, q_soakC_t, q_soakC_s, q_soakC_day, q_soakC_z, q_pressC_n, q_pressC_L, q_pressC_ru, q_pressC_K, q_pressC_p, q_pressC_t, q_pressC_s, q_pressC_day, q_pressC_z, q_tick_n, q_tick_L, q_tick_ru, q_tick_K, q_tick_p, q_tick_t, q_tick_s, q_tick_day, q_tick_z, q_wL_n, q_wL_L, q_wL_ru, q_wL_K, q_wL_p, q_wL_t, q_wL_s, q_wL_day, q_wL_z]) (by simp only [mk_n, mk_L, mk_ru, mk_K, mk_p, mk_t, mk_s, mk_day, mk_z, q_pt_n, q_pt_L, q_pt_ru, q_pt_K, q_pt_p, q_pt_t, q_pt_s, q_pt_day, q_pt_z, q_wearC_n, q_wearC_L, q_wearC_ru, q_wearC_K, q_wearC_p, q_wearC_t, q_wearC_s, q_wearC_day, q_wearC_z, q_drawC_n, q_drawC_L, q_drawC_ru, q_drawC_K, q_drawC_p, q_drawC_t, q_drawC_s, q_drawC_day, q_drawC_z, q_soakC_n, q_soakC_L, q_soakC_ru, q_soakC_K, q_soakC_p, q_soakC_t, q_soakC_s, q_soakC_day, q_soakC_z, q_pressC_n, q_pressC_L, q_pressC_ru, q_pressC_K, q_pressC_p, q_pressC_t, q_pressC_s, q_pressC_day, q_pressC_z, q_tick_n, q_tick_L, q_tick_ru, q_tick_K, q_tick_p, q_tick_t, q_tick_s, q_tick_day, q_tick_z, q_wL_n, q_wL_L, q_wL_ru, q_wL_K, q_wL_p, q_wL_t, q_wL_s, q_wL_day, q_wL_z]) (by decide) (by decide) (by simp [mk_n, mk_L, mk_ru, mk_K, mk_p, mk_t, mk_s, mk_day, mk_z, q_pt_n, q_pt_L, q_pt_ru, q_pt_K, q_pt_p, q_pt_t, q_pt_s, q_pt_day, q_pt_z, q_wearC_n, q_wearC_L, q_wearC_ru, q_wearC_K, q_wearC_p, q_wearC_t, q_wearC_s, q_wearC_day, q_wearC_z, q_drawC_n, q_drawC_L, q_drawC_ru, q_drawC_K, q_drawC_p, q_drawC_t, q_drawC_s, q_drawC_day, q_drawC_z, q_soakC_n, q_soakC_L, q_soakC_ru, q_soakC_K, q_soakC_p, q_soakC_t, q_soakC_s, q_soakC_day, q_soakC_z, q_pressC_n, q_pressC_L, q_pressC_ru, q_pressC_K, q_pressC_p, q_pressC_t, q_pressC_s, q_pressC_day, q_pressC_z, q_tick_n, q_tick_L, q_tick_ru, q_tick_K, q_tick_p, q_tick_t, q_tick_s, q_tick_day, q_tick_z, q_wL_n, q_wL_L, q_wL_ru, q_wL_K, q_wL_p, q_wL_t, q_wL_s, q_wL_day, q_wL_z]) (by simp [mk_n, mk_L, mk_ru, mk_K, mk_p, mk_t, mk_s, mk_day, mk_z, q_pt_n, q_pt_L, q_pt_ru, q_pt_K, q_pt_p, q_pt_t, q_pt_s, q_pt_day, q_pt_z, q_wearC_n, q_wearC_L, q_wearC_ru, q_wearC_K, q_wearC_p, q_wearC_t, q_wearC_s, q_wearC_day, q_wearC_z, q_drawC_n, q_drawC_L, q_drawC_ru, q_drawC_K, q_drawC_p, q_drawC_t, q_drawC_s, q_drawC_day, q_drawC_z, q_soakC_n, q_soakC_L, q_soakC_ru, q_soakC_K, q_soakC_p, q_soakC_t, q_soakC_s, q_soakC_day, q_soakC_z, q_pressC_n, q_pressC_L, q_pressC_ru, q_pressC_K, q_pressC_p, q_pressC_t, q_pressC_s, q_pressC_day, q_pressC_z, q_tick_n, q_tick_L, q_tick_ru, q_tick_K, q_tick_p, q_tick_t, q_tick_s, q_tick_day, q_tick_z, q_wL_n, q_wL_L, q_wL_ru, q_wL_K, q_wL_p, q_wL_t, q_wL_s, q_wL_day, q_wL_z]) (by simp [mk_n, mk_L, mk_ru, mk_K, mk_p, mk_t, mk_s, mk_day, mk_z, q_pt_n, q_pt_L, q_pt_ru, q_pt_K, q_pt_p, q_pt_t, q_pt_s, q_pt_day, q_pt_z, q_wearC_n, q_wearC_L, q_wearC_ru, q_wearC_K, q_wearC_p, q_wearC_t, q_wearC_s, q_wearC_day, q_wearC_z, q_drawC_n, q_drawC_L, q_drawC_ru, q_drawC_K, q_drawC_p, q_drawC_t, q_drawC_s, q_drawC_day, q_drawC_z, q_soakC_n, q_soakC_L, q_soakC_ru, q_soakC_K, q_soakC_p, q_soakC_t, q_soakC_s, q_soakC_day, q_soakC_z, q_pressC_n, q_pressC_L, q_pressC_ru, q_pressC_K, q_pressC_p, q_pressC_t, q_pressC_s, q_pressC_day, q_pressC_z, q_tick_n, q_tick_L, q_tick_ru, q_tick_K, q_tick_p, q_tick_t, q_tick_s, q_tick_day, q_tick_z, q_wL_n, q_wL_L, q_wL_ru, q_wL_K, q_wL_p, q_wL_t, q_wL_s, q_wL_day, q_wL_z]) (by simp [mk_n, mk_L, mk_ru, mk_K, mk_p, mk_t, mk_s, mk_day, mk_z, q_pt_n, q_pt_L, q_pt_ru, q_pt_K, q_pt_p, q_pt_t, q_pt_s, q_pt_day, q_pt_z, q_wearC_n, q_wearC_L, q_wearC_ru, q_wearC_K, q_wearC_p, q_wearC_t, q_wearC_s, q_wearC_day, q_wearC_z, q_drawC_n, q_drawC_L, q_drawC_ru, q_drawC_K, q_drawC_p, q_drawC_t, q_drawC_s, q_drawC_day, q_drawC_z, q_soakC_n, q_soakC_L, q_soakC_ru, q_soakC_K, q_soakC_p, q_soakC_t, q_soakC_s, q_soakC_day, q_soakC_z, q_pressC_n, q_pressC_L, q_pressC_ru, q_pressC_K, q_pressC_p, q_pressC_t, q_pressC_s, q_pressC_day, q_pressC_z, q_tick_n, q_tick_L, q_tick_ru, q_tick_K, q_tick_p, q_tick_t, q_tick_s, q_tick_day, q_tick_z, q_wL_n, q_wL_L, q_wL_ru, q_wL_K, q_wL_p, q_wL_t, q_wL_s, q_wL_day, q_wL_z]) (by simp [mk_n, mk_L, mk_ru, mk_K, mk_p, mk_t, mk_s, mk_day, mk_z, q_pt_n, q_pt_L, q_pt_ru, q_pt_K, q_pt_p, q_pt_t, q_pt_s, q_pt_day, q_pt_z, q_wearC_n, q_wearC_L, q_wearC_ru, q_wearC_K, q_wearC_p, q_wearC_t, q_wearC_s, q_wearC_day, q_wearC_z, q_drawC_n, q_drawC_L, q_drawC_ru, q_drawC_K, q_drawC_p, q_drawC_t, q_drawC_s, q_drawC_day, q_drawC_z, q_soakC_n, q_soakC_L, q_soakC_ru, q_soakC_K, q_soakC_p, q_soakC_t, q_soakC_s, q_soakC_day, q_soakC_z, q_pressC_n, q_pressC_L, q_pressC_ru, q_pressC_K, q_pressC_p, q_pressC_t, q_pressC_s, q_pressC_day, q_pressC_z, q_tick_n, q_tick_L, q_tick_ru, q_tick_K, q_tick_p, q_tick_t, q_tick_s, q_tick_day, q_tick_z, q_wL_n, q_wL_L, q_wL_ru, q_wL_K, q_wL_p, q_wL_t, q_wL_s, q_wL_day, q_wL_z])⟩
theorem x_press (h : XC S σ0 σ cb C) (ok : q_ok C) {i u : Nat} (hi : i < C.n) (hu : u ≤ 6) {x : Int32} (hx : x = nI u - 3) : ∃ σ', mx_ev xs mx_P (d + 5) 30 [.ref cb, .ref (cb + 7 + i), .int x] (en S σ) = some (some (.int (if q_ab u ≤ C.ru 1 then 1 else 0)), en S σ') ∧ XC S σ0 σ' cb (q_pressC C i u) := by
  have h10 := ok.n
  have hlt := h.lt
  obtain ⟨σ', r1, r2, r3, r4⟩ := cl_press (xs := xs) (d := d) h.cl (by omega) h.r.K ok.K (h.leg (i := i) (by omega)) (by omega) (h.r.L i hi) (ok.L i hi) (h.r.ru 3 (by decide)) ok.r3 (h.r.ru 1 (by decide)) ok.r1 hu hx
  have hr := h.r
  have g0 : ∀ b, (∀ k, k < 10 → b ≠ cb + 7 + k) → b ≠ cb → b ≠ cb + 5 → b ≠ cb + 6 → σ' b = σ b := fun b hb h0 h5 h6 => r3 b (hb i (by omega)) h0 h5 h6
  have g2 : σ' (cb + 2) = σ (cb + 2) := g0 _ (fun i hi => by omega) (by omega) (by omega) (by omega)
  have g3 : σ' (cb + 3) = σ (cb + 3) := g0 _ (fun i hi => by omega) (by omega) (by omega) (by omega)
  have g4 : σ' (cb + 4) = σ (cb + 4) := g0 _ (fun i hi => by omega) (by omega) (by omega) (by omega)
  refine ⟨σ', r1, h.cl, h.lt, ⟨?_, ?_, ?_, ?_, ?_, ?_, ?_, ?_, ?_⟩, fun b hb => ?_⟩
  · rw [r4, q_pressC_n]; exact hr.n
  · intro a ha
    rw [q_pressC_n] at ha
    rw [q_pressC_L]
    show q_at (σ' (cb + 7 + a)) (if a = i then q_pr u (C.ru 1) (q_takes (C.L i) (q_plain C.K (C.ru 3) (C.L i))) (C.L i) else C.L a)
    by_cases e : a = i
    · subst e
      rw [if_pos rfl]
      exact r2
    · rw [if_neg e, r3 _ (by omega) (by omega) (by omega) (by omega)]
      exact hr.L a ha
  · intro k hk
    rw [g2, q_pressC_ru]; exact hr.ru k hk
  · rw [q_pressC_K]; exact hr.K.fr (by rw [r4]; rfl) g3 g4 (fun b hb => g0 b (fun i hi => by omega) (by omega) (by omega) (by omega))
  · rw [r4, q_pressC_p, ← hr.p]; rfl
  · rw [r4, q_pressC_t, ← hr.t]
    by_cases e : q_ab u ≤ C.ru 1
    · simp [e]
    · simp [e]
  · rw [r4, q_pressC_s, ← hr.s]; rfl
  · rw [r4, q_pressC_day, ← hr.day]; rfl
  · rw [r4, q_pressC_z, ← hr.z]; rfl
  · rw [g0 b (fun i hi => by omega) (by omega) (by omega) (by omega)]
    exact h.fr b hb
theorem x_tick (h : XC S σ0 σ cb C) : XC S σ0 (en_up σ cb 9 (nI C.day + 1)) cb (q_tick C) :=
  h.own (by simp only [mk_n, mk_L, mk_ru, mk_K, mk_p, mk_t, mk_s, mk_day, mk_z, q_pt_n, q_pt_L, q_pt_ru, q_pt_K, q_pt_p, q_pt_t, q_pt_s, q_pt_day, q_pt_z, q_wearC_n, q_wearC_L, q_wearC_ru, q_wearC_K, q_wearC_p, q_wearC_t, q_wearC_s, q_wearC_day, q_wearC_z, q_drawC_n, q_drawC_L, q_drawC_ru, q_drawC_K, q_drawC_p, q_drawC_t, q_drawC_s, q_drawC_day, q_drawC_z, q_soakC_n, q_soakC_L, q_soakC_ru, q_soakC_K, q_soakC_p, q_soakC_t, q_soakC_s, q_soakC_day, q_soakC_z, q_pressC_n, q_pressC_L, q_pressC_ru, q_pressC_K, q_pressC_p, q_pressC_t, q_pressC_s, q_pressC_day, q_pressC_z, q_tick_n, q_tick_L, q_tick_ru, q_tick_K, q_tick_p, q_tick_t, q_tick_s, q_tick_day, q_tick_z, q_wL_n, q_wL_L, q_wL_ru, q_wL_K, q_wL_p, q_wL_t, q_wL_s, q_wL_day, q_wL_z]) (by simp only [mk_n, mk_L, mk_ru, mk_K, mk_p, mk_t, mk_s, mk_day, mk_z, q_pt_n, q_pt_L, q_pt_ru, q_pt_K, q_pt_p, q_pt_t, q_pt_s, q_pt_day, q_pt_z, q_wearC_n, q_wearC_L, q_wearC_ru, q_wearC_K, q_wearC_p, q_wearC_t, q_wearC_s, q_wearC_day, q_wearC_z, q_drawC_n, q_drawC_L, q_drawC_ru, q_drawC_K, q_drawC_p, q_drawC_t, q_drawC_s, q_drawC_day, q_drawC_z, q_soakC_n, q_soakC_L, q_soakC_ru, q_soakC_K, q_soakC_p, q_soakC_t, q_soakC_s, q_soakC_day, q_soakC_z, q_pressC_n, q_pressC_L, q_pressC_ru, q_pressC_K, q_pressC_p, q_pressC_t, q_pressC_s, q_pressC_day, q_pressC_z, q_tick_n, q_tick_L, q_tick_ru, q_tick_K, q_tick_p, q_tick_t, q_tick_s, q_tick_day, q_tick_z, q_wL_n, q_wL_L, q_wL_ru, q_wL_K, q_wL_p, q_wL_t, q_wL_s, q_wL_day, q_wL_z]) (by simp only [mk_n, mk_L, mk_ru, mk_K, mk_p, mk_t, mk_s, mk_day, mk_z, q_pt_n, q_pt_L, q_pt_ru, q_pt_K, q_pt_p, q_pt_t, q_pt_s, q_pt_day, q_pt_z, q_wearC_n, q_wearC_L, q_wearC_ru, q_wearC_K, q_wearC_p, q_wearC_t, q_wearC_s, q_wearC_day, q_wearC_z, q_drawC_n, q_drawC_L, q_drawC_ru, q_drawC_K, q_drawC_p, q_drawC_t, q_drawC_s, q_drawC_day, q_drawC_z, q_soakC_n, q_soakC_L, q_soakC_ru, q_soakC_K, q_soakC_p, q_soakC_t, q_soakC_s, q_soakC_day, q_soakC_z, q_pressC_n, q_pressC_L, q_pressC_ru, q_pressC_K, q_pressC_p, q_pressC_t, q_pressC_s, q_pressC_day, q_pressC_z, q_tick_n, q_tick_L, q_tick_ru, q_tick_K, q_tick_p, q_tick_t, q_tick_s, q_tick_day, q_tick_z, q_wL_n, q_wL_L, q_wL_ru, q_wL_K, q_wL_p, q_wL_t, q_wL_s, q_wL_day, q_wL_z]) (by simp only [mk_n, mk_L, mk_ru, mk_K, mk_p, mk_t, mk_s, mk_day, mk_z, q_pt_n, q_pt_L, q_pt_ru, q_pt_K, q_pt_p, q_pt_t, q_pt_s, q_pt_day, q_pt_z, q_wearC_n, q_wearC_L, q_wearC_ru, q_wearC_K, q_wearC_p, q_wearC_t, q_wearC_s, q_wearC_day, q_wearC_z, q_drawC_n, q_drawC_L, q_drawC_ru, q_drawC_K, q_drawC_p, q_drawC_t, q_drawC_s, q_drawC_day, q_drawC_z, q_soakC_n, q_soakC_L, q_soakC_ru, q_soakC_K, q_soakC_p, q_soakC_t, q_soakC_s, q_soakC_day, q_soakC_z, q_pressC_n, q_pressC_L, q_pressC_ru, q_pressC_K, q_pressC_p, q_pressC_t, q_pressC_s, q_pressC_day, q_pressC_z, q_tick_n, q_tick_L, q_tick_ru, q_tick_K, q_tick_p, q_tick_t, q_tick_s, q_tick_day, q_tick_z, q_wL_n, q_wL_L, q_wL_ru, q_wL_K, q_wL_p, q_wL_t, q_wL_s, q_wL_day, q_wL_z]) (by decide) (by decide) (by simp [mk_n, mk_L, mk_ru, mk_K, mk_p, mk_t, mk_s, mk_day, mk_z, q_pt_n, q_pt_L, q_pt_ru, q_pt_K, q_pt_p, q_pt_t, q_pt_s, q_pt_day, q_pt_z, q_wearC_n, q_wearC_L, q_wearC_ru, q_wearC_K, q_wearC_p, q_wearC_t, q_wearC_s, q_wearC_day, q_wearC_z, q_drawC_n, q_drawC_L, q_drawC_ru, q_drawC_K, q_drawC_p, q_drawC_t, q_drawC_s, q_drawC_day, q_drawC_z, q_soakC_n, q_soakC_L, q_soakC_ru, q_soakC_K, q_soakC_p, q_soakC_t, q_soakC_s, q_soakC_day, q_soakC_z, q_pressC_n, q_pressC_L, q_pressC_ru, q_pressC_K, q_pressC_p, q_pressC_t, q_pressC_s, q_pressC_day, q_pressC_z, q_tick_n, q_tick_L, q_tick_ru, q_tick_K, q_tick_p, q_tick_t, q_tick_s, q_tick_day, q_tick_z, q_wL_n, q_wL_L, q_wL_ru, q_wL_K, q_wL_p, q_wL_t, q_wL_s, q_wL_day, q_wL_z]) (by simp [mk_n, mk_L, mk_ru, mk_K, mk_p, mk_t, mk_s, mk_day, mk_z, q_pt_n, q_pt_L, q_pt_ru, q_pt_K, q_pt_p, q_pt_t, q_pt_s, q_pt_day, q_pt_z, q_wearC_n, q_wearC_L, q_wearC_ru, q_wearC_K, q_wearC_p, q_wearC_t, q_wearC_s, q_wearC_day, q_wearC_z, q_drawC_n, q_drawC_L, q_drawC_ru, q_drawC_K, q_drawC_p, q_drawC_t, q_drawC_s, q_drawC_day, q_drawC_z, q_soakC_n, q_soakC_L, q_soakC_ru, q_soakC_K, q_soakC_p, q_soakC_t, q_soakC_s, q_soakC_day, q_soakC_z, q_pressC_n, q_pressC_L, q_pressC_ru, q_pressC_K, q_pressC_p, q_pressC_t, q_pressC_s, q_pressC_day, q_pressC_z, q_tick_n, q_tick_L, q_tick_ru, q_tick_K, q_tick_p, q_tick_t, q_tick_s, q_tick_day, q_tick_z, q_wL_n, q_wL_L, q_wL_ru, q_wL_K, q_wL_p, q_wL_t, q_wL_s, q_wL_day, q_wL_z]) (by simp [mk_n, mk_L, mk_ru, mk_K, mk_p, mk_t, mk_s, mk_day, mk_z, q_pt_n, q_pt_L, q_pt_ru, q_pt_K, q_pt_p, q_pt_t, q_pt_s, q_pt_day, q_pt_z, q_wearC_n, q_wearC_L, q_wearC_ru, q_wearC_K, q_wearC_p, q_wearC_t, q_wearC_s, q_wearC_day, q_wearC_z, q_drawC_n, q_drawC_L, q_drawC_ru, q_drawC_K, q_drawC_p, q_drawC_t, q_drawC_s, q_drawC_day, q_drawC_z, q_soakC_n, q_soakC_L, q_soakC_ru, q_soakC_K, q_soakC_p, q_soakC_t, q_soakC_s, q_soakC_day, q_soakC_z, q_pressC_n, q_pressC_L, q_pressC_ru, q_pressC_K, q_pressC_p, q_pressC_t, q_pressC_s, q_pressC_day, q_pressC_z, q_tick_n, q_tick_L, q_tick_ru, q_tick_K, q_tick_p, q_tick_t, q_tick_s, q_tick_day, q_tick_z, q_wL_n, q_wL_L, q_wL_ru, q_wL_K, q_wL_p, q_wL_t, q_wL_s, q_wL_day, q_wL_z]) (by rw [q_tick_day, nI_1]; rfl) (by simp [mk_n, mk_L, mk_ru, mk_K, mk_p, mk_t, mk_s, mk_day, mk_z, q_pt_n, q_pt_L, q_pt_ru, q_pt_K, q_pt_p, q_pt_t, q_pt_s, q_pt_day, q_pt_z, q_wearC_n, q_wearC_L, q_wearC_ru, q_wearC_K, q_wearC_p, q_wearC_t, q_wearC_s, q_wearC_day, q_wearC_z, q_drawC_n, q_drawC_L, q_drawC_ru, q_drawC_K, q_drawC_p, q_drawC_t, q_drawC_s, q_drawC_day, q_drawC_z, q_soakC_n, q_soakC_L, q_soakC_ru, q_soakC_K, q_soakC_p, q_soakC_t, q_soakC_s, q_soakC_day, q_soakC_z, q_pressC_n, q_pressC_L, q_pressC_ru, q_pressC_K, q_pressC_p, q_pressC_t, q_pressC_s, q_pressC_day, q_pressC_z, q_tick_n, q_tick_L, q_tick_ru, q_tick_K, q_tick_p, q_tick_t, q_tick_s, q_tick_day, q_tick_z, q_wL_n, q_wL_L, q_wL_ru, q_wL_K, q_wL_p, q_wL_t, q_wL_s, q_wL_day, q_wL_z])
theorem x_care (h : XC S σ0 σ cb C) (ok : q_ok C) (hn : 0 < C.n) : ∃ σ', mx_gr (en S σ) cb 0 0 (fun r13 => mx_cl (en S σ) cb 0 (mx_c1 (mx_ev xs mx_P (d + 5) 35 [.ref cb] (en S σ)) (fun x15 h14 => mx_aa h14 r13 x15 (fun r16 => mx_gi h14 r16 1 2 (fun x17 => mx_gr h14 cb 0 2 (fun r18 => mx_ai h14 r18 0 2 (fun x19 => if x19 ≤ x17 then mx_gi h14 cb 0 9 (fun x20 => mx_pt h14 cb 0 9 (.int (x20 + 1)) (fun h21 => mx_rv [] h21)) else mx_cl h14 cb 0 (mx_c1 (mx_ev xs mx_P (d + 5) 24 [.ref cb] h14) (fun x23 h22 => if (7 : Int32) = 0 then none else mx_cl h22 cb 0 (mx_c1 (mx_ev xs mx_P (d + 5) 30 [.ref cb, .ref r16, .int ((mx_rm x23 7) - 3)] h22) (fun x25 h24 => mx_gi h24 cb 0 9 (fun x26 => mx_pt h24 cb 0 9 (.int (x26 + 1)) (fun h27 => mx_rv [] h27))))))))))))) = some (none, en S σ') ∧ XC S σ0 σ' cb (q_tick (q_care C)) := by
  have h10 := ok.n
  have hd : q_dull C.L C.n < C.n := q_dull_lt hn
  have hl := h.leg (i := q_dull C.L C.n) (by omega)
  have k2 := (ok.L _ hd).2.2.1
  have kc := ok.r2
  rw [en_gr h.cl.1 rfl, en_cl h.cl.1, cl_dullest h.cl hn ok.n h.r.n h.r.L ok.L, c1s, cl_aa h.cl (by omega), en_gi hl rfl, en_gr h.cl.1 rfl, show (mx_ai (en S σ) (cb + 2) 0 2 : (Int32 → mx_R) → mx_R) = mx_ai (en S σ) (cb + 2) 0 (nI 2) from rfl, en_aiN h.cl.2.2.1 (by decide) (by decide), h.r.ru 2 (by decide), h.r.L _ hd 2 (by decide)]
  unfold q_care
  by_cases e : C.L (q_dull C.L C.n) 2 < C.ru 2
  · rw [if_neg (nI_ge e (by omega)), if_pos e]
    obtain ⟨q1, q2⟩ := x_draw (xs := xs) (d := d + 4) h
    rw [en_cl h.cl.1, q1, c1s, if_neg (by decide), en_cl h.cl.1, q_rm (b := 7) (y := 7) (by have := q_dr_lt (q_z C.z); omega) (by decide) (by decide) rfl]
    obtain ⟨σ2, r1, r2⟩ := x_press (xs := xs) (d := d) (i := q_dull C.L C.n) (u := q_dr (q_z C.z) % 7) q2 (q_ok_draw ok) (by rw [q_drawC_n]; exact hd) (by omega) rfl
    rw [r1, c1s, en_gi h.cl.1 rfl, r2.r.day, en_pt h.cl.1 rfl]
    exact ⟨_, rfl, x_tick r2⟩
  · rw [if_pos ((nI_leI (by omega) (by omega)).mpr (by omega)), if_neg e, en_gi h.cl.1 rfl, h.r.day, en_pt h.cl.1 rfl]
    exact ⟨_, rfl, x_tick h⟩
theorem x_passDay (h : XC S σ0 σ cb C) (ok : q_ok C) (hd : C.day < 2 ^ 30) : ∃ σ', mx_ev xs mx_P (d + 6) 27 [.ref cb] (en S σ) = some (none, en S σ') ∧ XC S σ0 σ' cb (q_day C) := by
  have h10 := ok.n
  rw [ev_X0_passDay, en_gi h.cl.1 rfl, h.r.n]
  unfold q_day
  by_cases e : C.n = 0
  · rw [if_pos e, if_pos (by rw [e]; rfl), en_cl h.cl.1]
    obtain ⟨q1, q2⟩ := x_draw (xs := xs) (d := d + 4) h
    rw [q1, c1s, en_gi h.cl.1 rfl, q2.r.day, en_pt h.cl.1 rfl]
    exact ⟨_, rfl, x_tick q2⟩
  · have hn : 0 < C.n := by omega
    rw [if_neg e, if_neg (q_nz hn (by omega)), en_gi h.cl.1 rfl, en_gi h.cl.1 rfl, h.r.n, h.r.day, if_neg (q_nz hn (by omega)), q_rm (by omega) hn (by omega) rfl, en_cl h.cl.1]
    obtain ⟨σ1, r1, r2⟩ := x_wear (xs := xs) (d := d + 2) h ok hn
    obtain ⟨q1, q2⟩ := x_draw (xs := xs) (d := d + 4) r2
    have ok2 := q_ok_draw (q_ok_wear ok)
    have hw : C.day % C.n < C.n := Nat.mod_lt _ hn
    have rr := ok.r0
    rw [r1, c0s, en_cl h.cl.1, q1, c1s, if_neg (by decide), en_gr h.cl.1 rfl, show (mx_ai (en S (en_up σ1 cb 10 (q_z (q_wearC C).z))) (cb + 2) 0 0 : (Int32 → mx_R) → mx_R) = mx_ai (en S (en_up σ1 cb 10 (q_z (q_wearC C).z))) (cb + 2) 0 (nI 0) from rfl, en_aiN h.cl.2.2.1 (by decide) (by decide), q2.r.ru 0 (by decide), q_rm (b := 100) (y := 100) (by have := q_dr_lt (q_z (q_wearC C).z); omega) (by decide) (by decide) rfl]
    unfold q_rain
    show ∃ σ', (if nI (C.ru 0) ≤ nI (q_dr (q_z C.z) % 100) then _ else _) = some (none, en S σ') ∧ XC S σ0 σ' cb (q_tick (q_care (if q_dr (q_z C.z) % 100 < C.ru 0 then _ else _)))
    by_cases er : q_dr (q_z C.z) % 100 < C.ru 0
    · rw [if_neg (nI_ge er (by omega)), if_pos er, en_gr h.cl.1 rfl, cl_aa h.cl (by omega), en_cl h.cl.1]
      obtain ⟨σ3, r3, r4⟩ := x_soak (xs := xs) (d := d + 4) (w := C.day % C.n) q2 ok2 hw
      rw [r3, c0s]
      exact x_care r4 (q_ok_soak ok2) hn
    · rw [if_pos ((nI_leI (by omega) (by omega)).mpr (by omega)), if_neg er]
      exact x_care q2 ok2 hn
theorem x_passDays_loop (ok : q_ok C) {m : Nat} (hm : m ≤ 10000) (hd : C.day < 2 ^ 29) : ∀ (k i N : Nat) (σ : Nat → Nat → Int32), i + k = m → k < N → XC S σ0 σ cb (q_days C i) → ∃ σ', mx_rn xs (mx_ev xs mx_P (d + 6)) kk_X0_passDays N 2 [(0, .ref cb), (1, .int (nI m)), (2, .int (nI i))] [] (en S σ) = some (none, en S σ') ∧ XC S σ0 σ' cb (q_days C m)
  | k, i, 0, σ, _, h2, _ => absurd h2 (by omega)
  | 0, i, N + 1, σ, h1, _, h => by
    have e : i = m := by omega
    subst e
    rw [rn_X0_passDays_2, if_pos (Int32.le_refl _)]
    exact ⟨σ, rfl, h⟩
  | k + 1, i, N + 1, σ, h1, h2, h => by
    obtain ⟨σ1, r1, r2⟩ := x_passDay (xs := xs) (d := d) h (q_ok_days ok i) (by rw [q_days_day]; omega)
    rw [rn_X0_passDays_2, if_neg (nI_ge (by omega) (by omega)), en_cl h.cl.1, r1, c0s, nI_1]
    exact x_passDays_loop ok hm hd k (i + 1) N σ1 (by omega) (by omega) r2
theorem x_passDays (h : XC S σ0 σ cb C) (ok : q_ok C) {m : Nat} (hm : m ≤ 10000) (hd : C.day < 2 ^ 29) : ∃ σ', mx_ev xs mx_P (d + 7) 26 [.ref cb, .int (nI m)] (en S σ) = some (none, en S σ') ∧ XC S σ0 σ' cb (q_days C m) := by
  rw [ev_X0_passDays]
  exact x_passDays_loop (d := d) (xs := xs) ok hm hd m 0 99999 σ (by omega) (by omega) h
end XC1
