section TC
variable {S S2 : List en_S} {d n key na B : Nat} {xs : List Int32} {tp : Nat → Nat} {σ0 σ σ1 σ2 τ : Nat → Nat → Int32} {st cd : List Nat} {G : q_G} {C : q_C} {K : q_K}
/-- a call that may make cells -/
def StT (xs : List Int32) (jx jm : Nat) (as : List Value) : Prop := ∀ S σ G, XR S σ G → MR S σ G → GO G → S.length < 2 ^ 30 → ∃ S2 σ1 σ2 v, mx_ev xs mx_P 12 jx (.ref 0 :: as) (en S σ) = some (some (.int v), en S2 σ1) ∧ mx_ev xs mx_P 12 jm (.ref 90 :: as) (en S2 σ1) = some (some (.int v), en S2 σ2) ∧ RR S2 σ2 ∧ S2.length ≤ S.length + 2 ∧ en_zs S2 ≤ en_zs S + 99
theorem q_S1_len : (q_S1 S).length = S.length := by unfold q_S1; rw [List.length_set]
theorem q_S1_zs (hX : XS S) : en_zs (q_S1 S) = en_zs S := by
  obtain ⟨rb, hr⟩ := hX.rd
  unfold en_zs q_S1
  congr 1
  apply List.ext_getElem?
  intro j
  rw [List.getElem?_map, List.getElem?_map]
  by_cases e : j = 54
  · subst e
    rw [List.getElem?_set_self (List.getElem?_eq_some_iff.mp hr).1, hr]
    rfl
  · rw [List.getElem?_set_ne (Ne.symm e)]
theorem q_S2_lo {len a : Nat} (ha : a < S.length) : (q_S2 S len)[a]? = S[a]? := by
  unfold q_S2
  rw [List.getElem?_append_left ha]
theorem q_S2_0 {len : Nat} : (q_S2 S len)[S.length]? = some (.inl (5, [none, none, some (S.length + 1)])) := by
  have := ap_at S [.inl (5, [none, none, some (S.length + 1)]), .inr (.inl (0, len))] 0
  rw [Nat.add_zero] at this
  exact this
theorem q_S2_1 {len : Nat} : (q_S2 S len)[S.length + 1]? = some (.inr (.inl (0, len))) := ap_at S [.inl (5, [none, none, some (S.length + 1)]), .inr (.inl (0, len))] 1
theorem x_addText (hc : isCl S 1) {L as c : Nat} (hL : S[L]? = some (.inl (5, [none, none, some as]))) (hL2 : L < 2 ^ 31) (hc14 : c < 14) (hk : key < 3) (h4 : σ 1 4 = nI c) (hk0 : σ L 0 = nI key) (hLa : 112 ≤ L) : mx_ev xs mx_P (d + 1) 23 [.ref 1, .ref L] (en S σ) = some (none, en S (en_up (en_up (en_up σ 4 c (nI L)) 5 key (nI c)) 1 4 (nI (c + 1)))) := by
  obtain ⟨c0, c1, c2, c3, c4, c5, c6, c7⟩ := hc
  have c3 : S[4]? = some (.inr (.inr (.inr (6, 14)))) := c3
  have c4 : S[5]? = some (.inr (.inl (0, 3))) := c4
  rw [ev_X0_addText, en_gi c0 rfl, h4, if_neg (by exact nI_ge (b := 14) hc14 (by decide)), en_gr c0 rfl, en_gi c0 rfl, h4]
  show mx_at (en S σ) 4 (nI c) L _ = _
  rw [en_tt c3 hL (by decide) hc14 (by decide) hL2, en_gr c0 rfl, en_gi hL rfl, en_up_a (by omega), hk0, en_gi c0 rfl, en_up_a (by decide), h4]
  show mx_as (en S _) 5 0 (nI key) (nI c) _ = _
  rw [en_asN c4 hk (by decide), en_gi c0 rfl, en_up_a (by decide), en_up_a (by decide), h4, nI_1, en_pt c0 rfl, rv0]
theorem t_text : StT xs 109 195 [] := by
  intro S σ G hX hM ok hlen
  have hn := ok.tl
  have h112 : 112 ≤ S.length := by
    have := (List.getElem?_eq_some_iff.mp hM.mo.te).1
    omega
  obtain ⟨rb, hr⟩ := hX.x.rd
  have hR := q_S1_rd hX.x
  have hS1 : XS (q_S1 S) := hX.x.of (fun a _ h => q_S1_o h) hR.1
  have hm1 : isMo (q_S1 S) := hM.mo.of (fun a _ h => q_S1_o h)
  have l1 := q_S1_len (S := S)
  obtain ⟨FA, FB⟩ := x_faultOf (d := 2) (xs := xs) (n := G.tl) (tp := G.tp) hX.x hn ok.tp hX.tp
  -- the reference's state, wherever the class is
  have MM : ∀ (S2 : List en_S) (τ : Nat → Nat → Int32), isMo S2 → (∀ b, 90 ≤ b → b < 112 → τ b = σ b) → MR S2 τ G := fun S2 τ h e => by
    have h1 := hM.after e
    exact ⟨h, h1.now, h1.ik, h1.img, h1.tl, h1.tp, h1.ks, h1.ka, h1.so, h1.sz, h1.ce, h1.th, h1.h1, h1.h2, h1.h3, h1.wc, h1.wt⟩
  -- nothing is kept: the tape alone is empty
  have keep : ∀ (τ υ : Nat → Nat → Int32), (∀ b, b ≠ 54 → b ≠ 56 → b ≠ 57 → b ≠ 58 → τ b = σ b) → υ 90 6 = 0 → (∀ k, k < 6 ∨ 19 < k → υ 90 k = en_up τ 0 6 0 90 k) → (∀ b, b ≠ 90 → b ≠ 98 → b ≠ 99 → b ≠ 100 → b ≠ 91 → υ b = en_up τ 0 6 0 b) → mR (υ 91) G.now → RR (q_S1 S) υ := fun τ υ ft e6 eo ef e91 => by
    have u0 : ∀ b, b ≠ 0 → b ≠ 54 → b ≠ 56 → b ≠ 57 → b ≠ 58 → b ≠ 90 → b ≠ 98 → b ≠ 99 → b ≠ 100 → b ≠ 91 → υ b = σ b := fun b b0 b1 b2 b3 b4 b5 b6 b7 b8 b9 => by
      rw [ef b b5 b6 b7 b8 b9, show en_up τ 0 6 0 b = τ b by funext j; rw [en_up_a b0]]
      exact ft b b1 b2 b3 b4
    have uz : ∀ k, υ 0 k = en_up τ 0 6 0 0 k := fun k => by rw [ef 0 (by decide) (by decide) (by decide) (by decide) (by decide)]
    have u00 : ∀ k, k ≠ 6 → υ 0 k = σ 0 k := fun k hk => by rw [uz, en_up_k hk, ft 0 (by decide) (by decide) (by decide) (by decide)]
    have hE : en_ext S (q_S1 S) σ υ := fun a x ha hx => ⟨by rw [q_S1_o (by omega)]; exact hx, u0 a (by omega) (by omega) (by omega) (by omega) (by omega) (by omega) (by omega) (by omega) (by omega) (by omega)⟩
    have h := hX.now
    have hn10 := ok.now.n
    have c : cR (q_S1 S) υ 1 G.now := by
      have e : ∀ j, j ≤ 16 → υ (1 + j) = σ (1 + j) := fun j hj => u0 _ (by omega) (by omega) (by omega) (by omega) (by omega) (by omega) (by omega) (by omega) (by omega) (by omega)
      have q0 := e 0 (by omega)
      rw [Nat.add_zero] at q0
      exact ⟨by rw [q0]; exact h.n, fun i hi => by have g := h.L i hi; rw [show 1 + 7 + i = 1 + (7 + i) by omega] at g ⊢; rw [e (7 + i) (by omega)]; exact g, fun k hk => by rw [e 2 (by omega)]; exact h.ru k hk, h.K.ext hE (by rw [q0]) (fun t _ => by rw [e 3 (by omega)]) (fun k _ => by rw [e 4 (by omega)]), by rw [q0]; exact h.p, by rw [q0]; exact h.t, by rw [q0]; exact h.s, by rw [q0]; exact h.day, by rw [q0]; exact h.z⟩
    have t90 : ∀ k, en_up τ 0 6 0 90 k = σ 90 k := fun k => by rw [en_up_a (by decide), ft 90 (by decide) (by decide) (by decide) (by decide)]
    refine ⟨g_txt G G.now, hX.txt ok hS1 hE u00 (by rw [uz, en_up_s]) (fun b b1 b2 b3 b4 => u0 b b2 (fun e => b4 (by unfold scr; omega)) (fun e => b4 (by unfold scr; omega)) (fun e => b4 (by unfold scr; omega)) (fun e => b4 (by unfold scr; omega)) (fun e => b4 (by unfold scr; omega)) (fun e => b4 (by unfold scr; omega)) (fun e => b4 (by unfold scr; omega)) (fun e => b4 (by unfold scr; omega)) (fun e => b4 (by unfold scr; omega))) c, hM.txt hm1 (by rw [eo 3 (by omega), t90]) e6 (by rw [eo 32 (by omega), t90]) (fun b b1 b2 b3 b4 b5 => u0 b (by omega) (by omega) (by omega) (by omega) (by omega) (by omega) b3 b4 b5 (by omega)) e91, ok.txt ok.now ok.day⟩
  have mst : ∀ (τ : Nat → Nat → Int32), (∀ b, b ≠ 54 → b ≠ 56 → b ≠ 57 → b ≠ 58 → τ b = σ b) → MR (q_S1 S) (en_up τ 0 6 0) G := fun τ ft => MM _ _ hm1 (fun b b1 b2 => by rw [show en_up τ 0 6 0 b = τ b by funext j; rw [en_up_a (by omega)]]; exact ft b (by omega) (by omega) (by omega) (by omega))
  have neg : ∀ p, p ≤ 96 → ¬ nI p < 0 := fun p hp => nI_pos (by omega)
  rw [ev_X6_text, en_gr hX.x.o rfl, en_gr hX.x.o rfl, en_gi hX.x.o rfl, hX.tl, en_cl hr]
  by_cases hk : q_ky G.tp (q_t1 G.tp G.tl) = 3
  · obtain ⟨τ, r1, ft⟩ := FA hk
    have tk := q_t1_ok (tp := G.tp) (n := G.tl)
    obtain ⟨υ, r2, e6, eo, ef⟩ := m_text_f (xs := xs) (mst τ ft) ok (p := (q_t1 G.tp G.tl).2.1) (Or.inl ⟨hk, rfl⟩)
    rw [r1, c1s, en_pt hS1.o rfl, if_neg (neg _ (by have := tk.1; have := tk.2.1; omega)), ri0]
    refine ⟨q_S1 S, _, υ, _, rfl, r2, keep τ υ ft e6 eo (fun b b1 b2 b3 b4 _ => ef b b1 b2 b3 b4) ?_, by omega, by rw [q_S1_zs hX.x]; omega⟩
    rw [ef 91 (by decide) (by decide) (by decide) (by decide)]
    exact (mst τ ft).now
  have E := FB hk
  rcases q_ky_c G.tp (q_t1 G.tp G.tl) with e | ⟨ek, _, _⟩
  · exact absurd e hk
  have pok := q_pz_ok (G.tl + 1) true [] [] 0 (fun _ => false) _ (q_p1_pi (B := q_B (q_ky G.tp (q_t1 G.tp G.tl))) hn hk)
  cases hq : q_p1 G.tp G.tl with
  | inl p =>
    rw [hq] at E
    obtain ⟨τ, r1, ft⟩ := E
    obtain ⟨υ, r2, e6, eo, ef⟩ := m_text_f (xs := xs) (mst τ ft) ok (p := p) (Or.inr ⟨hk, hq⟩)
    have r1' : mx_ev xs mx_P 11 50 [.ref 54, .ref 53, .int (nI G.tl)] (en S σ) = _ := r1
    rw [r1', c1s, en_pt hS1.o rfl, if_neg (neg _ (by have := pok.1 p hq; omega)), ri0]
    refine ⟨q_S1 S, _, υ, _, rfl, r2, keep τ υ ft e6 eo (fun b b1 b2 b3 b4 _ => ef b b1 b2 b3 b4) ?_, by omega, by rw [q_S1_zs hX.x]; omega⟩
    rw [ef 91 (by decide) (by decide) (by decide) (by decide)]
    exact (mst τ ft).now
  | inr r =>
    obtain ⟨cd, na⟩ := r
    have pk := pok.2 cd na hq
    rw [hq] at E
    obtain ⟨τ, r1, e6, ecd, e13, e14, ft⟩ := E
    have r1' : mx_ev xs mx_P 11 50 [.ref 54, .ref 53, .int (nI G.tl)] (en S σ) = _ := r1
    have h14 := ok.now.K.1
    have t14 : en_up τ 0 6 0 1 4 = nI G.now.K.length := by rw [en_up_a (by decide), ft 1 (by decide) (by decide) (by decide) (by decide)]; exact hX.now.K.1
    rw [r1', c1s, en_pt hS1.o rfl, if_pos (by decide), en_gr hS1.o rfl, en_gi hS1.c1.1 rfl, t14]
    by_cases c : G.now.K.length = 14
    · obtain ⟨υ, r2, e6', eo, ef, e91⟩ := m_text_t (xs := xs) (mst τ ft) ok hk hq
      rw [if_pos c] at r2 e91
      rw [if_neg (by rw [c]; decide), ri0]
      exact ⟨q_S1 S, _, υ, _, rfl, r2, keep τ υ ft e6' eo (fun b b1 b2 b3 b4 b5 => ef b b1 b5 b2 b3 b4) e91, by omega, by rw [q_S1_zs hX.x]; omega⟩
    · have hc14 : G.now.K.length < 14 := by omega
      have hn10 := ok.now.n
      have rT := x_textRead (d := 8) (xs := xs) (S := q_S1 S) (σ := en_up τ 0 6 0) (key := q_ky G.tp (q_t1 G.tp G.tl)) (na := na) (cd := cd) hR (by omega) pk.2.1 (by rw [en_up_a (by decide)]; exact e6) (by rw [en_up_a (by decide)]; exact e13) (by rw [en_up_a (by decide)]; exact e14)
      have hlo : ∀ a, a < (q_S1 S).length → (q_S2 (q_S1 S) cd.length)[a]? = (q_S1 S)[a]? := fun a ha => q_S2_lo ha
      have hS2 : XS (q_S2 (q_S1 S) cd.length) := hX.x.of (fun a ha h => by rw [hlo a (by omega), q_S1_o h]) (by rw [hlo 54 (by omega)]; exact hR.1)
      have hm2 : isMo (q_S2 (q_S1 S) cd.length) := hM.mo.of (fun a ha h => by rw [hlo a (by omega), q_S1_o h])
      have ob : ∀ b, b < S.length → q_o2 (q_S1 S) (q_ky G.tp (q_t1 G.tp G.tl)) na cd.length (en_up τ 0 6 0) b = en_up τ 0 6 0 b := fun b hb => by
        unfold q_o2
        rw [if_neg (by omega), if_neg (by omega)]
      have oL : q_o2 (q_S1 S) (q_ky G.tp (q_t1 G.tp G.tl)) na cd.length (en_up τ 0 6 0) (q_S1 S).length = fun k => if k = 0 then nI (q_ky G.tp (q_t1 G.tp G.tl)) else nI na := by
        unfold q_o2
        rw [if_pos rfl]
      have oL1 : q_o2 (q_S1 S) (q_ky G.tp (q_t1 G.tp G.tl)) na cd.length (en_up τ 0 6 0) ((q_S1 S).length + 1) = va_cpy (en_up τ 0 6 0 56) (fun _ => 0) 0 0 cd.length := by
        unfold q_o2
        rw [if_neg (by omega), if_pos rfl]
      generalize hσb : q_o2 (q_S1 S) (q_ky G.tp (q_t1 G.tp G.tl)) na cd.length (en_up τ 0 6 0) = σb at *
      have rA := x_addText (d := 10) (xs := xs) (S := q_S2 (q_S1 S) cd.length) (σ := σb) (L := (q_S1 S).length) (c := G.now.K.length) (key := q_ky G.tp (q_t1 G.tp G.tl)) hS2.c1 q_S2_0 (by omega) hc14 ek (by rw [ob 1 (by omega)]; exact t14) (by rw [oL]; rfl) (by omega)
      have e1 : nI (G.now.K.length + 1) - 1 = nI G.now.K.length := by rw [show (1 : Int32) = nI 1 from rfl, pk_sub (by omega)]; rfl
      rw [if_pos (by exact nI_lt (b := 14) hc14 (by decide)), en_gr hS1.o rfl, en_gr hS1.o rfl, rdcl hR, rT, c2s, en_cl hS2.c1.1, rA, c0s, en_gr hS2.o rfl, en_gi hS2.c1.1 rfl, en_up_s, e1, ri0]
      generalize hσc : en_up (en_up (en_up σb 4 G.now.K.length (nI (q_S1 S).length)) 5 (q_ky G.tp (q_t1 G.tp G.tl)) (nI G.now.K.length)) 1 4 (nI (G.now.K.length + 1)) = σc
      have cb : ∀ b, b ≠ 1 → b ≠ 4 → b ≠ 5 → σc b = σb b := fun b b1 b2 b3 => by rw [← hσc]; funext j; rw [en_up_a b1, en_up_a b3, en_up_a b2]
      have c1k : ∀ k, k ≠ 4 → σc 1 k = σb 1 k := fun k hk => by rw [← hσc, en_up_k hk, en_up_a (by decide), en_up_a (by decide)]
      have c14 : σc 1 4 = nI (G.now.K.length + 1) := by rw [← hσc, en_up_s]
      have c4k : ∀ t, σc 4 t = if t = G.now.K.length then nI (q_S1 S).length else σb 4 t := fun t => by
        rw [← hσc, en_up_a (by decide), en_up_a (by decide), en_up_i]
        by_cases x : t = G.now.K.length
        · rw [if_pos ⟨rfl, x⟩, if_pos x]
        · rw [if_neg (show ¬ (4 = 4 ∧ t = G.now.K.length) from fun y => x y.2), if_neg x]
      have c5k : ∀ t, σc 5 t = if t = q_ky G.tp (q_t1 G.tp G.tl) then nI G.now.K.length else σb 5 t := fun t => by
        rw [← hσc, en_up_a (by decide), en_up_i]
        by_cases x : t = q_ky G.tp (q_t1 G.tp G.tl)
        · rw [if_pos ⟨rfl, x⟩, if_pos x]
        · rw [if_neg (show ¬ (5 = 5 ∧ t = q_ky G.tp (q_t1 G.tp G.tl)) from fun y => x y.2), if_neg x, en_up_a (by decide)]
      have sb : ∀ b, b < S.length → b ≠ 0 → b ≠ 54 → b ≠ 56 → b ≠ 57 → b ≠ 58 → σb b = σ b := fun b b0 b1 b2 b3 b4 b5 => by
        rw [ob b b0, show en_up τ 0 6 0 b = τ b by funext j; rw [en_up_a b1]]
        exact ft b b2 b3 b4 b5
      have hMc : MR (q_S2 (q_S1 S) cd.length) σc G := MM _ _ hm2 (fun b b1 b2 => by rw [cb b (by omega) (by omega) (by omega)]; exact sb b (by omega) (by omega) (by omega) (by omega) (by omega) (by omega))
      obtain ⟨υ, r2, m6, mo, mf, m91⟩ := m_text_t (xs := xs) hMc ok hk hq
      rw [if_neg c] at r2 m91
      have hwf : q_wf (q_B (q_ky G.tp (q_t1 G.tp G.tl))) cd.reverse 0 := by
        have := q_RD_wf cd 1 [] pk.1 (Nat.le_refl _)
        rw [List.append_nil] at this
        exact this
      have okC : q_ok (q_addT G.now (q_ky G.tp (q_t1 G.tp G.tl), na, cd.reverse)) := ⟨by rw [q_addT_n]; exact hn10, fun i hi => by rw [q_addT_L]; rw [q_addT_n] at hi; exact ok.now.L i hi, by rw [q_addT_ru]; exact ok.now.r0, by rw [q_addT_ru]; exact ok.now.r1, by rw [q_addT_ru]; exact ok.now.r2, by rw [q_addT_ru]; exact ok.now.r3, by rw [q_addT_K]; exact q_Kok_app ok.now.K hc14 ek (by have := pk.2.1; have := pk.2.2; omega) (by rw [List.length_reverse]; have := pk.2.1; omega) hwf⟩
      -- from σc to υ on the class's side
      have uc : ∀ b, b ≠ 90 → b ≠ 91 → b ≠ 98 → b ≠ 99 → b ≠ 100 → υ b = σc b := mf
      have hE : en_ext S (q_S2 (q_S1 S) cd.length) σ υ := fun a x ha hx => by
        have hal : a < S.length := (List.getElem?_eq_some_iff.mp hx).1
        exact ⟨by rw [hlo a (by omega), q_S1_o (by omega)]; exact hx, by rw [uc a (by omega) (by omega) (by omega) (by omega) (by omega), cb a (by omega) (by omega) (by omega)]; exact sb a hal (by omega) (by omega) (by omega) (by omega) (by omega)⟩
      have h := hX.now
      have e : ∀ j, j ≤ 16 → j ≠ 0 → j ≠ 3 → j ≠ 4 → υ (1 + j) = σ (1 + j) := fun j hj j0 j3 j4 => by rw [uc _ (by omega) (by omega) (by omega) (by omega) (by omega), cb _ (by omega) (by omega) (by omega)]; exact sb _ (by omega) (by omega) (by omega) (by omega) (by omega) (by omega)
      have u1 : ∀ k, k ≠ 4 → υ 1 k = σ 1 k := fun k hk => by rw [uc 1 (by decide) (by decide) (by decide) (by decide) (by decide), c1k k hk, sb 1 (by omega) (by omega) (by omega) (by omega) (by omega) (by omega)]
      have cC : cR (q_S2 (q_S1 S) cd.length) υ 1 (q_addT G.now (q_ky G.tp (q_t1 G.tp G.tl), na, cd.reverse)) := by
        refine ⟨by rw [q_addT_n, u1 1 (by decide)]; exact h.n, fun i hi => ?_, fun k hk => by rw [q_addT_ru, e 2 (by omega) (by omega) (by omega) (by omega)]; exact h.ru k hk, ?_, by rw [q_addT_p, u1 6 (by decide)]; exact h.p, by rw [q_addT_t, u1 7 (by decide)]; exact h.t, by rw [q_addT_s, u1 8 (by decide)]; exact h.s, by rw [q_addT_day, u1 9 (by decide)]; exact h.day, by rw [q_addT_z, u1 10 (by decide)]; exact h.z⟩
        · rw [q_addT_n] at hi
          have g := h.L i hi
          rw [q_addT_L, show 1 + 7 + i = 1 + (7 + i) by omega, e (7 + i) (by omega) (by omega) (by omega) (by omega), show 1 + (7 + i) = 1 + 7 + i by omega]
          exact g
        · rw [q_addT_K]
          have u4 : ∀ t, υ 4 t = if t = G.now.K.length then nI (q_S1 S).length else σ 4 t := fun t => by rw [uc 4 (by decide) (by decide) (by decide) (by decide) (by decide), c4k, sb 4 (by omega) (by omega) (by omega) (by omega) (by omega) (by omega)]
          have u5 : ∀ t, υ 5 t = if t = q_ky G.tp (q_t1 G.tp G.tl) then nI G.now.K.length else σ 5 t := fun t => by rw [uc 5 (by decide) (by decide) (by decide) (by decide) (by decide), c5k, sb 5 (by omega) (by omega) (by omega) (by omega) (by omega) (by omega)]
          refine ⟨?_, fun t ht => ?_, fun k hk => ?_⟩
          · rw [uc 1 (by decide) (by decide) (by decide) (by decide) (by decide), c14, List.length_append]
            rfl
          · rw [List.length_append] at ht
            have ht : t < G.now.K.length + 1 := ht
            unfold q_code
            by_cases et : t = G.now.K.length
            · subst et
              rw [q_getD_new]
              have uL : υ (q_S1 S).length = fun k => if k = 0 then nI (q_ky G.tp (q_t1 G.tp G.tl)) else nI na := by rw [uc _ (by omega) (by omega) (by omega) (by omega) (by omega), cb _ (by omega) (by omega) (by omega), oL]
              have uL1 : υ ((q_S1 S).length + 1) = va_cpy (en_up τ 0 6 0 56) (fun _ => 0) 0 0 cd.length := by rw [uc _ (by omega) (by omega) (by omega) (by omega) (by omega), cb _ (by omega) (by omega) (by omega), oL1]
              refine ⟨(q_S1 S).length, (q_S1 S).length + 1, by show υ 4 _ = _; rw [u4, if_pos rfl], by omega, by omega, by omega, q_S2_0, ?_, by rw [uL]; rfl, by rw [uL]; rfl, fun k c' hc' => ?_⟩
              · show (q_S2 (q_S1 S) cd.length)[(q_S1 S).length + 1]? = some (.inr (.inl (0, cd.reverse.length)))
                rw [List.length_reverse]
                exact q_S2_1
              · have hc' : cd.reverse[k]? = some c' := hc'
                have hk2 : k < cd.length := by
                  have := (List.getElem?_eq_some_iff.mp hc').1
                  rw [List.length_reverse] at this
                  exact this
                rw [uL1]
                unfold va_cpy
                rw [if_pos (by omega), show 0 + (k - 0) = k by omega, en_up_a (by decide)]
                exact q_PR_g ecd k c' hc'
            · rw [q_getD_app (by omega)]
              obtain ⟨ta, as, k1, k2, k3, k4, k5, k6, k7, k8, k9⟩ := h.K.2.1 t (by omega)
              obtain ⟨a1, a2⟩ := hE ta _ k3 k5
              obtain ⟨a3, a4⟩ := hE as _ k4 k6
              exact ⟨ta, as, by show υ 4 t = _; rw [u4, if_neg et]; exact k1, k2, k3, k4, a1, a3, by rw [a2]; exact k7, by rw [a2]; exact k8, fun k c hc => by rw [a4]; exact k9 k c hc⟩
          · show υ 5 k = _
            rw [u5, q_last_app]
            by_cases x : k = q_ky G.tp (q_t1 G.tp G.tl)
            · rw [if_pos x, if_pos x.symm]
            · rw [if_neg x, if_neg (Ne.symm x)]
              exact h.K.2.2 k hk
      have u0k : ∀ k, υ 0 k = en_up τ 0 6 0 0 k := fun k => by rw [uc 0 (by decide) (by decide) (by decide) (by decide) (by decide), cb 0 (by decide) (by decide) (by decide), ob 0 (by omega)]
      have c90 : ∀ k, σc 90 k = σ 90 k := fun k => by rw [cb 90 (by decide) (by decide) (by decide), sb 90 (by omega) (by omega) (by omega) (by omega) (by omega) (by omega)]
      refine ⟨q_S2 (q_S1 S) cd.length, σc, υ, _, rfl, r2, ⟨g_txt G (q_addT G.now (q_ky G.tp (q_t1 G.tp G.tl), na, cd.reverse)), hX.txt ok hS2 hE (fun k hk => by rw [u0k, en_up_k hk, ft 0 (by decide) (by decide) (by decide) (by decide)]) (by rw [u0k, en_up_s]) (fun b b1 b2 b3 b4 => ?_) cC, hM.txt hm2 (by rw [mo 3 (by omega), c90]) m6 (by rw [mo 32 (by omega), c90]) (fun b b1 b2 b3 b4 b5 => ?_) m91, ok.txt okC (by rw [q_addT_day]; exact ok.day)⟩, ?_, ?_⟩
      · unfold scr at b4
        rw [uc b (by omega) (by omega) (by omega) (by omega) (by omega), cb b (by omega) (by omega) (by omega)]
        exact sb b (by omega) b2 (by omega) (by omega) (by omega) (by omega)
      · rw [uc b (by omega) (by omega) b3 b4 b5, cb b (by omega) (by omega) (by omega)]
        exact sb b (by omega) (by omega) (by omega) (by omega) (by omega) (by omega)
      · unfold q_S2
        rw [List.length_append, l1]
        show S.length + 2 ≤ _
        omega
      · have hz : en_zs (q_S2 (q_S1 S) cd.length) = en_zs (q_S1 S) + (3 + cd.length) := by
          unfold en_zs q_S2
          rw [List.map_append, List.sum_append]
          rfl
        have := pk.2.1
        rw [hz, q_S1_zs hX.x]
        omega
end TC
