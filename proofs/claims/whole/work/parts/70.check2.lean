section CK2
variable {S : List en_S} {σ0 σ σ1 σ2 τ τ' : Nat → Nat → Int32} {cb d : Nat} {xs : List Int32} {C : q_C} {G : q_G}
theorem t_check (a1 : Int32) : St xs 122 213 [.int a1] := by
  intro S σ G hX hM ok
  have hwc := ok.wc
  have oA : ∀ b, b ≠ 0 → en_up σ 0 11 0 b = σ b := fun b h0 => by
    funext k
    rw [en_up_a h0]
  have xg : XR S (en_up σ 0 11 0) (g_wait G 0 G.wt) := hX.g_wait ok (σ' := en_up σ 0 11 0) 0 G.wt (fun k hk => by rw [en_up_k hk]) (fun b h0 _ => oA b h0) en_up_s (fun k hk => absurd hk (by omega))
  have og : GO (g_wait G 0 G.wt) := ok.g_wait 0 G.wt (by omega)
  have hM1 : MR S (en_up σ 0 11 0) G := hM.after (fun b h1 h2 => oA b (by omega))
  have hik : en_up σ 0 11 0 0 3 = g_k G.img := by rw [en_up_k (by decide)]; exact hX.ik
  have hwt : ∀ k, k < G.wc → en_up σ 0 11 0 61 k = G.wt k := fun k hk => by rw [en_up_a (by decide)]; exact hX.wt k hk
  have himg : (g_wait G 0 G.wt).img = G.img := g_wait_img _ _ _
  rw [ev_X6_check, en_gi hX.x.o rfl, hX.wc, en_pt hX.x.o rfl]
  generalize en_up σ 0 11 0 = τ at *
  -- the reference's reset
  have MG : ∀ υ, MR S υ G → MR S (en_up υ 90 32 0) (g_wait G 0 G.wt) := fun υ h => h.g_wait 0 G.wt (fun k hk => by rw [en_up_k hk]) (fun b h1 h2 h3 h4 => by funext k; rw [en_up_a (by omega)]) en_up_s (fun k hk => absurd hk (by omega))
  have XG : ∀ υ, XR S υ (g_wait G 0 G.wt) → XR S (en_up υ 90 32 0) (g_wait G 0 G.wt) := fun υ h => h.fr og (fun b hb => by funext k; rw [en_up_a (fun e => hb (by unfold scr; omega))])
  have M0 : ∀ υ, MR S υ G → ∀ v, mx_ev xs mx_P 12 213 [.ref 90, .int a1] (en S υ) = v ↔ mx_c1 (mx_ev xs mx_P 11 133 [.int a1, .int 1, .int 30] (en S (en_up υ 90 32 0))) (fun x4 h3 => if x4 = 0 then mx_ri 0 [.int (-1000000001)] h3 else mx_gi h3 90 7 3 (fun x5 => if x5 = 0 then mx_ri 0 [.int (-1000000002)] h3 else mx_gr h3 90 7 0 (fun r6 => mx_gr h3 90 7 2 (fun r7 => mx_c0 (mx_ev xs mx_P 11 135 [.ref r6, .ref r7] h3) (fun h8 => mx_gr h8 90 7 1 (fun r9 => mx_gr h8 90 7 0 (fun r10 => mx_c0 (mx_ev xs mx_P 11 135 [.ref r9, .ref r10] h8) (fun h11 => mx_gr h11 90 7 0 (fun r12 => mx_ai h11 r12 0 2 (fun x13 => mx_c1 (mx_ev xs mx_P 11 134 [.int (9999 - x13), .int 0, .int a1] h11) (fun x15 h14 => mx_rn xs (mx_ev xs mx_P 11) kk_X7_check 99999 80 [(0, .ref 90), (2, .int (nI G.wc)), (3, .int (2 * x15)), (4, .int 0), (5, .int 0)] [] h14))))))))))) = v := fun υ h v => by
    rw [ev_X7_check, en_gi hM.mo.o rfl, h.wc, en_pt hM.mo.o rfl]
  rw [x_within, c1s]
  rcases q_w_1 a1 (h := 30) (z := 30) rfl (by decide) with e1 | ⟨n, hn0, hn, rfl, e1⟩
  · rw [e1, if_pos rfl, ri0]
    refine ⟨τ, en_up τ 90 32 0, _, rfl, (M0 τ hM1 _).mpr ?_, ⟨_, XG τ xg, MG τ hM1, og⟩⟩
    rw [m_in', c1s, e1, if_pos rfl, ri0]
  rw [e1, if_neg (by decide), en_gi hX.x.o rfl, hik]
  cases hI : G.img with
  | none =>
    rw [show g_k none = 0 from rfl, if_pos rfl, ri0]
    refine ⟨τ, en_up τ 90 32 0, _, rfl, (M0 τ hM1 _).mpr ?_, ⟨_, XG τ xg, MG τ hM1, og⟩⟩
    rw [m_in', c1s, e1, if_neg (by decide), en_gi hM.mo.o rfl, en_up_k (by decide), hM1.ik, hI, show g_k none = 0 from rfl, if_pos rfl, ri0]
  | some C =>
    obtain ⟨oC, dC⟩ := ok.img C hI
    obtain ⟨σ1, r1, x1⟩ := x_takeOver (xs := xs) (d := 9) hX.x.c3 hX.x.c2 (by omega) (by omega) (by omega) (xg.img C (by rw [himg]; exact hI)) oC
    obtain ⟨σ2, r2, E, x2⟩ := x_check_loop (xs := xs) (d := 5) (C := C) (D := min n (9999 - C.day)) (many := G.wc) (wt := G.wt) (τ := τ) hX.x oC dC (by omega) hwc hwt (min n (9999 - C.day)) 0 99999 σ1 (by omega) (by omega) x1
    have e2 : (2 : Int32) * nI (min n (9999 - C.day)) = nI (2 * min n (9999 - C.day)) := pk_mul 2 _
    rw [show g_k (some C) = 1 from rfl, if_neg (by decide), en_gr hX.x.o rfl, en_gr hX.x.o rfl, en_cl hX.x.c3.1, r1, c0s, en_gr hX.x.o rfl, en_cl hX.x.c3.1, x_daysLeft (d := 9) x1 dC (by omega), c1s, e2]
    have hx : thX τ σ2 := thX.r.go x2
    have hM2 : MR S σ2 G := hx.m hM1
    have hX2 : XR S σ2 (g_wait G 0 G.wt) := xg.fr og (fun b hb => hx b (fun e => hb (by unfold scr; omega)))
    have hXu := XG σ2 hX2
    have hMu := MG σ2 hM2
    have hwu : ∀ k, k < G.wc → en_up σ2 90 32 0 111 k = G.wt k := fun k hk => by rw [en_up_a (by decide)]; exact hM2.wt k hk
    have hiu : en_up σ2 90 32 0 90 3 = g_k G.img := by rw [en_up_k (by decide)]; exact hM2.ik
    have M1 := M0 σ2 hM2
    generalize en_up σ2 90 32 0 = υ at *
    obtain ⟨υ1, s1, c1, f1⟩ := m_copyAll (xs := xs) (d := 10) (σ := υ) hM.mo.w hM.mo.as (by decide)
    obtain ⟨υ2, s2, c2, f2⟩ := m_copyAll (xs := xs) (d := 10) (σ := υ1) hM.mo.im hM.mo.w (by decide)
    have tN : thN υ υ2 := ⟨fun k hk => by rw [f2 93 (by decide)]; exact c1 k hk, fun b h1 h2 h3 h4 h5 => by rw [f2 b h1, f1 b h2]⟩
    have mC : MC S υ2 υ2 C := ⟨hM.mo, (hMu.img C (by rw [himg]; exact hI)).congr oC.K oC.n (fun k hk => by rw [c2 k hk, f1 92 (by decide)]), fun _ _ _ _ => rfl⟩
    obtain ⟨υ3, s3, t3⟩ := m_check_loop (xs := xs) (d := 5) (C := C) (D := min n (9999 - C.day)) (many := G.wc) (wt := G.wt) (τ := υ2) oC dC (by omega) hwc tN (fun k hk => by rw [f2 111 (by decide), f1 111 (by decide)]; exact hwu k hk) (min n (9999 - C.day)) 0 99999 υ2 (by omega) (by omega) mC
    have e : (9999 : Int32) - nI C.day = nI (9999 - C.day) := by rw [show (9999 : Int32) = nI 9999 from rfl, pk_sub dC]
    refine ⟨σ2, υ3, _, r2, (M1 _).mpr ?_, RR_th hXu hMu og thX.r t3⟩
    rw [m_in', c1s, e1, if_neg (by decide), en_gi hM.mo.o rfl, hiu, hI, show g_k (some C) = 1 from rfl, if_neg (by decide), en_gr hM.mo.o rfl, en_gr hM.mo.o rfl, s1, c0s, en_gr hM.mo.o rfl, en_gr hM.mo.o rfl, s2, c0s, en_gr hM.mo.o rfl, m_rd mC (k := 2) (w := 2) (by decide) rfl, mC.r.day, e, m_within xs 10 (lo := 0) (hi := n) (v := 9999 - C.day) (y := 0) (z := nI n) _ rfl rfl rfl (by omega) (by omega) (by omega), c1s, show max 0 (min n (9999 - C.day)) = min n (9999 - C.day) by omega, e2]
    exact s3
end CK2
