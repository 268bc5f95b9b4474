/-! ===== the law ===== -/
section LW
variable {xs : List Int32} {S : List en_S} {σ : Nat → Nat → Int32}
theorem lw_cn {f : Int32 → mx_R} : mx_cn xs 202 f = f (nI xs.length) := rfl
theorem lw_ck {j : Nat} (hj : j < xs.length) (hl : xs.length ≤ 3072) {f : Int32 → mx_R} : mx_ck xs 0 202 (nI j) f = f (xs.getD j 0) := by
  unfold mx_ck
  show (if 0 = 0 ∧ ¬ (nI j < 0 ∨ xs.length ≤ (nI j).toNatClampNeg) then f (xs.getD (nI j).toNatClampNeg 0) else none) = _
  rw [if_pos ⟨rfl, nI_in hj (by omega)⟩, nI_clamp (by omega)]
theorem arm0 {jx jm i : Nat} {K : mx_H → mx_R} {P : mx_R → Prop} (hl : xs.length ≤ 3072) (hi : i + 6 ≤ xs.length) (hR : RR S σ) (hst : St xs jx jm []) (hK : ∀ σ2, RR S σ2 → P (K (en S σ2))) : P (mx_cl (en S σ) 0 6 (mx_c1 (mx_ev xs mx_P 12 jx [.ref 0] (en S σ)) (fun v w => mx_cl w 90 7 (mx_c1 (mx_ev xs mx_P 12 jm [.ref 90] w) (fun v2 w2 => if v = v2 then K w2 else mx_ri 1 [.int 0] w2))))) := by
  obtain ⟨G, hX, hM, ok⟩ := hR
  obtain ⟨σ1, σ2, v, r1, r2, rr⟩ := hst S σ G hX hM ok
  rw [en_cl hX.x.o, r1, c1s, en_cl hM.mo.o, r2, c1s, if_pos rfl]
  exact hK σ2 rr
theorem arm1 {jx jm i : Nat} {K : mx_H → mx_R} {P : mx_R → Prop} (hl : xs.length ≤ 3072) (hi : i + 6 ≤ xs.length) (hR : RR S σ) (hst : ∀ a1 : Int32, St xs jx jm [.int a1]) (hK : ∀ σ2, RR S σ2 → P (K (en S σ2))) : P (mx_ck xs 0 202 (nI i + 1) (fun x1 => mx_cl (en S σ) 0 6 (mx_c1 (mx_ev xs mx_P 12 jx [.ref 0, .int x1] (en S σ)) (fun v w => mx_ck xs 0 202 (nI i + 1) (fun y1 => mx_cl w 90 7 (mx_c1 (mx_ev xs mx_P 12 jm [.ref 90, .int y1] w) (fun v2 w2 => if v = v2 then K w2 else mx_ri 1 [.int 0] w2))))))) := by
  obtain ⟨G, hX, hM, ok⟩ := hR
  obtain ⟨σ1, σ2, v, r1, r2, rr⟩ := (hst (xs.getD (i + 1) 0)) S σ G hX hM ok
  rw [show nI i + 1 = nI (i + 1) from nI_add i 1, lw_ck (by omega) hl, en_cl hX.x.o, r1, c1s, lw_ck (by omega) hl, en_cl hM.mo.o, r2, c1s, if_pos rfl]
  exact hK σ2 rr
theorem arm2 {jx jm i : Nat} {K : mx_H → mx_R} {P : mx_R → Prop} (hl : xs.length ≤ 3072) (hi : i + 6 ≤ xs.length) (hR : RR S σ) (hst : ∀ a1 a2 : Int32, St xs jx jm [.int a1, .int a2]) (hK : ∀ σ2, RR S σ2 → P (K (en S σ2))) : P (mx_ck xs 0 202 (nI i + 1) (fun x1 => mx_ck xs 0 202 (nI i + 2) (fun x2 => mx_cl (en S σ) 0 6 (mx_c1 (mx_ev xs mx_P 12 jx [.ref 0, .int x1, .int x2] (en S σ)) (fun v w => mx_ck xs 0 202 (nI i + 1) (fun y1 => mx_ck xs 0 202 (nI i + 2) (fun y2 => mx_cl w 90 7 (mx_c1 (mx_ev xs mx_P 12 jm [.ref 90, .int y1, .int y2] w) (fun v2 w2 => if v = v2 then K w2 else mx_ri 1 [.int 0] w2))))))))) := by
  obtain ⟨G, hX, hM, ok⟩ := hR
  obtain ⟨σ1, σ2, v, r1, r2, rr⟩ := (hst (xs.getD (i + 1) 0) (xs.getD (i + 2) 0)) S σ G hX hM ok
  rw [show nI i + 1 = nI (i + 1) from nI_add i 1, show nI i + 2 = nI (i + 2) from nI_add i 2, lw_ck (by omega) hl, lw_ck (by omega) hl, en_cl hX.x.o, r1, c1s, lw_ck (by omega) hl, lw_ck (by omega) hl, en_cl hM.mo.o, r2, c1s, if_pos rfl]
  exact hK σ2 rr
theorem arm3 {jx jm i : Nat} {K : mx_H → mx_R} {P : mx_R → Prop} (hl : xs.length ≤ 3072) (hi : i + 6 ≤ xs.length) (hR : RR S σ) (hst : ∀ a1 a2 a3 : Int32, St xs jx jm [.int a1, .int a2, .int a3]) (hK : ∀ σ2, RR S σ2 → P (K (en S σ2))) : P (mx_ck xs 0 202 (nI i + 1) (fun x1 => mx_ck xs 0 202 (nI i + 2) (fun x2 => mx_ck xs 0 202 (nI i + 3) (fun x3 => mx_cl (en S σ) 0 6 (mx_c1 (mx_ev xs mx_P 12 jx [.ref 0, .int x1, .int x2, .int x3] (en S σ)) (fun v w => mx_ck xs 0 202 (nI i + 1) (fun y1 => mx_ck xs 0 202 (nI i + 2) (fun y2 => mx_ck xs 0 202 (nI i + 3) (fun y3 => mx_cl w 90 7 (mx_c1 (mx_ev xs mx_P 12 jm [.ref 90, .int y1, .int y2, .int y3] w) (fun v2 w2 => if v = v2 then K w2 else mx_ri 1 [.int 0] w2))))))))))) := by
  obtain ⟨G, hX, hM, ok⟩ := hR
  obtain ⟨σ1, σ2, v, r1, r2, rr⟩ := (hst (xs.getD (i + 1) 0) (xs.getD (i + 2) 0) (xs.getD (i + 3) 0)) S σ G hX hM ok
  rw [show nI i + 1 = nI (i + 1) from nI_add i 1, show nI i + 2 = nI (i + 2) from nI_add i 2, show nI i + 3 = nI (i + 3) from nI_add i 3, lw_ck (by omega) hl, lw_ck (by omega) hl, lw_ck (by omega) hl, en_cl hX.x.o, r1, c1s, lw_ck (by omega) hl, lw_ck (by omega) hl, lw_ck (by omega) hl, en_cl hM.mo.o, r2, c1s, if_pos rfl]
  exact hK σ2 rr
theorem arm5 {jx jm i : Nat} {K : mx_H → mx_R} {P : mx_R → Prop} (hl : xs.length ≤ 3072) (hi : i + 6 ≤ xs.length) (hR : RR S σ) (hst : ∀ a1 a2 a3 a4 a5 : Int32, St xs jx jm [.int a1, .int a2, .int a3, .int a4, .int a5]) (hK : ∀ σ2, RR S σ2 → P (K (en S σ2))) : P (mx_ck xs 0 202 (nI i + 1) (fun x1 => mx_ck xs 0 202 (nI i + 2) (fun x2 => mx_ck xs 0 202 (nI i + 3) (fun x3 => mx_ck xs 0 202 (nI i + 4) (fun x4 => mx_ck xs 0 202 (nI i + 5) (fun x5 => mx_cl (en S σ) 0 6 (mx_c1 (mx_ev xs mx_P 12 jx [.ref 0, .int x1, .int x2, .int x3, .int x4, .int x5] (en S σ)) (fun v w => mx_ck xs 0 202 (nI i + 1) (fun y1 => mx_ck xs 0 202 (nI i + 2) (fun y2 => mx_ck xs 0 202 (nI i + 3) (fun y3 => mx_ck xs 0 202 (nI i + 4) (fun y4 => mx_ck xs 0 202 (nI i + 5) (fun y5 => mx_cl w 90 7 (mx_c1 (mx_ev xs mx_P 12 jm [.ref 90, .int y1, .int y2, .int y3, .int y4, .int y5] w) (fun v2 w2 => if v = v2 then K w2 else mx_ri 1 [.int 0] w2))))))))))))))) := by
  obtain ⟨G, hX, hM, ok⟩ := hR
  obtain ⟨σ1, σ2, v, r1, r2, rr⟩ := (hst (xs.getD (i + 1) 0) (xs.getD (i + 2) 0) (xs.getD (i + 3) 0) (xs.getD (i + 4) 0) (xs.getD (i + 5) 0)) S σ G hX hM ok
  rw [show nI i + 1 = nI (i + 1) from nI_add i 1, show nI i + 2 = nI (i + 2) from nI_add i 2, show nI i + 3 = nI (i + 3) from nI_add i 3, show nI i + 4 = nI (i + 4) from nI_add i 4, show nI i + 5 = nI (i + 5) from nI_add i 5, lw_ck (by omega) hl, lw_ck (by omega) hl, lw_ck (by omega) hl, lw_ck (by omega) hl, lw_ck (by omega) hl, en_cl hX.x.o, r1, c1s, lw_ck (by omega) hl, lw_ck (by omega) hl, lw_ck (by omega) hl, lw_ck (by omega) hl, lw_ck (by omega) hl, en_cl hM.mo.o, r2, c1s, if_pos rfl]
  exact hK σ2 rr
theorem armT {K : mx_H → mx_R} {P : mx_R → Prop} (hR : RR S σ) (hS : S.length < 2 ^ 30) (hK : ∀ S2 σ2, RR S2 σ2 → S2.length ≤ S.length + 2 → en_zs S2 ≤ en_zs S + 99 → P (K (en S2 σ2))) : P (mx_cl (en S σ) 0 6 (mx_c1 (mx_ev xs mx_P 12 109 [.ref 0] (en S σ)) (fun v w => mx_cl w 90 7 (mx_c1 (mx_ev xs mx_P 12 195 [.ref 90] w) (fun v2 w2 => if v = v2 then K w2 else mx_ri 1 [.int 0] w2))))) := by
  obtain ⟨G, hX, hM, ok⟩ := hR
  obtain ⟨S2, σ1, σ2, v, r1, r2, rr, l1, l2⟩ := t_text (xs := xs) S σ G hX hM ok hS
  have mo : isMo S2 := by
    obtain ⟨G2, hX2, hM2, ok2⟩ := rr
    exact hM2.mo
  rw [en_cl hX.x.o, r1, c1s, en_cl mo.o, r2, c1s, if_pos rfl]
  exact hK S2 σ2 rr l1 l2
def lw_P1 (r : mx_R) : Prop := ∃ h', r = some (some (.int 1), h') ∧ h'.length ≤ 600000 ∧ mx_sz h' ≤ 7302250
theorem lw_loop (hl : xs.length ≤ 3072) : ∀ (m i N : Nat) (S : List en_S) (σ : Nat → Nat → Int32), i + m = xs.length / 6 → m < N → RR S σ → S.length ≤ 112 + 2 * i → en_zs S ≤ 6417 + 99 * i → lw_P1 (mx_rn xs (mx_ev xs mx_P 12) kk_L_law N 18 [(0, .retAddr 202), (1, .ref 0), (2, .ref 90), (3, .int (nI (6 * i)))] [] (en S σ))
  | m, i, 0, _, _, _, h2, _, _, _ => absurd h2 (by omega)
  | 0, i, N + 1, S, σ, h1, _, hR, h3, h4 => by
    have c : nI xs.length - 6 < nI (6 * i) := by
      by_cases h6 : 6 ≤ xs.length
      · rw [show (6 : Int32) = nI 6 from rfl, pk_sub h6]
        exact nI_lt (by omega) (by omega)
      · rw [show i = 0 by omega]
        exact pk_sneg (b := 6) (by decide) (by omega)
    rw [rn_L_law_18, lw_cn, if_pos c, ri1_1]
    exact ⟨_, rfl, by rw [en_len]; omega, by rw [en_zs_sz]; omega⟩
  | m + 1, i, N + 1, S, σ, h1, h2, hR, h3, h4 => by
    have hi : 6 * i + 6 ≤ xs.length := by omega
    have c : ¬ nI xs.length - 6 < nI (6 * i) := by
      rw [show (6 : Int32) = nI 6 from rfl, pk_sub (by omega)]
      exact nI_nlt (by omega) (by omega)
    have go : ∀ σ2, RR S σ2 → lw_P1 (mx_rn xs (mx_ev xs mx_P 12) kk_L_law N 18 [(0, .retAddr 202), (1, .ref 0), (2, .ref 90), (3, .int (nI (6 * i) + 6))] [] (en S σ2)) := fun σ2 r2 => by
      rw [show nI (6 * i) + 6 = nI (6 * (i + 1)) from nI_add (6 * i) 6]
      exact lw_loop hl m (i + 1) N S σ2 (by omega) (by omega) r2 (by omega) (by omega)
    rw [rn_L_law_18, lw_cn, if_neg c, lw_ck (by omega) hl]
    generalize xs.getD (6 * i) 0 &&& 63 = w
    by_cases c0 : w = 0
    · rw [if_pos c0]
      exact arm3 (P := lw_P1) (K := fun h => mx_rn xs (mx_ev xs mx_P 12) kk_L_law N 18 [(0, .retAddr 202), (1, .ref 0), (2, .ref 90), (3, .int (nI (6 * i) + 6))] [] h) hl hi hR t_leg go
    rw [if_neg c0]
    by_cases c1 : w = 1
    · rw [if_pos c1]
      exact arm2 (P := lw_P1) (K := fun h => mx_rn xs (mx_ev xs mx_P 12) kk_L_law N 18 [(0, .retAddr 202), (1, .ref 0), (2, .ref 90), (3, .int (nI (6 * i) + 6))] [] h) hl hi hR t_told go
    rw [if_neg c1]
    by_cases c2 : w = 2
    · rw [if_pos c2]
      exact arm2 (P := lw_P1) (K := fun h => mx_rn xs (mx_ev xs mx_P 12) kk_L_law N 18 [(0, .retAddr 202), (1, .ref 0), (2, .ref 90), (3, .int (nI (6 * i) + 6))] [] h) hl hi hR t_as go
    rw [if_neg c2]
    by_cases c3 : w = 3
    · rw [if_pos c3]
      exact arm2 (P := lw_P1) (K := fun h => mx_rn xs (mx_ev xs mx_P 12) kk_L_law N 18 [(0, .retAddr 202), (1, .ref 0), (2, .ref 90), (3, .int (nI (6 * i) + 6))] [] h) hl hi hR t_turns go
    rw [if_neg c3]
    by_cases c4 : w = 4
    · rw [if_pos c4]
      exact arm3 (P := lw_P1) (K := fun h => mx_rn xs (mx_ev xs mx_P 12) kk_L_law N 18 [(0, .retAddr 202), (1, .ref 0), (2, .ref 90), (3, .int (nI (6 * i) + 6))] [] h) hl hi hR t_sets go
    rw [if_neg c4]
    by_cases c5 : w = 5
    · rw [if_pos c5]
      exact arm2 (P := lw_P1) (K := fun h => mx_rn xs (mx_ev xs mx_P 12) kk_L_law N 18 [(0, .retAddr 202), (1, .ref 0), (2, .ref 90), (3, .int (nI (6 * i) + 6))] [] h) hl hi hR t_irons go
    rw [if_neg c5]
    by_cases c6 : w = 6
    · rw [if_pos c6]
      exact arm2 (P := lw_P1) (K := fun h => mx_rn xs (mx_ev xs mx_P 12) kk_L_law N 18 [(0, .retAddr 202), (1, .ref 0), (2, .ref 90), (3, .int (nI (6 * i) + 6))] [] h) hl hi hR t_rule go
    rw [if_neg c6]
    by_cases c7 : w = 7
    · rw [if_pos c7]
      exact arm1 (P := lw_P1) (K := fun h => mx_rn xs (mx_ev xs mx_P 12) kk_L_law N 18 [(0, .retAddr 202), (1, .ref 0), (2, .ref 90), (3, .int (nI (6 * i) + 6))] [] h) hl hi hR t_deal go
    rw [if_neg c7]
    by_cases c8 : w = 8
    · rw [if_pos c8]
      exact arm1 (P := lw_P1) (K := fun h => mx_rn xs (mx_ev xs mx_P 12) kk_L_law N 18 [(0, .retAddr 202), (1, .ref 0), (2, .ref 90), (3, .int (nI (6 * i) + 6))] [] h) hl hi hR t_seed go
    rw [if_neg c8]
    by_cases c9 : w = 9
    · rw [if_pos c9]
      exact arm1 (P := lw_P1) (K := fun h => mx_rn xs (mx_ev xs mx_P 12) kk_L_law N 18 [(0, .retAddr 202), (1, .ref 0), (2, .ref 90), (3, .int (nI (6 * i) + 6))] [] h) hl hi hR t_days go
    rw [if_neg c9]
    by_cases c10 : w = 10
    · rw [if_pos c10]
      exact arm1 (P := lw_P1) (K := fun h => mx_rn xs (mx_ev xs mx_P 12) kk_L_law N 18 [(0, .retAddr 202), (1, .ref 0), (2, .ref 90), (3, .int (nI (6 * i) + 6))] [] h) hl hi hR t_closet go
    rw [if_neg c10]
    by_cases c11 : w = 11
    · rw [if_pos c11]
      exact arm2 (P := lw_P1) (K := fun h => mx_rn xs (mx_ev xs mx_P 12) kk_L_law N 18 [(0, .retAddr 202), (1, .ref 0), (2, .ref 90), (3, .int (nI (6 * i) + 6))] [] h) hl hi hR t_behind go
    rw [if_neg c11]
    by_cases c12 : w = 12
    · rw [if_pos c12]
      exact arm2 (P := lw_P1) (K := fun h => mx_rn xs (mx_ev xs mx_P 12) kk_L_law N 18 [(0, .retAddr 202), (1, .ref 0), (2, .ref 90), (3, .int (nI (6 * i) + 6))] [] h) hl hi hR t_dulls go
    rw [if_neg c12]
    by_cases c13 : w = 13
    · rw [if_pos c13]
      exact arm1 (P := lw_P1) (K := fun h => mx_rn xs (mx_ev xs mx_P 12) kk_L_law N 18 [(0, .retAddr 202), (1, .ref 0), (2, .ref 90), (3, .int (nI (6 * i) + 6))] [] h) hl hi hR t_doubles go
    rw [if_neg c13]
    by_cases c14 : w = 14
    · rw [if_pos c14]
      exact arm1 (P := lw_P1) (K := fun h => mx_rn xs (mx_ev xs mx_P 12) kk_L_law N 18 [(0, .retAddr 202), (1, .ref 0), (2, .ref 90), (3, .int (nI (6 * i) + 6))] [] h) hl hi hR t_wax go
    rw [if_neg c14]
    by_cases c15 : w = 15
    · rw [if_pos c15]
      exact arm2 (P := lw_P1) (K := fun h => mx_rn xs (mx_ev xs mx_P 12) kk_L_law N 18 [(0, .retAddr 202), (1, .ref 0), (2, .ref 90), (3, .int (nI (6 * i) + 6))] [] h) hl hi hR t_iron go
    rw [if_neg c15]
    by_cases c16 : w = 16
    · rw [if_pos c16]
      exact arm2 (P := lw_P1) (K := fun h => mx_rn xs (mx_ev xs mx_P 12) kk_L_law N 18 [(0, .retAddr 202), (1, .ref 0), (2, .ref 90), (3, .int (nI (6 * i) + 6))] [] h) hl hi hR t_first go
    rw [if_neg c16]
    by_cases c17 : w = 17
    · rw [if_pos c17]
      exact arm3 (P := lw_P1) (K := fun h => mx_rn xs (mx_ev xs mx_P 12) kk_L_law N 18 [(0, .retAddr 202), (1, .ref 0), (2, .ref 90), (3, .int (nI (6 * i) + 6))] [] h) hl hi hR t_becomes go
    rw [if_neg c17]
    by_cases c18 : w = 18
    · rw [if_pos c18]
      exact arm2 (P := lw_P1) (K := fun h => mx_rn xs (mx_ev xs mx_P 12) kk_L_law N 18 [(0, .retAddr 202), (1, .ref 0), (2, .ref 90), (3, .int (nI (6 * i) + 6))] [] h) hl hi hR t_like go
    rw [if_neg c18]
    by_cases c19 : w = 19
    · rw [if_pos c19]
      exact arm0 (P := lw_P1) (K := fun h => mx_rn xs (mx_ev xs mx_P 12) kk_L_law N 18 [(0, .retAddr 202), (1, .ref 0), (2, .ref 90), (3, .int (nI (6 * i) + 6))] [] h) hl hi hR t_fee go
    rw [if_neg c19]
    by_cases c20 : w = 20
    · rw [if_pos c20]
      exact arm1 (P := lw_P1) (K := fun h => mx_rn xs (mx_ev xs mx_P 12) kk_L_law N 18 [(0, .retAddr 202), (1, .ref 0), (2, .ref 90), (3, .int (nI (6 * i) + 6))] [] h) hl hi hR t_fine go
    rw [if_neg c20]
    by_cases c21 : w = 21
    · rw [if_pos c21]
      exact arm3 (P := lw_P1) (K := fun h => mx_rn xs (mx_ev xs mx_P 12) kk_L_law N 18 [(0, .retAddr 202), (1, .ref 0), (2, .ref 90), (3, .int (nI (6 * i) + 6))] [] h) hl hi hR t_feed go
    rw [if_neg c21]
    by_cases c22 : w = 22
    · rw [if_pos c22]
      exact arm1 (P := lw_P1) (K := fun h => mx_rn xs (mx_ev xs mx_P 12) kk_L_law N 18 [(0, .retAddr 202), (1, .ref 0), (2, .ref 90), (3, .int (nI (6 * i) + 6))] [] h) hl hi hR t_trim go
    rw [if_neg c22]
    by_cases c23 : w = 23
    · rw [if_pos c23]
      exact armT (P := lw_P1) (K := fun h => mx_rn xs (mx_ev xs mx_P 12) kk_L_law N 18 [(0, .retAddr 202), (1, .ref 0), (2, .ref 90), (3, .int (nI (6 * i) + 6))] [] h) hR (by omega) (fun S2 σ2 r2 l1 l2 => by
        show lw_P1 (mx_rn xs (mx_ev xs mx_P 12) kk_L_law N 18 [(0, .retAddr 202), (1, .ref 0), (2, .ref 90), (3, .int (nI (6 * i) + 6))] [] (en S2 σ2))
        rw [show nI (6 * i) + 6 = nI (6 * (i + 1)) from nI_add (6 * i) 6]
        exact lw_loop hl m (i + 1) N S2 σ2 (by omega) (by omega) r2 (by omega) (by omega))
    rw [if_neg c23]
    by_cases c24 : w = 24
    · rw [if_pos c24]
      exact arm2 (P := lw_P1) (K := fun h => mx_rn xs (mx_ev xs mx_P 12) kk_L_law N 18 [(0, .retAddr 202), (1, .ref 0), (2, .ref 90), (3, .int (nI (6 * i) + 6))] [] h) hl hi hR t_textTold go
    rw [if_neg c24]
    by_cases c25 : w = 25
    · rw [if_pos c25]
      exact arm1 (P := lw_P1) (K := fun h => mx_rn xs (mx_ev xs mx_P 12) kk_L_law N 18 [(0, .retAddr 202), (1, .ref 0), (2, .ref 90), (3, .int (nI (6 * i) + 6))] [] h) hl hi hR t_why go
    rw [if_neg c25]
    by_cases c26 : w = 26
    · rw [if_pos c26]
      exact arm3 (P := lw_P1) (K := fun h => mx_rn xs (mx_ev xs mx_P 12) kk_L_law N 18 [(0, .retAddr 202), (1, .ref 0), (2, .ref 90), (3, .int (nI (6 * i) + 6))] [] h) hl hi hR t_sheet go
    rw [if_neg c26]
    by_cases c27 : w = 27
    · rw [if_pos c27]
      exact arm3 (P := lw_P1) (K := fun h => mx_rn xs (mx_ev xs mx_P 12) kk_L_law N 18 [(0, .retAddr 202), (1, .ref 0), (2, .ref 90), (3, .int (nI (6 * i) + 6))] [] h) hl hi hR t_mark go
    rw [if_neg c27]
    by_cases c28 : w = 28
    · rw [if_pos c28]
      exact arm1 (P := lw_P1) (K := fun h => mx_rn xs (mx_ev xs mx_P 12) kk_L_law N 18 [(0, .retAddr 202), (1, .ref 0), (2, .ref 90), (3, .int (nI (6 * i) + 6))] [] h) hl hi hR t_pour go
    rw [if_neg c28]
    by_cases c29 : w = 29
    · rw [if_pos c29]
      exact arm1 (P := lw_P1) (K := fun h => mx_rn xs (mx_ev xs mx_P 12) kk_L_law N 18 [(0, .retAddr 202), (1, .ref 0), (2, .ref 90), (3, .int (nI (6 * i) + 6))] [] h) hl hi hR t_reads go
    rw [if_neg c29]
    by_cases c30 : w = 30
    · rw [if_pos c30]
      exact arm5 (P := lw_P1) (K := fun h => mx_rn xs (mx_ev xs mx_P 12) kk_L_law N 18 [(0, .retAddr 202), (1, .ref 0), (2, .ref 90), (3, .int (nI (6 * i) + 6))] [] h) hl hi hR t_copy go
    rw [if_neg c30]
    by_cases c31 : w = 31
    · rw [if_pos c31]
      exact arm3 (P := lw_P1) (K := fun h => mx_rn xs (mx_ev xs mx_P 12) kk_L_law N 18 [(0, .retAddr 202), (1, .ref 0), (2, .ref 90), (3, .int (nI (6 * i) + 6))] [] h) hl hi hR t_layS go
    rw [if_neg c31]
    by_cases c32 : w = 32
    · rw [if_pos c32]
      exact arm2 (P := lw_P1) (K := fun h => mx_rn xs (mx_ev xs mx_P 12) kk_L_law N 18 [(0, .retAddr 202), (1, .ref 0), (2, .ref 90), (3, .int (nI (6 * i) + 6))] [] h) hl hi hR t_ask go
    rw [if_neg c32]
    by_cases c33 : w = 33
    · rw [if_pos c33]
      exact arm2 (P := lw_P1) (K := fun h => mx_rn xs (mx_ev xs mx_P 12) kk_L_law N 18 [(0, .retAddr 202), (1, .ref 0), (2, .ref 90), (3, .int (nI (6 * i) + 6))] [] h) hl hi hR t_item go
    rw [if_neg c33]
    by_cases c34 : w = 34
    · rw [if_pos c34]
      exact arm2 (P := lw_P1) (K := fun h => mx_rn xs (mx_ev xs mx_P 12) kk_L_law N 18 [(0, .retAddr 202), (1, .ref 0), (2, .ref 90), (3, .int (nI (6 * i) + 6))] [] h) hl hi hR t_rest go
    rw [if_neg c34]
    by_cases c35 : w = 35
    · rw [if_pos c35]
      exact arm1 (P := lw_P1) (K := fun h => mx_rn xs (mx_ev xs mx_P 12) kk_L_law N 18 [(0, .retAddr 202), (1, .ref 0), (2, .ref 90), (3, .int (nI (6 * i) + 6))] [] h) hl hi hR t_tell go
    rw [if_neg c35]
    by_cases c36 : w = 36
    · rw [if_pos c36]
      exact arm1 (P := lw_P1) (K := fun h => mx_rn xs (mx_ev xs mx_P 12) kk_L_law N 18 [(0, .retAddr 202), (1, .ref 0), (2, .ref 90), (3, .int (nI (6 * i) + 6))] [] h) hl hi hR t_check go
    rw [if_neg c36]
    by_cases c37 : w = 37
    · rw [if_pos c37]
      exact arm0 (P := lw_P1) (K := fun h => mx_rn xs (mx_ev xs mx_P 12) kk_L_law N 18 [(0, .retAddr 202), (1, .ref 0), (2, .ref 90), (3, .int (nI (6 * i) + 6))] [] h) hl hi hR t_keep go
    rw [if_neg c37]
    by_cases c38 : w = 38
    · rw [if_pos c38]
      exact arm0 (P := lw_P1) (K := fun h => mx_rn xs (mx_ev xs mx_P 12) kk_L_law N 18 [(0, .retAddr 202), (1, .ref 0), (2, .ref 90), (3, .int (nI (6 * i) + 6))] [] h) hl hi hR t_back go
    rw [if_neg c38]
    by_cases c39 : w = 39
    · rw [if_pos c39]
      exact arm1 (P := lw_P1) (K := fun h => mx_rn xs (mx_ev xs mx_P 12) kk_L_law N 18 [(0, .retAddr 202), (1, .ref 0), (2, .ref 90), (3, .int (nI (6 * i) + 6))] [] h) hl hi hR t_count go
    rw [if_neg c39]
    exact go σ hR
theorem lw_pure (hl : xs.length ≤ 3072) : ∃ h', mx_law xs = some (some (.int 1), h') ∧ h'.length ≤ 600000 ∧ mx_sz h' ≤ 7302250 := by
  unfold mx_law
  rw [show lv_args 0 [Value.retAddr 202] = [(0, .retAddr 202)] from rfl, show mx_N = 99999 + 1 from rfl, rn_L_law_0, g_nw (H := []) (a := 0) rfl, List.nil_append, x_init, c0s, g_nw (H := hX) (a := 90) hX_len, xm_init, c0s, ← zS_en]
  exact lw_loop hl (xs.length / 6) 0 99999 zS zs0 (by omega) (by omega) zS_rr (by rw [zS_len]; omega) (by rw [zS_zs]; omega)
end LW
