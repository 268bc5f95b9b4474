/-! ===== the class's constructor, whole (printed by wip/whole/gen93.py) ===== -/
def ha0 : mx_H := [.inr (6, mx_df 6)]
def hb1 : mx_H := .inr (6, mx_df 6) :: clX 1 10
def ha1 : mx_H := .inr (6, (mx_df 6).set 0 (.ref 1)) :: clX 1 10
def hb2 : mx_H := .inr (6, (mx_df 6).set 0 (.ref 1)) :: (clX 1 10 ++ clX 18 10)
def ha2 : mx_H := .inr (6, ((mx_df 6).set 0 (.ref 1)).set 1 (.ref 18)) :: (clX 1 10 ++ clX 18 10)
def hb3 : mx_H := .inr (6, ((mx_df 6).set 0 (.ref 1)).set 1 (.ref 18)) :: ccX
def ha3 : mx_H := .inr (6, (((mx_df 6).set 0 (.ref 1)).set 1 (.ref 18)).set 2 (.ref 35)) :: ccX
def ha4 : mx_H := .inr (6, ((((mx_df 6).set 0 (.ref 1)).set 1 (.ref 18)).set 2 (.ref 35)).set 3 (.int 0)) :: ccX
def hb5 : mx_H := .inr (6, ((((mx_df 6).set 0 (.ref 1)).set 1 (.ref 18)).set 2 (.ref 35)).set 3 (.int 0)) :: (ccX ++ [.inl (0, 10, .inl (fun _ => 0))])
def ha5 : mx_H := .inr (6, (((((mx_df 6).set 0 (.ref 1)).set 1 (.ref 18)).set 2 (.ref 35)).set 3 (.int 0)).set 4 (.ref 52)) :: (ccX ++ [.inl (0, 10, .inl (fun _ => 0))])
def hb6 : mx_H := .inr (6, (((((mx_df 6).set 0 (.ref 1)).set 1 (.ref 18)).set 2 (.ref 35)).set 3 (.int 0)).set 4 (.ref 52)) :: (ccX ++ [.inl (0, 10, .inl (fun _ => 0)), .inl (0, 96, .inl (fun _ => 0))])
def ha6 : mx_H := .inr (6, ((((((mx_df 6).set 0 (.ref 1)).set 1 (.ref 18)).set 2 (.ref 35)).set 3 (.int 0)).set 4 (.ref 52)).set 5 (.ref 53)) :: (ccX ++ [.inl (0, 10, .inl (fun _ => 0)), .inl (0, 96, .inl (fun _ => 0))])
def ha7 : mx_H := .inr (6, (((((((mx_df 6).set 0 (.ref 1)).set 1 (.ref 18)).set 2 (.ref 35)).set 3 (.int 0)).set 4 (.ref 52)).set 5 (.ref 53)).set 6 (.int 0)) :: (ccX ++ [.inl (0, 10, .inl (fun _ => 0)), .inl (0, 96, .inl (fun _ => 0))])
def hb8 : mx_H := .inr (6, (((((((mx_df 6).set 0 (.ref 1)).set 1 (.ref 18)).set 2 (.ref 35)).set 3 (.int 0)).set 4 (.ref 52)).set 5 (.ref 53)).set 6 (.int 0)) :: (ccX ++ (.inl (0, 10, .inl (fun _ => 0)) :: .inl (0, 96, .inl (fun _ => 0)) :: rdX 54))
def ha8 : mx_H := .inr (6, ((((((((mx_df 6).set 0 (.ref 1)).set 1 (.ref 18)).set 2 (.ref 35)).set 3 (.int 0)).set 4 (.ref 52)).set 5 (.ref 53)).set 6 (.int 0)).set 7 (.ref 54)) :: (ccX ++ (.inl (0, 10, .inl (fun _ => 0)) :: .inl (0, 96, .inl (fun _ => 0)) :: rdX 54))
def hb9 : mx_H := .inr (6, ((((((((mx_df 6).set 0 (.ref 1)).set 1 (.ref 18)).set 2 (.ref 35)).set 3 (.int 0)).set 4 (.ref 52)).set 5 (.ref 53)).set 6 (.int 0)).set 7 (.ref 54)) :: (ccX ++ (.inl (0, 10, .inl (fun _ => 0)) :: .inl (0, 96, .inl (fun _ => 0)) :: (rdX 54 ++ [.inl (4, 4, .inr (.inr (.inr (.inr (fun _ => none)))))])))
def ha9 : mx_H := .inr (6, (((((((((mx_df 6).set 0 (.ref 1)).set 1 (.ref 18)).set 2 (.ref 35)).set 3 (.int 0)).set 4 (.ref 52)).set 5 (.ref 53)).set 6 (.int 0)).set 7 (.ref 54)).set 8 (.ref 59)) :: (ccX ++ (.inl (0, 10, .inl (fun _ => 0)) :: .inl (0, 96, .inl (fun _ => 0)) :: (rdX 54 ++ [.inl (4, 4, .inr (.inr (.inr (.inr (fun _ => none)))))])))
def hb10 : mx_H := .inr (6, (((((((((mx_df 6).set 0 (.ref 1)).set 1 (.ref 18)).set 2 (.ref 35)).set 3 (.int 0)).set 4 (.ref 52)).set 5 (.ref 53)).set 6 (.int 0)).set 7 (.ref 54)).set 8 (.ref 59)) :: (ccX ++ (.inl (0, 10, .inl (fun _ => 0)) :: .inl (0, 96, .inl (fun _ => 0)) :: (rdX 54 ++ [.inl (4, 4, .inr (.inr (.inr (.inr (fun _ => none))))), .inl (5, 5, .inr (.inr (.inr (.inr (fun _ => none)))))])))
def ha10 : mx_H := .inr (6, ((((((((((mx_df 6).set 0 (.ref 1)).set 1 (.ref 18)).set 2 (.ref 35)).set 3 (.int 0)).set 4 (.ref 52)).set 5 (.ref 53)).set 6 (.int 0)).set 7 (.ref 54)).set 8 (.ref 59)).set 9 (.ref 60)) :: (ccX ++ (.inl (0, 10, .inl (fun _ => 0)) :: .inl (0, 96, .inl (fun _ => 0)) :: (rdX 54 ++ [.inl (4, 4, .inr (.inr (.inr (.inr (fun _ => none))))), .inl (5, 5, .inr (.inr (.inr (.inr (fun _ => none)))))])))
def hb11 : mx_H := .inr (6, ((((((((((mx_df 6).set 0 (.ref 1)).set 1 (.ref 18)).set 2 (.ref 35)).set 3 (.int 0)).set 4 (.ref 52)).set 5 (.ref 53)).set 6 (.int 0)).set 7 (.ref 54)).set 8 (.ref 59)).set 9 (.ref 60)) :: (ccX ++ (.inl (0, 10, .inl (fun _ => 0)) :: .inl (0, 96, .inl (fun _ => 0)) :: (rdX 54 ++ [.inl (4, 4, .inr (.inr (.inr (.inr (fun _ => none))))), .inl (5, 5, .inr (.inr (.inr (.inr (fun _ => none))))), .inl (0, 60, .inl (fun _ => 0))])))
def ha11 : mx_H := .inr (6, (((((((((((mx_df 6).set 0 (.ref 1)).set 1 (.ref 18)).set 2 (.ref 35)).set 3 (.int 0)).set 4 (.ref 52)).set 5 (.ref 53)).set 6 (.int 0)).set 7 (.ref 54)).set 8 (.ref 59)).set 9 (.ref 60)).set 10 (.ref 61)) :: (ccX ++ (.inl (0, 10, .inl (fun _ => 0)) :: .inl (0, 96, .inl (fun _ => 0)) :: (rdX 54 ++ [.inl (4, 4, .inr (.inr (.inr (.inr (fun _ => none))))), .inl (5, 5, .inr (.inr (.inr (.inr (fun _ => none))))), .inl (0, 60, .inl (fun _ => 0))])))
def ha12 : mx_H := .inr (6, ((((((((((((mx_df 6).set 0 (.ref 1)).set 1 (.ref 18)).set 2 (.ref 35)).set 3 (.int 0)).set 4 (.ref 52)).set 5 (.ref 53)).set 6 (.int 0)).set 7 (.ref 54)).set 8 (.ref 59)).set 9 (.ref 60)).set 10 (.ref 61)).set 11 (.int 0)) :: (ccX ++ (.inl (0, 10, .inl (fun _ => 0)) :: .inl (0, 96, .inl (fun _ => 0)) :: (rdX 54 ++ [.inl (4, 4, .inr (.inr (.inr (.inr (fun _ => none))))), .inl (5, 5, .inr (.inr (.inr (.inr (fun _ => none))))), .inl (0, 60, .inl (fun _ => 0))])))
section XJ
variable {xs : List Int32} {d : Nat}
theorem pt_ha1 (f : mx_H → mx_R) : mx_pt hb1 0 6 0 (.ref 1) f = f ha1 := o_pt rfl
theorem pt_ha2 (f : mx_H → mx_R) : mx_pt hb2 0 6 1 (.ref 18) f = f ha2 := o_pt rfl
theorem pt_ha3 (f : mx_H → mx_R) : mx_pt hb3 0 6 2 (.ref 35) f = f ha3 := o_pt rfl
theorem pt_ha4 (f : mx_H → mx_R) : mx_pz ha3 0 6 3 0 f = f ha4 := o_pz rfl
theorem pt_ha5 (f : mx_H → mx_R) : mx_pt hb5 0 6 4 (.ref 52) f = f ha5 := o_pt rfl
theorem pt_ha6 (f : mx_H → mx_R) : mx_pt hb6 0 6 5 (.ref 53) f = f ha6 := o_pt rfl
theorem pt_ha7 (f : mx_H → mx_R) : mx_pt ha6 0 6 6 (.int 0) f = f ha7 := o_pt rfl
theorem pt_ha8 (f : mx_H → mx_R) : mx_pt hb8 0 6 7 (.ref 54) f = f ha8 := o_pt rfl
theorem pt_ha9 (f : mx_H → mx_R) : mx_pt hb9 0 6 8 (.ref 59) f = f ha9 := o_pt rfl
theorem pt_ha10 (f : mx_H → mx_R) : mx_pt hb10 0 6 9 (.ref 60) f = f ha10 := o_pt rfl
theorem pt_ha11 (f : mx_H → mx_R) : mx_pt hb11 0 6 10 (.ref 61) f = f ha11 := o_pt rfl
theorem pt_ha12 (f : mx_H → mx_R) : mx_pt ha11 0 6 11 (.int 0) f = f ha12 := o_pt rfl
theorem ap_1 : ha0 ++ clX 1 10 = hb1 := rfl
theorem ap_2 : ha1 ++ clX 18 10 = hb2 := rfl
theorem ap_3 : ha2 ++ clX 35 10 = hb3 := rfl
theorem ap_5 : ha4 ++ [.inl (0, 10, .inl (fun _ => 0))] = hb5 := rfl
theorem ap_6 : ha5 ++ [.inl (0, 96, .inl (fun _ => 0))] = hb6 := by
  show (_ :: ((ccX ++ _) ++ _) : mx_H) = _
  rw [List.append_assoc]
  rfl
theorem ap_8 : ha7 ++ rdX 54 = hb8 := by
  show (_ :: ((ccX ++ _) ++ _) : mx_H) = _
  rw [List.append_assoc]
  rfl
theorem ap_9 : ha8 ++ [.inl (4, 4, .inr (.inr (.inr (.inr (fun _ => none)))))] = hb9 := by
  show (_ :: ((ccX ++ _) ++ _) : mx_H) = _
  rw [List.append_assoc]
  rfl
theorem ap_10 : ha9 ++ [.inl (5, 5, .inr (.inr (.inr (.inr (fun _ => none)))))] = hb10 := by
  show (_ :: ((ccX ++ _) ++ _) : mx_H) = _
  rw [List.append_assoc]
  rfl
theorem ap_11 : ha10 ++ [.inl (0, 60, .inl (fun _ => 0))] = hb11 := by
  show (_ :: ((ccX ++ _) ++ _) : mx_H) = _
  rw [List.append_assoc]
  rfl
theorem ha12_e : ha12 = oX :: (ccX ++ (lX (gS 0) (gT 0) ++ shs 0)) := by
  rw [gS_0, gT_0]
  rfl
theorem x_i0 : mx_ev xs mx_P 12 82 [.ref 0] [.inr (6, mx_df 6)] = mx_rn xs (mx_ev xs mx_P 11) kk_X6_init 99999 105 [(0, .ref 0), (1, .int 0)] [] ha12 := by
  rw [show ([.inr (6, mx_df 6)] : mx_H) = ha0 from rfl, ev_X6_init, g_nw (H := ha0) (a := 1) rfl, cl_init ha0 (a := 1) rfl, c0s, ap_1, pt_ha1, g_nw (H := ha1) (a := 18) rfl, cl_init ha1 (a := 18) rfl, c0s, ap_2, pt_ha2, g_nw (H := ha2) (a := 35) rfl, cl_init ha2 (a := 35) rfl, c0s, ap_3, pt_ha3, pt_ha4, g_na (H := ha4) (a := 52) (n := 10) (y := 10) rfl rfl rfl, ap_5, pt_ha5, g_na (H := ha5) (a := 53) (n := 96) (y := 96) rfl rfl rfl, ap_6, pt_ha6, pt_ha7, g_nw (H := ha7) (a := 54) rfl, rd_init ha7 (a := 54) rfl, c0s, ap_8, pt_ha8, g_nq (H := ha8) (a := 59) (n := 4) (y := 4) rfl rfl rfl, ap_9, pt_ha9, g_nq (H := ha9) (a := 60) (n := 5) (y := 5) rfl rfl rfl, ap_10, pt_ha10, g_na (H := ha10) (a := 61) (n := 60) (y := 60) rfl rfl rfl, ap_11, pt_ha11, pt_ha12]
theorem og8 {T : mx_H} {f : Nat → mx_R} : mx_gr (oX :: T) 0 6 8 f = f 59 := o_gr rfl
theorem og9 {T : mx_H} {f : Nat → mx_R} : mx_gr (oX :: T) 0 6 9 f = f 60 := o_gr rfl
theorem oc_len : (oX :: ccX).length = 52 := by rw [List.length_cons, ccX_len]
theorem sh_loop : ∀ (m i N : Nat), i + m = 4 → m < N → ∃ N', N ≤ N' + m + 1 ∧ mx_rn xs (mx_ev xs mx_P (d + 2)) kk_X6_init N 105 [(0, .ref 0), (1, .int (nI i))] [] (oX :: (ccX ++ (lX (gS i) (gT 0) ++ shs i))) = mx_rn xs (mx_ev xs mx_P (d + 2)) kk_X6_init N' 131 [(0, .ref 0), (1, .int 0)] [] (oX :: (ccX ++ (lX (gS 4) (gT 0) ++ shs 4)))
  | m, i, 0, _, h2 => absurd h2 (by omega)
  | 0, i, N + 1, h1, _ => by
    have e : i = 4 := by omega
    subst e
    exact ⟨N, by omega, by rw [rn_X6_init_105, if_pos (by decide)]⟩
  | m + 1, i, N + 1, h1, h2 => by
    have hl : (oX :: (ccX ++ (lX (gS i) (gT 0) ++ shs i))).length = 62 + 2 * i := by
      rw [List.length_cons, List.length_append, List.length_append, ccX_len, lX_len, shs_len]; omega
    have ea : (oX :: (ccX ++ (lX (gS i) (gT 0) ++ shs i))) ++ shX (62 + 2 * i) = (oX :: ccX) ++ (lX (gS i) (gT 0) ++ shs (i + 1)) := by
      rw [List.cons_append, List.append_assoc, List.append_assoc]
      rfl
    have hv : ((oX :: ccX) ++ (lX (gS i) (gT 0) ++ shs (i + 1)))[62 + 2 * i]? = some (.inr (3, [.int (-1), .int 0, .ref (62 + 2 * i + 1)])) := by
      have e1 := ap_at (oX :: ccX) (lX (gS i) (gT 0) ++ shs (i + 1)) (10 + 2 * i)
      rw [oc_len, show 52 + (10 + 2 * i) = 62 + 2 * i by omega] at e1
      have e2 := ap_at (lX (gS i) (gT 0)) (shs (i + 1)) (2 * i)
      rw [lX_len] at e2
      have e3 := ap_at (shs i) (shX (62 + 2 * i)) 0
      rw [shs_len, Nat.add_zero] at e3
      rw [e1, e2]
      exact e3
    obtain ⟨N', g, r⟩ := sh_loop m (i + 1) N (by omega) (by omega)
    refine ⟨N', by omega, ?_⟩
    rw [rn_X6_init_105, if_neg (by exact nI_ge (b := 4) (by omega) (by decide)), og8, g_nw (a := 62 + 2 * i) hl, sh_init _ (a := 62 + 2 * i) hl.symm, c0s, ea, l_at (a := 59) (oX :: ccX) (lX (gS i) (gT 0) ++ shs (i + 1)) (lX (gS (i + 1)) (gT 0) ++ shs (i + 1)) 7 4 4 i (62 + 2 * i) 3 _ (gS i) (by rw [oc_len]) rfl hv rfl (by decide) rfl (Nat.blt_eq.mpr (by omega)) rfl (by rw [gS_s]; rfl), nI_1]
    exact r
theorem sl_loop : ∀ (m i N : Nat), i + m = 5 → m < N → mx_rn xs (mx_ev xs mx_P (d + 2)) kk_X6_init N 131 [(0, .ref 0), (1, .int (nI i))] [] (oX :: (ccX ++ (lX (gS 4) (gT i) ++ (shs 4 ++ sls i)))) = some (none, oX :: (ccX ++ (lX (gS 4) (gT 5) ++ (shs 4 ++ sls 5))))
  | m, i, 0, _, h2 => absurd h2 (by omega)
  | 0, i, N + 1, h1, _ => by
    have e : i = 5 := by omega
    subst e
    rw [rn_X6_init_131, if_pos (by decide), rv0]
  | m + 1, i, N + 1, h1, h2 => by
    have hl : (oX :: (ccX ++ (lX (gS 4) (gT i) ++ (shs 4 ++ sls i)))).length = 70 + 4 * i := by
      rw [List.length_cons, List.length_append, List.length_append, List.length_append, ccX_len, lX_len, shs_len, sls_len]; omega
    have ea : (oX :: (ccX ++ (lX (gS 4) (gT i) ++ (shs 4 ++ sls i)))) ++ slX (70 + 4 * i) = (oX :: ccX) ++ (lX (gS 4) (gT i) ++ (shs 4 ++ sls (i + 1))) := by
      rw [List.cons_append, List.append_assoc, List.append_assoc, List.append_assoc]
      rfl
    have hv : ((oX :: ccX) ++ (lX (gS 4) (gT i) ++ (shs 4 ++ sls (i + 1))))[70 + 4 * i]? = some (.inr (4, [.int 0, .ref (70 + 4 * i + 1), .ref (70 + 4 * i + 2), .int 0])) := by
      have e1 := ap_at (oX :: ccX) (lX (gS 4) (gT i) ++ (shs 4 ++ sls (i + 1))) (18 + 4 * i)
      rw [oc_len, show 52 + (18 + 4 * i) = 70 + 4 * i by omega] at e1
      have e2 := ap_at (lX (gS 4) (gT i)) (shs 4 ++ sls (i + 1)) (8 + 4 * i)
      rw [lX_len, show 10 + (8 + 4 * i) = 18 + 4 * i by omega] at e2
      have e4 := ap_at (shs 4) (sls (i + 1)) (4 * i)
      rw [shs_len, show 2 * 4 + 4 * i = 8 + 4 * i by omega] at e4
      have e3 := ap_at (sls i) (slX (70 + 4 * i)) 0
      rw [sls_len, Nat.add_zero] at e3
      rw [e1, e2, e4]
      exact e3
    have r := sl_loop m (i + 1) N (by omega) (by omega)
    rw [rn_X6_init_131, if_neg (by exact nI_ge (b := 5) (by omega) (by decide)), og9, g_nw (a := 70 + 4 * i) hl, sl_init _ (a := 70 + 4 * i) hl.symm, c0s, ea, l_at (a := 60) (oX :: ccX) (lX (gS 4) (gT i) ++ (shs 4 ++ sls (i + 1))) (lX (gS 4) (gT (i + 1)) ++ (shs 4 ++ sls (i + 1))) 8 5 5 i (70 + 4 * i) 4 _ (gT i) (by rw [oc_len]) rfl hv rfl (by decide) rfl (Nat.blt_eq.mpr (by omega)) rfl (by rw [gT_s]; rfl), nI_1]
    exact r
def hX : mx_H := oX :: (ccX ++ (lX (gS 4) (gT 5) ++ (shs 4 ++ sls 5)))
theorem x_init : mx_ev xs mx_P 12 82 [.ref 0] [.inr (6, mx_df 6)] = some (none, hX) := by
  rw [x_i0, ha12_e]
  obtain ⟨N', g, r⟩ := sh_loop (xs := xs) (d := 9) 4 0 99999 (by omega) (by omega)
  have r' : mx_rn xs (mx_ev xs mx_P 11) kk_X6_init 99999 105 [(0, .ref 0), (1, .int 0)] [] (oX :: (ccX ++ (lX (gS 0) (gT 0) ++ shs 0))) = _ := r
  rw [r', show shs 4 = shs 4 ++ sls 0 from (List.append_nil _).symm]
  have q := sl_loop (xs := xs) (d := 9) 5 0 N' (by omega) (by omega)
  rw [show shs 4 ++ sls 0 = shs 4 from List.append_nil _] at q ⊢
  exact q
theorem hX_len : hX.length = 90 := by
  unfold hX
  rw [List.length_cons, List.length_append, List.length_append, List.length_append, ccX_len, lX_len, shs_len, sls_len]
theorem xm_init : mx_ev xs mx_P 12 132 [.ref 90] (hX ++ [.inr (7, mx_df 7)]) = some (none, hX ++ moX 90) := mo_init hX hX_len.symm
end XJ
