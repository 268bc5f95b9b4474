def mx_wsM (M : mx_M) : List Cond := Cond.code M.1 M.2.1 M.2.2.1 M.2.2.2.1 :: M.2.2.2.2.flatMap (mx_need mx_P M.1.cls)
theorem ck_law : ∀ x ∈ kk_L_law, mx_ok mx_P yL_law cL_law 4 (some .boolean) x = true := sorry
theorem cw_law : ∀ x ∈ kk_L_law, ∀ w ∈ mx_need mx_P yL_law.cls x, w ∈ lw_tbl := sorry
def mx_G : List Cond := mx_WS ++ mx_P.flatMap mx_wsM
theorem mx_G_tbl : ∀ w ∈ mx_G, w ∈ lw_tbl ∧ goodWord w = true := sorry
theorem mx_P_ok : mx_Pok mx_P mx_G := sorry
