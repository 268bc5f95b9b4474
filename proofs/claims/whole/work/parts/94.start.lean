/-! ===== the start ===== -/
def zF : Nat → Int32 := fun _ => 0
theorem en_zip {S : List en_S} {F : List (Nat → Int32)} (hl : F.length = S.length) : en S (fun a => F.getD a zF) = List.zipWith en_c F S := by
  apply List.ext_getElem?
  intro j
  unfold en
  rw [List.getElem?_mapIdx, List.getElem?_zipWith]
  by_cases h : j < S.length
  · rw [List.getElem?_eq_getElem h, List.getElem?_eq_getElem (show j < F.length by omega)]
    show some (en_c (F.getD j zF) _) = some (en_c _ _)
    rw [List.getD_eq_getElem?_getD, List.getElem?_eq_getElem (show j < F.length by omega)]
    rfl
  · rw [List.getElem?_eq_none (by omega), List.getElem?_eq_none (show F.length ≤ j by omega)]
    rfl
def clS (a : Nat) : List en_S := [.inl (0, [some (a + 1), none, some (a + 2), some (a + 3), none, some (a + 4), none, none, none, none, none, some (a + 5), some (a + 6)]), .inr (.inr (.inl (3, 10, gL a))), .inr (.inl (0, 4)), .inr (.inr (.inr (6, 14))), .inr (.inl (0, 3)), .inr (.inl (0, 4)), .inr (.inl (0, 96))] ++ List.replicate 10 en_leg
def clF : List (Nat → Int32) := [fun k => if k = 10 then 1 else 0, fun _ => 0, upd (upd (upd (upd (fun _ => 0) 0 20) 1 1) 2 40) 3 60, fun _ => -1, upd (upd (upd (fun _ => 0) 0 (-1000000005)) 1 (-1000000005)) 2 (-1000000005), fun _ => 0, fun _ => 0] ++ List.replicate 10 (fun _ => 0)
theorem en_rm1 : (fun k : Nat => en_r ((fun _ => (-1 : Int32)) k)) = fun _ => none := by
  funext k
  show (if (-1 : Int32) < 0 then none else _) = none
  rw [if_pos (by decide)]
theorem clX_en (a : Nat) : List.zipWith en_c clF (clS a) = clX a 10 := by
  have e : clX a 10 = [.inr (0, (.ref (a + 1) :: .int 0 :: .ref (a + 2) :: .ref (a + 3) :: .int 0 :: .ref (a + 4) :: .int 0 :: .int 0 :: .int 0 :: .int 0 :: .int 1 :: .ref (a + 5) :: .ref (a + 6) :: [])), .inl (3, 10, .inr (.inr (.inr (.inr (gL a))))), .inl (0, 4, .inl (upd (upd (upd (upd (fun _ => 0) 0 20) 1 1) 2 40) 3 60)), .inl (6, 14, .inr (.inr (.inr (.inr (fun k : Nat => en_r ((fun _ => (-1 : Int32)) k)))))), .inl (0, 3, .inl (upd (upd (upd (fun _ => 0) 0 (-1000000005)) 1 (-1000000005)) 2 (-1000000005))), .inl (0, 4, .inl (fun _ => 0)), .inl (0, 96, .inl (fun _ => 0))] ++ List.replicate 10 (.inr (1, mx_df 1)) := by
    rw [en_rm1]
    rfl
  rw [e]
  rfl
def shS (i : Nat) : List en_S := [.inl (3, [none, none, some (63 + 2 * i)]), .inr (.inl (0, 24))]
def slS (i : Nat) : List en_S := [.inl (4, [none, some (71 + 4 * i), some (72 + 4 * i), none]), en_leg, .inl (3, [none, none, some (73 + 4 * i)]), .inr (.inl (0, 24))]
def shF : List (Nat → Int32) := [fun k => if k = 0 then -1 else 0, fun _ => 0]
def slF : List (Nat → Int32) := [fun _ => 0, fun _ => 0, fun k => if k = 0 then -1 else 0, fun _ => 0]
def reS : List en_S := [.inr (.inl (0, 10)), .inr (.inl (0, 96)), .inl (2, [some 55, none, none, none, none, some 56, none, some 57, none, some 58, none, none, none, none, none]), .inr (.inl (0, 0)), .inr (.inl (0, 96)), .inr (.inl (0, 96)), .inr (.inl (1, 9)), .inr (.inr (.inl (4, 4, gSh))), .inr (.inr (.inl (5, 5, gSl))), .inr (.inl (0, 60))] ++ (shS 0 ++ (shS 1 ++ (shS 2 ++ (shS 3 ++ (slS 0 ++ (slS 1 ++ (slS 2 ++ (slS 3 ++ slS 4))))))))
def reF : List (Nat → Int32) := List.replicate 10 (fun _ => 0) ++ (shF ++ (shF ++ (shF ++ (shF ++ (slF ++ (slF ++ (slF ++ (slF ++ slF))))))))
def moF : List (Nat → Int32) := [(fun _ => 0), (upd (upd (upd (upd (upd (fun _ => 0) 0 1) 3 20) 4 1) 5 40) 6 60), (fun _ => 0), (fun _ => 0), (fun _ => 0), (fun _ => 0), (upd (upd (upd (upd (upd (upd (upd (upd (upd (upd (upd (upd (fun _ => 0) 0 (vp_nar .char 112)) 1 (vp_nar .char 114)) 2 (vp_nar .char 101)) 3 (vp_nar .char 115)) 4 (vp_nar .char 115)) 5 (vp_nar .char 102)) 6 (vp_nar .char 101)) 7 (vp_nar .char 101)) 8 (vp_nar .char 102)) 9 (vp_nar .char 105)) 10 (vp_nar .char 110)) 11 (vp_nar .char 101)), (upd (upd (upd (upd (fun _ => 0) 0 0) 1 5) 2 8) 3 12), (fun _ => 0), (fun _ => 0), (fun _ => 0), (fun _ => 0), (fun _ => 0), (upd (upd (upd (upd (fun _ => 0) 0 (-1)) 1 (-1)) 2 (-1)) 3 (-1)), (fun _ => 0), (fun _ => 0), (fun _ => 0), (fun _ => 0), (fun _ => 0), (fun _ => 0), (fun _ => 0), (fun _ => 0)]
def oS : en_S := .inl (6, [some 1, some 18, some 35, none, some 52, some 53, none, some 54, some 59, some 60, some 61, none])
def zS : List en_S := oS :: (clS 1 ++ (clS 18 ++ (clS 35 ++ (reS ++ mo_tab))))
def zFs : List (Nat → Int32) := (fun _ => 0) :: (clF ++ (clF ++ (clF ++ (reF ++ moF))))
def zs0 : Nat → Nat → Int32 := fun a => zFs.getD a zF
theorem reX_en : List.zipWith en_c reF reS = lX (gS 4) (gT 5) ++ (shs 4 ++ sls 5) := rfl
theorem moX_en : List.zipWith en_c moF mo_tab = moX 90 := rfl
theorem oX_en : en_c (fun _ => 0) oS = oX := rfl
theorem zS_en : en zS zs0 = hX ++ moX 90 := by
  unfold zs0
  rw [en_zip rfl]
  unfold zFs zS
  rw [List.zipWith_cons_cons, oX_en, List.zipWith_append (show clF.length = (clS 1).length from rfl), List.zipWith_append (show clF.length = (clS 18).length from rfl), List.zipWith_append (show clF.length = (clS 35).length from rfl), List.zipWith_append (show reF.length = reS.length from rfl), clX_en, clX_en, clX_en, reX_en, moX_en]
  unfold hX ccX
  simp only [List.cons_append, List.append_assoc]
theorem c3 {P : Nat → Prop} (h0 : P 0) (h1 : P 1) (h2 : P 2) : ∀ i, i < 3 → P i := fun i hi => by
  rcases (show i = 0 ∨ i = 1 ∨ i = 2 by omega) with rfl | rfl | rfl <;> assumption
theorem c4' {P : Nat → Prop} (h0 : P 0) (h1 : P 1) (h2 : P 2) (h3 : P 3) : ∀ i, i < 4 → P i := fun i hi => by
  rcases (show i = 0 ∨ i = 1 ∨ i = 2 ∨ i = 3 by omega) with rfl | rfl | rfl | rfl <;> assumption
theorem c5 {P : Nat → Prop} (h0 : P 0) (h1 : P 1) (h2 : P 2) (h3 : P 3) (h4 : P 4) : ∀ i, i < 5 → P i := fun i hi => by
  rcases (show i = 0 ∨ i = 1 ∨ i = 2 ∨ i = 3 ∨ i = 4 by omega) with rfl | rfl | rfl | rfl | rfl <;> assumption
theorem c10 {P : Nat → Prop} (h0 : P 0) (h1 : P 1) (h2 : P 2) (h3 : P 3) (h4 : P 4) (h5 : P 5) (h6 : P 6) (h7 : P 7) (h8 : P 8) (h9 : P 9) : ∀ i, i < 10 → P i := fun i hi => by
  rcases (show i = 0 ∨ i = 1 ∨ i = 2 ∨ i = 3 ∨ i = 4 ∨ i = 5 ∨ i = 6 ∨ i = 7 ∨ i = 8 ∨ i = 9 by omega) with rfl | rfl | rfl | rfl | rfl | rfl | rfl | rfl | rfl | rfl <;> assumption
def zC : q_C := q_mk 0 (fun _ _ => 0) (fun k => if k = 0 then 20 else if k = 1 then 1 else if k = 2 then 40 else 60) [] 0 0 0 0 1
def zG : q_G := g_mk zC none 0 (fun _ => 0) (fun _ => -1) (fun _ => 0) (fun _ _ => 0) (fun _ => 0) (fun _ _ => 0) (fun _ => 0) (fun _ _ => 0) (fun _ => 0) 0 (fun _ => 0)
theorem zS_cl : isCl zS 1 ∧ isCl zS 18 ∧ isCl zS 35 := by
  refine ⟨⟨rfl, rfl, rfl, rfl, rfl, rfl, rfl, c10 rfl rfl rfl rfl rfl rfl rfl rfl rfl rfl⟩, ⟨rfl, rfl, rfl, rfl, rfl, rfl, rfl, c10 rfl rfl rfl rfl rfl rfl rfl rfl rfl rfl⟩, ⟨rfl, rfl, rfl, rfl, rfl, rfl, rfl, c10 rfl rfl rfl rfl rfl rfl rfl rfl rfl rfl⟩⟩
theorem zS_xs : XS zS := ⟨rfl, zS_cl.1, zS_cl.2.1, zS_cl.2.2, rfl, rfl, ⟨55, rfl⟩, rfl, rfl, rfl, rfl, rfl, rfl, c4' rfl rfl rfl rfl, c4' rfl rfl rfl rfl, c5 rfl rfl rfl rfl rfl, c5 rfl rfl rfl rfl rfl, c5 rfl rfl rfl rfl rfl, c5 rfl rfl rfl rfl rfl⟩
theorem zS_mo : isMo zS := fun k x hk => by
  have e : zS = (oS :: (clS 1 ++ (clS 18 ++ (clS 35 ++ reS)))) ++ mo_tab := by
    unfold zS
    simp only [List.cons_append, List.append_assoc]
  have h := ap_at (oS :: (clS 1 ++ (clS 18 ++ (clS 35 ++ reS)))) mo_tab k
  rw [show (oS :: (clS 1 ++ (clS 18 ++ (clS 35 ++ reS)))).length = 90 from rfl] at h
  rw [e, h]
  exact hk
theorem zS_cR : cR zS zs0 1 zC := ⟨rfl, fun i hi => absurd hi (Nat.not_lt_zero i), c4' rfl rfl rfl rfl, ⟨rfl, fun t ht => absurd ht (Nat.not_lt_zero t), c3 rfl rfl rfl⟩, rfl, rfl, rfl, rfl, rfl⟩
theorem zS_xr : XR zS zs0 zG := by
  refine ⟨zS_xs, zS_cR, rfl, fun C h => ?_, rfl, fun k hk => absurd hk (Nat.not_lt_zero k), c4' rfl rfl rfl rfl, c4' rfl rfl rfl rfl, c4' (fun _ _ => rfl) (fun _ _ => rfl) (fun _ _ => rfl) (fun _ _ => rfl), c5 rfl rfl rfl rfl rfl, fun i hi h => ?_, fun i hi h => ?_, fun i hi h => ?_, fun i hi h => ?_, rfl, fun k hk => absurd hk (Nat.not_lt_zero k)⟩
  · exact absurd (show (none : Option q_C) = some C from h) (fun x => by cases x)
  · exact absurd (show (0 : Nat) = 1 from h) (by decide)
  · exact absurd (show (0 : Nat) = 2 from h) (by decide)
  · exact absurd (show (0 : Nat) = 2 from h) (by decide)
  · exact absurd (show (0 : Nat) = 3 from h) (by decide)
theorem zS_mR : mR (zs0 91) zC := ⟨rfl, fun i hi => absurd hi (Nat.not_lt_zero i), c4' rfl rfl rfl rfl, ⟨rfl, fun t ht => absurd ht (Nat.not_lt_zero t)⟩, rfl, rfl, rfl, rfl, rfl⟩
theorem zS_ks : ∀ k, k < 12 → zs0 96 k = nI (q_keys.getD k 0) := fun k hk => by
  rcases (show k = 0 ∨ k = 1 ∨ k = 2 ∨ k = 3 ∨ k = 4 ∨ k = 5 ∨ k = 6 ∨ k = 7 ∨ k = 8 ∨ k = 9 ∨ k = 10 ∨ k = 11 by omega) with rfl | rfl | rfl | rfl | rfl | rfl | rfl | rfl | rfl | rfl | rfl | rfl <;> rfl
theorem zS_mr : MR zS zs0 zG := by
  refine ⟨zS_mo, zS_mR, rfl, fun C h => ?_, rfl, fun k hk => absurd hk (Nat.not_lt_zero k), zS_ks, c4' rfl rfl rfl rfl, c4' rfl rfl rfl rfl, c4' rfl rfl rfl rfl, fun i _ k _ => rfl, c5 rfl rfl rfl rfl rfl, fun i hi h => ?_, fun i hi h => ?_, fun i hi h => ?_, rfl, fun k hk => absurd hk (Nat.not_lt_zero k)⟩
  · exact absurd (show (none : Option q_C) = some C from h) (fun x => by cases x)
  · exact absurd (show (0 : Nat) = 1 from h) (by decide)
  · exact absurd (show (0 : Nat) = 2 from h) (by decide)
  · exact absurd (show (0 : Nat) = 3 from h) (by decide)
theorem zC_ok : q_ok zC := ⟨Nat.zero_le _, fun i hi => absurd hi (Nat.not_lt_zero i), by show (20 : Nat) ≤ 100; decide, by show (1 : Nat) ≤ 3; decide, by show (40 : Nat) ≤ 99; decide, by show (60 : Nat) ≤ 99; decide, ⟨Nat.zero_le _, fun t ht => absurd ht (Nat.not_lt_zero t)⟩⟩
theorem zG_ok : GO zG := by
  refine ⟨zC_ok, Nat.zero_le _, fun C h => ?_, Nat.zero_le _, fun k hk => absurd hk (Nat.not_lt_zero k), fun i _ => Or.inl rfl, fun i _ => Nat.zero_le _, fun i _ => Nat.zero_le _, fun i _ h => ?_, fun i _ _ => Nat.zero_le _, Nat.zero_le _⟩
  · exact absurd (show (none : Option q_C) = some C from h) (fun x => by cases x)
  · exact absurd (show (0 : Nat) = 1 from h) (by decide)
theorem zS_rr : RR zS zs0 := ⟨zG, zS_xr, zS_mr, zG_ok⟩
theorem zS_len : zS.length = 112 := rfl
theorem zS_zs : en_zs zS = 6417 := by decide +kernel
