/-! ===== what each method does, between its cuts: printed by wip/whole/gen6.py ===== -/
theorem ev_go {xs : List Int32} {P : List mx_M} {d j : Nat} {as : List Value} {h : mx_H} {M : mx_M} {ls : mx_L} (hP : P[j]? = some M) (hg : Nat.ble (lg_sl as).length M.2.2.1 = true) (hl : lv_args 0 as = ls) : mx_ev xs P (d + 1) j as h = mx_rn xs (mx_ev xs P d) M.2.2.2.2 mx_N 0 ls [] h := by
  rw [mx_ev, hP]
  simp only [hg, cond_true, hl]
set_option maxRecDepth 100000 in
theorem rn_J9_floorMod_7cf53_0 (xs : List Int32) (call : Nat → List Value → mx_H → mx_R) (n : Nat) (a0 : Int32) (a1 : Int32)  (h : mx_H) : mx_rn xs call kk_J9_floorMod_7cf53 (n + 1) 0 [(0, .int a0), (1, .int a1)] [] h = (if a1 = 0 then none else if 0 ≤ (a0 ^^^ a1) then mx_ri 0 [.int (mx_rm a0 a1)] h else if (mx_rm a0 a1) = 0 then mx_ri 0 [.int (mx_rm a0 a1)] h else mx_ri 0 [.int ((mx_rm a0 a1) + a1)] h) := by rfl
theorem pp_J9_floorMod_7cf53 : mx_P[0]? = some (yJ9_floorMod_7cf53, cJ9_floorMod_7cf53, 3, (some .int), kk_J9_floorMod_7cf53) := rfl
set_option maxRecDepth 100000 in
theorem ev_J9_floorMod_7cf53 (xs : List Int32) (d : Nat) (a0 : Int32) (a1 : Int32)  (h : mx_H) : mx_ev xs mx_P (d + 1) 0 [.int a0, .int a1] h = (if a1 = 0 then none else if 0 ≤ (a0 ^^^ a1) then mx_ri 0 [.int (mx_rm a0 a1)] h else if (mx_rm a0 a1) = 0 then mx_ri 0 [.int (mx_rm a0 a1)] h else mx_ri 0 [.int ((mx_rm a0 a1) + a1)] h) :=
  (ev_go pp_J9_floorMod_7cf53 rfl rfl).trans (rn_J9_floorMod_7cf53_0 xs (mx_ev xs mx_P d) 99999 a0 a1 h)
set_option maxRecDepth 100000 in
theorem rn_J9_abs_0f7a4_0 (xs : List Int32) (call : Nat → List Value → mx_H → mx_R) (n : Nat) (a0 : Int32)  (h : mx_H) : mx_rn xs call kk_J9_abs_0f7a4 (n + 1) 0 [(0, .int a0)] [] h = (if 0 ≤ a0 then mx_ri 0 [.int a0] h else mx_ri 0 [.int (-a0)] h) := by rfl
theorem pp_J9_abs_0f7a4 : mx_P[1]? = some (yJ9_abs_0f7a4, cJ9_abs_0f7a4, 1, (some .int), kk_J9_abs_0f7a4) := rfl
set_option maxRecDepth 100000 in
theorem ev_J9_abs_0f7a4 (xs : List Int32) (d : Nat) (a0 : Int32)  (h : mx_H) : mx_ev xs mx_P (d + 1) 1 [.int a0] h = (if 0 ≤ a0 then mx_ri 0 [.int a0] h else mx_ri 0 [.int (-a0)] h) :=
  (ev_go pp_J9_abs_0f7a4 rfl rfl).trans (rn_J9_abs_0f7a4_0 xs (mx_ev xs mx_P d) 99999 a0 h)
set_option maxRecDepth 100000 in
theorem rn_J9_max_7cf53_0 (xs : List Int32) (call : Nat → List Value → mx_H → mx_R) (n : Nat) (a0 : Int32) (a1 : Int32)  (h : mx_H) : mx_rn xs call kk_J9_max_7cf53 (n + 1) 0 [(0, .int a0), (1, .int a1)] [] h = (if a0 < a1 then mx_ri 0 [.int a1] h else mx_ri 0 [.int a0] h) := by rfl
theorem pp_J9_max_7cf53 : mx_P[2]? = some (yJ9_max_7cf53, cJ9_max_7cf53, 2, (some .int), kk_J9_max_7cf53) := rfl
set_option maxRecDepth 100000 in
theorem ev_J9_max_7cf53 (xs : List Int32) (d : Nat) (a0 : Int32) (a1 : Int32)  (h : mx_H) : mx_ev xs mx_P (d + 1) 2 [.int a0, .int a1] h = (if a0 < a1 then mx_ri 0 [.int a1] h else mx_ri 0 [.int a0] h) :=
  (ev_go pp_J9_max_7cf53 rfl rfl).trans (rn_J9_max_7cf53_0 xs (mx_ev xs mx_P d) 99999 a0 a1 h)
set_option maxRecDepth 100000 in
theorem rn_J9_min_7cf53_0 (xs : List Int32) (call : Nat → List Value → mx_H → mx_R) (n : Nat) (a0 : Int32) (a1 : Int32)  (h : mx_H) : mx_rn xs call kk_J9_min_7cf53 (n + 1) 0 [(0, .int a0), (1, .int a1)] [] h = (if a1 < a0 then mx_ri 0 [.int a1] h else mx_ri 0 [.int a0] h) := by rfl
theorem pp_J9_min_7cf53 : mx_P[3]? = some (yJ9_min_7cf53, cJ9_min_7cf53, 2, (some .int), kk_J9_min_7cf53) := rfl
set_option maxRecDepth 100000 in
theorem ev_J9_min_7cf53 (xs : List Int32) (d : Nat) (a0 : Int32) (a1 : Int32)  (h : mx_H) : mx_ev xs mx_P (d + 1) 3 [.int a0, .int a1] h = (if a1 < a0 then mx_ri 0 [.int a1] h else mx_ri 0 [.int a0] h) :=
  (ev_go pp_J9_min_7cf53 rfl rfl).trans (rn_J9_min_7cf53_0 xs (mx_ev xs mx_P d) 99999 a0 a1 h)
set_option maxRecDepth 100000 in
theorem rn_X0_hasLeg_0 (xs : List Int32) (call : Nat → List Value → mx_H → mx_R) (n : Nat) (a0 : Nat) (a1 : Int32)  (h : mx_H) : mx_rn xs call kk_X0_hasLeg (n + 1) 0 [(0, .ref a0), (1, .int a1)] [] h = (if a1 < 0 then mx_ri 1 [.int 0] h else mx_gi h a0 0 1 (fun x1 => if x1 ≤ a1 then mx_ri 1 [.int 0] h else mx_ri 1 [.int 1] h)) := by rfl
theorem pp_X0_hasLeg : mx_P[21]? = some (yX0_hasLeg, cX0_hasLeg, 2, (some .boolean), kk_X0_hasLeg) := rfl
set_option maxRecDepth 100000 in
theorem ev_X0_hasLeg (xs : List Int32) (d : Nat) (a0 : Nat) (a1 : Int32)  (h : mx_H) : mx_ev xs mx_P (d + 1) 21 [.ref a0, .int a1] h = (if a1 < 0 then mx_ri 1 [.int 0] h else mx_gi h a0 0 1 (fun x1 => if x1 ≤ a1 then mx_ri 1 [.int 0] h else mx_ri 1 [.int 1] h)) :=
  (ev_go pp_X0_hasLeg rfl rfl).trans (rn_X0_hasLeg_0 xs (mx_ev xs mx_P d) 99999 a0 a1 h)
set_option maxRecDepth 100000 in
theorem rn_X0_wear_0 (xs : List Int32) (call : Nat → List Value → mx_H → mx_R) (n : Nat) (a0 : Nat) (a1 : Int32)  (h : mx_H) : mx_rn xs call kk_X0_wear (n + 1) 0 [(0, .ref a0), (1, .int a1)] [] h = (mx_rn xs call kk_X0_wear n 2 [(0, .ref a0), (1, .int a1), (2, .int 0)] [] h) := by rfl
theorem pp_X0_wear : mx_P[28]? = some (yX0_wear, cX0_wear, 4, none, kk_X0_wear) := rfl
set_option maxRecDepth 100000 in
theorem ev_X0_wear (xs : List Int32) (d : Nat) (a0 : Nat) (a1 : Int32)  (h : mx_H) : mx_ev xs mx_P (d + 1) 28 [.ref a0, .int a1] h = (mx_rn xs (mx_ev xs mx_P d) kk_X0_wear 99999 2 [(0, .ref a0), (1, .int a1), (2, .int 0)] [] h) :=
  (ev_go pp_X0_wear rfl rfl).trans (rn_X0_wear_0 xs (mx_ev xs mx_P d) 99999 a0 a1 h)
set_option maxRecDepth 100000 in
theorem rn_X0_wear_2 (xs : List Int32) (call : Nat → List Value → mx_H → mx_R) (n : Nat) (a0 : Nat) (a1 : Int32) (a2 : Int32)  (h : mx_H) : mx_rn xs call kk_X0_wear (n + 1) 2 [(0, .ref a0), (1, .int a1), (2, .int a2)] [] h = (mx_gi h a0 0 1 (fun x1 => if x1 ≤ a2 then mx_rv [] h else mx_gr h a0 0 0 (fun r2 => mx_aa h r2 a2 (fun r3 => if a2 = a1 then mx_gi h r3 1 2 (fun x4 => mx_cl h r3 1 (mx_c1 (call 46 [.ref r3] h) (fun x6 h5 => mx_c1 (call 2 [.int 0, .int (x4 - x6)] h5) (fun x8 h7 => mx_pt h7 r3 1 2 (.int x8) (fun h9 => mx_gi h9 r3 1 4 (fun x10 => mx_cl h9 r3 1 (mx_c1 (call 47 [.ref r3] h9) (fun x12 h11 => mx_c1 (call 3 [.int 99, .int (x10 + x12)] h11) (fun x14 h13 => mx_pt h13 r3 1 4 (.int x14) (fun h15 => mx_rn xs call kk_X0_wear n 2 [(0, .ref a0), (1, .int a1), (2, .int (a2 + 1))] [] h15)))))))))) else mx_gi h r3 1 4 (fun x16 => mx_c1 (call 2 [.int 0, .int (x16 - 2)] h) (fun x18 h17 => mx_pt h17 r3 1 4 (.int x18) (fun h19 => mx_rn xs call kk_X0_wear n 2 [(0, .ref a0), (1, .int a1), (2, .int (a2 + 1))] [] h19))))))) := by rfl
set_option maxRecDepth 100000 in
theorem rn_X1_init_0 (xs : List Int32) (call : Nat → List Value → mx_H → mx_R) (n : Nat) (a0 : Nat)  (h : mx_H) : mx_rn xs call kk_X1_init (n + 1) 0 [(0, .ref a0)] [] h = (mx_rv [] h) := by rfl
theorem pp_X1_init : mx_P[41]? = some (yX1_init, cX1_init, 1, none, kk_X1_init) := rfl
set_option maxRecDepth 100000 in
theorem ev_X1_init (xs : List Int32) (d : Nat) (a0 : Nat)  (h : mx_H) : mx_ev xs mx_P (d + 1) 41 [.ref a0] h = (mx_rv [] h) :=
  (ev_go pp_X1_init rfl rfl).trans (rn_X1_init_0 xs (mx_ev xs mx_P d) 99999 a0 h)
set_option maxRecDepth 100000 in
theorem rn_X1_begin_0 (xs : List Int32) (call : Nat → List Value → mx_H → mx_R) (n : Nat) (a0 : Nat) (a1 : Int32) (a2 : Int32) (a3 : Int32)  (h : mx_H) : mx_rn xs call kk_X1_begin (n + 1) 0 [(0, .ref a0), (1, .int a1), (2, .int a2), (3, .int a3)] [] h = (mx_pt h a0 1 0 (.int a1) (fun h1 => mx_pt h1 a0 1 1 (.int a2) (fun h2 => mx_pt h2 a0 1 2 (.int a3) (fun h3 => mx_pt h3 a0 1 3 (.int 0) (fun h4 => mx_pt h4 a0 1 4 (.int 0) (fun h5 => mx_pt h5 a0 1 5 (.int 0) (fun h6 => mx_rv [] h6))))))) := by rfl
theorem pp_X1_begin : mx_P[42]? = some (yX1_begin, cX1_begin, 4, none, kk_X1_begin) := rfl
set_option maxRecDepth 100000 in
theorem ev_X1_begin (xs : List Int32) (d : Nat) (a0 : Nat) (a1 : Int32) (a2 : Int32) (a3 : Int32)  (h : mx_H) : mx_ev xs mx_P (d + 1) 42 [.ref a0, .int a1, .int a2, .int a3] h = (mx_pt h a0 1 0 (.int a1) (fun h1 => mx_pt h1 a0 1 1 (.int a2) (fun h2 => mx_pt h2 a0 1 2 (.int a3) (fun h3 => mx_pt h3 a0 1 3 (.int 0) (fun h4 => mx_pt h4 a0 1 4 (.int 0) (fun h5 => mx_pt h5 a0 1 5 (.int 0) (fun h6 => mx_rv [] h6))))))) :=
  (ev_go pp_X1_begin rfl rfl).trans (rn_X1_begin_0 xs (mx_ev xs mx_P d) 99999 a0 a1 a2 a3 h)
set_option maxRecDepth 100000 in
theorem rn_X1_takeOver_0 (xs : List Int32) (call : Nat → List Value → mx_H → mx_R) (n : Nat) (a0 : Nat) (a1 : Nat)  (h : mx_H) : mx_rn xs call kk_X1_takeOver (n + 1) 0 [(0, .ref a0), (1, .ref a1)] [] h = (mx_gi h a1 1 0 (fun x1 => mx_pt h a0 1 0 (.int x1) (fun h2 => mx_gi h2 a1 1 1 (fun x3 => mx_pt h2 a0 1 1 (.int x3) (fun h4 => mx_gi h4 a1 1 2 (fun x5 => mx_pt h4 a0 1 2 (.int x5) (fun h6 => mx_gi h6 a1 1 3 (fun x7 => mx_pt h6 a0 1 3 (.int x7) (fun h8 => mx_gi h8 a1 1 4 (fun x9 => mx_pt h8 a0 1 4 (.int x9) (fun h10 => mx_gi h10 a1 1 5 (fun x11 => mx_pt h10 a0 1 5 (.int x11) (fun h12 => mx_rv [] h12))))))))))))) := by rfl
theorem pp_X1_takeOver : mx_P[43]? = some (yX1_takeOver, cX1_takeOver, 2, none, kk_X1_takeOver) := rfl
set_option maxRecDepth 100000 in
theorem ev_X1_takeOver (xs : List Int32) (d : Nat) (a0 : Nat) (a1 : Nat)  (h : mx_H) : mx_ev xs mx_P (d + 1) 43 [.ref a0, .ref a1] h = (mx_gi h a1 1 0 (fun x1 => mx_pt h a0 1 0 (.int x1) (fun h2 => mx_gi h2 a1 1 1 (fun x3 => mx_pt h2 a0 1 1 (.int x3) (fun h4 => mx_gi h4 a1 1 2 (fun x5 => mx_pt h4 a0 1 2 (.int x5) (fun h6 => mx_gi h6 a1 1 3 (fun x7 => mx_pt h6 a0 1 3 (.int x7) (fun h8 => mx_gi h8 a1 1 4 (fun x9 => mx_pt h8 a0 1 4 (.int x9) (fun h10 => mx_gi h10 a1 1 5 (fun x11 => mx_pt h10 a0 1 5 (.int x11) (fun h12 => mx_rv [] h12))))))))))))) :=
  (ev_go pp_X1_takeOver rfl rfl).trans (rn_X1_takeOver_0 xs (mx_ev xs mx_P d) 99999 a0 a1 h)
set_option maxRecDepth 100000 in
theorem rn_X1_isOf_0 (xs : List Int32) (call : Nat → List Value → mx_H → mx_R) (n : Nat) (a0 : Nat) (a1 : Int32)  (h : mx_H) : mx_rn xs call kk_X1_isOf (n + 1) 0 [(0, .ref a0), (1, .int a1)] [] h = (mx_gi h a0 1 0 (fun x1 => mx_rn xs call kk_X1_isOf n 7 [(1, .int a1), (2, .int x1), (3, .int 0)] [] h)) := by rfl
theorem pp_X1_isOf : mx_P[44]? = some (yX1_isOf, cX1_isOf, 4, (some .boolean), kk_X1_isOf) := rfl
set_option maxRecDepth 100000 in
theorem ev_X1_isOf (xs : List Int32) (d : Nat) (a0 : Nat) (a1 : Int32)  (h : mx_H) : mx_ev xs mx_P (d + 1) 44 [.ref a0, .int a1] h = (mx_gi h a0 1 0 (fun x1 => mx_rn xs (mx_ev xs mx_P d) kk_X1_isOf 99999 7 [(1, .int a1), (2, .int x1), (3, .int 0)] [] h)) :=
  (ev_go pp_X1_isOf rfl rfl).trans (rn_X1_isOf_0 xs (mx_ev xs mx_P d) 99999 a0 a1 h)
set_option maxRecDepth 100000 in
theorem rn_X1_isOf_7 (xs : List Int32) (call : Nat → List Value → mx_H → mx_R) (n : Nat) (a1 : Int32) (a2 : Int32) (a3 : Int32)  (h : mx_H) : mx_rn xs call kk_X1_isOf (n + 1) 7 [(1, .int a1), (2, .int a2), (3, .int a3)] [] h = (if 6 ≤ a3 then mx_ri 1 [.int 0] h else if a2 < 0 then mx_ri 1 [.int 0] h else if a2 = a1 then mx_ri 1 [.int 1] h else mx_ck xs 0 200 a2 (fun x1 => mx_rn xs call kk_X1_isOf n 7 [(1, .int a1), (2, .int x1), (3, .int (a3 + 1))] [] h)) := by rfl
set_option maxRecDepth 100000 in
theorem rn_X1_takes_0 (xs : List Int32) (call : Nat → List Value → mx_H → mx_R) (n : Nat) (a0 : Nat) (a1 : Int32)  (h : mx_H) : mx_rn xs call kk_X1_takes (n + 1) 0 [(0, .ref a0), (1, .int a1)] [] h = (mx_c1 (call 3 [.int 99, .int (a1 + 10)] h) (fun x2 h1 => if 2 = 0 then none else mx_gi h1 a0 1 0 (fun x3 => if x3 = 1 then mx_ri 0 [.int x2] h1 else if x3 = 2 then mx_ri 0 [.int (a1 / 2)] h1 else if x3 = 3 then mx_gi h1 a0 1 5 (fun x4 => mx_c1 (call 3 [.int 99, .int (x2 + (2 * x4))] h1) (fun x6 h5 => mx_ri 0 [.int x6] h5)) else if x3 = 4 then mx_c1 (call 2 [.int 30, .int (a1 / 2)] h1) (fun x8 h7 => mx_ri 0 [.int x8] h7) else if x3 = 5 then mx_ri 0 [.int 20] h1 else mx_ri 0 [.int a1] h1))) := by rfl
theorem pp_X1_takes : mx_P[45]? = some (yX1_takes, cX1_takes, 4, (some .int), kk_X1_takes) := rfl
set_option maxRecDepth 100000 in
theorem ev_X1_takes (xs : List Int32) (d : Nat) (a0 : Nat) (a1 : Int32)  (h : mx_H) : mx_ev xs mx_P (d + 1) 45 [.ref a0, .int a1] h = (mx_c1 (mx_ev xs mx_P d 3 [.int 99, .int (a1 + 10)] h) (fun x2 h1 => if 2 = 0 then none else mx_gi h1 a0 1 0 (fun x3 => if x3 = 1 then mx_ri 0 [.int x2] h1 else if x3 = 2 then mx_ri 0 [.int (a1 / 2)] h1 else if x3 = 3 then mx_gi h1 a0 1 5 (fun x4 => mx_c1 (mx_ev xs mx_P d 3 [.int 99, .int (x2 + (2 * x4))] h1) (fun x6 h5 => mx_ri 0 [.int x6] h5)) else if x3 = 4 then mx_c1 (mx_ev xs mx_P d 2 [.int 30, .int (a1 / 2)] h1) (fun x8 h7 => mx_ri 0 [.int x8] h7) else if x3 = 5 then mx_ri 0 [.int 20] h1 else mx_ri 0 [.int a1] h1))) :=
  (ev_go pp_X1_takes rfl rfl).trans (rn_X1_takes_0 xs (mx_ev xs mx_P d) 99999 a0 a1 h)
set_option maxRecDepth 100000 in
theorem rn_X1_loses_0 (xs : List Int32) (call : Nat → List Value → mx_H → mx_R) (n : Nat) (a0 : Nat)  (h : mx_H) : mx_rn xs call kk_X1_loses (n + 1) 0 [(0, .ref a0)] [] h = (mx_gi h a0 1 4 (fun x1 => if 10 = 0 then none else mx_gi h a0 1 0 (fun x2 => if x2 = 1 then mx_ri 0 [.int (5 - 2)] h else if x2 = 2 then mx_ri 0 [.int (5 + (x1 / 10))] h else if x2 = 3 then if 2 = 0 then none else mx_ri 0 [.int ((5 - 2) / 2)] h else if x2 = 4 then mx_ri 0 [.int (2 * (5 + (x1 / 10)))] h else if x2 = 5 then mx_ri 0 [.int 1] h else mx_ri 0 [.int 5] h))) := by rfl
theorem pp_X1_loses : mx_P[46]? = some (yX1_loses, cX1_loses, 4, (some .int), kk_X1_loses) := rfl
set_option maxRecDepth 100000 in
theorem ev_X1_loses (xs : List Int32) (d : Nat) (a0 : Nat)  (h : mx_H) : mx_ev xs mx_P (d + 1) 46 [.ref a0] h = (mx_gi h a0 1 4 (fun x1 => if 10 = 0 then none else mx_gi h a0 1 0 (fun x2 => if x2 = 1 then mx_ri 0 [.int (5 - 2)] h else if x2 = 2 then mx_ri 0 [.int (5 + (x1 / 10))] h else if x2 = 3 then if 2 = 0 then none else mx_ri 0 [.int ((5 - 2) / 2)] h else if x2 = 4 then mx_ri 0 [.int (2 * (5 + (x1 / 10)))] h else if x2 = 5 then mx_ri 0 [.int 1] h else mx_ri 0 [.int 5] h))) :=
  (ev_go pp_X1_loses rfl rfl).trans (rn_X1_loses_0 xs (mx_ev xs mx_P d) 99999 a0 h)
set_option maxRecDepth 100000 in
theorem rn_X1_bags_0 (xs : List Int32) (call : Nat → List Value → mx_H → mx_R) (n : Nat) (a0 : Nat)  (h : mx_H) : mx_rn xs call kk_X1_bags (n + 1) 0 [(0, .ref a0)] [] h = (mx_gi h a0 1 0 (fun x1 => if x1 = 1 then mx_ri 0 [.int (6 - 1)] h else if x1 = 2 then mx_ri 0 [.int (2 * 6)] h else if x1 = 3 then mx_ri 0 [.int (6 - 1)] h else if x1 = 4 then mx_ri 0 [.int ((2 * 6) - 4)] h else if x1 = 5 then mx_ri 0 [.int (6 - 4)] h else mx_ri 0 [.int 6] h)) := by rfl
theorem pp_X1_bags : mx_P[47]? = some (yX1_bags, cX1_bags, 3, (some .int), kk_X1_bags) := rfl
set_option maxRecDepth 100000 in
theorem ev_X1_bags (xs : List Int32) (d : Nat) (a0 : Nat)  (h : mx_H) : mx_ev xs mx_P (d + 1) 47 [.ref a0] h = (mx_gi h a0 1 0 (fun x1 => if x1 = 1 then mx_ri 0 [.int (6 - 1)] h else if x1 = 2 then mx_ri 0 [.int (2 * 6)] h else if x1 = 3 then mx_ri 0 [.int (6 - 1)] h else if x1 = 4 then mx_ri 0 [.int ((2 * 6) - 4)] h else if x1 = 5 then mx_ri 0 [.int (6 - 4)] h else mx_ri 0 [.int 6] h)) :=
  (ev_go pp_X1_bags rfl rfl).trans (rn_X1_bags_0 xs (mx_ev xs mx_P d) 99999 a0 h)
set_option maxRecDepth 100000 in
theorem rn_X1_worth_0 (xs : List Int32) (call : Nat → List Value → mx_H → mx_R) (n : Nat) (a0 : Nat)  (h : mx_H) : mx_rn xs call kk_X1_worth (n + 1) 0 [(0, .ref a0)] [] h = (mx_gi h a0 1 2 (fun x1 => mx_gi h a0 1 3 (fun x2 => mx_c1 (call 2 [.int 0, .int (x1 - x2)] h) (fun x4 h3 => mx_gi h3 a0 1 5 (fun x5 => mx_gi h3 a0 1 4 (fun x6 => mx_gi h3 a0 1 0 (fun x7 => if x7 = 1 then mx_ri 0 [.int (x4 + x5)] h3 else if x7 = 2 then mx_ri 0 [.int (99 - x6)] h3 else if x7 = 3 then mx_ri 0 [.int (2 * (x4 + x5))] h3 else if x7 = 4 then if 2 = 0 then none else mx_ri 0 [.int ((99 - x6) / 2)] h3 else if x7 = 5 then mx_gi h3 a0 1 4 (fun x8 => mx_ri 0 [.int x8] h3) else mx_ri 0 [.int x4] h3))))))) := by rfl
theorem pp_X1_worth : mx_P[48]? = some (yX1_worth, cX1_worth, 4, (some .int), kk_X1_worth) := rfl
set_option maxRecDepth 100000 in
theorem ev_X1_worth (xs : List Int32) (d : Nat) (a0 : Nat)  (h : mx_H) : mx_ev xs mx_P (d + 1) 48 [.ref a0] h = (mx_gi h a0 1 2 (fun x1 => mx_gi h a0 1 3 (fun x2 => mx_c1 (mx_ev xs mx_P d 2 [.int 0, .int (x1 - x2)] h) (fun x4 h3 => mx_gi h3 a0 1 5 (fun x5 => mx_gi h3 a0 1 4 (fun x6 => mx_gi h3 a0 1 0 (fun x7 => if x7 = 1 then mx_ri 0 [.int (x4 + x5)] h3 else if x7 = 2 then mx_ri 0 [.int (99 - x6)] h3 else if x7 = 3 then mx_ri 0 [.int (2 * (x4 + x5))] h3 else if x7 = 4 then if 2 = 0 then none else mx_ri 0 [.int ((99 - x6) / 2)] h3 else if x7 = 5 then mx_gi h3 a0 1 4 (fun x8 => mx_ri 0 [.int x8] h3) else mx_ri 0 [.int x4] h3))))))) :=
  (ev_go pp_X1_worth rfl rfl).trans (rn_X1_worth_0 xs (mx_ev xs mx_P d) 99999 a0 h)
