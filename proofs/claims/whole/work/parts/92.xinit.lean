/-! ===== the class's constructor ===== -/
def rdX (a : Nat) : mx_H := [.inr (2, [.ref (a + 1), .int 0, .int 0, .int 0, .int 0, .ref (a + 2), .int 0, .ref (a + 3), .int 0, .ref (a + 4), .int 0, .int 0, .int 0, .int 0, .int 0]), .inl (0, 0, .inl (fun _ => 0)), .inl (0, 96, .inl (fun _ => 0)), .inl (0, 96, .inl (fun _ => 0)), .inl (1, 9, .inl (fun _ => 0))]
def shX (a : Nat) : mx_H := [.inr (3, [.int (-1), .int 0, .ref (a + 1)]), .inl (0, 24, .inl (fun _ => 0))]
def slX (a : Nat) : mx_H := [.inr (4, [.int 0, .ref (a + 1), .ref (a + 2), .int 0]), .inr (1, mx_df 1), .inr (3, [.int (-1), .int 0, .ref (a + 3)]), .inl (0, 24, .inl (fun _ => 0))]
def gS (i : Nat) : Nat → Option Nat := fun j => if j < i then some (62 + 2 * j) else none
def gT (i : Nat) : Nat → Option Nat := fun j => if j < i then some (70 + 4 * j) else none
def shs : Nat → mx_H
  | 0 => []
  | i + 1 => shs i ++ shX (62 + 2 * i)
def sls : Nat → mx_H
  | 0 => []
  | i + 1 => sls i ++ slX (70 + 4 * i)
def ccX : mx_H := (clX 1 10 ++ clX 18 10) ++ clX 35 10
def lX (gs gt : Nat → Option Nat) : mx_H := [.inl (0, 10, .inl (fun _ => 0)), .inl (0, 96, .inl (fun _ => 0))] ++ (rdX 54 ++ [.inl (4, 4, .inr (.inr (.inr (.inr gs)))), .inl (5, 5, .inr (.inr (.inr (.inr gt)))), .inl (0, 60, .inl (fun _ => 0))])
def oX : va_E := .inr (6, [.ref 1, .ref 18, .ref 35, .int 0, .ref 52, .ref 53, .int 0, .ref 54, .ref 59, .ref 60, .ref 61, .int 0])
section XI
variable {xs : List Int32} {d : Nat}
theorem shs_len : ∀ i, (shs i).length = 2 * i
  | 0 => rfl
  | i + 1 => by
    show (shs i ++ shX (62 + 2 * i)).length = _
    rw [List.length_append, shs_len i]
    show 2 * i + 2 = _
    omega
theorem sls_len : ∀ i, (sls i).length = 4 * i
  | 0 => rfl
  | i + 1 => by
    show (sls i ++ slX (70 + 4 * i)).length = _
    rw [List.length_append, sls_len i]
    show 4 * i + 4 = _
    omega
theorem ccX_len : ccX.length = 51 := by
  unfold ccX
  rw [List.length_append, List.length_append, clX_len, clX_len, clX_len]
theorem lX_len (gs gt : Nat → Option Nat) : (lX gs gt).length = 10 := rfl
theorem gS_0 : gS 0 = fun _ => none := by
  funext j
  unfold gS
  rw [if_neg (by omega)]
theorem gT_0 : gT 0 = fun _ => none := by
  funext j
  unfold gT
  rw [if_neg (by omega)]
theorem gS_s (i : Nat) : va_up (gS i) i (some (62 + 2 * i)) = gS (i + 1) := by
  funext j
  unfold va_up gS
  by_cases e : j = i
  · rw [if_pos e, if_pos (by omega), e]
  · rw [if_neg e]
    by_cases e2 : j < i
    · rw [if_pos e2, if_pos (by omega)]
    · rw [if_neg e2, if_neg (by omega)]
theorem gT_s (i : Nat) : va_up (gT i) i (some (70 + 4 * i)) = gT (i + 1) := by
  funext j
  unfold va_up gT
  by_cases e : j = i
  · rw [if_pos e, if_pos (by omega), e]
  · rw [if_neg e]
    by_cases e2 : j < i
    · rw [if_pos e2, if_pos (by omega)]
    · rw [if_neg e2, if_neg (by omega)]
theorem l_na' (h l l' : mx_H) (a t n : Nat) {y : Int32} {f2 : Nat → mx_H → mx_R} (hy : y = nI n) (hn : Nat.blt n 4000 = true) (ha : a = h.length + l.length) (he : l ++ [.inl (t, n, .inl (fun _ => 0))] = l') : mx_na (h ++ l) t y f2 = f2 a (h ++ l') := by
  rw [l_na h l a t n hy hn ha, he]
theorem l_nw' (h l l' : mx_H) (a ci : Nat) (fs : List Value) {f2 : Nat → mx_H → mx_R} (ha : a = h.length + l.length) (he : l ++ [.inr (ci, fs)] = l') : mx_nw (h ++ l) ci fs f2 = f2 a (h ++ l') := by
  rw [l_nw h l a ci fs ha, he]
theorem sh_init (h : mx_H) {a : Nat} (ha : a = h.length) : mx_ev xs mx_P (d + 1) 71 [.ref a] (h ++ [.inr (3, mx_df 3)]) = some (none, h ++ shX a) := by
  subst ha
  rw [ev_X3_init, l_pt (a := h.length) h [.inr (3, mx_df 3)] [.inr (3, [.int (-1), .int 0, .null])] 0 3 0 (mx_df 3) (.int (-1)) rfl rfl rfl rfl, l_pt (a := h.length) h [.inr (3, [.int (-1), .int 0, .null])] [.inr (3, [.int (-1), .int 0, .null])] 0 3 1 [.int (-1), .int 0, .null] (.int 0) rfl rfl rfl rfl, l_na' (y := 24) h [.inr (3, [.int (-1), .int 0, .null])] [.inr (3, [.int (-1), .int 0, .null]), .inl (0, 24, .inl (fun _ => 0))] (h.length + 1) 0 24 rfl rfl rfl rfl, l_pt (a := h.length) h [.inr (3, [.int (-1), .int 0, .null]), .inl (0, 24, .inl (fun _ => 0))] (shX h.length) 0 3 2 [.int (-1), .int 0, .null] (.ref (h.length + 1)) rfl rfl rfl rfl, rv0]
theorem sl_init (h : mx_H) {a : Nat} (ha : a = h.length) : mx_ev xs mx_P (d + 2) 78 [.ref a] (h ++ [.inr (4, mx_df 4)]) = some (none, h ++ slX a) := by
  subst ha
  have e2 := sh_init (xs := xs) (d := d) (h ++ [.inr (4, [.int 0, .ref (h.length + 1), .null, .int 0]), .inr (1, mx_df 1)]) (a := h.length + 2) (by rw [List.length_append]; rfl)
  rw [List.append_assoc, List.append_assoc] at e2
  have e2' : mx_ev xs mx_P (d + 1) 71 [.ref (h.length + 2)] (h ++ [.inr (4, [.int 0, .ref (h.length + 1), .null, .int 0]), .inr (1, mx_df 1), .inr (3, mx_df 3)]) = some (none, h ++ (.inr (4, [.int 0, .ref (h.length + 1), .null, .int 0]) :: .inr (1, mx_df 1) :: shX (h.length + 2))) := e2
  rw [ev_X4_init, l_pt (a := h.length) h [.inr (4, mx_df 4)] [.inr (4, mx_df 4)] 0 4 0 (mx_df 4) (.int 0) rfl rfl rfl rfl, l_nw' h [.inr (4, mx_df 4)] [.inr (4, mx_df 4), .inr (1, mx_df 1)] (h.length + 1) 1 (mx_df 1) rfl rfl, ev_X1_init, rv0, c0s, l_pt (a := h.length) h [.inr (4, mx_df 4), .inr (1, mx_df 1)] [.inr (4, [.int 0, .ref (h.length + 1), .null, .int 0]), .inr (1, mx_df 1)] 0 4 1 (mx_df 4) (.ref (h.length + 1)) rfl rfl rfl rfl, l_nw' h [.inr (4, [.int 0, .ref (h.length + 1), .null, .int 0]), .inr (1, mx_df 1)] [.inr (4, [.int 0, .ref (h.length + 1), .null, .int 0]), .inr (1, mx_df 1), .inr (3, mx_df 3)] (h.length + 2) 3 (mx_df 3) rfl rfl, e2', c0s, l_pt (a := h.length) h (.inr (4, [.int 0, .ref (h.length + 1), .null, .int 0]) :: .inr (1, mx_df 1) :: shX (h.length + 2)) (slX h.length) 0 4 2 [.int 0, .ref (h.length + 1), .null, .int 0] (.ref (h.length + 2)) rfl rfl rfl rfl, l_pt (a := h.length) h (slX h.length) (slX h.length) 0 4 3 [.int 0, .ref (h.length + 1), .ref (h.length + 2), .int 0] (.int 0) rfl rfl rfl rfl, rv0]
theorem rd_init (h : mx_H) {a : Nat} (ha : a = h.length) : mx_ev xs mx_P (d + 1) 49 [.ref a] (h ++ [.inr (2, mx_df 2)]) = some (none, h ++ rdX a) := by
  subst ha
  rw [ev_X2_init, l_na' (y := 0) h [.inr (2, mx_df 2)] [.inr (2, mx_df 2), .inl (0, 0, .inl (fun _ => 0))] (h.length + 1) 0 0 rfl rfl rfl rfl, l_pt (a := h.length) h [.inr (2, mx_df 2), .inl (0, 0, .inl (fun _ => 0))] [.inr (2, (mx_df 2).set 0 (.ref (h.length + 1))), .inl (0, 0, .inl (fun _ => 0))] 0 2 0 (mx_df 2) (.ref (h.length + 1)) rfl rfl rfl rfl, l_na' (y := 96) h [.inr (2, (mx_df 2).set 0 (.ref (h.length + 1))), .inl (0, 0, .inl (fun _ => 0))] [.inr (2, (mx_df 2).set 0 (.ref (h.length + 1))), .inl (0, 0, .inl (fun _ => 0)), .inl (0, 96, .inl (fun _ => 0))] (h.length + 2) 0 96 rfl rfl rfl rfl, l_pt (a := h.length) h [.inr (2, (mx_df 2).set 0 (.ref (h.length + 1))), .inl (0, 0, .inl (fun _ => 0)), .inl (0, 96, .inl (fun _ => 0))] [.inr (2, ((mx_df 2).set 0 (.ref (h.length + 1))).set 5 (.ref (h.length + 2))), .inl (0, 0, .inl (fun _ => 0)), .inl (0, 96, .inl (fun _ => 0))] 0 2 5 ((mx_df 2).set 0 (.ref (h.length + 1))) (.ref (h.length + 2)) rfl rfl rfl rfl, l_na' (y := 96) h [.inr (2, ((mx_df 2).set 0 (.ref (h.length + 1))).set 5 (.ref (h.length + 2))), .inl (0, 0, .inl (fun _ => 0)), .inl (0, 96, .inl (fun _ => 0))] [.inr (2, ((mx_df 2).set 0 (.ref (h.length + 1))).set 5 (.ref (h.length + 2))), .inl (0, 0, .inl (fun _ => 0)), .inl (0, 96, .inl (fun _ => 0)), .inl (0, 96, .inl (fun _ => 0))] (h.length + 3) 0 96 rfl rfl rfl rfl, l_pt (a := h.length) h [.inr (2, ((mx_df 2).set 0 (.ref (h.length + 1))).set 5 (.ref (h.length + 2))), .inl (0, 0, .inl (fun _ => 0)), .inl (0, 96, .inl (fun _ => 0)), .inl (0, 96, .inl (fun _ => 0))] [.inr (2, (((mx_df 2).set 0 (.ref (h.length + 1))).set 5 (.ref (h.length + 2))).set 7 (.ref (h.length + 3))), .inl (0, 0, .inl (fun _ => 0)), .inl (0, 96, .inl (fun _ => 0)), .inl (0, 96, .inl (fun _ => 0))] 0 2 7 (((mx_df 2).set 0 (.ref (h.length + 1))).set 5 (.ref (h.length + 2))) (.ref (h.length + 3)) rfl rfl rfl rfl, l_na' (y := 9) h [.inr (2, (((mx_df 2).set 0 (.ref (h.length + 1))).set 5 (.ref (h.length + 2))).set 7 (.ref (h.length + 3))), .inl (0, 0, .inl (fun _ => 0)), .inl (0, 96, .inl (fun _ => 0)), .inl (0, 96, .inl (fun _ => 0))] [.inr (2, (((mx_df 2).set 0 (.ref (h.length + 1))).set 5 (.ref (h.length + 2))).set 7 (.ref (h.length + 3))), .inl (0, 0, .inl (fun _ => 0)), .inl (0, 96, .inl (fun _ => 0)), .inl (0, 96, .inl (fun _ => 0)), .inl (1, 9, .inl (fun _ => 0))] (h.length + 4) 1 9 rfl rfl rfl rfl, l_pt (a := h.length) h [.inr (2, (((mx_df 2).set 0 (.ref (h.length + 1))).set 5 (.ref (h.length + 2))).set 7 (.ref (h.length + 3))), .inl (0, 0, .inl (fun _ => 0)), .inl (0, 96, .inl (fun _ => 0)), .inl (0, 96, .inl (fun _ => 0)), .inl (1, 9, .inl (fun _ => 0))] (rdX h.length) 0 2 9 ((((mx_df 2).set 0 (.ref (h.length + 1))).set 5 (.ref (h.length + 2))).set 7 (.ref (h.length + 3))) (.ref (h.length + 4)) rfl rfl rfl rfl, rv0]
theorem o_pt {T : mx_H} {k : Nat} {fs : List Value} {v : Value} {f : mx_H → mx_R} (hk : Nat.blt k fs.length = true) : mx_pt (.inr (6, fs) :: T) 0 6 k v f = f (.inr (6, fs.set k v) :: T) := by
  unfold mx_pt
  show (if 6 = 6 ∧ k < fs.length then f _ else none) = _
  rw [if_pos ⟨rfl, Nat.blt_eq.mp hk⟩]
  rfl
theorem o_pz {T : mx_H} {k : Nat} {fs : List Value} {f : mx_H → mx_R} (hk : Nat.blt k fs.length = true) : mx_pz (.inr (6, fs) :: T) 0 6 k 0 f = f (.inr (6, fs.set k (.int 0)) :: T) := by
  unfold mx_pz
  rw [if_pos (Or.inl rfl), o_pt hk]
theorem o_gr {T : mx_H} {k r : Nat} {fs : List Value} {f : Nat → mx_R} (hk : fs[k]? = some (.ref r)) : mx_gr (.inr (6, fs) :: T) 0 6 k f = f r := by
  unfold mx_gr
  show (match fs[k]? with | some (.ref x) => f x | _ => none) = _
  rw [hk]
theorem g_nw {H : mx_H} {a ci : Nat} {fs : List Value} {f : Nat → mx_H → mx_R} (ha : H.length = a) : mx_nw H ci fs f = f a (H ++ [.inr (ci, fs)]) := by
  subst ha
  rfl
theorem g_na {H : mx_H} {a t n : Nat} {y : Int32} {f : Nat → mx_H → mx_R} (hy : y = nI n) (hn : Nat.blt n 4000 = true) (ha : H.length = a) : mx_na H t y f = f a (H ++ [.inl (t, n, .inl (fun _ => 0))]) := by
  have := l_na (t := t) (f2 := f) H [] a n hy hn (by rw [List.length_nil]; omega)
  rw [List.append_nil] at this
  exact this
theorem g_nq {H : mx_H} {a t n : Nat} {y : Int32} {f : Nat → mx_H → mx_R} (hy : y = nI n) (hn : Nat.blt n 4000 = true) (ha : H.length = a) : mx_nq H t y f = f a (H ++ [.inl (t, n, .inr (.inr (.inr (.inr (fun _ => none)))))]) := by
  have := l_nq (t := t) (f2 := f) H [] a n hy hn (by rw [List.length_nil]; omega)
  rw [List.append_nil] at this
  exact this
end XI
