/-! ===== cells only come ===== -/
def mx_mo (h : mx_H) (r : mx_R) : Prop := ∀ (v : Option Value) (h' : mx_H), r = some (v, h') → h.length ≤ h'.length ∧ mx_sz h ≤ mx_sz h'
section MXM
variable {h : mx_H}
theorem mo_none : mx_mo h none := fun _ _ e => by cases e
theorem mo_self {v : Option Value} : mx_mo h (some (v, h)) := fun _ _ e => by cases e; exact ⟨Nat.le_refl _, Nat.le_refl _⟩
theorem mo_tr {g : mx_H} {r : mx_R} (h1 : h.length ≤ g.length) (h2 : mx_sz h ≤ mx_sz g) (hm : mx_mo g r) : mx_mo h r := fun v h' e => ⟨Nat.le_trans h1 (hm v h' e).1, Nat.le_trans h2 (hm v h' e).2⟩
theorem mo_ite {c : Prop} [Decidable c] {a b : mx_R} (ha : mx_mo h a) (hb : mx_mo h b) : mx_mo h (if c then a else b) := by split <;> assumption
theorem mo_bif {c : Bool} {a b : mx_R} (ha : mx_mo h a) (hb : mx_mo h b) : mx_mo h (bif c then a else b) := by cases c <;> assumption
theorem mo_li {ls : mx_L} {i : Nat} {f : Int32 → mx_R} (hf : ∀ x, mx_mo h (f x)) : mx_mo h (mx_li ls i f) := by unfold mx_li; split <;> first | exact hf _ | exact mo_none
theorem mo_la {ls : mx_L} {i : Nat} {f : Value → mx_R} (hf : ∀ x, mx_mo h (f x)) : mx_mo h (mx_la ls i f) := by unfold mx_la; split <;> first | exact hf _ | exact mo_none
theorem mo_s1 {st : List Value} {f : Int32 → List Value → mx_R} (hf : ∀ x r, mx_mo h (f x r)) : mx_mo h (mx_s1 st f) := by unfold mx_s1; split <;> first | exact hf _ _ | exact mo_none
theorem mo_s2 {st : List Value} {f : Int32 → Int32 → List Value → mx_R} (hf : ∀ x y r, mx_mo h (f x y r)) : mx_mo h (mx_s2 st f) := by unfold mx_s2; split <;> first | exact hf _ _ _ | exact mo_none
theorem mo_sa {st : List Value} {f : Value → List Value → mx_R} (hf : ∀ x r, mx_mo h (f x r)) : mx_mo h (mx_sa st f) := by unfold mx_sa; split <;> first | exact hf _ _ | exact mo_none
theorem mo_sr {st : List Value} {f : Nat → List Value → mx_R} (hf : ∀ x r, mx_mo h (f x r)) : mx_mo h (mx_sr st f) := by unfold mx_sr; split <;> first | exact hf _ _ | exact mo_none
theorem mo_sn {st : List Value} {f g : List Value → mx_R} (hf : ∀ r, mx_mo h (f r)) (hg : ∀ r, mx_mo h (g r)) : mx_mo h (mx_sn st f g) := by unfold mx_sn; split <;> first | exact hf _ | exact hg _ | exact mo_none
theorem mo_d1 {st : List Value} {f : Value → List Value → mx_R} (hf : ∀ x r, mx_mo h (f x r)) : mx_mo h (mx_d1 st f) := by unfold mx_d1; split <;> first | exact hf _ _ | exact mo_none
theorem mo_d2 {st : List Value} {f : Value → Value → List Value → mx_R} (hf : ∀ x y r, mx_mo h (f x y r)) : mx_mo h (mx_d2 st f) := by unfold mx_d2; split <;> first | exact hf _ _ _ | exact mo_none
theorem mo_ir {st : List Value} {f : Int32 → Nat → List Value → mx_R} (hf : ∀ x y r, mx_mo h (f x y r)) : mx_mo h (mx_ir st f) := by unfold mx_ir; split <;> first | exact hf _ _ _ | exact mo_none
theorem mo_rr {st : List Value} {f : Nat → Nat → List Value → mx_R} (hf : ∀ x y r, mx_mo h (f x y r)) : mx_mo h (mx_rr st f) := by unfold mx_rr; split <;> first | exact hf _ _ _ | exact mo_none
theorem mo_iir {st : List Value} {f : Int32 → Int32 → Nat → List Value → mx_R} (hf : ∀ x i y r, mx_mo h (f x i y r)) : mx_mo h (mx_iir st f) := by unfold mx_iir; split <;> first | exact hf _ _ _ _ | exact mo_none
theorem mo_rir {st : List Value} {f : Nat → Int32 → Nat → List Value → mx_R} (hf : ∀ x i y r, mx_mo h (f x i y r)) : mx_mo h (mx_rir st f) := by unfold mx_rir; split <;> first | exact hf _ _ _ _ | exact mo_none
theorem mo_cps {st : List Value} {f : Int32 → Int32 → Nat → Int32 → Nat → List Value → mx_R} (hf : ∀ n dp d sp s r, mx_mo h (f n dp d sp s r)) : mx_mo h (mx_cps st f) := by unfold mx_cps; split <;> first | exact hf _ _ _ _ _ _ | exact mo_none
theorem mo_gi {r ci k : Nat} {f : Int32 → mx_R} (hf : ∀ x, mx_mo h (f x)) : mx_mo h (mx_gi h r ci k f) := by
  unfold mx_gi; split
  · split
    · split <;> first | exact hf _ | exact mo_none
    · exact mo_none
  · exact mo_none
theorem mo_gr {r ci k : Nat} {f : Nat → mx_R} (hf : ∀ x, mx_mo h (f x)) : mx_mo h (mx_gr h r ci k f) := by
  unfold mx_gr; split
  · split
    · split <;> first | exact hf _ | exact mo_none
    · exact mo_none
  · exact mo_none
theorem mo_set {r : Nat} {e e' : va_E} {x : mx_R} (he : h[r]? = some e) (hs : mx_se e' = mx_se e) (hm : mx_mo (h.set r e') x) : mx_mo h x :=
  mo_tr (by rw [List.length_set]; exact Nat.le_refl _) (by rw [mx_sz_set he hs]; exact Nat.le_refl _) hm
theorem mo_pt {r ci k : Nat} {v : Value} {f : mx_H → mx_R} (hf : ∀ g, mx_mo g (f g)) : mx_mo h (mx_pt h r ci k v f) := by
  unfold mx_pt; split
  · rename_i he
    split
    · exact mo_set he (by simp [mx_se]) (hf _)
    · exact mo_none
  · exact mo_none
theorem mo_pz {r ci k : Nat} {v : Int32} {f : mx_H → mx_R} (hf : ∀ g, mx_mo g (f g)) : mx_mo h (mx_pz h r ci k v f) := by
  unfold mx_pz; split
  · exact mo_pt hf
  · exact mo_none
theorem mo_ai {r t : Nat} {i : Int32} {f : Int32 → mx_R} (hf : ∀ x, mx_mo h (f x)) : mx_mo h (mx_ai h r t i f) := by
  unfold mx_ai; split
  · split <;> first | exact hf _ | exact mo_none
  · exact mo_none
theorem mo_as {r t : Nat} {i x : Int32} {f : mx_H → mx_R} (hf : ∀ g, mx_mo g (f g)) : mx_mo h (mx_as h r t i x f) := by
  unfold mx_as; split
  · rename_i he
    split
    · exact mo_set he (by simp [mx_se]) (hf _)
    · exact mo_none
  · exact mo_none
theorem mo_aa {r : Nat} {i : Int32} {f : Nat → mx_R} (hf : ∀ x, mx_mo h (f x)) : mx_mo h (mx_aa h r i f) := by
  unfold mx_aa; split
  · split
    · split <;> first | exact hf _ | exact mo_none
    · exact mo_none
  · exact mo_none
theorem mo_at {r : Nat} {i : Int32} {v : Nat} {f : mx_H → mx_R} (hf : ∀ g, mx_mo g (f g)) : mx_mo h (mx_at h r i v f) := by
  unfold mx_at; split
  · rename_i he _
    split
    · exact mo_set he (by simp [mx_se]) (hf _)
    · exact mo_none
  · exact mo_none
theorem mo_al {r : Nat} {f : Int32 → mx_R} (hf : ∀ x, mx_mo h (f x)) : mx_mo h (mx_al h r f) := by
  unfold mx_al; split
  · exact mo_ite (hf _) mo_none
  · exact mo_none
theorem mo_psh {e : va_E} {x : mx_R} (hm : mx_mo (h ++ [e]) x) : mx_mo h x := mo_tr (by simp) (by rw [mx_sz_push]; exact Nat.le_add_right _ _) hm
theorem mo_nw {ci : Nat} {fs : List Value} {f : Nat → mx_H → mx_R} (hf : ∀ r g, mx_mo g (f r g)) : mx_mo h (mx_nw h ci fs f) := mo_psh (hf _ _)
theorem mo_na {t : Nat} {n : Int32} {f : Nat → mx_H → mx_R} (hf : ∀ r g, mx_mo g (f r g)) : mx_mo h (mx_na h t n f) := by
  unfold mx_na; split
  · exact mo_psh (hf _ _)
  · exact mo_none
theorem mo_nq {t : Nat} {n : Int32} {f : Nat → mx_H → mx_R} (hf : ∀ r g, mx_mo g (f r g)) : mx_mo h (mx_nq h t n f) := by
  unfold mx_nq; split
  · exact mo_psh (hf _ _)
  · exact mo_none
theorem mo_cp {s d : Nat} {sp dp n : Int32} {f : mx_H → mx_R} (hf : ∀ g, mx_mo g (f g)) : mx_mo h (mx_cp h s sp d dp n f) := by
  unfold mx_cp; split
  · rename_i he
    split
    · exact mo_set he (by simp [mx_se]) (hf _)
    · exact mo_none
  · exact mo_none
theorem mo_gf {st : List Value} {a b w : Nat} {f : List Value → mx_R} (hf : ∀ x, mx_mo h (f x)) : mx_mo h (mx_gf h st a b w f) := by
  unfold mx_gf; split
  · exact mo_sr fun _ _ => mo_gi fun _ => hf _
  · exact mo_sr fun _ _ => mo_gr fun _ => hf _
  · split
    · exact mo_bif (hf _) mo_none
    · exact mo_none
  · split
    · exact mo_bif (hf _) mo_none
    · exact mo_none
theorem mo_ck {xs : List Int32} {t r : Nat} {i : Int32} {f : Int32 → mx_R} (hf : ∀ x, mx_mo h (f x)) : mx_mo h (mx_ck xs t r i f) := by
  unfold mx_ck; split
  · exact mo_ite (hf _) mo_none
  · exact mo_none
theorem mo_cn {xs : List Int32} {r : Nat} {f : Int32 → mx_R} (hf : ∀ x, mx_mo h (f x)) : mx_mo h (mx_cn xs r f) := by
  unfold mx_cn; split
  · exact hf _
  · exact mo_none
theorem mo_bl {xs : List Int32} {t t2 : Nat} {st : List Value} {f : List Value → mx_R} (hf : ∀ x, mx_mo h (f x)) : mx_mo h (mx_bl xs t t2 h st f) := by
  unfold mx_bl; split
  · exact mo_ai fun _ => hf _
  · exact mo_ck fun _ => hf _
  · exact mo_none
theorem mo_ln {xs : List Int32} {st : List Value} {f : List Value → mx_R} (hf : ∀ x, mx_mo h (f x)) : mx_mo h (mx_ln xs h st f) := by
  unfold mx_ln; split
  · exact mo_al fun _ => hf _
  · exact mo_cn fun _ => hf _
  · exact mo_none
theorem mo_on {r : mx_R} {v : Option Value} {g : mx_H} {x : mx_R} (hr : mx_mo h r) (e : r = some (v, g)) (hm : mx_mo g x) : mx_mo h x := mo_tr (hr v g e).1 (hr v g e).2 hm
theorem mo_bk {w : Nat} {r : mx_R} {rest : List Value} {f : List Value → mx_H → mx_R} (hr : mx_mo h r) (hf : ∀ x g, mx_mo g (f x g)) : mx_mo h (mx_bk w r rest f) := by
  unfold mx_bk; split
  · unfold mx_c0; split
    · exact mo_on hr rfl (hf _ _)
    · exact mo_none
  · unfold mx_c1; split
    · exact mo_on hr rfl (hf _ _)
    · exact mo_none
  · unfold mx_c2; split
    · exact mo_on hr rfl (hf _ _)
    · exact mo_none
  · unfold mx_c3; split
    · exact mo_on hr rfl (hf _ _)
    · exact mo_on hr rfl (hf _ _)
    · exact mo_none
  · unfold mx_c4; split
    · exact mo_on hr rfl (hf _ _)
    · exact mo_none
theorem mo_cl {r ci : Nat} {x : mx_R} (hx : mx_mo h x) : mx_mo h (mx_cl h r ci x) := by
  unfold mx_cl; split
  · exact mo_ite hx mo_none
  · exact mo_none
theorem mo_iv {st : List Value} {n ci : Nat} {f : List Value → List Value → mx_R} (hf : ∀ x r, mx_mo h (f x r)) : mx_mo h (mx_iv h st n ci f) := by
  unfold mx_iv; split
  · exact mo_bif (mo_cl (hf _ _)) mo_none
  · exact mo_bif (hf _ _) mo_none
  · exact mo_none
theorem mo_is {st : List Value} {n : Nat} {f : List Value → List Value → mx_R} (hf : ∀ x r, mx_mo h (f x r)) : mx_mo h (mx_is st n f) := by
  unfold mx_is; split
  · exact mo_bif (hf _ _) mo_none
  · exact mo_none
theorem mo_ss {st : List Value} {n : Nat} {f : List Value → List Value → mx_R} (hf : ∀ x r, mx_mo h (f x r)) : mx_mo h (mx_ss st n f) := mo_bif (hf _ _) mo_none
theorem mo_ri {u : Nat} {st : List Value} : mx_mo h (mx_ri u st h) := by
  unfold mx_ri; split
  · split
    · exact mo_self
    · exact mo_ite mo_self mo_none
    · exact mo_ite mo_self mo_none
    · exact mo_ite mo_self mo_none
  · exact mo_none
theorem mo_ra {st : List Value} : mx_mo h (mx_ra st h) := by unfold mx_ra; split <;> first | exact mo_self | exact mo_none
theorem mo_rv {st : List Value} : mx_mo h (mx_rv st h) := by unfold mx_rv; split <;> first | exact mo_self | exact mo_none
theorem mo_sw {x : Int32} {f : Nat → mx_R} {d : mx_R} (hf : ∀ t, mx_mo h (f t)) (hd : mx_mo h d) : ∀ cs : List (Int32 × Nat), mx_mo h (mx_sw cs x f d)
  | [] => hd
  | (_, _) :: cs => mo_ite (hf _) (mo_sw hf hd cs)
theorem mo_ic {cd : Jvm.ClassFile.Cond} {x y : Int32} {a b : mx_R} (ha : mx_mo h a) (hb : mx_mo h b) : mx_mo h (mx_ic cd x y a b) := by
  unfold mx_ic; split <;> first | exact mo_ite ha hb | exact mo_ite hb ha
end MXM
set_option maxHeartbeats 4000000 in
theorem mo_fw {xs : List Int32} {call : Nat → List Value → mx_H → mx_R} {c : List mx_I} {ct : Nat → mx_L → List Value → mx_H → mx_R} (hc : ∀ j as h, mx_mo h (call j as h)) (ht : ∀ pc ls st h, mx_mo h (ct pc ls st h)) : ∀ (k : Nat) (fi : Bool) (pc : Nat) (ls : mx_L) (st : List Value) (h : mx_H), mx_mo h (mx_fw xs call c ct fi k pc ls st h)
  | 0, _, _, _, _, _ => by unfold mx_fw; exact mo_none
  | k + 1, fi, pc, ls, st, h => by
    have ih := mo_fw (xs := xs) (c := c) hc ht k
    unfold mx_fw
    split
    · exact mo_none
    · refine mo_bif (ht _ _ _ _) ?_
      split
      all_goals first
        | exact mo_none
        | exact ih _ _ _ _ _
        | exact mo_bif (ih _ _ _ _ _) (ih _ _ _ _ _)
        | exact mo_li fun _ => ih _ _ _ _ _
        | exact mo_la fun _ => ih _ _ _ _ _
        | exact mo_s1 fun _ _ => ih _ _ _ _ _
        | exact mo_sa fun _ _ => ih _ _ _ _ _
        | exact mo_s2 fun _ _ _ => ih _ _ _ _ _
        | exact mo_s2 fun _ _ _ => mo_ite mo_none (ih _ _ _ _ _)
        | exact mo_d1 fun _ _ => ih _ _ _ _ _
        | exact mo_d2 fun _ _ _ => ih _ _ _ _ _
        | exact mo_s2 fun _ _ _ => mo_ic (ih _ _ _ _ _) (ih _ _ _ _ _)
        | exact mo_s1 fun _ _ => mo_ic (ih _ _ _ _ _) (ih _ _ _ _ _)
        | exact mo_sn (fun _ => ih _ _ _ _ _) (fun _ => ih _ _ _ _ _)
        | exact mo_gf fun _ => ih _ _ _ _ _
        | exact mo_bif (mo_ir fun _ _ _ => mo_pt fun _ => ih _ _ _ _ _) (mo_bif (mo_rr fun _ _ _ => mo_pt fun _ => ih _ _ _ _ _) (mo_ir fun _ _ _ => mo_pz fun _ => ih _ _ _ _ _))
        | exact mo_ir fun _ _ _ => mo_ai fun _ => ih _ _ _ _ _
        | exact mo_bl fun _ => ih _ _ _ _ _
        | exact mo_iir fun _ _ _ _ => mo_as fun _ => ih _ _ _ _ _
        | exact mo_ir fun _ _ _ => mo_aa fun _ => ih _ _ _ _ _
        | exact mo_rir fun _ _ _ _ => mo_at fun _ => ih _ _ _ _ _
        | exact mo_ln fun _ => ih _ _ _ _ _
        | exact mo_nw fun _ _ => ih _ _ _ _ _
        | exact mo_s1 fun _ _ => mo_na fun _ _ => ih _ _ _ _ _
        | exact mo_s1 fun _ _ => mo_nq fun _ _ => ih _ _ _ _ _
        | exact mo_iv fun _ _ => mo_bk (hc _ _ _) fun _ _ => ih _ _ _ _ _
        | exact mo_bif (mo_cps fun _ _ _ _ _ _ => mo_bif (mo_cp fun _ => ih _ _ _ _ _) mo_none) (mo_ss fun _ _ => mo_bk (hc _ _ _) fun _ _ => ih _ _ _ _ _)
        | exact mo_bif (mo_sr fun _ _ => mo_bif (ih _ _ _ _ _) mo_none) (mo_is fun _ _ => mo_bk (hc _ _ _) fun _ _ => ih _ _ _ _ _)
        | exact mo_ri
        | exact mo_ra
        | exact mo_rv
        | exact mo_s1 fun _ _ => mo_sw (fun _ => ih _ _ _ _ _) (ih _ _ _ _ _) _
theorem mo_rn {xs : List Int32} {call : Nat → List Value → mx_H → mx_R} {c : List mx_I} (hc : ∀ j as h, mx_mo h (call j as h)) : ∀ (n pc : Nat) (ls : mx_L) (st : List Value) (h : mx_H), mx_mo h (mx_rn xs call c n pc ls st h)
  | 0, _, _, _, _ => by unfold mx_rn; exact mo_none
  | n + 1, pc, ls, st, h => by unfold mx_rn; exact mo_fw hc (mo_rn hc n) _ _ _ _ _ _
theorem mo_ev {xs : List Int32} {P : List mx_M} : ∀ (d j : Nat) (as : List Value) (h : mx_H), mx_mo h (mx_ev xs P d j as h)
  | 0, _, _, _ => by unfold mx_ev; exact mo_none
  | d + 1, j, as, h => by
    unfold mx_ev
    split
    · exact mo_bif (mo_rn (mo_ev d) _ _ _ _ _) mo_none
    · exact mo_none
