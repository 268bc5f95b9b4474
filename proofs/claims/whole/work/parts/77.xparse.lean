/-! ===== the class's parser: its piles ===== -/
def q_pb (s : Nat) : Nat := if s = 20001 then 124 else if s = 20002 then 38 else if s = 20003 then 60 else if s = 20004 then 61 else if s = 20005 then 62 else if s = 20006 then 43 else if s = 20007 then 45 else if s = 20008 then 42 else if s = 20009 then 47 else if s = 20010 then 33 else 40
def q_pbI (s : Nat) : Int32 := nI (q_pb s)
/-- a pile's cells, the top first -/
def q_PR (s : Nat → Int32) (f : Nat → Int32) : List Nat → Prop
  | [] => True
  | c :: r => s r.length = f c ∧ q_PR s f r
theorem q_PR_m {s s' : Nat → Int32} {f : Nat → Int32} : ∀ {l : List Nat}, q_PR s f l → (∀ i, i < l.length → s' i = s i) → q_PR s' f l
  | [], _, _ => trivial
  | c :: r, h, e => ⟨by rw [e _ (by rw [List.length_cons]; omega)]; exact h.1, q_PR_m h.2 (fun i hi => e i (by rw [List.length_cons]; omega))⟩
theorem q_PR_i {s : Nat → Int32} {f : Nat → Int32} {c : Nat} {l : List Nat} {σ : Nat → Nat → Int32} {a : Nat} (hs : s = σ a) (h : q_PR s f l) : q_PR (en_up σ a l.length (f c) a) f (c :: l) :=
  ⟨en_up_s, q_PR_m h (fun i hi => by rw [en_up_k (by omega), hs])⟩
theorem q_PR_g {s : Nat → Int32} {f : Nat → Int32} : ∀ {l : List Nat}, q_PR s f l → ∀ k c, l.reverse[k]? = some c → s k = f c
  | [], _, k, c, e => by simp at e
  | x :: r, h, k, c, e => by
    rw [List.reverse_cons] at e
    by_cases hk : k < r.length
    · rw [List.getElem?_append_left (by rw [List.length_reverse]; exact hk)] at e
      exact q_PR_g h.2 k c e
    · rw [List.getElem?_append_right (by rw [List.length_reverse]; omega), List.length_reverse] at e
      by_cases h0 : k = r.length
      · subst h0
        rw [Nat.sub_self] at e
        cases e
        exact h.1
      · obtain ⟨m, hm⟩ : ∃ m, k - r.length = m + 1 := ⟨k - r.length - 1, by omega⟩
        rw [hm] at e
        cases e
def q_sf (x : Int32) : Int32 := if x = 38 then 2 else if x = 42 then 5 else if x = 43 then 4 else if x = 45 then 4 else if x = 47 then 5 else if x = 60 then 3 else if x = 61 then 3 else if x = 62 then 3 else if x = 124 then 1 else 0
theorem q_sf_b : ∀ b, b < 256 → q_sf (nI b) = if q_sg b = 0 then 0 else nI (q_str (q_sg b)) := by decide +kernel
theorem q_pb_sg {s : Nat} (h : 20001 ≤ s ∧ s ≤ 20009) : q_sg (q_pb s) = s ∧ q_pb s < 256 ∧ -(nI (q_pb s)) = q_ec s := by
  obtain ⟨h1, h2⟩ := h
  rcases (show s = 20001 ∨ s = 20002 ∨ s = 20003 ∨ s = 20004 ∨ s = 20005 ∨ s = 20006 ∨ s = 20007 ∨ s = 20008 ∨ s = 20009 by omega) with rfl | rfl | rfl | rfl | rfl | rfl | rfl | rfl | rfl <;> decide
theorem q_sg_pb {b : Nat} (h : q_sg b ≠ 0) : q_pb (q_sg b) = b := by
  unfold q_sg at h ⊢
  by_cases c1 : b = 124
  · subst c1; rfl
  by_cases c2 : b = 38
  · subst c2; rfl
  by_cases c3 : b = 60
  · subst c3; rfl
  by_cases c4 : b = 61
  · subst c4; rfl
  by_cases c5 : b = 62
  · subst c5; rfl
  by_cases c6 : b = 43
  · subst c6; rfl
  by_cases c7 : b = 45
  · subst c7; rfl
  by_cases c8 : b = 42
  · subst c8; rfl
  by_cases c9 : b = 47
  · subst c9; rfl
  rw [if_neg c1, if_neg c2, if_neg c3, if_neg c4, if_neg c5, if_neg c6, if_neg c7, if_neg c8, if_neg c9] at h
  exact absurd rfl h
def XU (σ0 σ : Nat → Nat → Int32) (st cd : List Nat) : Prop := (σ 54 6 = nI cd.length) ∧ (σ 54 8 = nI st.length) ∧ (q_PR (σ 57) q_pbI st) ∧ (q_PR (σ 56) q_ec cd) ∧ (σ 54 11 = nI (q_cn 20010 st)) ∧ (∀ k, k ≠ 6 → k ≠ 8 → k ≠ 11 → σ 54 k = σ0 54 k) ∧ (∀ b, b ≠ 54 → b ≠ 56 → b ≠ 57 → σ b = σ0 b)
theorem XU.sc {σ0 σ : Nat → Nat → Int32} {st cd : List Nat} (h : XU σ0 σ st cd) : σ 54 6 = nI cd.length := h.1
theorem XU.ph {σ0 σ : Nat → Nat → Int32} {st cd : List Nat} (h : XU σ0 σ st cd) : σ 54 8 = nI st.length := h.2.1
theorem XU.st {σ0 σ : Nat → Nat → Int32} {st cd : List Nat} (h : XU σ0 σ st cd) : q_PR (σ 57) q_pbI st := h.2.2.1
theorem XU.cd {σ0 σ : Nat → Nat → Int32} {st cd : List Nat} (h : XU σ0 σ st cd) : q_PR (σ 56) q_ec cd := h.2.2.2.1
theorem XU.nt {σ0 σ : Nat → Nat → Int32} {st cd : List Nat} (h : XU σ0 σ st cd) : σ 54 11 = nI (q_cn 20010 st) := h.2.2.2.2.1
theorem XU.o {σ0 σ : Nat → Nat → Int32} {st cd : List Nat} (h : XU σ0 σ st cd) : ∀ k, k ≠ 6 → k ≠ 8 → k ≠ 11 → σ 54 k = σ0 54 k := h.2.2.2.2.2.1
theorem XU.f {σ0 σ : Nat → Nat → Int32} {st cd : List Nat} (h : XU σ0 σ st cd) : ∀ b, b ≠ 54 → b ≠ 56 → b ≠ 57 → σ b = σ0 b := h.2.2.2.2.2.2
section XP1
variable {S : List en_S} {d n : Nat} {xs : List Int32} {tp : Nat → Nat} {σ0 σ : Nat → Nat → Int32} {st cd : List Nat}
theorem x_stren (b : Nat) (hb : b < 256) (h : mx_H) : mx_ev xs mx_P (d + 1) 67 [.int (nI b)] h = some (some (.int (if q_sg b = 0 then 0 else nI (q_str (q_sg b)))), h) := by
  rw [ev_X2_strengthOf, ← q_sf_b b hb]
  unfold q_sf
  (repeat' split) <;> rfl
theorem x_add (hR : isRd S) {L : Nat} {v : Int32} (hL : L < 96) (h6 : σ 54 6 = nI L) : mx_ev xs mx_P (d + 1) 70 [.ref 54, .int v] (en S σ) = some (none, en S (en_up (en_up σ 56 L v) 54 6 (nI (L + 1)))) := by
  rw [ev_X2_addStep, rdg6 hR, h6, if_neg (by exact nI_ge (b := 96) hL (by decide)), rdr5 hR, rdg6 hR, h6, rds56 hR hL, rdg6 hR, en_up_a (by decide), h6, nI_1, rdp6 hR, rv0]
theorem x_put (hR : isRd S) {L : Nat} {v : Int32} (hL : L < 96) (h8 : σ 54 8 = nI L) : mx_ev xs mx_P (d + 1) 69 [.ref 54, .int v] (en S σ) = some (none, en S (en_up (en_up σ 57 L v) 54 8 (nI (L + 1)))) := by
  rw [ev_X2_putOnPile, rdg8 hR, h8, if_neg (by exact nI_ge (b := 96) hL (by decide)), rdr7 hR, rdg8 hR, h8, rds57 hR hL, rdg8 hR, en_up_a (by decide), h8, nI_1, rdp8 hR, rv0]
/-- a step goes to the code -/
theorem XU.step (h : XU σ0 σ st cd) (c : Nat) : XU σ0 (en_up (en_up σ 56 cd.length (q_ec c)) 54 6 (nI (cd.length + 1))) st (c :: cd) := by
  refine ⟨by rw [en_up_s, List.length_cons], by rw [en_up_k (by decide), en_up_a (by decide)]; exact h.ph, ?_, ?_, by rw [en_up_k (by decide), en_up_a (by decide)]; exact h.nt, fun k k6 k8 k11 => by rw [en_up_k k6, en_up_a (by decide)]; exact h.o k k6 k8 k11, fun b b1 b2 b3 => by rw [show en_up (en_up σ 56 cd.length (q_ec c)) 54 6 (nI (cd.length + 1)) b = σ b by funext k; rw [en_up_a b1, en_up_a b2]]; exact h.f b b1 b2 b3⟩
  · exact q_PR_m h.st (fun i _ => by rw [en_up_a (by decide), en_up_a (by decide)])
  · exact q_PR_m (q_PR_i (c := c) rfl h.cd) (fun i _ => by rw [en_up_a (by decide)])
/-- a sign is taken off the pile -/
theorem XU.pop {s : Nat} {r : List Nat} (h : XU σ0 σ (s :: r) cd) (hs : s ≠ 20010) : XU σ0 (en_up σ 54 8 (nI r.length)) r cd := by
  refine ⟨by rw [en_up_k (by decide)]; exact h.sc, en_up_s, ?_, ?_, ?_, fun k k6 k8 k11 => by rw [en_up_k k8]; exact h.o k k6 k8 k11, fun b b1 b2 b3 => by rw [show en_up σ 54 8 (nI r.length) b = σ b by funext k; rw [en_up_a b1]]; exact h.f b b1 b2 b3⟩
  · exact q_PR_m h.st.2 (fun i _ => by rw [en_up_a (by decide)])
  · exact q_PR_m h.cd (fun i _ => by rw [en_up_a (by decide)])
  · rw [en_up_k (by decide), h.nt]
    show nI ((if s = 20010 then 1 else 0) + q_cn 20010 r) = _
    rw [if_neg hs, Nat.zero_add]
theorem XU.push (h : XU σ0 σ st cd) {s : Nat} (hs : s ≠ 20010) : XU σ0 (en_up (en_up σ 57 st.length (q_pbI s)) 54 8 (nI (st.length + 1))) (s :: st) cd := by
  refine ⟨by rw [en_up_k (by decide), en_up_a (by decide)]; exact h.sc, by rw [en_up_s, List.length_cons], ?_, ?_, ?_, fun k k6 k8 k11 => by rw [en_up_k k8, en_up_a (by decide)]; exact h.o k k6 k8 k11, fun b b1 b2 b3 => by rw [show en_up (en_up σ 57 st.length (q_pbI s)) 54 8 (nI (st.length + 1)) b = σ b by funext k; rw [en_up_a b1, en_up_a b3]]; exact h.f b b1 b2 b3⟩
  · exact q_PR_m (q_PR_i (c := s) rfl h.st) (fun i _ => by rw [en_up_a (by decide)])
  · exact q_PR_m h.cd (fun i _ => by rw [en_up_a (by decide), en_up_a (by decide)])
  · rw [en_up_k (by decide), en_up_a (by decide), h.nt]
    show _ = nI ((if s = 20010 then 1 else 0) + q_cn 20010 st)
    rw [if_neg hs, Nat.zero_add]
theorem x_unp_loop (hR : isRd S) {k : Nat} (hk : 1 ≤ k ∧ k ≤ 5) : ∀ (st cd : List Nat) (N : Nat) (σ : Nat → Nat → Int32), st.length < N → st.length + cd.length ≤ 96 → q_sy st → XU σ0 σ st cd → ∃ σ', mx_rn xs (mx_ev xs mx_P (d + 1)) kk_X2_unpile N 0 [(0, .ref 54), (1, .int (nI k))] [] (en S σ) = some (none, en S σ') ∧ XU σ0 σ' (q_ul k st cd).1 (q_ul k st cd).2
  | st, cd, 0, _, h, _, _, _ => absurd h (by omega)
  | [], cd, N + 1, σ, _, _, _, h => by
    rw [rn_X2_unpile_0, rdg8 hR, h.ph, if_pos (by decide), rv0]
    exact ⟨σ, rfl, h⟩
  | s :: r, cd, N + 1, σ, hN, hL, hy, h => by
    rw [List.length_cons] at hN hL
    obtain ⟨y1, y2⟩ := q_sy_c hy
    have e1 : nI (r.length + 1) - 1 = nI r.length := by rw [show (1 : Int32) = nI 1 from rfl, pk_sub (by omega)]; rfl
    have hp : σ 57 r.length = nI (q_pb s) := h.st.1
    have hph : σ 54 8 = nI (r.length + 1) := h.ph
    have hb : q_pb s < 256 := by
      unfold q_pb
      (repeat' split) <;> omega
    have sk := q_str_c s
    rw [rn_X2_unpile_0, rdg8 hR, hph, if_neg (nI_nle (by omega) (by omega)), rdr7 hR, rdg8 hR, hph, e1, rda57 hR (by omega), hp, x_stren _ hb, c1s]
    by_cases c9 : s ≤ 20009
    · obtain ⟨g1, g2, g3⟩ := q_pb_sg ⟨y1.1, c9⟩
      rw [g1, if_neg (show ¬ s = 0 by omega)]
      by_cases ck : k ≤ q_str s
      · have hu := (h.pop (by omega)).step s
        rw [if_neg (nI_nlt ck (by omega)), rdg8 hR, hph, e1, rdp8 hR, rdr7 hR, rdg8 hR, en_up_s, rda57 hR (by omega), en_up_a (by decide), hp, rdcl hR, g3, x_add hR (L := cd.length) (by omega) (by rw [en_up_k (by decide)]; exact h.sc), c0s]
        have e : q_ul k (s :: r) cd = q_ul k r (s :: cd) := by
          rw [q_ul, if_pos ⟨c9, ck⟩]
        rw [e]
        exact x_unp_loop hR hk r (s :: cd) N _ (by omega) (by rw [List.length_cons]; omega) y2 hu
      · rw [if_pos (nI_lt (by omega) (by omega)), rv0]
        have e : q_ul k (s :: r) cd = (s :: r, cd) := by
          rw [q_ul, if_neg (fun x => ck x.2)]
        rw [e]
        exact ⟨σ, rfl, h⟩
    · have g : q_sg (q_pb s) = 0 := by
        rcases (show s = 20010 ∨ s = 20011 by omega) with rfl | rfl <;> decide
      rw [if_pos g, if_pos (by exact nI_lt (a := 0) (by omega) (by omega)), rv0]
      have e : q_ul k (s :: r) cd = (s :: r, cd) := by
        rw [q_ul, if_neg (fun x => c9 x.1)]
      rw [e]
      exact ⟨σ, rfl, h⟩
theorem x_unp (hR : isRd S) {k : Nat} (hk : 1 ≤ k ∧ k ≤ 5) (hL : st.length + cd.length ≤ 96) (hy : q_sy st) (h : XU σ0 σ st cd) : ∃ σ', mx_ev xs mx_P (d + 2) 68 [.ref 54, .int (nI k)] (en S σ) = some (none, en S σ') ∧ XU σ0 σ' (q_ul k st cd).1 (q_ul k st cd).2 := by
  rw [ev_go pp_X2_unpile rfl rfl]
  exact x_unp_loop hR hk st cd mx_N σ (by show st.length < 100000; omega) hL hy h
theorem x_endp_loop (hR : isRd S) : ∀ (st cd : List Nat) (N : Nat) (σ : Nat → Nat → Int32), st.length < N → st.length + cd.length ≤ 96 → q_sy st → XU σ0 σ st cd → ∃ σ', mx_rn xs (mx_ev xs mx_P (d + 1)) kk_X2_endPiece N 5 [(0, .ref 54)] [] (en S σ) = some (none, en S σ') ∧ XU σ0 σ' (q_nt st cd).1 (q_nt st cd).2
  | st, cd, 0, _, h, _, _, _ => absurd h (by omega)
  | [], cd, N + 1, σ, _, _, _, h => by
    rw [rn_X2_endPiece_5, rdg8 hR, h.ph, if_pos (by decide), rv0]
    exact ⟨σ, rfl, h⟩
  | s :: r, cd, N + 1, σ, hN, hL, hy, h => by
    rw [List.length_cons] at hN hL
    obtain ⟨y1, y2⟩ := q_sy_c hy
    have e1 : nI (r.length + 1) - 1 = nI r.length := by rw [show (1 : Int32) = nI 1 from rfl, pk_sub (by omega)]; rfl
    have hp : σ 57 r.length = nI (q_pb s) := h.st.1
    have hph : σ 54 8 = nI (r.length + 1) := h.ph
    rw [rn_X2_endPiece_5, rdg8 hR, hph, if_neg (nI_nle (by omega) (by omega)), rdr7 hR, rdg8 hR, hph, e1, rda57 hR (by omega), hp]
    by_cases c : s = 20010
    · subst c
      have hn : σ 54 11 = nI (1 + q_cn 20010 r) := h.nt
      have e2 : nI (1 + q_cn 20010 r) - 1 = nI (q_cn 20010 r) := by rw [show (1 : Int32) = nI 1 from rfl, pk_sub (by omega), show 1 + q_cn 20010 r - 1 = q_cn 20010 r by omega]
      have hu : XU σ0 (en_up (en_up σ 54 8 (nI r.length)) 54 11 (nI (q_cn 20010 r))) r cd := by
        refine ⟨by rw [en_up_k (by decide), en_up_k (by decide)]; exact h.sc, by rw [en_up_k (by decide), en_up_s], ?_, ?_, en_up_s, fun k k6 k8 k11 => by rw [en_up_k k11, en_up_k k8]; exact h.o k k6 k8 k11, fun b b1 b2 b3 => by rw [show en_up (en_up σ 54 8 (nI r.length)) 54 11 (nI (q_cn 20010 r)) b = σ b by funext k; rw [en_up_a b1, en_up_a b1]]; exact h.f b b1 b2 b3⟩
        · exact q_PR_m h.st.2 (fun i _ => by rw [en_up_a (by decide), en_up_a (by decide)])
        · exact q_PR_m h.cd (fun i _ => by rw [en_up_a (by decide), en_up_a (by decide)])
      have hu2 := hu.step 20010
      rw [if_pos (by decide), rdg8 hR, hph, e1, rdp8 hR, rdg11 hR, en_up_k (by decide), hn, e2, rdp11 hR, rdcl hR, show (-33 : Int32) = q_ec 20010 from rfl, x_add hR (L := cd.length) (by omega) hu.sc, c0s]
      have e : q_nt (20010 :: r) cd = q_nt r (20010 :: cd) := by
        rw [q_nt, if_pos rfl]
      rw [e]
      exact x_endp_loop hR r (20010 :: cd) N _ (by omega) (by rw [List.length_cons]; omega) y2 hu2
    · have g : ¬ nI (q_pb s) = 33 := by
        refine nI_nel (y := 33) (b := 33) rfl ?_ (by decide) ?_
        · unfold q_pb
          (repeat' split) <;> omega
        · unfold q_pb
          (repeat' split) <;> omega
      rw [if_neg g, rv0]
      have e : q_nt (s :: r) cd = (s :: r, cd) := by
        rw [q_nt, if_neg c]
      rw [e]
      exact ⟨σ, rfl, h⟩
theorem x_endp (hR : isRd S) (hL : st.length + cd.length ≤ 96) (hy : q_sy st) (h : XU σ0 σ st cd) : ∃ σ', mx_ev xs mx_P (d + 2) 64 [.ref 54] (en S σ) = some (none, en S σ') ∧ XU (en_up σ0 54 12 0) σ' (q_nt st cd).1 (q_nt st cd).2 := by
  have hu : XU (en_up σ0 54 12 0) (en_up σ 54 12 0) st cd := by
    refine ⟨by rw [en_up_k (by decide)]; exact h.sc, by rw [en_up_k (by decide)]; exact h.ph, q_PR_m h.st (fun i _ => by rw [en_up_a (by decide)]), q_PR_m h.cd (fun i _ => by rw [en_up_a (by decide)]), by rw [en_up_k (by decide)]; exact h.nt, fun k k6 k8 k11 => ?_, fun b b1 b2 b3 => ?_⟩
    · by_cases e : k = 12
      · subst e; rw [en_up_s, en_up_s]
      · rw [en_up_k e, en_up_k e]; exact h.o k k6 k8 k11
    · rw [show en_up σ 54 12 0 b = σ b by funext k; rw [en_up_a b1], show en_up σ0 54 12 0 b = σ0 b by funext k; rw [en_up_a b1]]
      exact h.f b b1 b2 b3
  rw [ev_X2_endPiece, rdz12_0 hR]
  exact x_endp_loop hR st cd 99999 _ (by omega) hL hy hu
theorem x_leaf (hR : isRd S) {c na : Nat} (hL : st.length + cd.length < 96) (hy : q_sy st) (h : XU σ0 σ st cd) (hn : σ0 54 14 = nI na) : ∃ σ', mx_ev xs mx_P (d + 3) 63 [.ref 54, .int (q_ec c)] (en S σ) = some (none, en S σ') ∧ XU (en_up (en_up σ0 54 14 (nI (na + 1))) 54 12 0) σ' (q_nt st (c :: cd)).1 (q_nt st (c :: cd)).2 := by
  have hu : XU (en_up σ0 54 14 (nI (na + 1))) (en_up σ 54 14 (nI (na + 1))) st cd := by
    refine ⟨by rw [en_up_k (by decide)]; exact h.sc, by rw [en_up_k (by decide)]; exact h.ph, q_PR_m h.st (fun i _ => by rw [en_up_a (by decide)]), q_PR_m h.cd (fun i _ => by rw [en_up_a (by decide)]), by rw [en_up_k (by decide)]; exact h.nt, fun k k6 k8 k11 => ?_, fun b b1 b2 b3 => ?_⟩
    · by_cases e : k = 14
      · subst e; rw [en_up_s, en_up_s]
      · rw [en_up_k e, en_up_k e]; exact h.o k k6 k8 k11
    · rw [show en_up σ 54 14 (nI (na + 1)) b = σ b by funext k; rw [en_up_a b1], show en_up σ0 54 14 (nI (na + 1)) b = σ0 b by funext k; rw [en_up_a b1]]
      exact h.f b b1 b2 b3
  have hu2 := hu.step c
  obtain ⟨σ', r1, r2⟩ := x_endp (d := d) (xs := xs) hR (st := st) (cd := c :: cd) (by rw [List.length_cons]; omega) hy hu2
  refine ⟨σ', ?_, r2⟩
  rw [ev_X2_endLeaf, rdg14 hR, h.o 14 (by decide) (by decide) (by decide), hn, nI_1, rdp14 hR, rdcl hR, x_add hR (L := cd.length) (by omega) hu.sc, c0s, rdcl hR, r1, c0s, rv0]
end XP1
