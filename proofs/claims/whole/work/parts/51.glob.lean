/-! ===== all that the two objects hold between them ===== -/
def q_G : Type := (q_C) × (Option q_C) × (Nat) × (Nat → Nat) × (Nat → Int32) × (Nat → Nat) × (Nat → Nat → Int32) × (Nat → Nat) × (Nat → Nat → Nat) × (Nat → Nat) × (Nat → Nat → Int32) × (Nat → Int32) × (Nat) × (Nat → Int32)
def g_mk (now : q_C) (img : Option q_C) (tl : Nat) (tp : Nat → Nat) (so : Nat → Int32) (sz : Nat → Nat) (ce : Nat → Nat → Int32) (th : Nat → Nat) (lg : Nat → Nat → Nat) (rs : Nat → Nat) (rc : Nat → Nat → Int32) (nu : Nat → Int32) (wc : Nat) (wt : Nat → Int32) : q_G := (now, img, tl, tp, so, sz, ce, th, lg, rs, rc, nu, wc, wt)
def q_G.now (G : q_G) : q_C := G.1
def q_G.img (G : q_G) : Option q_C := G.2.1
def q_G.tl (G : q_G) : Nat := G.2.2.1
def q_G.tp (G : q_G) : Nat → Nat := G.2.2.2.1
def q_G.so (G : q_G) : Nat → Int32 := G.2.2.2.2.1
def q_G.sz (G : q_G) : Nat → Nat := G.2.2.2.2.2.1
def q_G.ce (G : q_G) : Nat → Nat → Int32 := G.2.2.2.2.2.2.1
def q_G.th (G : q_G) : Nat → Nat := G.2.2.2.2.2.2.2.1
def q_G.lg (G : q_G) : Nat → Nat → Nat := G.2.2.2.2.2.2.2.2.1
def q_G.rs (G : q_G) : Nat → Nat := G.2.2.2.2.2.2.2.2.2.1
def q_G.rc (G : q_G) : Nat → Nat → Int32 := G.2.2.2.2.2.2.2.2.2.2.1
def q_G.nu (G : q_G) : Nat → Int32 := G.2.2.2.2.2.2.2.2.2.2.2.1
def q_G.wc (G : q_G) : Nat := G.2.2.2.2.2.2.2.2.2.2.2.2.1
def q_G.wt (G : q_G) : Nat → Int32 := G.2.2.2.2.2.2.2.2.2.2.2.2.2
theorem gk_now (now : q_C) (img : Option q_C) (tl : Nat) (tp : Nat → Nat) (so : Nat → Int32) (sz : Nat → Nat) (ce : Nat → Nat → Int32) (th : Nat → Nat) (lg : Nat → Nat → Nat) (rs : Nat → Nat) (rc : Nat → Nat → Int32) (nu : Nat → Int32) (wc : Nat) (wt : Nat → Int32) : (g_mk now img tl tp so sz ce th lg rs rc nu wc wt).now = now := rfl
theorem gk_img (now : q_C) (img : Option q_C) (tl : Nat) (tp : Nat → Nat) (so : Nat → Int32) (sz : Nat → Nat) (ce : Nat → Nat → Int32) (th : Nat → Nat) (lg : Nat → Nat → Nat) (rs : Nat → Nat) (rc : Nat → Nat → Int32) (nu : Nat → Int32) (wc : Nat) (wt : Nat → Int32) : (g_mk now img tl tp so sz ce th lg rs rc nu wc wt).img = img := rfl
theorem gk_tl (now : q_C) (img : Option q_C) (tl : Nat) (tp : Nat → Nat) (so : Nat → Int32) (sz : Nat → Nat) (ce : Nat → Nat → Int32) (th : Nat → Nat) (lg : Nat → Nat → Nat) (rs : Nat → Nat) (rc : Nat → Nat → Int32) (nu : Nat → Int32) (wc : Nat) (wt : Nat → Int32) : (g_mk now img tl tp so sz ce th lg rs rc nu wc wt).tl = tl := rfl
theorem gk_tp (now : q_C) (img : Option q_C) (tl : Nat) (tp : Nat → Nat) (so : Nat → Int32) (sz : Nat → Nat) (ce : Nat → Nat → Int32) (th : Nat → Nat) (lg : Nat → Nat → Nat) (rs : Nat → Nat) (rc : Nat → Nat → Int32) (nu : Nat → Int32) (wc : Nat) (wt : Nat → Int32) : (g_mk now img tl tp so sz ce th lg rs rc nu wc wt).tp = tp := rfl
theorem gk_so (now : q_C) (img : Option q_C) (tl : Nat) (tp : Nat → Nat) (so : Nat → Int32) (sz : Nat → Nat) (ce : Nat → Nat → Int32) (th : Nat → Nat) (lg : Nat → Nat → Nat) (rs : Nat → Nat) (rc : Nat → Nat → Int32) (nu : Nat → Int32) (wc : Nat) (wt : Nat → Int32) : (g_mk now img tl tp so sz ce th lg rs rc nu wc wt).so = so := rfl
theorem gk_sz (now : q_C) (img : Option q_C) (tl : Nat) (tp : Nat → Nat) (so : Nat → Int32) (sz : Nat → Nat) (ce : Nat → Nat → Int32) (th : Nat → Nat) (lg : Nat → Nat → Nat) (rs : Nat → Nat) (rc : Nat → Nat → Int32) (nu : Nat → Int32) (wc : Nat) (wt : Nat → Int32) : (g_mk now img tl tp so sz ce th lg rs rc nu wc wt).sz = sz := rfl
theorem gk_ce (now : q_C) (img : Option q_C) (tl : Nat) (tp : Nat → Nat) (so : Nat → Int32) (sz : Nat → Nat) (ce : Nat → Nat → Int32) (th : Nat → Nat) (lg : Nat → Nat → Nat) (rs : Nat → Nat) (rc : Nat → Nat → Int32) (nu : Nat → Int32) (wc : Nat) (wt : Nat → Int32) : (g_mk now img tl tp so sz ce th lg rs rc nu wc wt).ce = ce := rfl
theorem gk_th (now : q_C) (img : Option q_C) (tl : Nat) (tp : Nat → Nat) (so : Nat → Int32) (sz : Nat → Nat) (ce : Nat → Nat → Int32) (th : Nat → Nat) (lg : Nat → Nat → Nat) (rs : Nat → Nat) (rc : Nat → Nat → Int32) (nu : Nat → Int32) (wc : Nat) (wt : Nat → Int32) : (g_mk now img tl tp so sz ce th lg rs rc nu wc wt).th = th := rfl
theorem gk_lg (now : q_C) (img : Option q_C) (tl : Nat) (tp : Nat → Nat) (so : Nat → Int32) (sz : Nat → Nat) (ce : Nat → Nat → Int32) (th : Nat → Nat) (lg : Nat → Nat → Nat) (rs : Nat → Nat) (rc : Nat → Nat → Int32) (nu : Nat → Int32) (wc : Nat) (wt : Nat → Int32) : (g_mk now img tl tp so sz ce th lg rs rc nu wc wt).lg = lg := rfl
theorem gk_rs (now : q_C) (img : Option q_C) (tl : Nat) (tp : Nat → Nat) (so : Nat → Int32) (sz : Nat → Nat) (ce : Nat → Nat → Int32) (th : Nat → Nat) (lg : Nat → Nat → Nat) (rs : Nat → Nat) (rc : Nat → Nat → Int32) (nu : Nat → Int32) (wc : Nat) (wt : Nat → Int32) : (g_mk now img tl tp so sz ce th lg rs rc nu wc wt).rs = rs := rfl
theorem gk_rc (now : q_C) (img : Option q_C) (tl : Nat) (tp : Nat → Nat) (so : Nat → Int32) (sz : Nat → Nat) (ce : Nat → Nat → Int32) (th : Nat → Nat) (lg : Nat → Nat → Nat) (rs : Nat → Nat) (rc : Nat → Nat → Int32) (nu : Nat → Int32) (wc : Nat) (wt : Nat → Int32) : (g_mk now img tl tp so sz ce th lg rs rc nu wc wt).rc = rc := rfl
theorem gk_nu (now : q_C) (img : Option q_C) (tl : Nat) (tp : Nat → Nat) (so : Nat → Int32) (sz : Nat → Nat) (ce : Nat → Nat → Int32) (th : Nat → Nat) (lg : Nat → Nat → Nat) (rs : Nat → Nat) (rc : Nat → Nat → Int32) (nu : Nat → Int32) (wc : Nat) (wt : Nat → Int32) : (g_mk now img tl tp so sz ce th lg rs rc nu wc wt).nu = nu := rfl
theorem gk_wc (now : q_C) (img : Option q_C) (tl : Nat) (tp : Nat → Nat) (so : Nat → Int32) (sz : Nat → Nat) (ce : Nat → Nat → Int32) (th : Nat → Nat) (lg : Nat → Nat → Nat) (rs : Nat → Nat) (rc : Nat → Nat → Int32) (nu : Nat → Int32) (wc : Nat) (wt : Nat → Int32) : (g_mk now img tl tp so sz ce th lg rs rc nu wc wt).wc = wc := rfl
theorem gk_wt (now : q_C) (img : Option q_C) (tl : Nat) (tp : Nat → Nat) (so : Nat → Int32) (sz : Nat → Nat) (ce : Nat → Nat → Int32) (th : Nat → Nat) (lg : Nat → Nat → Nat) (rs : Nat → Nat) (rc : Nat → Nat → Int32) (nu : Nat → Int32) (wc : Nat) (wt : Nat → Int32) : (g_mk now img tl tp so sz ce th lg rs rc nu wc wt).wt = wt := rfl
def g_k (o : Option q_C) : Int32 := match o with
  | none => 0
  | some _ => 1
def gSh : Nat → Option Nat := fun i => if i < 4 then some (62 + 2 * i) else none
def gSl : Nat → Option Nat := fun i => if i < 5 then some (70 + 4 * i) else none
abbrev en_sh (p : Nat) : en_S := .inl (3, [none, none, some p])
def XS (S : List en_S) : Prop := (S[0]? = some (.inl (6, [some 1, some 18, some 35, none, some 52, some 53, none, some 54, some 59, some 60, some 61, none]))) ∧ (isCl S 1) ∧ (isCl S 18) ∧ (isCl S 35) ∧ (S[52]? = some (.inr (.inl (0, 10)))) ∧ (S[53]? = some (.inr (.inl (0, 96)))) ∧ (∃ rb, S[54]? = some (.inl (2, [some rb, none, none, none, none, some 56, none, some 57, none, some 58, none, none, none, none, none]))) ∧ (S[56]? = some (.inr (.inl (0, 96)))) ∧ (S[57]? = some (.inr (.inl (0, 96)))) ∧ (S[58]? = some (.inr (.inl (1, 9)))) ∧ (S[59]? = some (.inr (.inr (.inl (4, 4, gSh))))) ∧ (S[60]? = some (.inr (.inr (.inl (5, 5, gSl))))) ∧ (S[61]? = some (.inr (.inl (0, 60)))) ∧ (∀ i, i < 4 → S[62 + 2 * i]? = some (en_sh (63 + 2 * i))) ∧ (∀ i, i < 4 → S[63 + 2 * i]? = some (.inr (.inl (0, 24)))) ∧ (∀ i, i < 5 → S[70 + 4 * i]? = some (.inl (4, [none, some (71 + 4 * i), some (72 + 4 * i), none]))) ∧ (∀ i, i < 5 → S[71 + 4 * i]? = some en_leg) ∧ (∀ i, i < 5 → S[72 + 4 * i]? = some (en_sh (73 + 4 * i))) ∧ (∀ i, i < 5 → S[73 + 4 * i]? = some (.inr (.inl (0, 24))))
theorem XS.o {S : List en_S} (h : XS S) : S[0]? = some (.inl (6, [some 1, some 18, some 35, none, some 52, some 53, none, some 54, some 59, some 60, some 61, none])) := h.1
theorem XS.c1 {S : List en_S} (h : XS S) : isCl S 1 := h.2.1
theorem XS.c2 {S : List en_S} (h : XS S) : isCl S 18 := h.2.2.1
theorem XS.c3 {S : List en_S} (h : XS S) : isCl S 35 := h.2.2.2.1
theorem XS.df {S : List en_S} (h : XS S) : S[52]? = some (.inr (.inl (0, 10))) := h.2.2.2.2.1
theorem XS.tp {S : List en_S} (h : XS S) : S[53]? = some (.inr (.inl (0, 96))) := h.2.2.2.2.2.1
theorem XS.rd {S : List en_S} (h : XS S) : ∃ rb, S[54]? = some (.inl (2, [some rb, none, none, none, none, some 56, none, some 57, none, some 58, none, none, none, none, none])) := h.2.2.2.2.2.2.1
theorem XS.st {S : List en_S} (h : XS S) : S[56]? = some (.inr (.inl (0, 96))) := h.2.2.2.2.2.2.2.1
theorem XS.pi {S : List en_S} (h : XS S) : S[57]? = some (.inr (.inl (0, 96))) := h.2.2.2.2.2.2.2.2.1
theorem XS.cm {S : List en_S} (h : XS S) : S[58]? = some (.inr (.inl (1, 9))) := h.2.2.2.2.2.2.2.2.2.1
theorem XS.sh {S : List en_S} (h : XS S) : S[59]? = some (.inr (.inr (.inl (4, 4, gSh)))) := h.2.2.2.2.2.2.2.2.2.2.1
theorem XS.sl {S : List en_S} (h : XS S) : S[60]? = some (.inr (.inr (.inl (5, 5, gSl)))) := h.2.2.2.2.2.2.2.2.2.2.2.1
theorem XS.wa {S : List en_S} (h : XS S) : S[61]? = some (.inr (.inl (0, 60))) := h.2.2.2.2.2.2.2.2.2.2.2.2.1
theorem XS.so {S : List en_S} (h : XS S) : ∀ i, i < 4 → S[62 + 2 * i]? = some (en_sh (63 + 2 * i)) := h.2.2.2.2.2.2.2.2.2.2.2.2.2.1
theorem XS.sp {S : List en_S} (h : XS S) : ∀ i, i < 4 → S[63 + 2 * i]? = some (.inr (.inl (0, 24))) := h.2.2.2.2.2.2.2.2.2.2.2.2.2.2.1
theorem XS.lo {S : List en_S} (h : XS S) : ∀ i, i < 5 → S[70 + 4 * i]? = some (.inl (4, [none, some (71 + 4 * i), some (72 + 4 * i), none])) := h.2.2.2.2.2.2.2.2.2.2.2.2.2.2.2.1
theorem XS.ll {S : List en_S} (h : XS S) : ∀ i, i < 5 → S[71 + 4 * i]? = some en_leg := h.2.2.2.2.2.2.2.2.2.2.2.2.2.2.2.2.1
theorem XS.lr {S : List en_S} (h : XS S) : ∀ i, i < 5 → S[72 + 4 * i]? = some (en_sh (73 + 4 * i)) := h.2.2.2.2.2.2.2.2.2.2.2.2.2.2.2.2.2.1
theorem XS.lp {S : List en_S} (h : XS S) : ∀ i, i < 5 → S[73 + 4 * i]? = some (.inr (.inl (0, 24))) := h.2.2.2.2.2.2.2.2.2.2.2.2.2.2.2.2.2.2
def XR (S : List en_S) (σ : Nat → Nat → Int32) (G : q_G) : Prop := (XS S) ∧ (cR S σ 1 G.now) ∧ (σ 0 3 = g_k G.img) ∧ (∀ C, G.img = some C → cR S σ 18 C) ∧ (σ 0 6 = nI G.tl) ∧ (∀ k, k < G.tl → σ 53 k = nI (G.tp k)) ∧ (∀ i, i < 4 → σ (62 + 2 * i) 0 = G.so i) ∧ (∀ i, i < 4 → σ (62 + 2 * i) 1 = nI (G.sz i)) ∧ (∀ i, i < 4 → ∀ k, k < 24 → σ (63 + 2 * i) k = G.ce i k) ∧ (∀ i, i < 5 → σ (70 + 4 * i) 0 = nI (G.th i)) ∧ (∀ i, i < 5 → G.th i = 1 → q_at (σ (71 + 4 * i)) (G.lg i)) ∧ (∀ i, i < 5 → G.th i = 2 → σ (72 + 4 * i) 1 = nI (G.rs i)) ∧ (∀ i, i < 5 → G.th i = 2 → ∀ k, k < 24 → σ (73 + 4 * i) k = G.rc i k) ∧ (∀ i, i < 5 → G.th i = 3 → σ (70 + 4 * i) 3 = G.nu i) ∧ (σ 0 11 = nI G.wc) ∧ (∀ k, k < G.wc → σ 61 k = G.wt k)
theorem XR.x {S : List en_S} {σ : Nat → Nat → Int32} {G : q_G} (h : XR S σ G) : XS S := h.1
theorem XR.now {S : List en_S} {σ : Nat → Nat → Int32} {G : q_G} (h : XR S σ G) : cR S σ 1 G.now := h.2.1
theorem XR.ik {S : List en_S} {σ : Nat → Nat → Int32} {G : q_G} (h : XR S σ G) : σ 0 3 = g_k G.img := h.2.2.1
theorem XR.img {S : List en_S} {σ : Nat → Nat → Int32} {G : q_G} (h : XR S σ G) : ∀ C, G.img = some C → cR S σ 18 C := h.2.2.2.1
theorem XR.tl {S : List en_S} {σ : Nat → Nat → Int32} {G : q_G} (h : XR S σ G) : σ 0 6 = nI G.tl := h.2.2.2.2.1
theorem XR.tp {S : List en_S} {σ : Nat → Nat → Int32} {G : q_G} (h : XR S σ G) : ∀ k, k < G.tl → σ 53 k = nI (G.tp k) := h.2.2.2.2.2.1
theorem XR.so {S : List en_S} {σ : Nat → Nat → Int32} {G : q_G} (h : XR S σ G) : ∀ i, i < 4 → σ (62 + 2 * i) 0 = G.so i := h.2.2.2.2.2.2.1
theorem XR.sz {S : List en_S} {σ : Nat → Nat → Int32} {G : q_G} (h : XR S σ G) : ∀ i, i < 4 → σ (62 + 2 * i) 1 = nI (G.sz i) := h.2.2.2.2.2.2.2.1
theorem XR.ce {S : List en_S} {σ : Nat → Nat → Int32} {G : q_G} (h : XR S σ G) : ∀ i, i < 4 → ∀ k, k < 24 → σ (63 + 2 * i) k = G.ce i k := h.2.2.2.2.2.2.2.2.1
theorem XR.th {S : List en_S} {σ : Nat → Nat → Int32} {G : q_G} (h : XR S σ G) : ∀ i, i < 5 → σ (70 + 4 * i) 0 = nI (G.th i) := h.2.2.2.2.2.2.2.2.2.1
theorem XR.lg {S : List en_S} {σ : Nat → Nat → Int32} {G : q_G} (h : XR S σ G) : ∀ i, i < 5 → G.th i = 1 → q_at (σ (71 + 4 * i)) (G.lg i) := h.2.2.2.2.2.2.2.2.2.2.1
theorem XR.rs {S : List en_S} {σ : Nat → Nat → Int32} {G : q_G} (h : XR S σ G) : ∀ i, i < 5 → G.th i = 2 → σ (72 + 4 * i) 1 = nI (G.rs i) := h.2.2.2.2.2.2.2.2.2.2.2.1
theorem XR.rc {S : List en_S} {σ : Nat → Nat → Int32} {G : q_G} (h : XR S σ G) : ∀ i, i < 5 → G.th i = 2 → ∀ k, k < 24 → σ (73 + 4 * i) k = G.rc i k := h.2.2.2.2.2.2.2.2.2.2.2.2.1
theorem XR.nu {S : List en_S} {σ : Nat → Nat → Int32} {G : q_G} (h : XR S σ G) : ∀ i, i < 5 → G.th i = 3 → σ (70 + 4 * i) 3 = G.nu i := h.2.2.2.2.2.2.2.2.2.2.2.2.2.1
theorem XR.wc {S : List en_S} {σ : Nat → Nat → Int32} {G : q_G} (h : XR S σ G) : σ 0 11 = nI G.wc := h.2.2.2.2.2.2.2.2.2.2.2.2.2.2.1
theorem XR.wt {S : List en_S} {σ : Nat → Nat → Int32} {G : q_G} (h : XR S σ G) : ∀ k, k < G.wc → σ 61 k = G.wt k := h.2.2.2.2.2.2.2.2.2.2.2.2.2.2.2
def q_keys : List Nat := [112, 114, 101, 115, 115, 102, 101, 101, 102, 105, 110, 101]
def q_keyAt : List Nat := [0, 5, 8, 12]
def MR (S : List en_S) (σ : Nat → Nat → Int32) (G : q_G) : Prop := (isMo S) ∧ (mR (σ 91) G.now) ∧ (σ 90 3 = g_k G.img) ∧ (∀ C, G.img = some C → mR (σ 92) C) ∧ (σ 90 6 = nI G.tl) ∧ (∀ k, k < G.tl → σ 95 k = nI (G.tp k)) ∧ (∀ k, k < 12 → σ 96 k = nI (q_keys.getD k 0)) ∧ (∀ k, k < 4 → σ 97 k = nI (q_keyAt.getD k 0)) ∧ (∀ i, i < 4 → σ 103 i = G.so i) ∧ (∀ i, i < 4 → σ 104 i = nI (G.sz i)) ∧ (∀ i, i < 4 → ∀ k, k < 24 → σ 105 (24 * i + k) = G.ce i k) ∧ (∀ i, i < 5 → σ 106 i = nI (G.th i)) ∧ (∀ i, i < 5 → G.th i = 1 → σ 107 i = nI (G.lg i 0) ∧ σ 108 i = nI (q_worth (G.lg i))) ∧ (∀ i, i < 5 → G.th i = 2 → σ 107 i = nI (G.rs i) ∧ ∀ k, k < 24 → σ 109 (24 * i + k) = G.rc i k) ∧ (∀ i, i < 5 → G.th i = 3 → σ 107 i = G.nu i) ∧ (σ 90 32 = nI G.wc) ∧ (∀ k, k < G.wc → σ 111 k = G.wt k)
theorem MR.mo {S : List en_S} {σ : Nat → Nat → Int32} {G : q_G} (h : MR S σ G) : isMo S := h.1
theorem MR.now {S : List en_S} {σ : Nat → Nat → Int32} {G : q_G} (h : MR S σ G) : mR (σ 91) G.now := h.2.1
theorem MR.ik {S : List en_S} {σ : Nat → Nat → Int32} {G : q_G} (h : MR S σ G) : σ 90 3 = g_k G.img := h.2.2.1
theorem MR.img {S : List en_S} {σ : Nat → Nat → Int32} {G : q_G} (h : MR S σ G) : ∀ C, G.img = some C → mR (σ 92) C := h.2.2.2.1
theorem MR.tl {S : List en_S} {σ : Nat → Nat → Int32} {G : q_G} (h : MR S σ G) : σ 90 6 = nI G.tl := h.2.2.2.2.1
theorem MR.tp {S : List en_S} {σ : Nat → Nat → Int32} {G : q_G} (h : MR S σ G) : ∀ k, k < G.tl → σ 95 k = nI (G.tp k) := h.2.2.2.2.2.1
theorem MR.ks {S : List en_S} {σ : Nat → Nat → Int32} {G : q_G} (h : MR S σ G) : ∀ k, k < 12 → σ 96 k = nI (q_keys.getD k 0) := h.2.2.2.2.2.2.1
theorem MR.ka {S : List en_S} {σ : Nat → Nat → Int32} {G : q_G} (h : MR S σ G) : ∀ k, k < 4 → σ 97 k = nI (q_keyAt.getD k 0) := h.2.2.2.2.2.2.2.1
theorem MR.so {S : List en_S} {σ : Nat → Nat → Int32} {G : q_G} (h : MR S σ G) : ∀ i, i < 4 → σ 103 i = G.so i := h.2.2.2.2.2.2.2.2.1
theorem MR.sz {S : List en_S} {σ : Nat → Nat → Int32} {G : q_G} (h : MR S σ G) : ∀ i, i < 4 → σ 104 i = nI (G.sz i) := h.2.2.2.2.2.2.2.2.2.1
theorem MR.ce {S : List en_S} {σ : Nat → Nat → Int32} {G : q_G} (h : MR S σ G) : ∀ i, i < 4 → ∀ k, k < 24 → σ 105 (24 * i + k) = G.ce i k := h.2.2.2.2.2.2.2.2.2.2.1
theorem MR.th {S : List en_S} {σ : Nat → Nat → Int32} {G : q_G} (h : MR S σ G) : ∀ i, i < 5 → σ 106 i = nI (G.th i) := h.2.2.2.2.2.2.2.2.2.2.2.1
theorem MR.h1 {S : List en_S} {σ : Nat → Nat → Int32} {G : q_G} (h : MR S σ G) : ∀ i, i < 5 → G.th i = 1 → σ 107 i = nI (G.lg i 0) ∧ σ 108 i = nI (q_worth (G.lg i)) := h.2.2.2.2.2.2.2.2.2.2.2.2.1
theorem MR.h2 {S : List en_S} {σ : Nat → Nat → Int32} {G : q_G} (h : MR S σ G) : ∀ i, i < 5 → G.th i = 2 → σ 107 i = nI (G.rs i) ∧ ∀ k, k < 24 → σ 109 (24 * i + k) = G.rc i k := h.2.2.2.2.2.2.2.2.2.2.2.2.2.1
theorem MR.h3 {S : List en_S} {σ : Nat → Nat → Int32} {G : q_G} (h : MR S σ G) : ∀ i, i < 5 → G.th i = 3 → σ 107 i = G.nu i := h.2.2.2.2.2.2.2.2.2.2.2.2.2.2.1
theorem MR.wc {S : List en_S} {σ : Nat → Nat → Int32} {G : q_G} (h : MR S σ G) : σ 90 32 = nI G.wc := h.2.2.2.2.2.2.2.2.2.2.2.2.2.2.2.1
theorem MR.wt {S : List en_S} {σ : Nat → Nat → Int32} {G : q_G} (h : MR S σ G) : ∀ k, k < G.wc → σ 111 k = G.wt k := h.2.2.2.2.2.2.2.2.2.2.2.2.2.2.2.2
def GO (G : q_G) : Prop := (q_ok G.now) ∧ (G.now.day ≤ 9999) ∧ (∀ C, G.img = some C → q_ok C ∧ C.day ≤ 9999) ∧ (G.tl ≤ 96) ∧ (∀ k, k < G.tl → G.tp k < 256) ∧ (∀ i, i < 4 → G.so i = -1 ∨ G.so i = 0 ∨ G.so i = 1) ∧ (∀ i, i < 4 → G.sz i ≤ 24) ∧ (∀ i, i < 5 → G.th i ≤ 3) ∧ (∀ i, i < 5 → G.th i = 1 → q_leg (G.lg i)) ∧ (∀ i, i < 5 → G.th i = 2 → G.rs i ≤ 24) ∧ (G.wc ≤ 60)
theorem GO.now {G : q_G} (h : GO G) : q_ok G.now := h.1
theorem GO.day {G : q_G} (h : GO G) : G.now.day ≤ 9999 := h.2.1
theorem GO.img {G : q_G} (h : GO G) : ∀ C, G.img = some C → q_ok C ∧ C.day ≤ 9999 := h.2.2.1
theorem GO.tl {G : q_G} (h : GO G) : G.tl ≤ 96 := h.2.2.2.1
theorem GO.tp {G : q_G} (h : GO G) : ∀ k, k < G.tl → G.tp k < 256 := h.2.2.2.2.1
theorem GO.so {G : q_G} (h : GO G) : ∀ i, i < 4 → G.so i = -1 ∨ G.so i = 0 ∨ G.so i = 1 := h.2.2.2.2.2.1
theorem GO.sz {G : q_G} (h : GO G) : ∀ i, i < 4 → G.sz i ≤ 24 := h.2.2.2.2.2.2.1
theorem GO.th {G : q_G} (h : GO G) : ∀ i, i < 5 → G.th i ≤ 3 := h.2.2.2.2.2.2.2.1
theorem GO.lg {G : q_G} (h : GO G) : ∀ i, i < 5 → G.th i = 1 → q_leg (G.lg i) := h.2.2.2.2.2.2.2.2.1
theorem GO.rs {G : q_G} (h : GO G) : ∀ i, i < 5 → G.th i = 2 → G.rs i ≤ 24 := h.2.2.2.2.2.2.2.2.2.1
theorem GO.wc {G : q_G} (h : GO G) : G.wc ≤ 60 := h.2.2.2.2.2.2.2.2.2.2
def RR (S : List en_S) (σ : Nat → Nat → Int32) : Prop := ∃ G, XR S σ G ∧ MR S σ G ∧ GO G
theorem cR.fr {S : List en_S} {σ σ' : Nat → Nat → Int32} {cb : Nat} {C : q_C} (h : cR S σ cb C) (h10 : C.n ≤ 10) (e0 : σ' cb = σ cb) (e2 : σ' (cb + 2) = σ (cb + 2)) (e3 : σ' (cb + 3) = σ (cb + 3)) (e4 : σ' (cb + 4) = σ (cb + 4)) (e7 : ∀ i, i < 10 → σ' (cb + 7 + i) = σ (cb + 7 + i)) (e : ∀ b, 112 ≤ b → σ' b = σ b) : cR S σ' cb C :=
  ⟨by rw [e0]; exact h.n, fun i hi => by rw [e7 i (by omega)]; exact h.L i hi, fun k hk => by rw [e2]; exact h.ru k hk, h.K.fr (by rw [e0]) e3 e4 e, by rw [e0]; exact h.p, by rw [e0]; exact h.t, by rw [e0]; exact h.s, by rw [e0]; exact h.day, by rw [e0]; exact h.z⟩
/-- what no later call looks at -/
def scr (b : Nat) : Prop := (35 ≤ b ∧ b ≤ 52) ∨ b = 6 ∨ b = 7 ∨ b = 23 ∨ b = 24 ∨ (54 ≤ b ∧ b ≤ 58) ∨ (90 ≤ b ∧ b < 112)
theorem XR.fr {S : List en_S} {σ σ' : Nat → Nat → Int32} {G : q_G} (h : XR S σ G) (ok : GO G) (e : ∀ b, ¬ scr b → σ' b = σ b) : XR S σ' G := by
  have c : ∀ cb, cb = 1 ∨ cb = 18 → ∀ C, C.n ≤ 10 → cR S σ cb C → cR S σ' cb C := fun cb hcb C hC g => g.fr hC (e _ (by unfold scr; omega)) (e _ (by unfold scr; omega)) (e _ (by unfold scr; omega)) (e _ (by unfold scr; omega)) (fun i hi => e _ (by unfold scr; omega)) (fun b hb => e b (by unfold scr; omega))
  refine ⟨h.x, c 1 (Or.inl rfl) _ ok.now.n h.now, ?_, fun C hC => c 18 (Or.inr rfl) C (ok.img C hC).1.n (h.img C hC), ?_, fun k hk => ?_, fun i hi => ?_, fun i hi => ?_, fun i hi k hk => ?_, fun i hi => ?_, fun i hi ht => ?_, fun i hi ht => ?_, fun i hi ht k hk => ?_, fun i hi ht => ?_, ?_, fun k hk => ?_⟩
  · rw [e 0 (by unfold scr; omega)]; exact h.ik
  · rw [e 0 (by unfold scr; omega)]; exact h.tl
  · rw [e 53 (by unfold scr; omega)]; exact h.tp k hk
  · rw [e _ (by unfold scr; omega)]; exact h.so i hi
  · rw [e _ (by unfold scr; omega)]; exact h.sz i hi
  · rw [e _ (by unfold scr; omega)]; exact h.ce i hi k hk
  · rw [e _ (by unfold scr; omega)]; exact h.th i hi
  · rw [e _ (by unfold scr; omega)]; exact h.lg i hi ht
  · rw [e _ (by unfold scr; omega)]; exact h.rs i hi ht
  · rw [e _ (by unfold scr; omega)]; exact h.rc i hi ht k hk
  · rw [e _ (by unfold scr; omega)]; exact h.nu i hi ht
  · rw [e 0 (by unfold scr; omega)]; exact h.wc
  · rw [e 61 (by unfold scr; omega)]; exact h.wt k hk
def scm (b : Nat) : Prop := b = 93 ∨ b = 94 ∨ b = 98 ∨ b = 99 ∨ b = 100 ∨ b = 101 ∨ b = 102 ∨ b = 110
theorem MR.fr {S : List en_S} {σ σ' : Nat → Nat → Int32} {G : q_G} (h : MR S σ G) (e : ∀ b, 90 ≤ b → b < 112 → ¬ scm b → σ' b = σ b) : MR S σ' G := by
  refine ⟨h.mo, ?_, ?_, fun C hC => ?_, ?_, fun k hk => ?_, fun k hk => ?_, fun k hk => ?_, fun i hi => ?_, fun i hi => ?_, fun i hi k hk => ?_, fun i hi => ?_, fun i hi ht => ?_, fun i hi ht => ?_, fun i hi ht => ?_, ?_, fun k hk => ?_⟩
  · rw [e 91 (by omega) (by omega) (by unfold scm; omega)]; exact h.now
  · rw [e 90 (by omega) (by omega) (by unfold scm; omega)]; exact h.ik
  · rw [e 92 (by omega) (by omega) (by unfold scm; omega)]; exact h.img C hC
  · rw [e 90 (by omega) (by omega) (by unfold scm; omega)]; exact h.tl
  · rw [e 95 (by omega) (by omega) (by unfold scm; omega)]; exact h.tp k hk
  · rw [e 96 (by omega) (by omega) (by unfold scm; omega)]; exact h.ks k hk
  · rw [e 97 (by omega) (by omega) (by unfold scm; omega)]; exact h.ka k hk
  · rw [e 103 (by omega) (by omega) (by unfold scm; omega)]; exact h.so i hi
  · rw [e 104 (by omega) (by omega) (by unfold scm; omega)]; exact h.sz i hi
  · rw [e 105 (by omega) (by omega) (by unfold scm; omega)]; exact h.ce i hi k hk
  · rw [e 106 (by omega) (by omega) (by unfold scm; omega)]; exact h.th i hi
  · rw [e 107 (by omega) (by omega) (by unfold scm; omega), e 108 (by omega) (by omega) (by unfold scm; omega)]; exact h.h1 i hi ht
  · rw [e 107 (by omega) (by omega) (by unfold scm; omega), e 109 (by omega) (by omega) (by unfold scm; omega)]; exact h.h2 i hi ht
  · rw [e 107 (by omega) (by omega) (by unfold scm; omega)]; exact h.h3 i hi ht
  · rw [e 90 (by omega) (by omega) (by unfold scm; omega)]; exact h.wc
  · rw [e 111 (by omega) (by omega) (by unfold scm; omega)]; exact h.wt k hk
/-- a call whose two sides answer alike -/
def St (xs : List Int32) (jx jm : Nat) (as : List Value) : Prop := ∀ S σ G, XR S σ G → MR S σ G → GO G → ∃ σ1 σ2 v, mx_ev xs mx_P 12 jx (.ref 0 :: as) (en S σ) = some (some (.int v), en S σ1) ∧ mx_ev xs mx_P 12 jm (.ref 90 :: as) (en S σ1) = some (some (.int v), en S σ2) ∧ RR S σ2
