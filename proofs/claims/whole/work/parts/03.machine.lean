/-! ===== A SMALL MACHINE over a pure heap: cells by their numbers; what it runs is tied to the JVM in part 05 ===== -/
abbrev mx_H : Type := List va_E
abbrev mx_R : Type := Option (Option Value × mx_H)
abbrev mx_L : Type := List (Nat × Value)
/-- pc, instruction, whether a walk is cut there, the locals that live there, a, b, w, u, a constant, a switch's arms -/
abbrev mx_I : Type := Nat × Instr × Bool × List Nat × Nat × Nat × Nat × Nat × Int32 × List (Int32 × Nat)
/-- name, bytes, places for locals, what it returns, its instructions -/
abbrev mx_M : Type := MethodName × ByteArray × Nat × Option FieldType × List mx_I
def mx_rm (x y : Int32) : Int32 := x - x / y * y
def mx_us (x y : Int32) : Int32 := (x.toUInt32 >>> (y.toUInt32 &&& Int32.toUInt32 31)).toInt32
def mx_ld (ls : mx_L) (i : Nat) : Option Value := match ls.find? (fun q => Nat.beq q.1 i) with
  | some q => some q.2
  | none => none
def mx_st (ls : mx_L) (i : Nat) (v : Value) : mx_L := (i, v) :: ls.filter (fun q => !(q.1 == i) && !(q.1 + 1 == i && q.2.category == 2))
def mx_li (ls : mx_L) (i : Nat) (f : Int32 → mx_R) : mx_R := match mx_ld ls i with
  | some (.int x) => f x
  | _ => none
def mx_la (ls : mx_L) (i : Nat) (f : Value → mx_R) : mx_R := match mx_ld ls i with
  | some (.ref x) => f (.ref x)
  | some .null => f .null
  | some (.retAddr x) => f (.retAddr x)
  | _ => none
def mx_s1 (st : List Value) (f : Int32 → List Value → mx_R) : mx_R := match st with
  | .int x :: r => f x r
  | _ => none
def mx_s2 (st : List Value) (f : Int32 → Int32 → List Value → mx_R) : mx_R := match st with
  | .int y :: .int x :: r => f x y r
  | _ => none
def mx_sa (st : List Value) (f : Value → List Value → mx_R) : mx_R := match st with
  | .ref x :: r => f (.ref x) r
  | .null :: r => f .null r
  | .retAddr x :: r => f (.retAddr x) r
  | _ => none
def mx_sr (st : List Value) (f : Nat → List Value → mx_R) : mx_R := match st with
  | .ref x :: r => f x r
  | _ => none
def mx_sn (st : List Value) (f0 : List Value → mx_R) (f1 : List Value → mx_R) : mx_R := match st with
  | .null :: r => f0 r
  | .ref _ :: r => f1 r
  | _ => none
def mx_d1 (st : List Value) (f : Value → List Value → mx_R) : mx_R := match st with
  | .int x :: r => f (.int x) r
  | .ref x :: r => f (.ref x) r
  | _ => none
def mx_d2 (st : List Value) (f : Value → Value → List Value → mx_R) : mx_R := match st with
  | .int x :: .ref y :: r => f (.int x) (.ref y) r
  | .int x :: .int y :: r => f (.int x) (.int y) r
  | _ => none
def mx_ir (st : List Value) (f : Int32 → Nat → List Value → mx_R) : mx_R := match st with
  | .int x :: .ref y :: r => f x y r
  | _ => none
def mx_rr (st : List Value) (f : Nat → Nat → List Value → mx_R) : mx_R := match st with
  | .ref x :: .ref y :: r => f x y r
  | _ => none
def mx_iir (st : List Value) (f : Int32 → Int32 → Nat → List Value → mx_R) : mx_R := match st with
  | .int x :: .int i :: .ref y :: r => f x i y r
  | _ => none
def mx_rir (st : List Value) (f : Nat → Int32 → Nat → List Value → mx_R) : mx_R := match st with
  | .ref x :: .int i :: .ref y :: r => f x i y r
  | _ => none
def mx_cps (st : List Value) (f : Int32 → Int32 → Nat → Int32 → Nat → List Value → mx_R) : mx_R := match st with
  | .int n :: .int dp :: .ref d :: .int sp :: .ref s :: r => f n dp d sp s r
  | _ => none
/-! the heap -/
def mx_gi (h : mx_H) (r ci k : Nat) (f : Int32 → mx_R) : mx_R := match h[r]? with
  | some (.inr (c, fs)) => if c = ci then (match fs[k]? with | some (.int x) => f x | _ => none) else none
  | _ => none
def mx_gr (h : mx_H) (r ci k : Nat) (f : Nat → mx_R) : mx_R := match h[r]? with
  | some (.inr (c, fs)) => if c = ci then (match fs[k]? with | some (.ref x) => f x | _ => none) else none
  | _ => none
def mx_pt (h : mx_H) (r ci k : Nat) (v : Value) (f : mx_H → mx_R) : mx_R := match h[r]? with
  | some (.inr (c, fs)) => if c = ci ∧ k < fs.length then f (h.set r (.inr (c, fs.set k v))) else none
  | _ => none
def mx_pz (h : mx_H) (r ci k : Nat) (v : Int32) (f : mx_H → mx_R) : mx_R := if v = 0 ∨ v = 1 then mx_pt h r ci k (.int v) f else none
def mx_ai (h : mx_H) (r t : Nat) (i : Int32) (f : Int32 → mx_R) : mx_R := match h[r]? with
  | some (.inl (c, n, .inl g)) => if c = t ∧ ¬ (i < 0 ∨ n ≤ i.toNatClampNeg) then f (g i.toNatClampNeg) else none
  | _ => none
def mx_as (h : mx_H) (r t : Nat) (i x : Int32) (f : mx_H → mx_R) : mx_R := match h[r]? with
  | some (.inl (c, n, .inl g)) => if c = t ∧ ¬ (i < 0 ∨ n ≤ i.toNatClampNeg) then f (h.set r (.inl (c, n, .inl (upd g i.toNatClampNeg x)))) else none
  | _ => none
def mx_aa (h : mx_H) (r : Nat) (i : Int32) (f : Nat → mx_R) : mx_R := match h[r]? with
  | some (.inl (c, n, .inr (.inr (.inr (.inr g))))) => if (3 ≤ c ∧ c ≤ 6) ∧ ¬ (i < 0 ∨ n ≤ i.toNatClampNeg) then (match g i.toNatClampNeg with | some a => f a | none => none) else none
  | _ => none
/-- the class of which the rows of a kind are made -/
def mx_kc : Nat → Nat
  | 3 => 1
  | 4 => 3
  | 5 => 4
  | _ => 5
def mx_at (h : mx_H) (r : Nat) (i : Int32) (v : Nat) (f : mx_H → mx_R) : mx_R := match h[r]?, h[v]? with
  | some (.inl (c, n, .inr (.inr (.inr (.inr g))))), some (.inr (c2, _)) => if (3 ≤ c ∧ c ≤ 6) ∧ c2 = mx_kc c ∧ ¬ (i < 0 ∨ n ≤ i.toNatClampNeg) then f (h.set r (.inl (c, n, .inr (.inr (.inr (.inr (va_up g i.toNatClampNeg (some v)))))))) else none
  | _, _ => none
def mx_al (h : mx_H) (r : Nat) (f : Int32 → mx_R) : mx_R := match h[r]? with
  | some (.inl (c, n, _)) => if c < 7 then f (Int32.ofNat n) else none
  | _ => none
def mx_nw (h : mx_H) (ci : Nat) (fs : List Value) (f : Nat → mx_H → mx_R) : mx_R := f h.length (h ++ [.inr (ci, fs)])
def mx_na (h : mx_H) (t : Nat) (n : Int32) (f : Nat → mx_H → mx_R) : mx_R := if ¬ n < 0 ∧ n.toNatClampNeg ≤ 4096 then f h.length (h ++ [.inl (t, n.toNatClampNeg, .inl (fun _ => 0))]) else none
def mx_nq (h : mx_H) (t : Nat) (n : Int32) (f : Nat → mx_H → mx_R) : mx_R := if ¬ n < 0 ∧ n.toNatClampNeg ≤ 4096 then f h.length (h ++ [.inl (t, n.toNatClampNeg, .inr (.inr (.inr (.inr (fun _ => none)))))]) else none
def mx_cp (h : mx_H) (s : Nat) (sp : Int32) (d : Nat) (dp n : Int32) (f : mx_H → mx_R) : mx_R := match h[s]?, h[d]? with
  | some (.inl (c0, n0, .inl f0)), some (.inl (c1, n1, .inl f1)) => if c0 = 0 ∧ c1 = 0 ∧ ¬ sp < 0 ∧ ¬ dp < 0 ∧ ¬ n < 0 ∧ sp.toNatClampNeg + n.toNatClampNeg ≤ n0 ∧ dp.toNatClampNeg + n.toNatClampNeg ≤ n1 then f (h.set d (.inl (c1, n1, .inl (va_cpy f0 f1 sp.toNatClampNeg dp.toNatClampNeg n.toNatClampNeg)))) else none
  | _, _ => none
/-! what is older than the law's call: .retAddr i is constant text i, .retAddr (100 + i) its bytes; 200, 201 the constant rows, 202 the script -/
def mx_kt (xs : List Int32) : Nat → Option (Nat × List Int32)
  | 100 => some (7, [112, 114, 101, 115, 115])
  | 101 => some (7, [102, 101, 101])
  | 102 => some (7, [102, 105, 110, 101])
  | 103 => some (7, [104, 111, 107, 116])
  | 104 => some (7, [112, 116])
  | 105 => some (7, [115, 107])
  | 200 => some (0, [-1, 0, 0, 1, 2, 0])
  | 201 => some (0, [100, 3, 99, 99])
  | 202 => some (0, xs)
  | _ => none
def mx_ck (xs : List Int32) (t r : Nat) (i : Int32) (f : Int32 → mx_R) : mx_R := match mx_kt xs r with
  | some (t', l) => if t' = t ∧ ¬ (i < 0 ∨ l.length ≤ i.toNatClampNeg) then f (l.getD i.toNatClampNeg 0) else none
  | none => none
def mx_cn (xs : List Int32) (r : Nat) (f : Int32 → mx_R) : mx_R := match mx_kt xs r with
  | some (_, l) => f (Int32.ofNat l.length)
  | none => none
def mx_gf (h : mx_H) (st : List Value) (a b w : Nat) (f : List Value → mx_R) : mx_R := match w with
  | 0 => mx_sr st (fun r rest => mx_gi h r a b (fun x => f (.int x :: rest)))
  | 1 => mx_sr st (fun r rest => mx_gr h r a b (fun x => f (.ref x :: rest)))
  | 5 => (match st with | .retAddr i :: rest => bif Nat.ble (i + 1) 6 then f (.retAddr (100 + i) :: rest) else none | _ => none)
  | _ => (match st with | .retAddr i :: rest => bif Nat.ble (i + 1) 6 then f (.int 0 :: rest) else none | _ => none)
def mx_bl (xs : List Int32) (t t' : Nat) (h : mx_H) (st : List Value) (f : List Value → mx_R) : mx_R := match st with
  | .int i :: .ref r :: rest => mx_ai h r t i (fun x => f (.int x :: rest))
  | .int i :: .retAddr r :: rest => mx_ck xs t' r i (fun x => f (.int x :: rest))
  | _ => none
def mx_ln (xs : List Int32) (h : mx_H) (st : List Value) (f : List Value → mx_R) : mx_R := match st with
  | .ref r :: rest => mx_al h r (fun x => f (.int x :: rest))
  | .retAddr r :: rest => mx_cn xs r (fun x => f (.int x :: rest))
  | _ => none
/-! calls: what comes back -/
def mx_c0 (r : mx_R) (f : mx_H → mx_R) : mx_R := match r with
  | some (none, h) => f h
  | _ => none
def mx_c1 (r : mx_R) (f : Int32 → mx_H → mx_R) : mx_R := match r with
  | some (some (.int x), h) => f x h
  | _ => none
def mx_c2 (r : mx_R) (f : Nat → mx_H → mx_R) : mx_R := match r with
  | some (some (.ref x), h) => f x h
  | _ => none
def mx_c3 (r : mx_R) (f0 : mx_H → mx_R) (f1 : Nat → mx_H → mx_R) : mx_R := match r with
  | some (some .null, h) => f0 h
  | some (some (.ref x), h) => f1 x h
  | _ => none
def mx_c4 (r : mx_R) (f : Nat → mx_H → mx_R) : mx_R := match r with
  | some (some (.retAddr x), h) => f x h
  | _ => none
def mx_cl (h : mx_H) (r ci : Nat) (f : mx_R) : mx_R := match h[r]? with
  | some (.inr (c, _)) => if c = ci then f else none
  | _ => none
def mx_bk (w : Nat) (r : mx_R) (rest : List Value) (f : List Value → mx_H → mx_R) : mx_R := match w with
  | 0 => mx_c0 r (fun h => f rest h)
  | 1 => mx_c1 r (fun x h => f (.int x :: rest) h)
  | 2 => mx_c2 r (fun x h => f (.ref x :: rest) h)
  | 3 => mx_c3 r (fun h => f (.null :: rest) h) (fun x h => f (.ref x :: rest) h)
  | _ => mx_c4 r (fun x h => f (.retAddr x :: rest) h)
def mx_iv (h : mx_H) (st : List Value) (n ci : Nat) (f : List Value → List Value → mx_R) : mx_R := match st.drop n with
  | .ref r :: rest => bif Nat.ble ((rest.map fun v => v.category).sum) 8 && Nat.beq (st.take n).length n && Nat.ble (ci + 1) 8 then mx_cl h r ci (f (.ref r :: (st.take n).reverse) rest) else none
  | .retAddr r :: rest => bif Nat.ble ((rest.map fun v => v.category).sum) 8 && Nat.beq (st.take n).length n && Nat.beq ci 99 && Nat.ble (r + 1) 6 then f (.retAddr r :: (st.take n).reverse) rest else none
  | _ => none
def mx_is (st : List Value) (n : Nat) (f : List Value → List Value → mx_R) : mx_R := match st.drop n with
  | .ref r :: rest => bif Nat.ble ((rest.map fun v => v.category).sum) 8 && Nat.beq (st.take n).length n then f (.ref r :: (st.take n).reverse) rest else none
  | _ => none
def mx_ss (st : List Value) (n : Nat) (f : List Value → List Value → mx_R) : mx_R :=
  bif Nat.ble (((st.drop n).map fun v => v.category).sum) 8 && Nat.beq (st.take n).length n then f (st.take n).reverse (st.drop n) else none
/-! ends -/
def mx_ri (u : Nat) (st : List Value) (h : mx_H) : mx_R := match st with
  | [.int x] => (match u with
    | 0 => some (some (.int x), h)
    | 1 => if x = 0 ∨ x = 1 then some (some (.int x), h) else none
    | 2 => if (x.toUInt32 % 65536).toInt32 = x then some (some (.int x), h) else none
    | _ => if x.toInt8.toInt32 = x then some (some (.int x), h) else none)
  | _ => none
def mx_ra (st : List Value) (h : mx_H) : mx_R := match st with
  | [.ref x] => some (some (.ref x), h)
  | [.null] => some (some .null, h)
  | [.retAddr x] => some (some (.retAddr x), h)
  | _ => none
def mx_rv (st : List Value) (h : mx_H) : mx_R := match st with
  | [] => some (none, h)
  | _ => none
def mx_sw : List (Int32 × Nat) → Int32 → (Nat → mx_R) → mx_R → mx_R
  | [], _, _, d => d
  | (v, t) :: cs, x, f, d => if x = v then f t else mx_sw cs x f d
def mx_ic (cd : Jvm.ClassFile.Cond) (x y : Int32) (a b : mx_R) : mx_R := match cd with
  | .eq => if x = y then a else b
  | .ne => if x = y then b else a
  | .lt => if x < y then a else b
  | .ge => if y ≤ x then a else b
  | .gt => if y < x then a else b
  | .le => if x ≤ y then a else b
/-- a new object's fields -/
def mx_df : Nat → List Value
  | 0 => [.null, .int 0, .null, .null, .int 0, .null, .int 0, .int 0, .int 0, .int 0, .int 0, .null, .null]
  | 1 => [.int 0, .int 0, .int 0, .int 0, .int 0, .int 0]
  | 2 => [.null, .int 0, .int 0, .int 0, .int 0, .null, .int 0, .null, .int 0, .null, .int 0, .int 0, .int 0, .int 0, .int 0]
  | 3 => [.int 0, .int 0, .null]
  | 4 => [.int 0, .null, .null, .int 0]
  | 5 => [.int 0, .int 0, .null]
  | 6 => [.null, .null, .null, .int 0, .null, .null, .int 0, .null, .null, .null, .null, .int 0]
  | 7 => [.null, .null, .null, .int 0, .null, .null, .int 0, .int 0, .int 0, .int 0, .int 0, .int 0, .int 0, .null, .null, .null, .int 0, .int 0, .null, .int 0, .null, .null, .null, .null, .null, .null, .null, .null, .null, .null, .null, .null, .int 0]
  | _ => []
/-- what a static holds -/
def mx_sv (w a : Nat) (v : Int32) : Value := match w with
  | 0 => .retAddr a
  | _ => .int v
/-- some of the locals, in an order -/
def mx_nm : List Nat → mx_L → mx_L
  | [], _ => []
  | i :: is, ls => match mx_ld ls i with
    | some v => (i, v) :: mx_nm is ls
    | none => mx_nm is ls
/-- a walk from one cut to the next: 'call' is what calls answer, 'ct' goes on at a cut -/
def mx_fw (xs : List Int32) (call : Nat → List Value → mx_H → mx_R) (c : List mx_I) (ct : Nat → mx_L → List Value → mx_H → mx_R) : Bool → Nat → Nat → mx_L → List Value → mx_H → mx_R
  | _, 0, _, _, _, _ => none
  | fi, k + 1, pc, ls, st, h =>
    match c.find? (fun x => Nat.beq x.1 pc) with
    | none => none
    | some (_, ins, cut, lv, a, b, w, u, v, cs) =>
      bif (!fi && cut) then ct pc (mx_nm lv ls) st h else
      match ins with
      | .iconst _ => mx_fw xs call c ct false k (pc + 1) ls (.int v :: st) h
      | .bipush _ => mx_fw xs call c ct false k (pc + 2) ls (.int v :: st) h
      | .sipush _ => mx_fw xs call c ct false k (pc + 3) ls (.int v :: st) h
      | .ldc _ => bif Nat.beq w 0 then mx_fw xs call c ct false k (pc + 2) ls (.int v :: st) h else mx_fw xs call c ct false k (pc + 2) ls (.retAddr a :: st) h
      | .ldc_w _ => mx_fw xs call c ct false k (pc + 3) ls (.int v :: st) h
      | .aconst_null => mx_fw xs call c ct false k (pc + 1) ls (.null :: st) h
      | .iload_n n => mx_li ls n.val (fun x => mx_fw xs call c ct false k (pc + 1) ls (.int x :: st) h)
      | .iload n => mx_li ls n (fun x => mx_fw xs call c ct false k (pc + 2) ls (.int x :: st) h)
      | .aload_n n => mx_la ls n.val (fun x => mx_fw xs call c ct false k (pc + 1) ls (x :: st) h)
      | .aload n => mx_la ls n (fun x => mx_fw xs call c ct false k (pc + 2) ls (x :: st) h)
      | .istore_n n => mx_s1 st (fun x r => mx_fw xs call c ct false k (pc + 1) (mx_st ls n.val (.int x)) r h)
      | .istore n => mx_s1 st (fun x r => mx_fw xs call c ct false k (pc + 2) (mx_st ls n (.int x)) r h)
      | .astore_n n => mx_sa st (fun x r => mx_fw xs call c ct false k (pc + 1) (mx_st ls n.val x) r h)
      | .astore n => mx_sa st (fun x r => mx_fw xs call c ct false k (pc + 2) (mx_st ls n x) r h)
      | .iinc n _ => mx_li ls n (fun x => mx_fw xs call c ct false k (pc + 3) (mx_st ls n (.int (x + v))) st h)
      | .iadd => mx_s2 st (fun x y r => mx_fw xs call c ct false k (pc + 1) ls (.int (x + y) :: r) h)
      | .isub => mx_s2 st (fun x y r => mx_fw xs call c ct false k (pc + 1) ls (.int (x - y) :: r) h)
      | .imul => mx_s2 st (fun x y r => mx_fw xs call c ct false k (pc + 1) ls (.int (x * y) :: r) h)
      | .iand => mx_s2 st (fun x y r => mx_fw xs call c ct false k (pc + 1) ls (.int (x &&& y) :: r) h)
      | .ior => mx_s2 st (fun x y r => mx_fw xs call c ct false k (pc + 1) ls (.int (x ||| y) :: r) h)
      | .ixor => mx_s2 st (fun x y r => mx_fw xs call c ct false k (pc + 1) ls (.int (x ^^^ y) :: r) h)
      | .idiv => mx_s2 st (fun x y r => if y = 0 then none else mx_fw xs call c ct false k (pc + 1) ls (.int (x / y) :: r) h)
      | .irem => mx_s2 st (fun x y r => if y = 0 then none else mx_fw xs call c ct false k (pc + 1) ls (.int (mx_rm x y) :: r) h)
      | .ineg => mx_s1 st (fun x r => mx_fw xs call c ct false k (pc + 1) ls (.int (-x) :: r) h)
      | .ishl => mx_s2 st (fun x y r => mx_fw xs call c ct false k (pc + 1) ls (.int (x <<< (y &&& 31)) :: r) h)
      | .ishr => mx_s2 st (fun x y r => mx_fw xs call c ct false k (pc + 1) ls (.int (x >>> (y &&& 31)) :: r) h)
      | .iushr => mx_s2 st (fun x y r => mx_fw xs call c ct false k (pc + 1) ls (.int (mx_us x y) :: r) h)
      | .i2s => mx_s1 st (fun x r => mx_fw xs call c ct false k (pc + 1) ls (.int x.toInt16.toInt32 :: r) h)
      | .i2c => mx_s1 st (fun x r => mx_fw xs call c ct false k (pc + 1) ls (.int (x.toUInt32 % 65536).toInt32 :: r) h)
      | .i2b => mx_s1 st (fun x r => mx_fw xs call c ct false k (pc + 1) ls (.int x.toInt8.toInt32 :: r) h)
      | .dup => mx_d1 st (fun x r => mx_fw xs call c ct false k (pc + 1) ls (x :: x :: r) h)
      | .dup2 => mx_d2 st (fun x y r => mx_fw xs call c ct false k (pc + 1) ls (x :: y :: x :: y :: r) h)
      | .pop => mx_d1 st (fun _ r => mx_fw xs call c ct false k (pc + 1) ls r h)
      | .goto _ => mx_fw xs call c ct false k a ls st h
      | .if_icmp cd _ => mx_s2 st (fun x y r => mx_ic cd x y (mx_fw xs call c ct false k a ls r h) (mx_fw xs call c ct false k (pc + 3) ls r h))
      | .ifCond cd _ => mx_s1 st (fun x r => mx_ic cd x 0 (mx_fw xs call c ct false k a ls r h) (mx_fw xs call c ct false k (pc + 3) ls r h))
      | .ifnull _ => mx_sn st (fun r => mx_fw xs call c ct false k a ls r h) (fun r => mx_fw xs call c ct false k (pc + 3) ls r h)
      | .ifnonnull _ => mx_sn st (fun r => mx_fw xs call c ct false k (pc + 3) ls r h) (fun r => mx_fw xs call c ct false k a ls r h)
      | .getfield _ => mx_gf h st a b w (fun st => mx_fw xs call c ct false k (pc + 3) ls st h)
      | .putfield _ => bif Nat.beq w 0 then mx_ir st (fun x r rest => mx_pt h r a b (.int x) (fun h => mx_fw xs call c ct false k (pc + 3) ls rest h)) else bif Nat.beq w 1 then mx_rr st (fun x r rest => mx_pt h r a b (.ref x) (fun h => mx_fw xs call c ct false k (pc + 3) ls rest h)) else mx_ir st (fun x r rest => mx_pz h r a b x (fun h => mx_fw xs call c ct false k (pc + 3) ls rest h))
      | .getstatic _ => mx_fw xs call c ct false k (pc + 3) ls (mx_sv w a v :: st) h
      | .iaload => mx_bl xs 0 0 h st (fun st => mx_fw xs call c ct false k (pc + 1) ls st h)
      | .baload => mx_bl xs 1 7 h st (fun st => mx_fw xs call c ct false k (pc + 1) ls st h)
      | .caload => mx_ir st (fun i r rest => mx_ai h r 2 i (fun x => mx_fw xs call c ct false k (pc + 1) ls (.int x :: rest) h))
      | .iastore => mx_iir st (fun x i r rest => mx_as h r 0 i x (fun h => mx_fw xs call c ct false k (pc + 1) ls rest h))
      | .bastore => mx_iir st (fun x i r rest => mx_as h r 1 i (vp_nar .boolean x) (fun h => mx_fw xs call c ct false k (pc + 1) ls rest h))
      | .castore => mx_iir st (fun x i r rest => mx_as h r 2 i (vp_nar .char x) (fun h => mx_fw xs call c ct false k (pc + 1) ls rest h))
      | .aaload => mx_ir st (fun i r rest => mx_aa h r i (fun x => mx_fw xs call c ct false k (pc + 1) ls (.ref x :: rest) h))
      | .aastore => mx_rir st (fun x i r rest => mx_at h r i x (fun h => mx_fw xs call c ct false k (pc + 1) ls rest h))
      | .arraylength => mx_ln xs h st (fun st => mx_fw xs call c ct false k (pc + 1) ls st h)
      | .new _ => mx_nw h a (mx_df a) (fun r h => mx_fw xs call c ct false k (pc + 3) ls (.ref r :: st) h)
      | .newarray _ => mx_s1 st (fun n rest => mx_na h a n (fun r h => mx_fw xs call c ct false k (pc + 2) ls (.ref r :: rest) h))
      | .anewarray _ => mx_s1 st (fun n rest => mx_nq h a n (fun r h => mx_fw xs call c ct false k (pc + 3) ls (.ref r :: rest) h))
      | .invokevirtual _ => mx_iv h st b u (fun as rest => mx_bk w (call a as h) rest (fun st h => mx_fw xs call c ct false k (pc + 3) ls st h))
      | .invokestatic _ => bif Nat.beq w 8 then mx_cps st (fun n dp d sp s rest => bif Nat.ble ((rest.map fun v => v.category).sum) 8 then mx_cp h s sp d dp n (fun h => mx_fw xs call c ct false k (pc + 3) ls rest h) else none) else mx_ss st b (fun as rest => mx_bk w (call a as h) rest (fun st h => mx_fw xs call c ct false k (pc + 3) ls st h))
      | .invokespecial _ => bif Nat.beq w 9 then mx_sr st (fun _ rest => bif Nat.ble ((rest.map fun v => v.category).sum) 8 then mx_fw xs call c ct false k (pc + 3) ls rest h else none) else mx_is st b (fun as rest => mx_bk w (call a as h) rest (fun st h => mx_fw xs call c ct false k (pc + 3) ls st h))
      | .ireturn => mx_ri u st h
      | .areturn => mx_ra st h
      | .return_ => mx_rv st h
      | .tableswitch _ _ _ _ => mx_s1 st (fun x r => mx_sw cs x (fun t => mx_fw xs call c ct false k t ls r h) (mx_fw xs call c ct false k a ls r h))
      | .lookupswitch _ _ => mx_s1 st (fun x r => mx_sw cs x (fun t => mx_fw xs call c ct false k t ls r h) (mx_fw xs call c ct false k a ls r h))
      | _ => none
/-- a method's body: cuts are passed as often as n says -/
def mx_rn (xs : List Int32) (call : Nat → List Value → mx_H → mx_R) (c : List mx_I) : Nat → Nat → mx_L → List Value → mx_H → mx_R
  | 0, _, _, _, _ => none
  | n + 1, pc, ls, st, h => mx_fw xs call c (mx_rn xs call c n) true 4096 pc ls st h
abbrev mx_N : Nat := 100000
/-- calls, d deep -/
def mx_ev (xs : List Int32) (P : List mx_M) : Nat → Nat → List Value → mx_H → mx_R
  | 0, _, _, _ => none
  | d + 1, j, as, h => match P[j]? with
    | some M => bif Nat.ble (lg_sl as).length M.2.2.1 then mx_rn xs (mx_ev xs P d) M.2.2.2.2 mx_N 0 (lv_args 0 as) [] h else none
    | none => none
