/-! ===== what a method's walk stands on ===== -/
def mx_tys (ta : Nat → ClassId) : List (ClassId × FieldType) := [(ta 0, .int), (ta 1, .boolean), (ta 2, .char), (ta 3, .object RX1), (ta 4, .object RX3), (ta 5, .object RX4), (ta 6, .object RX5)]
def mx_NM : List (String × Nat × MethodName) := [(RX0, 59, yX1_init), (RX0, 148, yX6_heldWithin), (RX4, 17, yX1_init), (RX4, 24, yX3_init), (RX6, 39, yX2_init), (RX6, 62, yX3_init), (RX6, 63, yX4_init)]
def mx_SL : List (Nat × String × Nat) := [(106, "press", 0), (112, "fee", 1), (114, "fine", 2), (143, "hokt", 3), (145, "pt", 4), (147, "sk", 5)]
def mx_kty : Nat → FieldType
  | 0 => .int
  | _ => .byte
def mx_C (xs : List Int32) (D : va_G) (ta : Nat → ClassId) (base : Nat) (sk : Nat → Value) (U : State) (H : Heap) : Prop :=
  va_K D vwCl (mx_tys ta) U ∧ (∀ q ∈ mx_NM, va_Nw (.methodLinkNest q.1 q.2.1 q.2.2 "CreaseLines") U) ∧ va_Nw (.fieldLinkNest "CreaseLines$Leg" 30 "CreaseLines" "ABOVE" "[I" "CreaseLines") U ∧
  (va_AO RX1 U ∧ va_AO RX3 U ∧ va_AO RX4 U ∧ va_AO RX5 U) ∧
  (va_Z "CreaseLines" "ABOVE" "[I" (sk 200) (mx_A base) U H ∧ va_Z "CreaseLines" "MOST_OF_RULE" "[I" (sk 201) (mx_A base) U H ∧ va_Z "java/lang/String" "COMPACT_STRINGS" "Z" (.int 1) (mx_A base) U H ∧ va_Z "jdk/internal/util/Preconditions" "SIOOBE_FORMATTER" "Ljava/util/function/BiFunction;" (sk 999) (mx_A base) U H) ∧
  (∀ (r t : Nat) (l : List Int32), mx_kt xs r = some (t, l) → ∃ a : Nat, sk r = .ref a ∧ va_T (mx_kty t) a l.length (fun j => .int (l.getD j 0)) (mx_A base) U H) ∧
  (∀ i : Nat, i < 6 → ∃ a : Nat, sk i = .ref a ∧ va_O "java/lang/String" a (mx_A base) U H ∧ va_OF "java/lang/String" "coder" "B" (.int 0) a (mx_A base) U H ∧ va_OF "java/lang/String" "value" "[B" (sk (100 + i)) a (mx_A base) U H) ∧
  (∀ q ∈ mx_SL, ∃ a : Nat, sk q.2.2 = .ref a ∧ vk_R RX2 q.1 q.2.1 a U)
theorem mx_C.same {xs : List Int32} {D : va_G} {ta : Nat → ClassId} {base : Nat} {sk : Nat → Value} {u U : State} {H : Heap} (hv : U.vm = u.vm) (h : mx_C xs D ta base sk u H) : mx_C xs D ta base sk U H := by
  obtain ⟨h1, h2, h3, ⟨h4, h5, h6, h7⟩, ⟨h8, h9, h10, h11⟩, h12, h13, h14⟩ := h
  have ha : u.vm.Alike U.vm := by rw [hv]; exact Vm.Alike.refl _
  refine ⟨h1.moved ha, fun q hq => (h2 q hq).same rfl hv.symm, h3.same rfl hv.symm, ⟨h4.moved ha, h5.moved ha, h6.moved ha, h7.moved ha⟩, ⟨h8.moved ha, h9.moved ha, h10.moved ha, h11.moved ha⟩, fun r t l hr => ?_, fun i hi => ?_, fun q hq => ?_⟩
  · obtain ⟨a, e, ht⟩ := h12 r t l hr
    exact ⟨a, e, ht.moved ha⟩
  · obtain ⟨a, e, x1, x2, x3⟩ := h13 i hi
    exact ⟨a, e, x1.moved ha, x2.moved ha, x3.moved ha⟩
  · obtain ⟨a, e, x1⟩ := h14 q hq
    exact ⟨a, e, x1.same hv⟩
theorem mx_C.warm {xs : List Int32} {D : va_G} {ta : Nat → ClassId} {base : Nat} {sk : Nat → Value} {s U : State} {H : Heap} (hW : s.WarmedH U.vm) (h : mx_C xs D ta base sk s H) : mx_C xs D ta base sk U H := by
  obtain ⟨h1, h2, h3, ⟨h4, h5, h6, h7⟩, ⟨h8, h9, h10, h11⟩, h12, h13, h14⟩ := h
  have ha : s.vm.Alike U.vm := hW.alike
  refine ⟨h1.moved ha, fun q hq => va_Nw.warmM hW (h2 q hq), va_Nw.warmF hW h3, ⟨h4.moved ha, h5.moved ha, h6.moved ha, h7.moved ha⟩, ⟨h8.moved ha, h9.moved ha, h10.moved ha, h11.moved ha⟩, fun r t l hr => ?_, fun i hi => ?_, fun q hq => ?_⟩
  · obtain ⟨a, e, ht⟩ := h12 r t l hr
    exact ⟨a, e, ht.moved ha⟩
  · obtain ⟨a, e, x1, x2, x3⟩ := h13 i hi
    exact ⟨a, e, x1.moved ha, x2.moved ha, x3.moved ha⟩
  · obtain ⟨a, e, x1⟩ := h14 q hq
    exact ⟨a, e, x1.warm hW⟩
theorem mx_C.kept {xs : List Int32} {D : va_G} {ta : Nat → ClassId} {base : Nat} {sk : Nat → Value} {U : State} {H H1 : Heap} (hq : ∀ a : Nat, a < H.size → ¬ mx_A base a → H1[a]? = H[a]?) (h : mx_C xs D ta base sk U H) : mx_C xs D ta base sk U H1 := by
  obtain ⟨h1, h2, h3, h4, ⟨h8, h9, h10, h11⟩, h12, h13, h14⟩ := h
  refine ⟨h1, h2, h3, h4, ⟨h8.kept hq, h9.kept hq, h10.kept hq, h11.kept hq⟩, fun r t l hr => ?_, fun i hi => ?_, h14⟩
  · obtain ⟨a, e, ht⟩ := h12 r t l hr
    exact ⟨a, e, ht.kept hq⟩
  · obtain ⟨a, e, x1, x2, x3⟩ := h13 i hi
    exact ⟨a, e, x1.kept hq, x2.kept hq, x3.kept hq⟩
/-! the classes, by number -/
def mx_T : Nat → u_T
  | 0 => TX0 | 1 => TX1 | 2 => TX2 | 3 => TX3 | 4 => TX4 | 5 => TX5 | 6 => TX6 | _ => TX7
def mx_RX : Nat → String
  | 0 => RX0 | 1 => RX1 | 2 => RX2 | 3 => RX3 | 4 => RX4 | 5 => RX5 | 6 => RX6 | _ => RX7
def mx_Nf : Nat → Nat
  | 0 => 13 | 1 => 6 | 2 => 15 | 3 => 3 | 4 => 4 | 5 => 3 | 6 => 12 | _ => 33
def mx_tyf : Nat → Nat → FieldType
  | 0 => tyX0 | 1 => tyX1 | 2 => tyX2 | 3 => tyX3 | 4 => tyX4 | 5 => tyX5 | 6 => tyX6 | _ => tyX7
def mx_WS : List Cond := wsX00 ++ (wsX10 ++ (wsX20 ++ (wsX30 ++ (wsX40 ++ (wsX50 ++ (wsX60 ++ wsX70))))))
theorem mx_cl_at {a : Nat} (h : a < 8) : vwCl[a]? = some (mx_RX a, mx_T a, mx_Nf a) := by
  match a, h with
  | 0, _ | 1, _ | 2, _ | 3, _ | 4, _ | 5, _ | 6, _ | 7, _ => rfl
  | a + 8, h => omega
theorem mx_cl_ws {a : Nat} (h : a < 8) : ∀ w ∈ u_ws (mx_RX a) (mx_T a) (mx_Nf a), w ∈ mx_WS := by
  intro w hw
  unfold mx_WS
  simp only [List.mem_append]
  match a, h, hw with
  | 0, _, hw => exact Or.inl hw
  | 1, _, hw => exact Or.inr (Or.inl hw)
  | 2, _, hw => exact Or.inr (Or.inr (Or.inl hw))
  | 3, _, hw => exact Or.inr (Or.inr (Or.inr (Or.inl hw)))
  | 4, _, hw => exact Or.inr (Or.inr (Or.inr (Or.inr (Or.inl hw))))
  | 5, _, hw => exact Or.inr (Or.inr (Or.inr (Or.inr (Or.inr (Or.inl hw)))))
  | 6, _, hw => exact Or.inr (Or.inr (Or.inr (Or.inr (Or.inr (Or.inr (Or.inl hw))))))
  | 7, _, hw => exact Or.inr (Or.inr (Or.inr (Or.inr (Or.inr (Or.inr (Or.inr hw))))))
  | a + 8, h, _ => omega
theorem mx_cl_ty {a : Nat} (h : a < 8) : ∀ k, k < mx_Nf a → parseFieldDescriptor (mx_T a k).2.2.1 = some (mx_tyf a k) := by
  match a, h with
  | 0, _ => exact tyX0_ok
  | 1, _ => exact tyX1_ok
  | 2, _ => exact tyX2_ok
  | 3, _ => exact tyX3_ok
  | 4, _ => exact tyX4_ok
  | 5, _ => exact tyX5_ok
  | 6, _ => exact tyX6_ok
  | 7, _ => exact tyX7_ok
  | a + 8, h => omega
theorem mx_cl_nm {a : Nat} (h : a < 8) : ∀ i, i < mx_Nf a → ∀ j, j < mx_Nf a → i ≠ j → (mx_T a i).2.1 ≠ (mx_T a j).2.1 := by
  match a, h with
  | 0, _ => exact nmX0
  | 1, _ => exact nmX1
  | 2, _ => exact nmX2
  | 3, _ => exact nmX3
  | 4, _ => exact nmX4
  | 5, _ => exact nmX5
  | 6, _ => exact nmX6
  | 7, _ => exact nmX7
  | a + 8, h => omega
theorem mx_cl_df {a : Nat} (h : a < 8) : (mx_df a).length = mx_Nf a ∧ ∀ (base : Nat) (sk : Nat → Value), (mx_df a).map (mx_cv base sk) = mx_df a ∧ ∀ j, j < mx_Nf a → defaultValue (mx_tyf a j) = vp_V (mx_df a) j := by
  match a, h with
  | 0, _ => exact ⟨rfl, fun _ _ => ⟨rfl, by decide +kernel⟩⟩
  | 1, _ => exact ⟨rfl, fun _ _ => ⟨rfl, by decide +kernel⟩⟩
  | 2, _ => exact ⟨rfl, fun _ _ => ⟨rfl, by decide +kernel⟩⟩
  | 3, _ => exact ⟨rfl, fun _ _ => ⟨rfl, by decide +kernel⟩⟩
  | 4, _ => exact ⟨rfl, fun _ _ => ⟨rfl, by decide +kernel⟩⟩
  | 5, _ => exact ⟨rfl, fun _ _ => ⟨rfl, by decide +kernel⟩⟩
  | 6, _ => exact ⟨rfl, fun _ _ => ⟨rfl, by decide +kernel⟩⟩
  | 7, _ => exact ⟨rfl, fun _ _ => ⟨rfl, by decide +kernel⟩⟩
  | a + 8, h => omega
/-! what each instruction needs of the tables -/
def mx_len (b : Nat) : Instr → Nat
  | .bipush _ | .ldc _ | .iload _ | .aload _ | .istore _ | .astore _ | .newarray _ => 2
  | .sipush _ | .ldc_w _ | .iinc _ _ | .goto _ | .if_icmp _ _ | .ifCond _ _ | .ifnull _ | .ifnonnull _ | .getfield _ | .putfield _ | .getstatic _ | .new _ | .anewarray _ | .invokevirtual _ | .invokestatic _ | .invokespecial _ | .checkcast _ => 3
  | .tableswitch _ _ _ _ | .lookupswitch _ _ => b
  | _ => 1
def mx_sta (w a : Nat) : String × String × String := match w with
  | 0 => (match a with | 200 => ("CreaseLines", "ABOVE", "[I") | 201 => ("CreaseLines", "MOST_OF_RULE", "[I") | _ => ("jdk/internal/util/Preconditions", "SIOOBE_FORMATTER", "Ljava/util/function/BiFunction;"))
  | _ => ("java/lang/String", "COMPACT_STRINGS", "Z")
def mx_need (P : List mx_M) (own : String) : mx_I → List Cond
  | (_, ins, _, _, a, b, w, _, v, _) => match ins with
    | .getfield i => (match w with
      | 5 => [.fieldLink own i "java/lang/String" "value" "[B"]
      | 6 => [.fieldLink own i "java/lang/String" "coder" "B"]
      | _ => [.fieldLink own i (mx_T a b).1 (mx_T a b).2.1 (mx_T a b).2.2.1])
    | .putfield i => [.fieldLink own i (mx_T a b).1 (mx_T a b).2.1 (mx_T a b).2.2.1]
    | .getstatic i => bif decide (v = 2) then [] else [.fieldLink own i (mx_sta w a).1 (mx_sta w a).2.1 (mx_sta w a).2.2]
    | .ldc i => (match w with | 0 => [.constant own i v] | _ => [])
    | .ldc_w i => [.constant own i v]
    | .new i => [.classLink own i (mx_RX a), .instantiable (mx_RX a) (mx_Nf a), .initialized (mx_RX a)]
    | .newarray t => [.arrayClass (newarray.typeOf t)]
    | .anewarray i => [.classLink own i (mx_RX (mx_kc a))]
    | .invokevirtual i => (match P[a]? with
      | some M => [.methodLink own i M.1, .instanceMethod M.1, .selects M.1.cls M.1 M.1, .initialized M.1.cls]
      | none => [])
    | .invokestatic i => (match w with
      | 8 => [.methodLink own i arraycopyName, .native arraycopyName, .static arraycopyName, .initialized "java/lang/System"]
      | _ => (match P[a]? with
        | some M => (bif decide (v = 1) then [.static M.1, .initialized M.1.cls] else [.methodLink own i M.1, .static M.1, .initialized M.1.cls])
        | none => []))
    | .invokespecial i => (match w with
      | 9 => [.methodLink own i objectInit, .instanceMethod objectInit, .code objectInit ⟨#[0xb1]⟩ 1 none]
      | _ => (match P[a]? with
        | some M => (bif decide (v = 1) then [.instanceMethod M.1, .initialized M.1.cls] else [.methodLink own i M.1, .instanceMethod M.1, .initialized M.1.cls])
        | none => []))
    | _ => []
def mx_tb (pc : Nat) : Int → List Int → List (Int32 × Nat) → Bool
  | _, [], [] => true
  | lo, o :: os, (v, t) :: cs => decide (v.toInt = lo) && decide ((pc : Int) + o = (t : Int)) && mx_tb pc (lo + 1) os cs
  | _, _, _ => false
def mx_lk (pc : Nat) : List (Int × Int) → List (Int32 × Nat) → Bool
  | [], [] => true
  | (n, o) :: ps, (v, t) :: cs => decide (v.toInt = n) && decide ((pc : Int) + o = (t : Int)) && mx_lk pc ps cs
  | _, _ => false
def mx_cal (M : mx_M) (b : Nat) : Bool := decide (M.1.cls ≠ "java/lang/invoke/MethodHandle" ∧ M.1.cls ≠ "java/lang/invoke/VarHandle" ∧ (parseMethodDescriptor M.1.desc).map (fun d => d.parameters.length) = some b) && Nat.ble M.2.2.1 9
def mx_isref : FieldType → Bool
  | .object _ => true
  | .array _ => true
  | _ => false
def mx_so (w a : Nat) (v : Int32) : Bool := match w with
  | 0 => Nat.beq a 200 || Nat.beq a 201 || Nat.beq a 999
  | _ => decide (v = 1)
/-- what is checked of an instruction, by the kernel -/
def mx_ok (P : List mx_M) (y : MethodName) (cc : ByteArray) (nL : Nat) (ret : Option FieldType) : mx_I → Bool
  | (pc, ins, _, _, a, b, w, u, v, cs) => decide (decode cc pc = .ok (ins, mx_len b ins)) && (match ins with
    | .iconst n => decide (Int32.ofInt n = v)
    | .bipush n => decide ((Int8.ofInt n).toInt32 = v)
    | .sipush n => decide ((Int16.ofInt n).toInt32 = v)
    | .ldc i => Nat.beq w 0 || (decide (y.cls = RX2) && mx_SL.any (fun q => Nat.beq q.1 i && Nat.beq q.2.2 a))
    | .istore_n n => Nat.blt n.val nL
    | .astore_n n => Nat.blt n.val nL
    | .istore n => Nat.blt n nL
    | .astore n => Nat.blt n nL
    | .iinc n x => Nat.blt n nL && decide (Int32.ofInt x = v)
    | .goto o => decide ((pc : Int) + o = (a : Int))
    | .if_icmp _ o => decide ((pc : Int) + o = (a : Int))
    | .ifCond _ o => decide ((pc : Int) + o = (a : Int))
    | .ifnull o => decide ((pc : Int) + o = (a : Int))
    | .ifnonnull o => decide ((pc : Int) + o = (a : Int))
    | .getfield _ => (match w with | 0 | 1 => Nat.blt a 8 && Nat.blt b (mx_Nf a) | 5 => true | 6 => true | _ => false)
    | .putfield _ => Nat.blt a 8 && Nat.blt b (mx_Nf a) && (match w with | 0 => decide (mx_tyf a b = .int) | 1 => mx_isref (mx_tyf a b) | _ => decide (mx_tyf a b = .boolean)) && (!(mx_T a b).2.2.2 || (decide (y.name = "<init>") && decide ((mx_T a b).1 = y.cls)))
    | .getstatic i => bif decide (v = 2) then (decide (y.cls = "CreaseLines$Leg") && Nat.beq i 30 && Nat.beq a 200 && Nat.beq w 0) else mx_so w a v
    | .new _ => Nat.blt a 8
    | .newarray t => decide ((a = 0 ∧ t = .int) ∨ (a = 1 ∧ t = .boolean) ∨ (a = 2 ∧ t = .char))
    | .anewarray _ => decide (3 ≤ a ∧ a ≤ 6)
    | .invokevirtual _ => (match P[a]? with
      | some M => mx_cal M b && (match u with | 99 => decide (M.1.cls = "java/lang/String") | _ => Nat.blt u 8 && decide (mx_RX u = M.1.cls))
      | none => true)
    | .invokestatic i => Nat.beq w 8 || (match P[a]? with
      | some M => mx_cal M b && (bif decide (v = 1) then decide ((y.cls, i, M.1) ∈ mx_NM) else true)
      | none => true)
    | .invokespecial i => Nat.beq w 9 || (match P[a]? with
      | some M => mx_cal M b && decide (M.1.name = "<init>") && decide (M.2.2.2.1 = none) && (bif decide (v = 1) then decide ((y.cls, i, M.1) ∈ mx_NM) else true)
      | none => true)
    | .ireturn => (match u with | 0 => decide (ret = some .int) | 1 => decide (ret = some .boolean) | 2 => decide (ret = some .char) | _ => decide (ret = some .byte))
    | .areturn => (match ret with | some t => mx_isref t | none => false)
    | .return_ => decide (ret = none)
    | .tableswitch d lo hi offs => decide ((pc : Int) + d = (a : Int)) && decide (hi + 1 = lo + (offs.toList.length : Int)) && mx_tb pc lo offs.toList cs
    | .lookupswitch d ps => decide ((pc : Int) + d = (a : Int)) && (ps.toList.zip (ps.toList.drop 1)).all (fun (a, next) => a.1 < next.1) && mx_lk pc ps.toList cs
    | _ => true)
