/-! Which table entries are right: checks that the kernel counts out. -/
def wd (p : Nat) (w : Cond) : Bool := decide (lw_tbl[p]? = some w) && goodWord w
theorem wd_in {p : Nat} {w : Cond} (h : wd p w = true) : w ∈ tblG := by
  unfold wd at h
  rw [Bool.and_eq_true, decide_eq_true_eq] at h
  exact List.mem_filter.mpr ⟨List.mem_of_getElem? h.1, h.2⟩
def refTy (d : String) : Bool := match parseFieldDescriptor d with
  | some (.object _) => true
  | some (.array _) => true
  | _ => false
def mnm (y : Nat) : MethodName := (mrs y).1
def mby (y : Nat) : ByteArray := (mrs y).2.1
def mret (y : Nat) : Option FieldType := (mrs y).2.2.2.1
/-- a method's words: [code, static?, static or instance, selects, initialized] -/
def mps (y k : Nat) : Nat := (mrs y).2.2.2.2.2.getD k 0
def retT (r : Option FieldType) : Nat := match r with
  | none => 0
  | some (.object _) => 2
  | some (.array _) => 2
  | _ => 1
def mOK (y : Nat) : Bool := wd (mps y 0) (.code (mnm y) (mby y) (mloc y) (mret y)) && wd (mps y 4) (.initialized (mnm y).cls) && plainName (mnm y).cls && decide ((mnm y).cls ≠ "java/lang/invoke/MethodHandle") && decide ((mnm y).cls ≠ "java/lang/invoke/VarHandle") && Nat.ble (mloc y) 12
def lnk (own : String) (x p nest y : Nat) : Bool := bif Nat.beq nest 0 then wd p (.methodLink own x (mnm y)) else decide (lw_tbl[p]? = some (.methodLinkNest own x (mnm y) "BullStreet"))
def par (y n : Nat) : Bool := decide ((parseMethodDescriptor (mnm y).desc).map (fun d => d.parameters.length) = some n)
def callOK (own : String) (x : Nat) (k : Nat) (ops : List Nat) : Bool := match ops with
  | 0 :: y :: n :: t :: p :: nest :: _ => Nat.beq k 0 && Nat.blt y 238 && mOK y && lnk own x p nest y && par y n && wd (mps y 2) (.static (mnm y)) && Nat.beq t (retT (mret y))
  | 4 :: y :: n :: t :: ci :: p :: nest :: _ => Nat.beq k 1 && Nat.blt y 238 && mOK y && Nat.beq nest 0 && lnk own x p nest y && par y (n - 1) && Nat.blt 0 n && wd (mps y 2) (.instanceMethod (mnm y)) && wd (mps y 3) (.selects (mnm y).cls (mnm y) (mnm y)) && Nat.beq t (retT (mret y)) && (bif Nat.beq ci 99 then decide ((mnm y).cls = "java/lang/String") else Nat.blt ci 8 && decide ((mnm y).cls = nms ci))
  | 5 :: y :: n :: t :: p :: nest :: _ => Nat.beq k 2 && Nat.blt y 238 && mOK y && lnk own x p nest y && par y (n - 1) && Nat.blt 0 n && wd (mps y 2) (.instanceMethod (mnm y)) && decide ((mnm y).name = "<init>") && Nat.beq t 0 && decide (mret y = none)
  | 1 :: p :: _ => Nat.beq k 0 && wd p (.methodLink own x arraycopyName)
  | 2 :: p :: _ => Nat.beq k 1 && wd p (.methodLink own x ⟨"[I", "clone", "()Ljava/lang/Object;"⟩)
  | 3 :: p :: _ => Nat.beq k 2 && wd p (.methodLink own x objectInit)
  | 6 :: p :: _ => Nat.beq k 0 && wd p (.methodLink own x Lib.Math.max.name)
  | 7 :: p :: _ => Nat.beq k 0 && wd p (.methodLink own x Lib.Math.min.name)
  | _ => false
def fldOK (own : String) (x : Nat) (ops : List Nat) : Bool := match ops with
  | 99 :: 0 :: 1 :: p :: _ => wd p (.fieldLink own x "java/lang/String" "value" "[B")
  | 99 :: 1 :: 0 :: p :: _ => wd p (.fieldLink own x "java/lang/String" "coder" "B")
  | ci :: k :: _ :: p :: _ => (match vwCl[ci]? with
    | some (_, T, N) => Nat.blt k N && wd p (.fieldLink own x (T k).1 (T k).2.1 (T k).2.2.1)
    | none => false)
  | _ => false
def putOK (own : String) (ini : Bool) (x : Nat) (ops : List Nat) : Bool := match ops with
  | ci :: k :: t :: p :: _ => (match vwCl[ci]? with
    | some (C, T, N) => Nat.blt k N && wd p (.fieldLink own x (T k).1 (T k).2.1 (T k).2.2.1) && (!(T k).2.2.2 || (ini && decide (C = own) && decide ((T k).1 = C))) && (match t with
      | 0 => decide ((T k).2.2.1 = "I")
      | 1 => refTy (T k).2.2.1
      | 2 => decide ((T k).2.2.1 = "Z")
      | _ => false)
    | none => false)
  | _ => false
def statOK (own : String) (x : Nat) (ops : List Nat) (v : Int32) : Bool := match ops with
  | 0 :: k :: p :: nest :: _ => statL.any (fun q => decide (q.2.2.2 = .ref k) && (bif Nat.beq nest 0 then wd p (.fieldLink own x q.1 q.2.1 q.2.2.1) else decide (lw_tbl[p]? = some (.fieldLinkNest own x q.1 q.2.1 q.2.2.1 "BullStreet"))))
  | 1 :: p :: _ => decide (v = 1) && wd p (.fieldLink own x "java/lang/String" "COMPACT_STRINGS" "Z")
  | _ => false
def tgt1 (pc : Nat) (o : Int) (ops : List Nat) : Bool := match ops with
  | t :: _ => decide ((pc : Int) + o = (t : Int))
  | _ => false
def okE (own : String) (ini : Bool) (ret : Option FieldType) (pc : Nat) (e : EN) : Bool := match e with
  | (i, np, ops, v, w) => match i with
    | .iconst n => Nat.beq np (pc + 1) && decide (Int32.ofInt n = v)
    | .bipush n => Nat.beq np (pc + 2) && decide ((Int8.ofInt n).toInt32 = v)
    | .sipush n => Nat.beq np (pc + 3) && decide ((Int16.ofInt n).toInt32 = v)
    | .lconst n => Nat.beq np (pc + 1) && decide (Int64.ofNat (n : Nat) = w)
    | .ldc2_w x => Nat.beq np (pc + 3) && (match ops with | p :: _ => wd p (.constantLong own x w) | _ => false)
    | .ldc x => Nat.beq np (pc + 2) && (match ops with | 0 :: p :: _ => wd p (.constant own x v) | 1 :: _ => decide (own = "BullStreet$Reader") && Nat.beq x 85 | _ => false)
    | .ldc_w x => Nat.beq np (pc + 3) && (match ops with | _ :: p :: _ => wd p (.constant own x v) | _ => false)
    | .iload _ => Nat.beq np (pc + 2)
    | .lload _ => Nat.beq np (pc + 2)
    | .aload _ => Nat.beq np (pc + 2)
    | .istore _ => Nat.beq np (pc + 2)
    | .lstore _ => Nat.beq np (pc + 2)
    | .astore _ => Nat.beq np (pc + 2)
    | .iinc _ n => Nat.beq np (pc + 3) && decide (Int32.ofInt n = v)
    | .ifCond _ o => Nat.beq np (pc + 3) && tgt1 pc o ops
    | .if_icmp _ o => Nat.beq np (pc + 3) && tgt1 pc o ops
    | .ifnull o => Nat.beq np (pc + 3) && tgt1 pc o ops
    | .ifnonnull o => Nat.beq np (pc + 3) && tgt1 pc o ops
    | .goto o => Nat.beq np (pc + 3) && tgt1 pc o ops
    | .tableswitch d lo hi offs => (match ops with
      | t :: ts => decide ((pc : Int) + d = (t : Int)) && decide (offs.toList.map (fun o => (pc : Int) + o) = ts.map (fun t : Nat => (t : Int))) && decide (hi + 1 = lo + ts.length) && decide (-1000 ≤ lo) && decide (hi ≤ 1000)
      | _ => false)
    | .lookupswitch d ps => (match ops with
      | t :: ts => decide ((pc : Int) + d = (t : Int)) && decide (ps.toList.map (fun o => (pc : Int) + o.2) = ts.map (fun t : Nat => (t : Int))) && (ps.toList.zip (ps.toList.drop 1)).all (fun (a, next) => a.1 < next.1) && ps.toList.all (fun o => decide (-1000000 ≤ o.1) && decide (o.1 ≤ 1000000))
      | _ => false)
    | .getfield x => Nat.beq np (pc + 3) && fldOK own x ops
    | .putfield x => Nat.beq np (pc + 3) && putOK own ini x ops
    | .getstatic x => Nat.beq np (pc + 3) && statOK own x ops v
    | .new x => Nat.beq np (pc + 3) && (match ops with | ci :: p :: _ => (match vwCl[ci]? with | some (C, _, _) => wd p (.classLink own x C) | none => false) | _ => false)
    | .newarray t => Nat.beq np (pc + 2) && (match ops with | 0 :: _ => decide (t = .int) | 1 :: _ => decide (t = .byte) | _ => false)
    | .anewarray x => Nat.beq np (pc + 3) && (match ops with | 4 :: p :: _ => wd p (.classLink own x "BullStreet$Sheet") | _ => false)
    | .multianewarray x n => Nat.beq np (pc + 4) && decide (n = 2) && (match ops with | p :: _ => wd p (.classLink own x "[[I") | _ => false)
    | .checkcast x => Nat.beq np (pc + 3) && (match ops with | p :: _ => wd p (.classLink own x "[I") | _ => false)
    | .invokestatic x => Nat.beq np (pc + 3) && callOK own x 0 ops
    | .invokevirtual x => Nat.beq np (pc + 3) && callOK own x 1 ops
    | .invokespecial x => Nat.beq np (pc + 3) && callOK own x 2 ops
    | .aastore => Nat.beq np (pc + 1) && (match ops with | 4 :: _ => true | _ => false)
    | .ireturn => Nat.beq np (pc + 1) && (match ops with | 0 :: _ => decide (ret = some .int) | 1 :: _ => decide (ret = some .boolean) | 2 :: _ => decide (ret = some .byte) | 3 :: _ => decide (ret = some .char) | _ => false)
    | .areturn => Nat.beq np (pc + 1) && Nat.beq (retT ret) 2
    | .return_ => Nat.beq np (pc + 1) && decide (ret = none)
    | _ => Nat.beq np (pc + 1)
def entOK (y pc : Nat) : Bool := match tabs y pc with
  | none => true
  | some e => okE (mnm y).cls (decide ((mnm y).name = "<init>")) (mret y) pc e && (match decode (mby y) pc with
    | .ok (i, n) => decide (i = e.1) && (decide (pc + n = e.2.1))
    | _ => false)
def tchk (y : Nat) : Bool := (List.range (mlen y)).all (entOK y)
theorem ent_ok {y pc : Nat} (h : tchk y = true) {e : EN} (he : tabs y pc = some e) : okE (mnm y).cls (decide ((mnm y).name = "<init>")) (mret y) pc e = true ∧ decode (mby y) pc = .ok (e.1, e.2.1 - pc) ∧ pc ≤ e.2.1 := by
  have hl : pc < mlen y := by
    unfold tabs at he
    cases hb : Nat.blt pc (mlen y) with
    | true => exact Nat.le_of_ble_eq_true hb
    | false => rw [hb] at he; cases he
  have h1 := List.all_eq_true.mp h pc (List.mem_range.mpr hl)
  unfold entOK at h1
  rw [he] at h1
  simp only [Bool.and_eq_true] at h1
  obtain ⟨h2, h3⟩ := h1
  refine ⟨h2, ?_⟩
  cases hd : decode (mby y) pc with
  | error x => rw [hd] at h3; cases h3
  | ok q =>
    obtain ⟨i, n⟩ := q
    rw [hd] at h3
    simp only [Bool.and_eq_true, decide_eq_true_eq] at h3
    obtain ⟨rfl, h4⟩ := h3
    refine ⟨?_, by omega⟩
    rw [show e.2.1 - pc = n by omega]
