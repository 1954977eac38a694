/-! An abstract machine of this claim's own: a heap of cells by number (the first 12 are given and read only), a step, a run with fuel and its limit. -/
abbrev AC : Type := (FieldType × vp_A) ⊕ (Nat × List Value)
abbrev AH : Type := List AC
abbrev Res : Type := Option (Option Value × AH)
abbrev LV : Type := List (Option Value)
/-- an instruction, the pc behind it, its resolved operands, its int, its long -/
abbrev EN : Type := Instr × Nat × List Nat × Int32 × Int64
abbrev AS : Type := Nat × LV × List Value × AH
/-- guarded roads and a last one; a guarded call (method, arguments, sort of answer, pc, locals, stack, heap); a guarded return -/
abbrev ACT : Type := (List (Bool × AS) × Option AS) ⊕ ((Bool × Nat × List Value × Nat × AS) ⊕ (Bool × Option Value × AH))
def hat : AH → Nat → Option AC
  | [], _ => none
  | c :: _, 0 => some c
  | _ :: t, k + 1 => hat t k
def lget : LV → Nat → Option Value
  | [], _ => none
  | o :: _, 0 => o
  | _ :: t, k + 1 => lget t k
def lset : LV → Nat → Option Value → LV
  | [], _, _ => []
  | _ :: t, 0, v => v :: t
  | o :: t, k + 1, v => o :: lset t k v
def fget : List Value → Nat → Option Value
  | [], _ => none
  | v :: _, 0 => some v
  | _ :: t, k + 1 => fget t k
/-- the place ahead holds no long -/
def lok (ls : LV) : Nat → Bool
  | 0 => true
  | k + 1 => match lget ls k with
    | some (.long _) => false
    | some (.double _) => false
    | _ => true
def lroom (ls : LV) (k : Nat) : Bool := Nat.blt k ls.length
def inb (i : Int32) (n : Nat) : Bool := !(decide (i < 0) || decide (n ≤ i.toNatClampNeg))
def isB (x : Int32) : Bool := decide (x = 0) || decide (x = 1)
def nck (ty : FieldType) (x : Int32) : Bool := decide (narrow ty (.int x) = .int x)
def cat1 : Value → Bool
  | .long _ => false
  | .double _ => false
  | _ => true
def vcat : Value → Nat
  | .long _ => 2
  | .double _ => 2
  | _ => 1
def vsum : List Value → Nat
  | [] => 0
  | v :: t => vcat v + vsum t
-- objects
def okI (h : AH) (a ci k : Nat) : Bool := match hat h a with
  | some (.inr (c, fs)) => Nat.beq c ci && (match fget fs k with | some (.int _) => true | _ => false)
  | _ => false
def gI (h : AH) (a k : Nat) : Int32 := match hat h a with
  | some (.inr (_, fs)) => (match fget fs k with | some (.int x) => x | _ => 0)
  | _ => 0
def okN (h : AH) (a ci k : Nat) : Bool := match hat h a with
  | some (.inr (c, fs)) => Nat.beq c ci && (match fget fs k with | some .null => true | _ => false)
  | _ => false
def okR (h : AH) (a ci k : Nat) : Bool := match hat h a with
  | some (.inr (c, fs)) => Nat.beq c ci && (match fget fs k with | some (.ref _) => true | _ => false)
  | _ => false
def gR (h : AH) (a k : Nat) : Nat := match hat h a with
  | some (.inr (_, fs)) => (match fget fs k with | some (.ref x) => x | _ => 0)
  | _ => 0
def okC (h : AH) (a ci : Nat) : Bool := match hat h a with
  | some (.inr (c, _)) => Nat.beq c ci
  | _ => false
/-- a field of an object that may be written -/
def okP (h : AH) (a ci k : Nat) : Bool := Nat.ble 12 a && (match hat h a with
  | some (.inr (c, fs)) => Nat.beq c ci && Nat.blt k fs.length
  | _ => false)
def pF (h : AH) (a k : Nat) (v : Value) : AH := match hat h a with
  | some (.inr (c, fs)) => h.set a (.inr (c, fs.set k v))
  | _ => h
-- arrays: sort 0 int, 1 byte
def tyB : FieldType → Nat → Bool
  | .int, 0 => true
  | .byte, 1 => true
  | _, _ => false
def inA (h : AH) (a t : Nat) (i : Int32) : Bool := match hat h a with
  | some (.inl (ty, n, .inl _)) => tyB ty t && inb i n
  | _ => false
def rA (h : AH) (a : Nat) (i : Int32) : Int32 := match hat h a with
  | some (.inl (_, _, .inl f)) => f i.toNatClampNeg
  | _ => 0
def wA (h : AH) (a : Nat) (i x : Int32) : AH := match hat h a with
  | some (.inl (ty, n, .inl f)) => h.set a (.inl (ty, n, .inl (upd f i.toNatClampNeg x)))
  | _ => h
def okL (h : AH) (a : Nat) : Bool := match hat h a with
  | some (.inl (.int, _, .inl _)) => true
  | some (.inl (.byte, _, .inl _)) => true
  | some (.inl (.array .int, _, _)) => Nat.ble 12 a
  | _ => false
def lenA (h : AH) (a : Nat) : Nat := match hat h a with
  | some (.inl (_, n, _)) => n
  | _ => 0
/-- an array of arrays of ints -/
def isG (h : AH) (a : Nat) : Bool := match hat h a with
  | some (.inl (.array .int, _, .inr (.inr (.inr (.inr _))))) => true
  | _ => false
/-- an array of objects (of the one class of which there are arrays; its mark is char) -/
def isO (h : AH) (a : Nat) : Bool := match hat h a with
  | some (.inl (.char, _, .inr (.inr (.inr (.inr _))))) => true
  | _ => false
def rO (h : AH) (a : Nat) (k : Nat) : Option Nat := match hat h a with
  | some (.inl (_, _, .inr (.inr (.inr (.inr f))))) => f k
  | _ => none
def wO (h : AH) (a : Nat) (i : Int32) (o : Option Nat) : AH := match hat h a with
  | some (.inl (ty, n, .inr (.inr (.inr (.inr f))))) => h.set a (.inl (ty, n, .inr (.inr (.inr (.inr (va_up f i.toNatClampNeg o))))))
  | _ => h
def go (s : AS) : ACT := .inl ([], some s)
def stop : ACT := .inl ([], none)
def chk (b : Bool) (s : AS) : ACT := .inl ([(b, s)], none)
def br (b : Bool) (s1 s2 : AS) : ACT := .inl ([(b, s1)], some s2)
def cnd (c : Jvm.ClassFile.Cond) (x y : Int32) : Bool := match c with
  | .eq => decide (x = y)
  | .ne => !decide (x = y)
  | .lt => decide (x < y)
  | .ge => decide (y ≤ x)
  | .gt => decide (y < x)
  | .le => decide (x ≤ y)
/-- a switch: the numbers from k on go to the pcs of the list -/
def swT (x : Int32) (ls : LV) (st : List Value) (h : AH) : Int → List Nat → List (Bool × AS)
  | _, [] => []
  | k, t :: r => (decide (x = Int32.ofInt k), (t, ls, st, h)) :: swT x ls st h (k + 1) r
def swL (x : Int32) (ls : LV) (st : List Value) (h : AH) : List (Int × Int) → List Nat → List (Bool × AS)
  | p :: q, t :: r => (decide (x = Int32.ofInt p.1), (t, ls, st, h)) :: swL x ls st h q r
  | _, _ => []
/-- the rows of an array of arrays, by their places -/
def grd (h : AH) (a : Nat) (i : Int32) (np : Nat) (ls : LV) (st : List Value) : Nat → List (Bool × AS)
  | 0 => []
  | k + 1 => grd h a i np ls st k ++ [(decide (i = nI k) && (rO h a k).isSome && Nat.ble 12 ((rO h a k).getD 0) && Nat.ble k 1000, (np, ls, .ref ((rO h a k).getD 0) :: st, h))]

/-- ints from two ints, in straight instructions -/
def op2 (i : Instr) (x y : Int32) : Option Int32 := match i with
  | .iadd => some (x + y)
  | .isub => some (x - y)
  | .imul => some (x * y)
  | .iand => some (x &&& y)
  | .ior => some (x ||| y)
  | .ixor => some (x ^^^ y)
  | .ishl => some (x <<< (y &&& 31))
  | .ishr => some (x >>> (y &&& 31))
  | .iushr => some ((x.toUInt32 >>> (y.toUInt32 &&& Int32.toUInt32 31)).toInt32)
  | _ => none
def stp2 (i : Instr) (np : Nat) (ls : LV) (st : List Value) (h : AH) : ACT := match st with
  | .int y :: .int x :: r => (match op2 i x y with
    | some z => go (np, ls, .int z :: r, h)
    | none => stop)
  | _ => stop
def stpLd (k np : Nat) (t : Nat) (ls : LV) (st : List Value) (h : AH) : ACT := match t, lget ls k with
  | 0, some (.int x) => go (np, ls, .int x :: st, h)
  | 1, some (.long x) => go (np, ls, .long x :: st, h)
  | 2, some (.ref x) => go (np, ls, .ref x :: st, h)
  | 2, some .null => go (np, ls, .null :: st, h)
  | _, _ => stop
def stpSt (k np : Nat) (t : Nat) (ls : LV) (st : List Value) (h : AH) : ACT := match t, st with
  | 0, .int x :: r => chk (lok ls k && lroom ls k) (np, lset ls k (some (.int x)), r, h)
  | 1, .long x :: r => chk (lok ls k && lroom ls (k + 1)) (np, lset (lset ls k (some (.long x))) (k + 1) none, r, h)
  | 2, .ref x :: r => chk (lok ls k && lroom ls k) (np, lset ls k (some (.ref x)), r, h)
  | 2, .null :: r => chk (lok ls k && lroom ls k) (np, lset ls k (some .null), r, h)
  | _, _ => stop
/-- the array's field type by its number -/
def tyN : Nat → FieldType
  | 0 => .int
  | _ => .byte
/-- the blank object of a class -/
def objOf (dfl : Nat → List Value) (ci : Nat) : AC := .inr (ci, dfl ci)
def ints (n : Nat) : vp_A := (n, .inl (fun _ => 0))
def refs (n : Nat) (f : Nat → Option Nat) : vp_A := (n, .inr (.inr (.inr (.inr f))))
def small (n : Int32) : Bool := decide (0 ≤ n) && decide (n ≤ 100000)
def stpGet (np : Nat) (ops : List Nat) (ls : LV) (st : List Value) (h : AH) : ACT := match st, ops with
  | .ref a :: r, ci :: k :: 0 :: _ => chk (okI h a ci k) (np, ls, .int (gI h a k) :: r, h)
  | .ref a :: r, ci :: k :: _ :: _ => .inl ([(okN h a ci k, (np, ls, .null :: r, h)), (okR h a ci k, (np, ls, .ref (gR h a k) :: r, h))], none)
  | _, _ => stop
def stpPut (np : Nat) (ops : List Nat) (ls : LV) (st : List Value) (h : AH) : ACT := match st, ops with
  | .int x :: .ref a :: r, ci :: k :: 0 :: _ => chk (okP h a ci k) (np, ls, r, pF h a k (.int x))
  | .int x :: .ref a :: r, ci :: k :: 2 :: _ => chk (okP h a ci k && isB x) (np, ls, r, pF h a k (.int x))
  | .ref x :: .ref a :: r, ci :: k :: 1 :: _ => chk (okP h a ci k && !(Nat.beq x 9)) (np, ls, r, pF h a k (.ref x))
  | .null :: .ref a :: r, ci :: k :: 1 :: _ => chk (okP h a ci k) (np, ls, r, pF h a k .null)
  | _, _ => stop
def stpAld (t np : Nat) (ls : LV) (st : List Value) (h : AH) : ACT := match st with
  | .int i :: .ref a :: r => chk (inA h a t i) (np, ls, .int (rA h a i) :: r, h)
  | _ => stop
def stpAst (t np : Nat) (ls : LV) (st : List Value) (h : AH) : ACT := match st with
  | .int x :: .int i :: .ref a :: r => chk (Nat.ble 12 a && inA h a t i) (np, ls, r, wA h a i (bif Nat.beq t 1 then vp_nar .byte x else x))
  | _ => stop
def stpAald (np : Nat) (ls : LV) (st : List Value) (h : AH) : ACT := match st with
  | .int i :: .ref a :: r => bif isG h a && Nat.ble 12 a then .inl (grd h a i np ls r (lenA h a), none) else
      .inl ([(isO h a && Nat.ble 12 a && inb i (lenA h a) && (rO h a i.toNatClampNeg).isNone, (np, ls, .null :: r, h)), (isO h a && Nat.ble 12 a && inb i (lenA h a) && (rO h a i.toNatClampNeg).isSome && Nat.ble 12 ((rO h a i.toNatClampNeg).getD 0), (np, ls, .ref ((rO h a i.toNatClampNeg).getD 0) :: r, h))], none)
  | _ => stop
def stpAast (np : Nat) (ops : List Nat) (ls : LV) (st : List Value) (h : AH) : ACT := match st, ops with
  | .ref x :: .int i :: .ref a :: r, ci :: _ => chk (Nat.ble 12 a && Nat.ble 12 x && isO h a && okC h x ci && inb i (lenA h a)) (np, ls, r, wO h a i (some x))
  | .null :: .int i :: .ref a :: r, _ => chk (Nat.ble 12 a && isO h a && inb i (lenA h a)) (np, ls, r, wO h a i none)
  | _, _ => stop
/-- new rows of an array of arrays -/
def gridC (h0 n k : Nat) : AH := .inl (.array .int, refs n (fun i => if i < n then some (h0 + 1 + i) else none)) :: List.replicate n (.inl (.int, ints k))
def copA (h : AH) (a b : Nat) (sp dp n : Int32) : AH := match hat h a, hat h b with
  | some (.inl (_, _, .inl f)), some (.inl (ty, m, .inl g)) => h.set b (.inl (ty, m, .inl (va_cpy f g sp.toNatClampNeg dp.toNatClampNeg n.toNatClampNeg)))
  | _, _ => h
def okCop (h : AH) (a b : Nat) (sp dp n : Int32) : Bool := match hat h a, hat h b with
  | some (.inl (.int, m0, .inl _)), some (.inl (.int, m1, .inl _)) => Nat.ble 12 b && decide (0 ≤ sp) && decide (0 ≤ dp) && decide (0 ≤ n) && decide (sp.toNatClampNeg + n.toNatClampNeg ≤ m0) && decide (dp.toNatClampNeg + n.toNatClampNeg ≤ m1)
  | _, _ => false
/-- an array of ints that was made here -/
def isI (h : AH) (a : Nat) : Bool := match hat h a with
  | some (.inl (.int, _, .inl _)) => true
  | _ => false
def cloA (h : AH) (a : Nat) : AH := match hat h a with
  | some c => h ++ [c]
  | _ => h
/-- a call: operands kind, method, number of arguments, sort of answer, class of the receiver -/
def stpCall (np : Nat) (ops : List Nat) (ls : LV) (st : List Value) (h : AH) : ACT := match ops with
  | 0 :: y :: n :: t :: _ => .inr (.inl (decide (n ≤ st.length) && Nat.ble (vsum (st.drop n)) 8, y, (st.take n).reverse, t, (np, ls, st.drop n, h)))
  | 4 :: y :: n :: t :: ci :: _ => (match (st.take n).reverse with
    | .ref a :: _ => .inr (.inl (decide (n ≤ st.length) && okC h a ci && Nat.ble (vsum (st.drop n)) 8, y, (st.take n).reverse, t, (np, ls, st.drop n, h)))
    | _ => stop)
  | 5 :: y :: n :: t :: _ => (match (st.take n).reverse with
    | .ref a :: _ => .inr (.inl (decide (n ≤ st.length) && Nat.ble 12 a && Nat.ble (vsum (st.drop n)) 8, y, (st.take n).reverse, t, (np, ls, st.drop n, h)))
    | _ => stop)
  | 1 :: _ => (match st with
    | .int n :: .int dp :: .ref b :: .int sp :: .ref a :: r => chk (okCop h a b sp dp n && Nat.ble (vsum r) 8) (np, ls, r, copA h a b sp dp n)
    | _ => stop)
  | 2 :: _ => (match st with
    | .ref a :: r => chk (isI h a && Nat.ble 12 a && Nat.ble (vsum r) 8) (np, ls, .ref h.length :: r, cloA h a)
    | _ => stop)
  | 3 :: _ => (match st with
    | .ref a :: r => chk (Nat.ble 12 a && Nat.ble (vsum r) 8) (np, ls, r, h)
    | _ => stop)
  | 6 :: _ => (match st with
    | .int y :: .int x :: r => chk (Nat.ble (vsum r) 8) (np, ls, .int (if x < y then y else x) :: r, h)
    | _ => stop)
  | 7 :: _ => (match st with
    | .int y :: .int x :: r => chk (Nat.ble (vsum r) 8) (np, ls, .int (if y < x then y else x) :: r, h)
    | _ => stop)
  | _ => stop
def stp (dfl : Nat → List Value) (nm : Nat → String) (e : EN) (ls : LV) (st : List Value) (h : AH) : ACT := match e with
  | (i, np, ops, v, w) => match i with
    | .iconst _ => go (np, ls, .int v :: st, h)
    | .bipush _ => go (np, ls, .int v :: st, h)
    | .sipush _ => go (np, ls, .int v :: st, h)
    | .lconst _ => go (np, ls, .long w :: st, h)
    | .ldc2_w _ => go (np, ls, .long w :: st, h)
    | .ldc _ => (match ops with
      | 0 :: _ => go (np, ls, .int v :: st, h)
      | _ => go (np, ls, .ref 10 :: st, h))
    | .ldc_w _ => go (np, ls, .int v :: st, h)
    | .aconst_null => go (np, ls, .null :: st, h)
    | .iload k => stpLd k np 0 ls st h
    | .iload_n k => stpLd k.val np 0 ls st h
    | .lload k => stpLd k np 1 ls st h
    | .lload_n k => stpLd k.val np 1 ls st h
    | .aload k => stpLd k np 2 ls st h
    | .aload_n k => stpLd k.val np 2 ls st h
    | .istore k => stpSt k np 0 ls st h
    | .istore_n k => stpSt k.val np 0 ls st h
    | .lstore k => stpSt k np 1 ls st h
    | .astore k => stpSt k np 2 ls st h
    | .astore_n k => stpSt k.val np 2 ls st h
    | .iinc k _ => (match lget ls k with
      | some (.int x) => chk (lok ls k && lroom ls k) (np, lset ls k (some (.int (x + v))), st, h)
      | _ => stop)
    | .iadd => stp2 .iadd np ls st h
    | .isub => stp2 .isub np ls st h
    | .imul => stp2 .imul np ls st h
    | .iand => stp2 .iand np ls st h
    | .ior => stp2 .ior np ls st h
    | .ixor => stp2 .ixor np ls st h
    | .ishl => stp2 .ishl np ls st h
    | .ishr => stp2 .ishr np ls st h
    | .iushr => stp2 .iushr np ls st h
    | .idiv => (match st with
      | .int y :: .int x :: r => chk (!decide (y = 0)) (np, ls, .int (x / y) :: r, h)
      | _ => stop)
    | .irem => (match st with
      | .int y :: .int x :: r => chk (!decide (y = 0)) (np, ls, .int (x - x / y * y) :: r, h)
      | _ => stop)
    | .i2l => (match st with
      | .int x :: r => go (np, ls, .long x.toInt64 :: r, h)
      | _ => stop)
    | .l2i => (match st with
      | .long x :: r => go (np, ls, .int x.toInt32 :: r, h)
      | _ => stop)
    | .i2b => (match st with
      | .int x :: r => go (np, ls, .int x.toInt8.toInt32 :: r, h)
      | _ => stop)
    | .i2s => (match st with
      | .int x :: r => go (np, ls, .int x.toInt16.toInt32 :: r, h)
      | _ => stop)
    | .i2c => (match st with
      | .int x :: r => go (np, ls, .int (x.toUInt32 % 65536).toInt32 :: r, h)
      | _ => stop)
    | .lcmp => (match st with
      | .long y :: .long x :: r => go (np, ls, .int (lg_cmp x y) :: r, h)
      | _ => stop)
    | .ladd => (match st with
      | .long y :: .long x :: r => go (np, ls, .long (x + y) :: r, h)
      | _ => stop)
    | .land => (match st with
      | .long y :: .long x :: r => go (np, ls, .long (x &&& y) :: r, h)
      | _ => stop)
    | .lor => (match st with
      | .long y :: .long x :: r => go (np, ls, .long (x ||| y) :: r, h)
      | _ => stop)
    | .lshl => (match st with
      | .int y :: .long x :: r => go (np, ls, .long (x <<< (y.toInt64 &&& 63)) :: r, h)
      | _ => stop)
    | .lshr => (match st with
      | .int y :: .long x :: r => go (np, ls, .long (x >>> (y.toInt64 &&& 63)) :: r, h)
      | _ => stop)
    | .dup => (match st with
      | a :: r => chk (cat1 a) (np, ls, a :: a :: r, h)
      | _ => stop)
    | .dup2 => (match st with
      | a :: b :: r => chk (cat1 a && cat1 b) (np, ls, a :: b :: a :: b :: r, h)
      | _ => stop)
    | .pop => (match st with
      | a :: r => chk (cat1 a) (np, ls, r, h)
      | _ => stop)
    | .ifCond c _ => (match st, ops with
      | .int x :: r, t :: _ => br (cnd c x 0) (t, ls, r, h) (np, ls, r, h)
      | _, _ => stop)
    | .if_icmp c _ => (match st, ops with
      | .int y :: .int x :: r, t :: _ => br (cnd c x y) (t, ls, r, h) (np, ls, r, h)
      | _, _ => stop)
    | .ifnull _ => (match st, ops with
      | .null :: r, t :: _ => go (t, ls, r, h)
      | .ref a :: r, _ :: _ => chk (!(Nat.beq a 9)) (np, ls, r, h)
      | _, _ => stop)
    | .ifnonnull _ => (match st, ops with
      | .null :: r, _ :: _ => go (np, ls, r, h)
      | .ref a :: r, t :: _ => chk (!(Nat.beq a 9)) (t, ls, r, h)
      | _, _ => stop)
    | .goto _ => (match ops with
      | t :: _ => go (t, ls, st, h)
      | _ => stop)
    | .tableswitch _ lo _ _ => (match st, ops with
      | .int x :: r, d :: ts => .inl (swT x ls r h lo ts, some (d, ls, r, h))
      | _, _ => stop)
    | .lookupswitch _ ps => (match st, ops with
      | .int x :: r, d :: ts => .inl (swL x ls r h ps.toList ts, some (d, ls, r, h))
      | _, _ => stop)
    | .getfield _ => stpGet np ops ls st h
    | .putfield _ => stpPut np ops ls st h
    | .getstatic _ => (match ops with
      | 0 :: k :: _ => go (np, ls, .ref k :: st, h)
      | _ => go (np, ls, .int v :: st, h))
    | .iaload => stpAld 0 np ls st h
    | .baload => stpAld 1 np ls st h
    | .iastore => stpAst 0 np ls st h
    | .bastore => stpAst 1 np ls st h
    | .aaload => stpAald np ls st h
    | .aastore => stpAast np ops ls st h
    | .arraylength => (match st with
      | .ref a :: r => chk (okL h a) (np, ls, .int (nI (lenA h a)) :: r, h)
      | _ => stop)
    | .new _ => (match ops with
      | ci :: _ => go (np, ls, .ref h.length :: st, h ++ [objOf dfl ci])
      | _ => stop)
    | .newarray _ => (match st, ops with
      | .int n :: r, t :: _ => chk (small n) (np, ls, .ref h.length :: r, h ++ [.inl (tyN t, ints n.toNatClampNeg)])
      | _, _ => stop)
    | .anewarray _ => (match st, ops with
      | .int n :: r, _ :: _ => chk (small n) (np, ls, .ref h.length :: r, h ++ [.inl (.char, refs n.toNatClampNeg (fun _ => none))])
      | _, _ => stop)
    | .multianewarray _ _ => (match st with
      | .int k :: .int n :: r => chk (small n && small k) (np, ls, .ref h.length :: r, h ++ gridC h.length n.toNatClampNeg k.toNatClampNeg)
      | _ => stop)
    | .checkcast _ => (match st with
      | .ref a :: r => chk (isI h a && Nat.ble 12 a) (np, ls, .ref a :: r, h)
      | _ => stop)
    | .invokestatic _ => stpCall np ops ls st h
    | .invokevirtual _ => stpCall np ops ls st h
    | .invokespecial _ => stpCall np ops ls st h
    | .ireturn => (match st, ops with
      | [.int x], 0 :: _ => .inr (.inr (true, some (.int x), h))
      | [.int x], 1 :: _ => .inr (.inr (isB x, some (.int x), h))
      | [.int x], 2 :: _ => .inr (.inr (nck .byte x, some (.int x), h))
      | [.int x], 3 :: _ => .inr (.inr (nck .char x, some (.int x), h))
      | _, _ => stop)
    | .areturn => (match st with
      | [.ref a] => .inr (.inr (!(Nat.beq a 9), some (.ref a), h))
      | _ => stop)
    | .return_ => (match st with
      | [] => .inr (.inr (true, none, h))
      | _ => stop)
    | _ => stop
/-- which road -/
def pick : List (Bool × AS) → Option AS → (AS → Res) → Res
  | [], none, _ => none
  | [], some s, nx => nx s
  | (b, s) :: r, d, nx => bif b then nx s else pick r d nx
/-- behind a call: sort 0 no answer, 1 an int, 2 a reference -/
def aft (t : Nat) (s : AS) (v : Option Value) (h : AH) : List (Bool × AS) := match t, v with
  | 0, none => [(true, (s.1, s.2.1, s.2.2.1, h))]
  | 1, some (.int x) => [(true, (s.1, s.2.1, .int x :: s.2.2.1, h))]
  | 2, some (.ref x) => [(true, (s.1, s.2.1, .ref x :: s.2.2.1, h))]
  | _, _ => []
/-- the way on behind a call -/
def aftK (nx : AS → Res) (t : Nat) (s : AS) (q : Res) : Res := q.bind (fun q => pick (aft t s q.1 q.2) none nx)
def act (a : ACT) (call : Nat → List Value → AH → Res) (kc : Nat → AS → Res → Res) (nx : AS → Res) : Res := match a with
  | .inl (cs, d) => pick cs d nx
  | .inr (.inl (b, y, as, t, s)) => bif b then kc t s (call y as s.2.2.2) else none
  | .inr (.inr (b, v, h)) => bif b then some (v, h) else none
def one (dfl : Nat → List Value) (nm : Nat → String) (tab : Nat → Option EN) (call : Nat → List Value → AH → Res) (kc : Nat → AS → Res → Res) (s : AS) (nx : AS → Res) : Res := match tab s.1 with
  | none => none
  | some e => act (stp dfl nm e s.2.1 s.2.2.1 s.2.2.2) call kc nx
/-- the arguments as locals -/
def argL : List Value → LV
  | [] => []
  | .long x :: t => some (.long x) :: none :: argL t
  | .double x :: t => some (.double x) :: none :: argL t
  | v :: t => some v :: argL t
def mkL (n : Nat) (as : List Value) : LV := argL as ++ List.replicate (n - (argL as).length) none
/-- a program: the blank objects, the classes' names, a method's code, its locals -/
abbrev PG : Type := (Nat → List Value) × (Nat → String) × (Nat → Nat → Option EN) × (Nat → Nat)
def semN (P : PG) : Nat → Nat → Nat → AS → Res
  | 0, _, _, _ => none
  | n + 1, d, y, s => one P.1 P.2.1 (P.2.2.1 y) (fun y' as h => match d with | 0 => none | d' + 1 => bif Nat.ble (argL as).length (P.2.2.2 y') then semN P n d' y' (0, mkL (P.2.2.2 y') as, [], h) else none) (aftK (fun s' => semN P n d y s')) s (fun s' => semN P n d y s')
