/-! MY INTERPRETER: a small machine over numbered cells that runs the same bytecode; part 05 shows that what it runs, the machine of the Statement runs. -/
abbrev Mem : Type := (Nat → Nat → Int32) × (Nat → Nat → Int64) × (Nat → Nat → Value) × List (Nat × Nat)
abbrev Loc1 : Type := List (Option Value)
/-- the cells 0 .. 17 were there before the law began: seven texts, their bytes, the script, three things of the JDK -/
def nOld : Nat := 18
def fR (k : Nat) : String := match k with
  | 0 => RX0 | 1 => RX1 | 2 => RX2 | 3 => RX3 | 4 => RX4 | 5 => RX5 | 6 => RX6 | 7 => RX7 | 8 => RX8 | 9 => RX9 | 10 => RX10 | 11 => RX11 | _ => "java/lang/String"
def TS : u_T := fun k => match k with
  | 0 => ("java/lang/String", "value", "[B", true)
  | _ => ("java/lang/String", "coder", "B", true)
def fT (k : Nat) : u_T := match k with
  | 0 => TX0 | 1 => TX1 | 2 => TX2 | 3 => TX3 | 4 => TX4 | 5 => TX5 | 6 => TX6 | 7 => TX7 | 8 => TX8 | 9 => TX9 | 10 => TX10 | 11 => TX11 | _ => TS
def fN (k : Nat) : Nat := match k with
  | 0 => 5 | 1 => 10 | 2 => 2 | 3 => 4 | 4 => 4 | 5 => 11 | 6 => 4 | 7 => 2 | 8 => 3 | 9 => 10 | 10 => 8 | 11 => 50 | 12 => 2 | _ => 0
def fY (k : Nat) : Nat → FieldType := match k with
  | 0 => tyX0 | 1 => tyX1 | 2 => tyX2 | 3 => tyX3 | 4 => tyX4 | 5 => tyX5 | 6 => tyX6 | 7 => tyX7 | 8 => tyX8 | 9 => tyX9 | 10 => tyX10 | 11 => tyX11 | _ => fun j => match j with | 0 => .array .byte | _ => .byte
/-- 0 an int (a byte), 1 a long, 2 a reference -/
def tK (t : FieldType) : Nat := match t with
  | .int => 0 | .byte => 0 | .long => 1 | .object _ => 2 | .array _ => 2 | _ => 3
def fK (k j : Nat) : Nat := tK (fY k j)
def upI (f : Nat → Nat → Int32) (a j : Nat) (v : Int32) : Nat → Nat → Int32 := fun x y => if x = a ∧ y = j then v else f x y
def upL (f : Nat → Nat → Int64) (a j : Nat) (v : Int64) : Nat → Nat → Int64 := fun x y => if x = a ∧ y = j then v else f x y
def upR (f : Nat → Nat → Value) (a j : Nat) (v : Value) : Nat → Nat → Value := fun x y => if x = a ∧ y = j then v else f x y
/-- the rows of a new int[n][k]: the outer one at a -/
def upG (f : Nat → Nat → Value) (a n : Nat) : Nat → Nat → Value := fun x y => if x = a ∧ y < n then .ref (a + 1 + y) else f x y
def fld (M : Mem) (k x j : Nat) : Value := match fK k j with
  | 0 => .int (M.1 x j)
  | 1 => .long (M.2.1 x j)
  | _ => M.2.2.1 x j
/-- a store of one word into the variables -/
def setV1 : Loc1 → Nat → Value → Loc1
  | [], _, _ => []
  | _ :: L, 0, v => some v :: L
  | some (.long _) :: L, 1, v => none :: setV1 L 0 v
  | some (.double _) :: L, 1, v => none :: setV1 L 0 v
  | x :: L, n + 1, v => x :: setV1 L n v
def setV2 : Loc1 → Nat → Value → Loc1
  | [], _, _ => []
  | _ :: [], 0, v => some v :: []
  | _ :: _ :: L, 0, v => some v :: none :: L
  | some (.long _) :: L, 1, v => none :: setV2 L 0 v
  | some (.double _) :: L, 1, v => none :: setV2 L 0 v
  | x :: L, n + 1, v => x :: setV2 L n v
def lenOf (i : Instr) : Nat := match i with
  | .iload _ => 2 | .aload _ => 2 | .lload _ => 2 | .istore _ => 2 | .astore _ => 2 | .lstore _ => 2 | .bipush _ => 2 | .ldc _ => 2 | .newarray _ => 2
  | .sipush _ => 3 | .ldc_w _ => 3 | .ldc2_w _ => 3 | .iinc _ _ => 3 | .ifCond _ _ => 3 | .if_icmp _ _ => 3 | .goto _ => 3 | .getfield _ => 3 | .putfield _ => 3 | .getstatic _ => 3 | .new _ => 3
  | .invokevirtual _ => 3 | .invokespecial _ => 3 | .invokestatic _ => 3 | .multianewarray _ _ => 4
  | _ => 1
def swT (pc : Nat) (df lo hi : Int) (offs : Array Int) (x : Int32) : Nat := if x.toInt < lo ∨ hi < x.toInt then ((pc : Int) + df).toNat else ((pc : Int) + offs.getD (x.toInt - lo).toNat 0).toNat
def cn0 (c : Jvm.ClassFile.Cond) (x : Int32) (a b : Nat) : Nat := match c with
  | .eq => if x = 0 then a else b
  | .ne => if ¬ x = 0 then a else b
  | .lt => if x < 0 then a else b
  | .ge => if 0 ≤ x then a else b
  | .gt => if 0 < x then a else b
  | .le => if x ≤ 0 then a else b
def cn2 (c : Jvm.ClassFile.Cond) (x y : Int32) (a b : Nat) : Nat := match c with
  | .eq => if x = y then a else b
  | .ne => if ¬ x = y then a else b
  | .lt => if x < y then a else b
  | .ge => if y ≤ x then a else b
  | .gt => if y < x then a else b
  | .le => if x ≤ y then a else b
abbrev Nx : Type := Nat × Loc1 × List Value × Mem
def sLdI (n nx : Nat) (L : Loc1) (S : List Value) (M : Mem) : Option Nx := match L[n]? with
  | some (some (.int x)) => some (nx, L, .int x :: S, M)
  | _ => none
def sLdL (n nx : Nat) (L : Loc1) (S : List Value) (M : Mem) : Option Nx := match L[n]? with
  | some (some (.long x)) => some (nx, L, .long x :: S, M)
  | _ => none
def sLdA (n nx : Nat) (L : Loc1) (S : List Value) (M : Mem) : Option Nx := match L[n]? with
  | some (some (.ref x)) => some (nx, L, .ref x :: S, M)
  | some (some .null) => some (nx, L, .null :: S, M)
  | _ => none
def sStI (n nx : Nat) (L : Loc1) (S : List Value) (M : Mem) : Option Nx := match S with
  | .int x :: S => if n < L.length then some (nx, setV1 L n (.int x), S, M) else none
  | _ => none
def sStA (n nx : Nat) (L : Loc1) (S : List Value) (M : Mem) : Option Nx := match S with
  | .ref x :: S => if n < L.length then some (nx, setV1 L n (.ref x), S, M) else none
  | _ => none
def sStL (n nx : Nat) (L : Loc1) (S : List Value) (M : Mem) : Option Nx := match S with
  | .long x :: S => if n + 1 < L.length then some (nx, setV2 L n (.long x), S, M) else none
  | _ => none
def sIncI (n : Nat) (k : Int) (nx : Nat) (L : Loc1) (S : List Value) (M : Mem) : Option Nx := match L[n]? with
  | some (some (.int x)) => some (nx, setV1 L n (.int (x + Int32.ofInt k)), S, M)
  | _ => none
def sOp2 (g : Int32 → Int32 → Int32) (nx : Nat) (L : Loc1) (S : List Value) (M : Mem) : Option Nx := match S with
  | .int y :: .int x :: S => some (nx, L, .int (g x y) :: S, M)
  | _ => none
def sDiv (g : Int32 → Int32 → Int32) (nx : Nat) (L : Loc1) (S : List Value) (M : Mem) : Option Nx := match S with
  | .int y :: .int x :: S => if y = 0 then none else some (nx, L, .int (g x y) :: S, M)
  | _ => none
def sOp1 (g : Int32 → Int32) (nx : Nat) (L : Loc1) (S : List Value) (M : Mem) : Option Nx := match S with
  | .int x :: S => some (nx, L, .int (g x) :: S, M)
  | _ => none
def sOpL (g : Int64 → Int64 → Int64) (nx : Nat) (L : Loc1) (S : List Value) (M : Mem) : Option Nx := match S with
  | .long y :: .long x :: S => some (nx, L, .long (g x y) :: S, M)
  | _ => none
def sCmpL (nx : Nat) (L : Loc1) (S : List Value) (M : Mem) : Option Nx := match S with
  | .long y :: .long x :: S => some (nx, L, .int (lg_cmp x y) :: S, M)
  | _ => none
def sI2L (nx : Nat) (L : Loc1) (S : List Value) (M : Mem) : Option Nx := match S with
  | .int x :: S => some (nx, L, .long x.toInt64 :: S, M)
  | _ => none
def sDup (nx : Nat) (L : Loc1) (S : List Value) (M : Mem) : Option Nx := match S with
  | .ref x :: S => some (nx, L, .ref x :: .ref x :: S, M)
  | .int x :: S => some (nx, L, .int x :: .int x :: S, M)
  | _ => none
def sPop (nx : Nat) (L : Loc1) (S : List Value) (M : Mem) : Option Nx := match S with
  | .int _ :: S => some (nx, L, S, M)
  | _ => none
def sIf0 (c : Jvm.ClassFile.Cond) (a nx : Nat) (L : Loc1) (S : List Value) (M : Mem) : Option Nx := match S with
  | .int x :: S => some (cn0 c x a nx, L, S, M)
  | _ => none
def sIf2 (c : Jvm.ClassFile.Cond) (a nx : Nat) (L : Loc1) (S : List Value) (M : Mem) : Option Nx := match S with
  | .int y :: .int x :: S => some (cn2 c x y a nx, L, S, M)
  | _ => none
def sSw (pc : Nat) (df lo hi : Int) (offs : Array Int) (L : Loc1) (S : List Value) (M : Mem) : Option Nx := match S with
  | .int x :: S => some (swT pc df lo hi offs x, L, S, M)
  | _ => none
def sGet (a b nx : Nat) (L : Loc1) (S : List Value) (M : Mem) : Option Nx := match S with
  | .ref x :: S => match M.2.2.2[x]? with
    | some (k, _) => if k = a then some (nx, L, fld M a x b :: S, M) else none
    | none => none
  | _ => none
def sPut (a b nx : Nat) (L : Loc1) (S : List Value) (M : Mem) : Option Nx := match S with
  | v :: .ref x :: S => match M.2.2.2[x]? with
    | some (k, _) => if k = a ∧ nOld ≤ x then
        match fK a b, v with
        | 0, .int z => some (nx, L, S, (upI M.1 x b z, M.2))
        | 1, .long z => some (nx, L, S, (M.1, upL M.2.1 x b z, M.2.2))
        | 2, .ref z => some (nx, L, S, (M.1, M.2.1, upR M.2.2.1 x b (.ref z), M.2.2.2))
        | 2, .null => some (nx, L, S, (M.1, M.2.1, upR M.2.2.1 x b .null, M.2.2.2))
        | _, _ => none
      else none
    | none => none
  | _ => none
def sNew (a nx : Nat) (L : Loc1) (S : List Value) (M : Mem) : Option Nx := if M.2.2.2.length < 1000 then some (nx, L, .ref M.2.2.2.length :: S, (M.1, M.2.1, M.2.2.1, M.2.2.2 ++ [(a, 0)])) else none
def aKind (t : ArrayType) : Nat := match t with
  | .int => 100 | .byte => 101 | .long => 102 | _ => 97
def sNewA (t : ArrayType) (nx : Nat) (L : Loc1) (S : List Value) (M : Mem) : Option Nx := match S with
  | .int n :: S => if ¬ n < 0 ∧ n.toNatClampNeg ≤ 900 ∧ M.2.2.2.length < 1000 ∧ aKind t ≠ 97 then some (nx, L, .ref M.2.2.2.length :: S, (M.1, M.2.1, M.2.2.1, M.2.2.2 ++ [(aKind t, n.toNatClampNeg)])) else none
  | _ => none
def sNewG (nx : Nat) (L : Loc1) (S : List Value) (M : Mem) : Option Nx := match S with
  | .int k :: .int n :: S => if ¬ n < 0 ∧ ¬ k < 0 ∧ n.toNatClampNeg ≤ 900 ∧ k.toNatClampNeg ≤ 900 ∧ M.2.2.2.length + n.toNatClampNeg < 1000 then
      some (nx, L, .ref M.2.2.2.length :: S, (M.1, M.2.1, upG M.2.2.1 M.2.2.2.length n.toNatClampNeg, M.2.2.2 ++ (103, n.toNatClampNeg) :: List.replicate n.toNatClampNeg (100, k.toNatClampNeg))) else none
  | _ => none
def sLen (nx : Nat) (L : Loc1) (S : List Value) (M : Mem) : Option Nx := match S with
  | .ref x :: S => match M.2.2.2[x]? with
    | some (k, n) => if 100 ≤ k ∧ k ≤ 103 then some (nx, L, .int (Int32.ofNat n) :: S, M) else none
    | none => none
  | _ => none
def aIn (i : Int32) (n : Nat) : Prop := ¬ (i < 0 ∨ n ≤ i.toNatClampNeg)
def sAld (kd nx : Nat) (L : Loc1) (S : List Value) (M : Mem) : Option Nx := match S with
  | .int i :: .ref x :: S => match M.2.2.2[x]? with
    | some (k, n) => if k = kd ∧ ¬ (i < 0 ∨ n ≤ i.toNatClampNeg) then some (nx, L, .int (M.1 x i.toNatClampNeg) :: S, M) else none
    | none => none
  | _ => none
def sLld (nx : Nat) (L : Loc1) (S : List Value) (M : Mem) : Option Nx := match S with
  | .int i :: .ref x :: S => match M.2.2.2[x]? with
    | some (k, n) => if k = 102 ∧ ¬ (i < 0 ∨ n ≤ i.toNatClampNeg) then some (nx, L, .long (M.2.1 x i.toNatClampNeg) :: S, M) else none
    | none => none
  | _ => none
def sRld (nx : Nat) (L : Loc1) (S : List Value) (M : Mem) : Option Nx := match S with
  | .int i :: .ref x :: S => match M.2.2.2[x]? with
    | some (k, n) => if k = 103 ∧ ¬ (i < 0 ∨ n ≤ i.toNatClampNeg) then some (nx, L, M.2.2.1 x i.toNatClampNeg :: S, M) else none
    | none => none
  | _ => none
def sAst (kd : Nat) (g : Int32 → Int32) (nx : Nat) (L : Loc1) (S : List Value) (M : Mem) : Option Nx := match S with
  | .int v :: .int i :: .ref x :: S => match M.2.2.2[x]? with
    | some (k, n) => if k = kd ∧ nOld ≤ x ∧ ¬ (i < 0 ∨ n ≤ i.toNatClampNeg) then some (nx, L, S, (upI M.1 x i.toNatClampNeg (g v), M.2)) else none
    | none => none
  | _ => none
def sLst (nx : Nat) (L : Loc1) (S : List Value) (M : Mem) : Option Nx := match S with
  | .long v :: .int i :: .ref x :: S => match M.2.2.2[x]? with
    | some (k, n) => if k = 102 ∧ nOld ≤ x ∧ ¬ (i < 0 ∨ n ≤ i.toNatClampNeg) then some (nx, L, S, (M.1, upL M.2.1 x i.toNatClampNeg v, M.2.2)) else none
    | none => none
  | _ => none
/-- one instruction that is no call and no end -/
def stp (sv : Nat → Value) (i : Instr) (nx a b : Nat) (v : Int64) (pc : Nat) (L : Loc1) (S : List Value) (M : Mem) : Option Nx := match i with
  | .iload n => sLdI n nx L S M
  | .iload_n n => sLdI n.val nx L S M
  | .lload n => sLdL n nx L S M
  | .lload_n n => sLdL n.val nx L S M
  | .aload n => sLdA n nx L S M
  | .aload_n n => sLdA n.val nx L S M
  | .istore n => sStI n nx L S M
  | .istore_n n => sStI n.val nx L S M
  | .lstore n => sStL n nx L S M
  | .lstore_n n => sStL n.val nx L S M
  | .astore n => sStA n nx L S M
  | .astore_n n => sStA n.val nx L S M
  | .iinc n k => sIncI n k nx L S M
  | .iconst k => some (nx, L, .int (Int32.ofInt k) :: S, M)
  | .bipush k => some (nx, L, .int (Int8.ofInt k).toInt32 :: S, M)
  | .sipush k => some (nx, L, .int (Int16.ofInt k).toInt32 :: S, M)
  | .lconst k => some (nx, L, .long (Int64.ofNat k.val) :: S, M)
  | .aconst_null => some (nx, L, .null :: S, M)
  | .ldc _ => cond (Nat.beq a 0) (some (nx, L, .int v.toInt32 :: S, M)) (some (nx, L, .ref b :: S, M))
  | .ldc_w _ => some (nx, L, .int v.toInt32 :: S, M)
  | .ldc2_w _ => some (nx, L, .long v :: S, M)
  | .iadd => sOp2 (fun x y => x + y) nx L S M
  | .isub => sOp2 (fun x y => x - y) nx L S M
  | .imul => sOp2 (fun x y => x * y) nx L S M
  | .iand => sOp2 (fun x y => x &&& y) nx L S M
  | .ior => sOp2 (fun x y => x ||| y) nx L S M
  | .ixor => sOp2 (fun x y => x ^^^ y) nx L S M
  | .ishl => sOp2 (fun x y => x <<< (y &&& 31)) nx L S M
  | .ishr => sOp2 (fun x y => x >>> (y &&& 31)) nx L S M
  | .iushr => sOp2 (fun x y => (x.toUInt32 >>> (y.toUInt32 &&& Int32.toUInt32 31)).toInt32) nx L S M
  | .idiv => sDiv (fun x y => x / y) nx L S M
  | .irem => sDiv (fun x y => x - x / y * y) nx L S M
  | .ineg => sOp1 (fun x => -x) nx L S M
  | .i2b => sOp1 (fun x => x.toInt8.toInt32) nx L S M
  | .i2c => sOp1 (fun x => (x.toUInt32 % 65536).toInt32) nx L S M
  | .ladd => sOpL (fun x y => x + y) nx L S M
  | .lmul => sOpL (fun x y => x * y) nx L S M
  | .lcmp => sCmpL nx L S M
  | .i2l => sI2L nx L S M
  | .dup => sDup nx L S M
  | .pop => sPop nx L S M
  | .goto _ => some (a, L, S, M)
  | .ifCond c _ => sIf0 c a nx L S M
  | .if_icmp c _ => sIf2 c a nx L S M
  | .tableswitch df lo hi offs => sSw pc df lo hi offs L S M
  | .getfield _ => sGet a b nx L S M
  | .putfield _ => sPut a b nx L S M
  | .getstatic _ => some (nx, L, sv a :: S, M)
  | .new _ => sNew a nx L S M
  | .newarray t => sNewA t nx L S M
  | .multianewarray _ _ => sNewG nx L S M
  | .arraylength => sLen nx L S M
  | .iaload => sAld 100 nx L S M
  | .baload => sAld 101 nx L S M
  | .laload => sLld nx L S M
  | .aaload => sRld nx L S M
  | .iastore => sAst 100 (fun z => z) nx L S M
  | .bastore => sAst 101 (fun z => z.toInt8.toInt32) nx L S M
  | .lastore => sLst nx L S M
  | _ => none
/-- how a method ends: it returns, or it throws the object of a cell -/
abbrev Fin1 : Type := Option Value ⊕ Nat
def slotsOf (vs : List Value) : Loc1 := vs.flatMap fun v => if v.category = 2 then [some v, none] else [some v]
def entL (k : Nat) (vs : List Value) : Loc1 := slotsOf vs ++ List.replicate (mL k - (slotsOf vs).length) none
def argsOf (a : Nat) (S : List Value) : List Value := (S.take (mN a)).reverse
/-- a call has its values, its caller keeps few, and the variables have room -/
def cOk (a : Nat) (S : List Value) : Bool := Nat.ble (mN a) S.length && Nat.ble (S.drop (mN a)).length 6 && Nat.ble (slotsOf (argsOf a S)).length (mL a)
/-- the receiver is there, and of the kind that the method belongs to -/
def rcv (a : Nat) (As : List Value) (M : Mem) : Bool := match As with
  | .ref x :: _ => match M.2.2.2[x]? with
    | some (k, _) => Nat.beq k (mK a)
    | none => false
  | _ => false
def isInit (As : List Value) : Bool := match As with
  | .ref _ :: _ => true
  | _ => false
def nar (k : Nat) (v : Value) : Option Fin1 := match mR k with
  | some t => if narrow t v = v then some (.inl (some v)) else none
  | none => none
def exec (sv : Nat → Value) : Nat → Nat → Nat → Nat → Loc1 → List Value → Mem → Option (Fin1 × Mem)
  | 0, _, _, _, _, _, _ => none
  | n + 1, d, k, pc, L, S, M => match ri k pc with
    | none => none
    | some (i, nx, a, b, _, v) => match i with
      | .invokevirtual _ => match d with
        | 0 => none
        | d' + 1 => cond (rcv a (argsOf a S) M && Nat.beq (mS a) 0 && cOk a S)
          (match exec sv n d' a 0 (entL a (argsOf a S)) [] M with
            | some (.inl o, M') => exec sv n d k nx L (o.toList ++ S.drop (mN a)) M'
            | some (.inr x, M') => match mH k with
              | [] => some (.inr x, M')
              | (lo, hi, hp, _) :: _ => match M'.2.2.2[x]? with
                | some (10, _) => cond (Nat.ble lo pc && Nat.blt pc hi) (exec sv n d k hp L [.ref x] M') none
                | _ => none
            | none => none) none
      | .invokestatic _ => match d with
        | 0 => none
        | d' + 1 => cond (Nat.beq (mS a) 1 && cOk a S)
          (match exec sv n d' a 0 (entL a (argsOf a S)) [] M with
            | some (.inl o, M') => exec sv n d k nx L (o.toList ++ S.drop (mN a)) M'
            | _ => none) none
      | .invokespecial _ => match d with
        | 0 => none
        | d' + 1 => cond (Nat.beq b 2)
          (match S with
            | .ref _ :: S' => cond (Nat.ble S'.length 6) (exec sv n d k nx L S' M) none
            | _ => none)
          (cond (isInit (argsOf a S) && Nat.beq (mS a) 0 && cOk a S)
            (match exec sv n d' a 0 (entL a (argsOf a S)) [] M with
              | some (.inl none, M') => exec sv n d k nx L (S.drop (mN a)) M'
              | _ => none) none)
      | .ireturn => match S with
        | [.int x] => match nar k (.int x) with
          | some o => some (o, M)
          | none => none
        | _ => none
      | .lreturn => match S with
        | [.long x] => match mR k with
          | some .long => some (.inl (some (.long x)), M)
          | _ => none
        | _ => none
      | .areturn => match S with
        | [.ref x] => match mR k with
          | some (.object _) => some (.inl (some (.ref x)), M)
          | _ => none
        | _ => none
      | .return_ => match S with
        | [] => match mR k with
          | none => some (.inl none, M)
          | some _ => none
        | _ => none
      | .athrow => match S with
        | [.ref x] => match mH k with
          | [] => some (.inr x, M)
          | _ => none
        | _ => none
      | _ => match stp sv i nx a b v pc L S M with
        | some (pc', L', S', M') => exec sv n d k pc' L' S' M'
        | none => none
