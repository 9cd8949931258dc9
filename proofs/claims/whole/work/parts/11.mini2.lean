-- jumps
def xtg (pc : Nat) (off : Int) : Option Nat := if 0 ≤ (pc : Int) + off then some ((pc : Int) + off).toNat else none
def xcnd (c : ClassFile.Cond) (x y : Int32) : Bool := match c with
  | .eq => decide (x = y)
  | .ne => decide (¬ x = y)
  | .lt => decide (x < y)
  | .ge => decide (y ≤ x)
  | .gt => decide (y < x)
  | .le => decide (x ≤ y)
def xrf : Value → Option (Option Nat)
  | .null => some none
  | .ref a => some (some a)
  | _ => none
def xjc (b : Bool) (pc : Nat) (off : Int) (r : List Value) : Option (Nat × List Value) := match xtg pc off with
  | none => none
  | some t => if b = true then some (t, r) else some (pc + 3, r)
def xjif (c : ClassFile.Cond) (pc : Nat) (off : Int) : List Value → Option (Nat × List Value)
  | .int x :: r => xjc (xcnd c x 0) pc off r
  | _ => none
def xjcmp (c : ClassFile.Cond) (pc : Nat) (off : Int) : List Value → Option (Nat × List Value)
  | .int y :: .int x :: r => xjc (xcnd c x y) pc off r
  | _ => none
def xjnull (b : Bool) (pc : Nat) (off : Int) : List Value → Option (Nat × List Value)
  | .null :: r => xjc b pc off r
  | .ref _ :: r => xjc (!b) pc off r
  | _ => none
def xjacmp (b : Bool) (pc : Nat) (off : Int) : List Value → Option (Nat × List Value)
  | y :: x :: r => (match xrf x, xrf y with
    | some rx, some ry => xjc (decide (rx = ry) == b) pc off r
    | _, _ => none)
  | _ => none
def xjtab (d lo hi : Int) (offs : Array Int) (pc : Nat) : List Value → Option (Nat × List Value)
  | .int x :: r => if x.toInt < lo ∨ hi < x.toInt then (xtg pc d).map (fun t => (t, r)) else (match offs[(x.toInt - lo).toNat]? with
    | some off => (xtg pc off).map (fun t => (t, r))
    | none => none)
  | _ => none
def xjlook (d : Int) (ps : Array (Int × Int)) (pc : Nat) : List Value → Option (Nat × List Value)
  | .int x :: r => if (ps.toList.zip (ps.toList.drop 1)).all (fun (a, next) => a.1 < next.1) = true then (xtg pc (Op.lookupswitch.offset ps.toList d x.toInt)).map (fun t => (t, r)) else none
  | _ => none
def xjmp (i : Instr) (len pc : Nat) (st : List Value) : Option (Nat × List Value) := match i with
  | .goto off => if len = 3 then (xtg pc off).map (fun t => (t, st)) else none
  | .ifCond c off => if len = 3 then xjif c pc off st else none
  | .if_icmp c off => if len = 3 then xjcmp c pc off st else none
  | .ifnull off => if len = 3 then xjnull true pc off st else none
  | .ifnonnull off => if len = 3 then xjnull false pc off st else none
  | .if_acmp c off => if len = 3 then xjacmp (match c with | .eq => true | .ne => false) pc off st else none
  | .tableswitch d lo hi offs => xjtab d lo hi offs pc st
  | .lookupswitch d ps => xjlook d ps pc st
  | _ => none
-- locals
def xlI (L : XL) (i : Nat) (st : List Value) : Option (XL × List Value) := match xld L i with
  | some (.int x) => some (L, .int x :: st)
  | _ => none
def xlJ (L : XL) (i : Nat) (st : List Value) : Option (XL × List Value) := match xld L i with
  | some (.long x) => some (L, .long x :: st)
  | _ => none
def xlA (L : XL) (i : Nat) (st : List Value) : Option (XL × List Value) := match xld L i with
  | some (.ref x) => some (L, .ref x :: st)
  | some .null => some (L, .null :: st)
  | _ => none
def xsI1 (L : XL) (i : Nat) : List Value → Option (XL × List Value)
  | .int x :: r => if i < L.length then some (xst1 L i (.int x), r) else none
  | _ => none
def xsJ1 (L : XL) (i : Nat) : List Value → Option (XL × List Value)
  | .long x :: r => if i + 1 < L.length then some (xst2 L i (.long x), r) else none
  | _ => none
def xsA1 (L : XL) (i : Nat) : List Value → Option (XL × List Value)
  | .ref x :: r => if i < L.length then some (xst1 L i (.ref x), r) else none
  | .null :: r => if i < L.length then some (xst1 L i .null, r) else none
  | _ => none
def xinc (L : XL) (i : Nat) (n : Int) (st : List Value) : Option (XL × List Value) := match xld L i with
  | some (.int x) => if i < L.length then some (xst1 L i (.int (x + Int32.ofInt n)), st) else none
  | _ => none
def xloc (i : Instr) (L : XL) (st : List Value) : Option (XL × List Value) := match i with
  | .iload i => xlI L i st
  | .iload_n i => xlI L i st
  | .lload i => xlJ L i st
  | .lload_n i => xlJ L i st
  | .aload i => xlA L i st
  | .aload_n i => xlA L i st
  | .istore i => xsI1 L i st
  | .istore_n i => xsI1 L i st
  | .lstore i => xsJ1 L i st
  | .lstore_n i => xsJ1 L i st
  | .astore i => xsA1 L i st
  | .astore_n i => xsA1 L i st
  | .iinc i n => xinc L i n st
  | _ => none
def xlen : Instr → Nat
  | .bipush _ => 2
  | .sipush _ => 3
  | .iload _ => 2
  | .lload _ => 2
  | .aload _ => 2
  | .istore _ => 2
  | .lstore _ => 2
  | .astore _ => 2
  | .iinc _ _ => 3
  | .ldc _ => 2
  | .ldc_w _ => 3
  | .ldc2_w _ => 3
  | .getfield _ => 3
  | .putfield _ => 3
  | .new _ => 3
  | .newarray _ => 2
  | .anewarray _ => 3
  | .invokespecial _ => 3
  | .invokestatic _ => 3
  | .invokevirtual _ => 3
  | .checkcast _ => 3
  | _ => 1
