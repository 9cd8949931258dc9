/-! The small machine in which this claim is walked: a memory of three tables (ints, longs, references), locals by their places, the method's number. -/
abbrev XH : Type := Nat × Nat × (Nat → Nat × Nat) × (Nat → Nat → Int32) × (Nat → Nat → Int64) × (Nat → Nat → Option Nat)
abbrev XL : Type := List (Option Value)
abbrev XS : Type := Nat × (Nat → Int32)
def xhz (h : XH) : Nat := h.1
def xhs (h : XH) : Nat := h.2.1
def xhk (h : XH) : Nat → Nat × Nat := h.2.2.1
def xhI (h : XH) : Nat → Nat → Int32 := h.2.2.2.1
def xhJ (h : XH) : Nat → Nat → Int64 := h.2.2.2.2.1
def xhR (h : XH) : Nat → Nat → Option Nat := h.2.2.2.2.2
def xu {α : Type} (f : Nat → Nat → α) (a i : Nat) (v : α) : Nat → Nat → α := fun x y => if x = a ∧ y = i then v else f x y
def xrow {α : Type} (f : Nat → Nat → α) (a : Nat) (g : Nat → α) : Nat → Nat → α := fun x y => if x = a then g y else f x y
def xsI (h : XH) (f : Nat → Nat → Int32) : XH := (xhz h, xhs h, xhk h, f, xhJ h, xhR h)
def xsJ (h : XH) (f : Nat → Nat → Int64) : XH := (xhz h, xhs h, xhk h, xhI h, f, xhR h)
def xsR (h : XH) (f : Nat → Nat → Option Nat) : XH := (xhz h, xhs h, xhk h, xhI h, xhJ h, f)
def xnew (h : XH) (t n : Nat) : XH := (xhz h + 1, xhs h + n, (fun x => if x = xhz h then (t, n) else xhk h x), xrow (xhI h) (xhz h) (fun _ => 0), xrow (xhJ h) (xhz h) (fun _ => 0), xrow (xhR h) (xhz h) (fun _ => none))
-- locals
def xcat2 : Option Value → Bool
  | some v => v.category == 2
  | none => false
def xst1 : XL → Nat → Value → XL
  | [], _, _ => []
  | _ :: L, 0, v => some v :: L
  | x :: L, 1, v => (if xcat2 x then none else x) :: xst1 L 0 v
  | x :: L, i + 2, v => x :: xst1 L (i + 1) v
def xst2 : XL → Nat → Value → XL
  | _ :: _ :: L, 0, v => some v :: none :: L
  | x :: L, 1, v => (if xcat2 x then none else x) :: xst2 L 0 v
  | x :: L, i + 2, v => x :: xst2 L (i + 1) v
  | L, _, _ => L
def xld (L : XL) (i : Nat) : Option Value := (L[i]?).bind id
def xent : List Value → Nat → XL
  | _, 0 => []
  | [], n + 1 => none :: xent [] n
  | v :: vs, n + 1 => if v.category = 2 then (match n with | 0 => [none] | n + 1 => some v :: none :: xent vs n) else some v :: xent vs n
def xwid (vs : List Value) : Nat := (vs.map fun v => v.category).sum
-- fields
def xfv (ty : FieldType) (I : Nat → Int32) (J : Nat → Int64) (R : Nat → Option Nat) (j : Nat) : Value := match ty with
  | .long => .long (J j)
  | .object _ => va_rf (R j)
  | .array _ => va_rf (R j)
  | _ => .int (I j)
def xfp (ty : FieldType) (h : XH) (a j : Nat) (v : Value) : Option XH := match ty with
  | .int => (match v with | .int x => some (xsI h (xu (xhI h) a j x)) | _ => none)
  | .boolean => (match v with | .int x => if x = 0 ∨ x = 1 then some (xsI h (xu (xhI h) a j x)) else none | _ => none)
  | .long => (match v with | .long x => some (xsJ h (xu (xhJ h) a j x)) | _ => none)
  | .object _ => (match v with | .ref r => some (xsR h (xu (xhR h) a j (some r))) | .null => some (xsR h (xu (xhR h) a j none)) | _ => none)
  | .array _ => (match v with | .ref r => some (xsR h (xu (xhR h) a j (some r))) | .null => some (xsR h (xu (xhR h) a j none)) | _ => none)
  | _ => none
-- instructions on the stack alone
def xi1 (f : Int32 → Int32) : List Value → Option (List Value)
  | .int x :: r => some (.int (f x) :: r)
  | _ => none
def xi2 (f : Int32 → Int32 → Int32) : List Value → Option (List Value)
  | .int y :: .int x :: r => some (.int (f x y) :: r)
  | _ => none
def xi2z (f : Int32 → Int32 → Int32) : List Value → Option (List Value)
  | .int y :: .int x :: r => if y = 0 then none else some (.int (f x y) :: r)
  | _ => none
def xj1 (f : Int64 → Int64) : List Value → Option (List Value)
  | .long x :: r => some (.long (f x) :: r)
  | _ => none
def xj2 (f : Int64 → Int64 → Int64) : List Value → Option (List Value)
  | .long y :: .long x :: r => some (.long (f x y) :: r)
  | _ => none
def xj2z (f : Int64 → Int64 → Int64) : List Value → Option (List Value)
  | .long y :: .long x :: r => if y = 0 then none else some (.long (f x y) :: r)
  | _ => none
def xji (f : Int64 → Int32 → Int64) : List Value → Option (List Value)
  | .int y :: .long x :: r => some (.long (f x y) :: r)
  | _ => none
def xi2l : List Value → Option (List Value)
  | .int x :: r => some (.long x.toInt64 :: r)
  | _ => none
def xl2i : List Value → Option (List Value)
  | .long x :: r => some (.int x.toInt32 :: r)
  | _ => none
def xlcmp : List Value → Option (List Value)
  | .long y :: .long x :: r => some (.int (lg_cmp x y) :: r)
  | _ => none
def xdup : List Value → Option (List Value)
  | v :: r => if v.category = 1 then some (v :: v :: r) else none
  | _ => none
def xpop : List Value → Option (List Value)
  | v :: r => if v.category = 1 then some r else none
  | _ => none
def xpop2 : List Value → Option (List Value)
  | v :: r => if v.category = 2 then some r else (match r with | w :: r => if w.category = 1 then some r else none | _ => none)
  | _ => none
def xdupx1 : List Value → Option (List Value)
  | v :: w :: r => if v.category = 1 ∧ w.category = 1 then some (v :: w :: v :: r) else none
  | _ => none
def xdupx2 : List Value → Option (List Value)
  | v :: w :: u :: r => if v.category = 1 ∧ w.category = 1 ∧ u.category = 1 then some (v :: w :: u :: v :: r) else none
  | _ => none
def xdup2 : List Value → Option (List Value)
  | v :: r => if v.category = 2 then some (v :: v :: r) else (match r with | w :: r => if w.category = 1 then some (v :: w :: v :: w :: r) else none | _ => none)
  | _ => none
def xdup2x1 : List Value → Option (List Value)
  | v :: w :: r => if v.category = 2 ∧ w.category = 1 then some (v :: w :: v :: r) else none
  | _ => none
def xdup2x2 : List Value → Option (List Value)
  | v :: w :: u :: r => if v.category = 2 ∧ w.category = 1 ∧ u.category = 1 then some (v :: w :: u :: v :: r) else none
  | _ => none
def xop (i : Instr) (st : List Value) : Option (List Value) := match i with
  | .iconst n => some (.int (Int32.ofInt n) :: st)
  | .bipush n => some (.int (Int8.ofInt n).toInt32 :: st)
  | .sipush n => some (.int (Int16.ofInt n).toInt32 :: st)
  | .lconst n => some (.long (Int64.ofNat n) :: st)
  | .aconst_null => some (.null :: st)
  | .iadd => xi2 (fun x y => x + y) st
  | .isub => xi2 (fun x y => x - y) st
  | .imul => xi2 (fun x y => x * y) st
  | .iand => xi2 (fun x y => x &&& y) st
  | .ior => xi2 (fun x y => x ||| y) st
  | .ixor => xi2 (fun x y => x ^^^ y) st
  | .ishl => xi2 (fun x y => x <<< (y &&& 31)) st
  | .ishr => xi2 (fun x y => x >>> (y &&& 31)) st
  | .iushr => xi2 (fun x y => (x.toUInt32 >>> (y.toUInt32 &&& Int32.toUInt32 31)).toInt32) st
  | .idiv => xi2z (fun x y => x / y) st
  | .irem => xi2z (fun x y => x - x / y * y) st
  | .ineg => xi1 (fun x => -x) st
  | .ladd => xj2 (fun x y => x + y) st
  | .lsub => xj2 (fun x y => x - y) st
  | .lmul => xj2 (fun x y => x * y) st
  | .land => xj2 (fun x y => x &&& y) st
  | .lor => xj2 (fun x y => x ||| y) st
  | .lxor => xj2 (fun x y => x ^^^ y) st
  | .ldiv => xj2z (fun x y => x / y) st
  | .lrem => xj2z (fun x y => x - x / y * y) st
  | .lneg => xj1 (fun x => -x) st
  | .lshl => xji (fun x y => x <<< (y.toInt64 &&& 63)) st
  | .lshr => xji (fun x y => x >>> (y.toInt64 &&& 63)) st
  | .lushr => xji (fun x y => (x.toUInt64 >>> (y.toInt64.toUInt64 &&& Int64.toUInt64 63)).toInt64) st
  | .i2l => xi2l st
  | .l2i => xl2i st
  | .lcmp => xlcmp st
  | .dup => xdup st
  | .pop => xpop st
  | .pop2 => xpop2 st
  | .dup_x1 => xdupx1 st
  | .dup_x2 => xdupx2 st
  | .dup2 => xdup2 st
  | .dup2_x1 => xdup2x1 st
  | .dup2_x2 => xdup2x2 st
  | _ => none
