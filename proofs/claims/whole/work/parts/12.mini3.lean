-- memory
def xkd (h : XH) (a : Nat) : Nat × Nat := if 1 ≤ a ∧ a < xhz h then xhk h a else (999, 0)
def xgetf (k idx : Nat) (h : XH) : List Value → Option (List Value × XH)
  | .ref a :: r => (match xfld (xkc k) idx with
    | some (ci, j) => if xkd h a = (ci, xnf ci) then some (xfv (xft ci j) (xhI h a) (xhJ h a) (xhR h a) j :: r, h) else none
    | none => none)
  | _ => none
def xputf (k idx : Nat) (h : XH) : List Value → Option (List Value × XH)
  | v :: .ref a :: r => (match xfld (xkc k) idx with
    | some (ci, j) => if xkd h a = (ci, xnf ci) ∧ xpok k ci j = true then (xfp (xft ci j) h a j v).map (fun h' => (r, h')) else none
    | none => none)
  | _ => none
def xin (i : Int32) (n : Nat) : Prop := ¬ (i < 0 ∨ n ≤ i.toNatClampNeg)
def xinb (i : Int32) (n : Nat) : Bool := decide (¬ (i < 0 ∨ n ≤ i.toNatClampNeg))
def xiald (S : XS) (h : XH) : List Value → Option (List Value × XH)
  | .int i :: .ref a :: r => if a = 0 then (if xinb i S.1 = true then some (.int (S.2 i.toNatClampNeg) :: r, h) else none)
    else if (xkd h a).1 = 100 ∧ xinb i (xkd h a).2 = true then some (.int (xhI h a i.toNatClampNeg) :: r, h) else none
  | _ => none
def xjald (h : XH) : List Value → Option (List Value × XH)
  | .int i :: .ref a :: r => if (xkd h a).1 = 101 ∧ xinb i (xkd h a).2 = true then some (.long (xhJ h a i.toNatClampNeg) :: r, h) else none
  | _ => none
def xzald (h : XH) : List Value → Option (List Value × XH)
  | .int i :: .ref a :: r => if (xkd h a).1 = 102 ∧ xinb i (xkd h a).2 = true then some (.int (xhI h a i.toNatClampNeg) :: r, h) else none
  | _ => none
def xaald (h : XH) : List Value → Option (List Value × XH)
  | .int i :: .ref a :: r => if 103 ≤ (xkd h a).1 ∧ (xkd h a).1 < 103 + xnq ∧ xinb i (xkd h a).2 = true then some (va_rf (xhR h a i.toNatClampNeg) :: r, h) else none
  | _ => none
def xiast (h : XH) : List Value → Option (List Value × XH)
  | .int x :: .int i :: .ref a :: r => if (xkd h a).1 = 100 ∧ xinb i (xkd h a).2 = true then some (r, xsI h (xu (xhI h) a i.toNatClampNeg x)) else none
  | _ => none
def xjast (h : XH) : List Value → Option (List Value × XH)
  | .long x :: .int i :: .ref a :: r => if (xkd h a).1 = 101 ∧ xinb i (xkd h a).2 = true then some (r, xsJ h (xu (xhJ h) a i.toNatClampNeg x)) else none
  | _ => none
def xzast (h : XH) : List Value → Option (List Value × XH)
  | .int x :: .int i :: .ref a :: r => if (xkd h a).1 = 102 ∧ xinb i (xkd h a).2 = true ∧ (x = 0 ∨ x = 1) then some (r, xsI h (xu (xhI h) a i.toNatClampNeg x)) else none
  | _ => none
def xaast (h : XH) : List Value → Option (List Value × XH)
  | .ref v :: .int i :: .ref a :: r => if 103 ≤ (xkd h a).1 ∧ (xkd h a).1 < 103 + xnq ∧ xinb i (xkd h a).2 = true ∧ xkd h v = (xqc ((xkd h a).1 - 103), xnf (xqc ((xkd h a).1 - 103))) then some (r, xsR h (xu (xhR h) a i.toNatClampNeg (some v))) else none
  | .null :: .int i :: .ref a :: r => if 103 ≤ (xkd h a).1 ∧ (xkd h a).1 < 103 + xnq ∧ xinb i (xkd h a).2 = true then some (r, xsR h (xu (xhR h) a i.toNatClampNeg none)) else none
  | _ => none
def xalen (S : XS) (h : XH) : List Value → Option (List Value × XH)
  | .ref a :: r => if a = 0 then some (.int (Int32.ofNat S.1) :: r, h) else if 100 ≤ (xkd h a).1 ∧ (xkd h a).1 < 103 + xnq then some (.int (Int32.ofNat (xkd h a).2) :: r, h) else none
  | _ => none
def xnwa (t : Nat) (h : XH) : List Value → Option (List Value × XH)
  | .int n :: r => if ¬ n < 0 ∧ n.toNatClampNeg ≤ 1000000 then some (.ref (xhz h) :: r, xnew h (100 + t) n.toNatClampNeg) else none
  | _ => none
def xnwo (ci : Nat) (h : XH) (st : List Value) : Option (List Value × XH) := some (.ref (xhz h) :: st, xnew h ci (xnf ci))
def xldc (k idx : Nat) (h : XH) (st : List Value) : Option (List Value × XH) := (xcst (xkc k) idx).bind (fun v => match v with
  | .int x => some (.int x :: st, h)
  | _ => none)
def xldc2 (k idx : Nat) (h : XH) (st : List Value) : Option (List Value × XH) := (xcst (xkc k) idx).bind (fun v => match v with
  | .long x => some (.long x :: st, h)
  | _ => none)
def xmem (S : XS) (k : Nat) (i : Instr) (st : List Value) (h : XH) : Option (List Value × XH) := match i with
  | .getfield idx => xgetf k idx h st
  | .putfield idx => xputf k idx h st
  | .iaload => xiald S h st
  | .laload => xjald h st
  | .baload => xzald h st
  | .aaload => xaald h st
  | .iastore => xiast h st
  | .lastore => xjast h st
  | .bastore => xzast h st
  | .aastore => xaast h st
  | .arraylength => xalen S h st
  | .newarray t => (match t with
    | .int => xnwa 0 h st
    | .long => xnwa 1 h st
    | .boolean => xnwa 2 h st
    | _ => none)
  | .anewarray idx => (xanw (xkc k) idx).bind (fun t => xnwa (3 + t) h st)
  | .new idx => (xnwc (xkc k) idx).bind (fun ci => xnwo ci h st)
  | .ldc idx => xldc k idx h st
  | .ldc_w idx => xldc k idx h st
  | .ldc2_w idx => xldc2 k idx h st
  | _ => none
-- members of the JDK that are done at once
def xcpy (h : XH) : List Value → Option (List Value × XH)
  | .int n :: .int dp :: .ref a :: .int sp :: .ref a0 :: r => if xwid r ≤ 8 ∧ ¬ sp < 0 ∧ ¬ dp < 0 ∧ ¬ n < 0 ∧ sp.toNatClampNeg + n.toNatClampNeg ≤ (xkd h a0).2 ∧ dp.toNatClampNeg + n.toNatClampNeg ≤ (xkd h a).2 then
      (if (xkd h a0).1 = 100 ∧ (xkd h a).1 = 100 then some (r, xsI h (xrow (xhI h) a (va_cpy (xhI h a0) (xhI h a) sp.toNatClampNeg dp.toNatClampNeg n.toNatClampNeg)))
      else if (xkd h a0).1 = 101 ∧ (xkd h a).1 = 101 then some (r, xsJ h (xrow (xhJ h) a (va_cpy (xhJ h a0) (xhJ h a) sp.toNatClampNeg dp.toNatClampNeg n.toNatClampNeg)))
      else none) else none
  | _ => none
def xn0 : List Value → Option (List Value)
  | .ref _ :: r => if xwid r ≤ 8 then some r else none
  | _ => none
def xnatS (t : Nat) (h : XH) (st : List Value) : Option (List Value × XH) := if t = 7 then xcpy h st else none
def xnatv (d k : Nat) (i : Instr) (st : List Value) (h : XH) : Option (List Value × XH) := if d = 0 then none else match i with
  | .invokespecial idx => if xnat (xkc k) idx = some 0 then (xn0 st).map (fun r => (r, h)) else none
  | .invokestatic idx => (xnat (xkc k) idx).bind (fun t => xnatS t h st)
  | _ => none
def x1 (S : XS) (d k : Nat) (i : Instr) (len pc : Nat) (L : XL) (st : List Value) (h : XH) : Option (Nat × XL × List Value × XH) := match xjmp i len pc st with
  | some q => some (q.1, L, q.2, h)
  | none => if len = xlen i then (match xop i st with
    | some st' => some (pc + len, L, st', h)
    | none => match xloc i L st with
      | some q => some (pc + len, q.1, q.2, h)
      | none => match xmem S k i st h with
        | some q => some (pc + len, L, q.1, q.2)
        | none => match xnatv d k i st h with
          | some q => some (pc + len, L, q.1, q.2)
          | none => none) else none
def xret (k : Nat) (i : Instr) (len : Nat) (st : List Value) : Option (Option Value) := if len = 1 then (match i with
  | .return_ => if xrty k = none ∧ st = [] then some none else none
  | .ireturn => (match st with
    | [.int x] => if xrty k = some .int ∨ (xrty k = some .boolean ∧ (x = 0 ∨ x = 1)) then some (some (.int x)) else none
    | _ => none)
  | .lreturn => (match st with
    | [.long x] => if xrty k = some .long then some (some (.long x)) else none
    | _ => none)
  | .areturn => (match st with
    | [.ref x] => if xrob k = true then some (some (.ref x)) else none
    | [.null] => if xrob k = true then some (some .null) else none
    | _ => none)
  | _ => none) else none
def xcall (k : Nat) (i : Instr) (len : Nat) (st : List Value) (h : XH) : Option (Nat × List Value × List Value) := if len = 3 then (match i with
  | .invokestatic idx => (match xcal (xkc k) idx with
    | some (y, n) => if xmk y = 0 ∧ n ≤ st.length ∧ xwid (st.drop n) ≤ 8 ∧ xwid (st.take n).reverse ≤ xml y then some (y, (st.take n).reverse, st.drop n) else none
    | none => none)
  | .invokevirtual idx => (match xcal (xkc k) idx with
    | some (y, n) => (match st.drop n with
      | .ref a :: r => if xmk y = 1 ∧ xwid r ≤ 8 ∧ xkd h a = (xkc y, xnf (xkc y)) ∧ n ≤ st.length ∧ xwid (.ref a :: (st.take n).reverse) ≤ xml y then some (y, .ref a :: (st.take n).reverse, r) else none
      | _ => none)
    | none => none)
  | .invokespecial idx => (match xcal (xkc k) idx with
    | some (y, n) => (match st.drop n with
      | .ref a :: r => if xmk y = 2 ∧ xwid r ≤ 8 ∧ n ≤ st.length ∧ xwid (.ref a :: (st.take n).reverse) ≤ xml y then some (y, .ref a :: (st.take n).reverse, r) else none
      | _ => none)
    | none => none)
  | _ => none) else none
def xrun (S : XS) : Nat → Nat → Nat → Nat → XL → List Value → XH → Option (Option Value × XH)
  | 0, _, _, _, _, _, _ => none
  | n + 1, d, k, pc, L, st, h => match decode (xcode k) pc with
    | .error _ => none
    | .ok (i, len) => match xret k i len st with
      | some r => some (r, h)
      | none => match xcall k i len st h with
        | some (y, as, r) => if d = 0 then none else (match xrun S n (d - 1) y 0 (xent as (xml y)) [] h with
          | none => none
          | some (v, h') => xrun S n d k (pc + 3) L (v.toList ++ r) h')
        | none => match x1 S d k i len pc L st h with
          | none => none
          | some (pc', L', st', h') => xrun S n d k pc' L' st' h'
theorem xnatv_mono {d d' k : Nat} {i : Instr} {st : List Value} {h : XH} {q : List Value × XH} (hd : d ≤ d') (e : xnatv d k i st h = some q) : xnatv d' k i st h = some q := by
  unfold xnatv at e ⊢
  split at e
  · cases e
  · rw [if_neg (by omega)]
    exact e
theorem x1_mono {S : XS} {d d' k len pc : Nat} {i : Instr} {L : XL} {st : List Value} {h : XH} {q : Nat × XL × List Value × XH} (hd : d ≤ d') (e : x1 S d k i len pc L st h = some q) : x1 S d' k i len pc L st h = some q := by
  unfold x1 at e ⊢
  split at e
  · exact e
  · split at e
    · rename_i hl
      rw [if_pos hl]
      split at e
      · exact e
      · split at e
        · exact e
        · split at e
          · exact e
          · split at e
            · rename_i q' hq'
              rw [xnatv_mono hd hq']
              exact e
            · cases e
    · cases e
theorem xrun_mono {S : XS} : ∀ (n d k pc : Nat) (L : XL) (st : List Value) (h : XH) (q : Option Value × XH), xrun S n d k pc L st h = some q → ∀ n' d', n ≤ n' → d ≤ d' → xrun S n' d' k pc L st h = some q := by
  intro n
  induction n with
  | zero => intro d k pc L st h q e; cases e
  | succ n ih =>
    intro d k pc L st h q e n' d' hn hd
    obtain ⟨n'', rfl⟩ : ∃ n'', n' = n'' + 1 := ⟨n' - 1, by omega⟩
    simp only [xrun] at e ⊢
    split at e
    · cases e
    · split at e
      · exact e
      · split at e
        · split at e
          · cases e
          · rename_i hz
            rw [if_neg (by omega)]
            split at e
            · cases e
            · rename_i v h' hc
              rw [ih _ _ _ _ _ _ _ hc n'' (d' - 1) (by omega) (by omega)]
              exact ih _ _ _ _ _ _ _ e n'' d' (by omega) hd
        · split at e
          · cases e
          · rename_i pc' L' st' h' hc
            rw [x1_mono hd hc]
            exact ih _ _ _ _ _ _ _ e n'' d' (by omega) hd
