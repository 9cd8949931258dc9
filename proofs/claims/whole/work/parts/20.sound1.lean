/-! The small machine is sound: what it does the machine does. First the instructions on the stack alone, jumps, locals. -/
def xad (b scr : Nat) : Nat → Nat
  | 0 => scr
  | a + 1 => b + a
def xemb (ad : Nat → Nat) : Value → Value
  | .ref a => .ref (ad a)
  | v => v
theorem xemb_cat (ad : Nat → Nat) (v : Value) : (xemb ad v).category = v.category := by cases v <;> rfl
theorem xemb_rf (ad : Nat → Nat) (r : Option Nat) : xemb ad (va_rf r) = va_rf (r.map ad) := by cases r <;> rfl
def XLH (ad : Nat → Nat) (ls : Array Slot) (n : Nat) (L : XL) : Prop := ls.size = n ∧ L.length = n ∧ lv_wf ls ∧ ∀ (i : Nat) (v : Value), xld L i = some v → ls[i]? = some (.val (xemb ad v))
def xcl0 (ad : Nat → Nat) (ca : Nat → ClassId) (t : Nat × Nat) (I : Nat → Int32) (J : Nat → Int64) (R : Nat → Option Nat) : va_E :=
  if t.1 < 100 then .inr (t.1, (List.range t.2).map (fun j => xemb ad (xfv (xft t.1 j) I J R j)))
  else .inl (ca (t.1 - 100), t.2, if t.1 = 101 then .inr (.inl J) else if t.1 < 103 then .inl I else .inr (.inr (.inr (.inr (fun i => (R i).map ad)))))
def xcell (ad : Nat → Nat) (ca : Nat → ClassId) (h : XH) (a : Nat) : va_E := xcl0 ad ca (xhk h a) (xhI h a) (xhJ h a) (xhR h a)
def xw (ad : Nat → Nat) (ca : Nat → ClassId) (b : Nat) (h : XH) : va_W := (List.range (xhz h - 1)).map (fun a => (b + a, xcell ad ca h (a + 1)))
abbrev XG : Type := Program × Launch × Env × Room × State × MethodId × Array Value × List Frame × Method × Code × (State → Prop) × va_G × (Nat → ClassId) × Nat × Nat × Nat × Nat
def XW : XG → Nat → Nat → XL → List Value → XH → Prop
  | (p, l, e, R, s, m, args, below, meth, c, Q, D, ca, b, scr, z0, s0), k, pc, L, st, h =>
    ∀ (H : Heap) (locs : List Loc) (ls : Array Slot), va_P D xcls (xw (xad b scr) ca b h) H → va_S (fun q => b ≤ q) s.heap H locs → XLH (xad b scr) ls (xml k) L →
      W p l e R s m args below meth c H locs (xhz h - z0) (xhs h - s0) Q (F0 m pc ls (st.map (xemb (xad b scr))))
theorem xi1_inv {f : Int32 → Int32} {st st' : List Value} (h : xi1 f st = some st') : ∃ x r, st = .int x :: r ∧ st' = .int (f x) :: r := by
  unfold xi1 at h
  split at h
  · exact ⟨_, _, rfl, (Option.some.inj h).symm⟩
  · cases h
theorem xi2_inv {f : Int32 → Int32 → Int32} {st st' : List Value} (h : xi2 f st = some st') : ∃ x y r, st = .int y :: .int x :: r ∧ st' = .int (f x y) :: r := by
  unfold xi2 at h
  split at h
  · exact ⟨_, _, _, rfl, (Option.some.inj h).symm⟩
  · cases h
theorem xi2z_inv {f : Int32 → Int32 → Int32} {st st' : List Value} (h : xi2z f st = some st') : ∃ x y r, st = .int y :: .int x :: r ∧ st' = .int (f x y) :: r ∧ ¬ y = 0 := by
  unfold xi2z at h
  split at h
  · split at h
    · cases h
    · exact ⟨_, _, _, rfl, (Option.some.inj h).symm, by assumption⟩
  · cases h
theorem xj1_inv {f : Int64 → Int64} {st st' : List Value} (h : xj1 f st = some st') : ∃ x r, st = .long x :: r ∧ st' = .long (f x) :: r := by
  unfold xj1 at h
  split at h
  · exact ⟨_, _, rfl, (Option.some.inj h).symm⟩
  · cases h
theorem xj2_inv {f : Int64 → Int64 → Int64} {st st' : List Value} (h : xj2 f st = some st') : ∃ x y r, st = .long y :: .long x :: r ∧ st' = .long (f x y) :: r := by
  unfold xj2 at h
  split at h
  · exact ⟨_, _, _, rfl, (Option.some.inj h).symm⟩
  · cases h
theorem xj2z_inv {f : Int64 → Int64 → Int64} {st st' : List Value} (h : xj2z f st = some st') : ∃ x y r, st = .long y :: .long x :: r ∧ st' = .long (f x y) :: r ∧ ¬ y = 0 := by
  unfold xj2z at h
  split at h
  · split at h
    · cases h
    · exact ⟨_, _, _, rfl, (Option.some.inj h).symm, by assumption⟩
  · cases h
theorem xji_inv {f : Int64 → Int32 → Int64} {st st' : List Value} (h : xji f st = some st') : ∃ x y r, st = .int y :: .long x :: r ∧ st' = .long (f x y) :: r := by
  unfold xji at h
  split at h
  · exact ⟨_, _, _, rfl, (Option.some.inj h).symm⟩
  · cases h
theorem xi2l_inv {st st' : List Value} (h : xi2l st = some st') : ∃ x r, st = .int x :: r ∧ st' = .long x.toInt64 :: r := by
  unfold xi2l at h
  split at h
  · exact ⟨_, _, rfl, (Option.some.inj h).symm⟩
  · cases h
theorem xl2i_inv {st st' : List Value} (h : xl2i st = some st') : ∃ x r, st = .long x :: r ∧ st' = .int x.toInt32 :: r := by
  unfold xl2i at h
  split at h
  · exact ⟨_, _, rfl, (Option.some.inj h).symm⟩
  · cases h
theorem xlcmp_inv {st st' : List Value} (h : xlcmp st = some st') : ∃ x y r, st = .long y :: .long x :: r ∧ st' = .int (lg_cmp x y) :: r := by
  unfold xlcmp at h
  split at h
  · exact ⟨_, _, _, rfl, (Option.some.inj h).symm⟩
  · cases h
theorem xdup_inv {st st' : List Value} (h : xdup st = some st') : ∃ v r, st = v :: r ∧ st' = v :: v :: r ∧ v.category = 1 := by
  unfold xdup at h
  split at h
  · split at h
    · exact ⟨_, _, rfl, (Option.some.inj h).symm, by assumption⟩
    · cases h
  · cases h
theorem xpop_inv {st st' : List Value} (h : xpop st = some st') : ∃ v, st = v :: st' ∧ v.category = 1 := by
  unfold xpop at h
  split at h
  · split at h
    · cases h; exact ⟨_, rfl, by assumption⟩
    · cases h
  · cases h
theorem xcat_1 {v : Value} (h : ¬ v.category = 2) : v.category = 1 := by cases v <;> first | rfl | exact absurd rfl h
theorem xpop2_inv {st st' : List Value} (h : xpop2 st = some st') : (∃ v, st = v :: st' ∧ v.category = 2) ∨ ∃ v w, st = v :: w :: st' ∧ v.category = 1 ∧ w.category = 1 := by
  unfold xpop2 at h
  split at h
  · split at h
    · cases h; exact Or.inl ⟨_, rfl, by assumption⟩
    · split at h
      · split at h
        · cases h
          exact Or.inr ⟨_, _, rfl, xcat_1 (by assumption), by assumption⟩
        · cases h
      · cases h
  · cases h
theorem xdupx1_inv {st st' : List Value} (h : xdupx1 st = some st') : ∃ v w r, st = v :: w :: r ∧ st' = v :: w :: v :: r ∧ v.category = 1 ∧ w.category = 1 := by
  unfold xdupx1 at h
  split at h
  · split at h
    · exact ⟨_, _, _, rfl, (Option.some.inj h).symm, by assumption⟩
    · cases h
  · cases h
theorem xdupx2_inv {st st' : List Value} (h : xdupx2 st = some st') : ∃ v w u r, st = v :: w :: u :: r ∧ st' = v :: w :: u :: v :: r ∧ v.category = 1 ∧ w.category = 1 ∧ u.category = 1 := by
  unfold xdupx2 at h
  split at h
  · split at h
    · exact ⟨_, _, _, _, rfl, (Option.some.inj h).symm, by assumption⟩
    · cases h
  · cases h
theorem xdup2_inv {st st' : List Value} (h : xdup2 st = some st') : (∃ v r, st = v :: r ∧ st' = v :: v :: r ∧ v.category = 2) ∨ ∃ v w r, st = v :: w :: r ∧ st' = v :: w :: v :: w :: r ∧ v.category = 1 ∧ w.category = 1 := by
  unfold xdup2 at h
  split at h
  · split at h
    · cases h; exact Or.inl ⟨_, _, rfl, rfl, by assumption⟩
    · split at h
      · split at h
        · cases h
          exact Or.inr ⟨_, _, _, rfl, rfl, xcat_1 (by assumption), by assumption⟩
        · cases h
      · cases h
  · cases h
theorem xdup2x1_inv {st st' : List Value} (h : xdup2x1 st = some st') : ∃ v w r, st = v :: w :: r ∧ st' = v :: w :: v :: r ∧ v.category = 2 ∧ w.category = 1 := by
  unfold xdup2x1 at h
  split at h
  · split at h
    · exact ⟨_, _, _, rfl, (Option.some.inj h).symm, by assumption⟩
    · cases h
  · cases h
theorem xdup2x2_inv {st st' : List Value} (h : xdup2x2 st = some st') : ∃ v w u r, st = v :: w :: u :: r ∧ st' = v :: w :: u :: v :: r ∧ v.category = 2 ∧ w.category = 1 ∧ u.category = 1 := by
  unfold xdup2x2 at h
  split at h
  · split at h
    · exact ⟨_, _, _, _, rfl, (Option.some.inj h).symm, by assumption⟩
    · cases h
  · cases h
set_option maxHeartbeats 4000000 in
theorem xop_sound {G : XG} {k pc : Nat} {L : XL} {st st' : List Value} {h : XH} {i : Instr} (hx : G.1.tables.exec = Jvm.exec) (hb : G.2.2.2.2.2.2.2.2.2.1.code = xcode k)
    (hd : decode (xcode k) pc = .ok (i, xlen i)) (ho : xop i st = some st') (K : XW G k (pc + xlen i) L st' h) : XW G k pc L st h := by
  obtain ⟨p, l, e, R, s, m, args, below, meth, c, Q, D, ca, b, scr, z0, s0⟩ := G
  intro H locs ls hP hS hL
  have K := K H locs ls hP hS hL
  cases i with
  | iconst n => cases ho; exact lv_iconst hx hb hd rfl K
  | bipush n => cases ho; exact lv_bipush hx hb hd rfl K
  | sipush n => cases ho; exact lv_sipush hx hb hd rfl K
  | lconst n => cases ho; exact lv_lconst hx hb hd rfl K
  | aconst_null => cases ho; exact lv_null hx hb hd K
  | iadd => obtain ⟨x, y, r, rfl, rfl⟩ := xi2_inv ho; exact lv_iadd hx hb hd K
  | isub => obtain ⟨x, y, r, rfl, rfl⟩ := xi2_inv ho; exact lv_isub hx hb hd K
  | imul => obtain ⟨x, y, r, rfl, rfl⟩ := xi2_inv ho; exact lv_imul hx hb hd K
  | iand => obtain ⟨x, y, r, rfl, rfl⟩ := xi2_inv ho; exact lv_iand hx hb hd K
  | ior => obtain ⟨x, y, r, rfl, rfl⟩ := xi2_inv ho; exact lv_ior hx hb hd K
  | ixor => obtain ⟨x, y, r, rfl, rfl⟩ := xi2_inv ho; exact lv_ixor hx hb hd K
  | ishl => obtain ⟨x, y, r, rfl, rfl⟩ := xi2_inv ho; exact lv_ishl hx hb hd K
  | ishr => obtain ⟨x, y, r, rfl, rfl⟩ := xi2_inv ho; exact lv_ishr hx hb hd K
  | iushr => obtain ⟨x, y, r, rfl, rfl⟩ := xi2_inv ho; exact lv_iushr hx hb hd rfl K
  | idiv => obtain ⟨x, y, r, rfl, rfl, hy⟩ := xi2z_inv ho; exact lv_idiv hx hb hd hy K
  | irem => obtain ⟨x, y, r, rfl, rfl, hy⟩ := xi2z_inv ho; exact lv_irem hx hb hd hy K
  | ineg => obtain ⟨x, r, rfl, rfl⟩ := xi1_inv ho; exact lv_ineg hx hb hd K
  | ladd => obtain ⟨x, y, r, rfl, rfl⟩ := xj2_inv ho; exact lv_ladd hx hb hd K
  | lsub => obtain ⟨x, y, r, rfl, rfl⟩ := xj2_inv ho; exact lv_lsub hx hb hd K
  | lmul => obtain ⟨x, y, r, rfl, rfl⟩ := xj2_inv ho; exact lv_lmul hx hb hd K
  | land => obtain ⟨x, y, r, rfl, rfl⟩ := xj2_inv ho; exact lv_land hx hb hd K
  | lor => obtain ⟨x, y, r, rfl, rfl⟩ := xj2_inv ho; exact lv_lor hx hb hd K
  | lxor => obtain ⟨x, y, r, rfl, rfl⟩ := xj2_inv ho; exact lv_lxor hx hb hd K
  | ldiv => obtain ⟨x, y, r, rfl, rfl, hy⟩ := xj2z_inv ho; exact lv_ldiv hx hb hd hy K
  | lrem => obtain ⟨x, y, r, rfl, rfl, hy⟩ := xj2z_inv ho; exact lv_lrem hx hb hd hy K
  | lneg => obtain ⟨x, r, rfl, rfl⟩ := xj1_inv ho; exact lv_lneg hx hb hd K
  | lshl => obtain ⟨x, y, r, rfl, rfl⟩ := xji_inv ho; exact lv_lshl hx hb hd rfl K
  | lshr => obtain ⟨x, y, r, rfl, rfl⟩ := xji_inv ho; exact lv_lshr hx hb hd rfl K
  | lushr => obtain ⟨x, y, r, rfl, rfl⟩ := xji_inv ho; exact lv_lushr hx hb hd rfl K
  | i2l => obtain ⟨x, r, rfl, rfl⟩ := xi2l_inv ho; exact lv_i2l hx hb hd rfl K
  | l2i => obtain ⟨x, r, rfl, rfl⟩ := xl2i_inv ho; exact lv_l2i hx hb hd rfl K
  | lcmp => obtain ⟨x, y, r, rfl, rfl⟩ := xlcmp_inv ho; exact W.lcmp hx hb hd K
  | dup => obtain ⟨v, r, rfl, rfl, h1⟩ := xdup_inv ho; exact lv_dup hx hb hd ((xemb_cat _ v).trans h1) K
  | pop => obtain ⟨v, rfl, h1⟩ := xpop_inv ho; exact lv_pop hx hb hd ((xemb_cat _ v).trans h1) K
  | pop2 =>
    rcases xpop2_inv ho with ⟨v, rfl, h1⟩ | ⟨v, w, rfl, h1, h2⟩
    · exact lv_pop2_2 hx hb hd ((xemb_cat _ v).trans h1) K
    · exact lv_pop2_11 hx hb hd ((xemb_cat _ v).trans h1) ((xemb_cat _ w).trans h2) K
  | dup_x1 => obtain ⟨v, w, r, rfl, rfl, h1, h2⟩ := xdupx1_inv ho; exact lv_dup_x1 hx hb hd ((xemb_cat _ v).trans h1) ((xemb_cat _ w).trans h2) K
  | dup_x2 => obtain ⟨v, w, u, r, rfl, rfl, h1, h2, h3⟩ := xdupx2_inv ho; exact lv_dup_x2 hx hb hd ((xemb_cat _ v).trans h1) ((xemb_cat _ w).trans h2) ((xemb_cat _ u).trans h3) K
  | dup2 =>
    rcases xdup2_inv ho with ⟨v, r, rfl, rfl, h1⟩ | ⟨v, w, r, rfl, rfl, h1, h2⟩
    · exact lv_dup2_2 hx hb hd ((xemb_cat _ v).trans h1) K
    · exact lv_dup2_11 hx hb hd ((xemb_cat _ v).trans h1) ((xemb_cat _ w).trans h2) K
  | dup2_x1 => obtain ⟨v, w, r, rfl, rfl, h1, h2⟩ := xdup2x1_inv ho; exact lv_dup2_x1_2 hx hb hd ((xemb_cat _ v).trans h1) ((xemb_cat _ w).trans h2) K
  | dup2_x2 => obtain ⟨v, w, u, r, rfl, rfl, h1, h2, h3⟩ := xdup2x2_inv ho; exact lv_dup2_x2_2 hx hb hd ((xemb_cat _ v).trans h1) ((xemb_cat _ w).trans h2) ((xemb_cat _ u).trans h3) K
  | _ => cases ho
