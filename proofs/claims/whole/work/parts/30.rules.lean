/-! Rows for walks in the small machine: XP, from this point the method returns so that Q. -/
def xle (L L' : XL) : Prop := L.length = L'.length ∧ ∀ (i : Nat) (v : Value), xld L i = some v → xld L' i = some v
theorem xle.rf (L : XL) : xle L L := ⟨rfl, fun _ _ h => h⟩
theorem xle.cons {x y : Option Value} {L L' : XL} (h : xle L L') (hx : ∀ v, x = some v → y = some v) : xle (x :: L) (y :: L') := by
  refine ⟨by simp [h.1], fun i v hv => ?_⟩
  cases i with
  | zero => rw [xld_cons0] at hv ⊢; exact hx v hv
  | succ i => rw [xld_consS] at hv ⊢; exact h.2 i v hv
theorem xle.tl {x y : Option Value} {L L' : XL} (h : xle (x :: L) (y :: L')) : xle L L' ∧ ∀ v, x = some v → y = some v := by
  refine ⟨⟨by have := h.1; simpa using this, fun i v hv => ?_⟩, fun v hv => ?_⟩
  · have := h.2 (i + 1) v (by rw [xld_consS]; exact hv)
    rwa [xld_consS] at this
  · have := h.2 0 v (by rw [xld_cons0]; exact hv)
    rwa [xld_cons0] at this
theorem xle_kill {x y : Option Value} (h : ∀ v, x = some v → y = some v) : ∀ v, (if xcat2 x then none else x) = some v → (if xcat2 y then none else y) = some v := by
  intro v hv
  split at hv
  · cases hv
  · rename_i hc
    rw [h v hv]
    rw [hv] at hc
    rw [if_neg hc]
theorem xle.st1 : ∀ {L L' : XL} (i : Nat) (v : Value), xle L L' → xle (xst1 L i v) (xst1 L' i v)
  | [], [], i, v, h => h
  | [], _ :: _, i, v, h => absurd h.1 (by simp)
  | _ :: _, [], i, v, h => absurd h.1 (by simp)
  | x :: L, y :: L', 0, v, h => (h.tl).1.cons (fun _ q => q)
  | x :: L, y :: L', 1, v, h => (xle.st1 0 v h.tl.1).cons (xle_kill h.tl.2)
  | x :: L, y :: L', i + 2, v, h => (xle.st1 (i + 1) v h.tl.1).cons h.tl.2
theorem xle.st2 : ∀ {L L' : XL} (i : Nat) (v : Value), xle L L' → xle (xst2 L i v) (xst2 L' i v)
  | [], [], i, v, h => xle.rf _
  | [], _ :: _, i, v, h => absurd h.1 (by simp)
  | _ :: _, [], i, v, h => absurd h.1 (by simp)
  | [x], [y], 0, v, h => h
  | [_], _ :: _ :: _, 0, v, h => absurd h.1 (by simp)
  | _ :: _ :: _, [_], 0, v, h => absurd h.1 (by simp)
  | x :: x2 :: L, y :: y2 :: L', 0, v, h => ((h.tl).1.tl.1.cons (fun _ q => q)).cons (fun _ q => q)
  | x :: L, y :: L', 1, v, h => by
    simp only [xst2]
    exact (xle.st2 0 v h.tl.1).cons (xle_kill h.tl.2)
  | x :: L, y :: L', i + 2, v, h => by
    simp only [xst2]
    exact (xle.st2 (i + 1) v h.tl.1).cons h.tl.2
def XP (S : XS) (d k pc : Nat) (L : XL) (st : List Value) (h : XH) (Q : Option Value → XH → Prop) : Prop := ∀ L', xle L L' → ∃ (n : Nat) (v : Option Value) (h' : XH), xrun S n d k pc L' st h = some (v, h') ∧ Q v h'
section XPR
variable {S : XS} {d d' k pc pc' len y : Nat} {L L1 L2 : XL} {st st' r as : List Value} {h h' : XH} {Q Q' : Option Value → XH → Prop} {cc : ByteArray} {i : Instr} {v : Option Value}
theorem XP.conseq (K : XP S d k pc L st h Q) (hq : ∀ v h', Q v h' → Q' v h') : XP S d k pc L st h Q' := fun L' hL => by
  obtain ⟨n, v, h', e, q⟩ := K L' hL
  exact ⟨n, v, h', e, hq v h' q⟩
theorem XP.weak (hL : xle L1 L) (K : XP S d k pc L1 st h Q) : XP S d k pc L st h Q := fun L' h1 => K L' ⟨hL.1.trans h1.1, fun i v q => h1.2 i v (hL.2 i v q)⟩
theorem XP.deep (hd : d ≤ d') (K : XP S d k pc L st h Q) : XP S d' k pc L st h Q := fun L' hL => by
  obtain ⟨n, v, h', e, q⟩ := K L' hL
  exact ⟨n, v, h', xrun_mono _ _ _ _ _ _ _ _ e n d' (Nat.le_refl _) hd, q⟩
theorem XP.one (hc : xcode k = cc) (hd : decode cc pc = .ok (i, len)) (hr : xret k i len st = none) (hcl : xcall k i len st h = none)
    (h1 : ∀ L', xle L L' → ∃ L'', x1 S d k i len pc L' st h = some (pc', L'', st', h') ∧ xle L1 L'') (K : XP S d k pc' L1 st' h' Q) : XP S d k pc L st h Q := fun L' hL => by
  obtain ⟨L'', e1, hL1⟩ := h1 L' hL
  obtain ⟨n, v, h2, e, q⟩ := K L'' hL1
  refine ⟨n + 1, v, h2, ?_, q⟩
  subst hc
  simp only [xrun, hd, hr, hcl, e1]
  exact e
theorem xop_not (ho : xop i st = some st') : xret k i len st = none ∧ xcall k i len st h = none ∧ xjmp i len pc st = none := by
  cases i <;> first | (refine ⟨?_, ?_, rfl⟩ <;> first | (unfold xret; split <;> rfl) | (unfold xcall; split <;> rfl)) | exact absurd ho (by intro q; cases q)
theorem xloc_not (ho : xloc i L st = some (L1, st')) : xret k i len st = none ∧ xcall k i len st h = none ∧ xjmp i len pc st = none ∧ xop i st = none := by
  cases i <;> first | (refine ⟨?_, ?_, rfl, rfl⟩ <;> first | (unfold xret; split <;> rfl) | (unfold xcall; split <;> rfl)) | exact absurd ho (by intro q; cases q)
theorem xmem_not (ho : xmem S k i st h = some (st', h')) : xret k i len st = none ∧ xcall k i len st h = none ∧ xjmp i len pc st = none ∧ xop i st = none ∧ ∀ L, xloc i L st = none := by
  cases i <;> first | (refine ⟨?_, ?_, rfl, rfl, fun _ => rfl⟩ <;> first | (unfold xret; split <;> rfl) | (unfold xcall; split <;> rfl)) | exact absurd ho (by intro q; cases q)
theorem xjmp_not (ho : xjmp i len pc st = some (pc', st')) : xret k i len st = none ∧ xcall k i len st h = none := by
  cases i <;> first | (refine ⟨?_, ?_⟩ <;> first | (unfold xret; split <;> rfl) | (unfold xcall; split <;> rfl)) | exact absurd ho (by intro q; cases q)
/-- an instruction on the stack alone -/
theorem x_op (hc : xcode k = cc) (hd : decode cc pc = .ok (i, len)) (hl : len = xlen i) (ho : xop i st = some st') (hp : pc + len = pc') (K : XP S d k pc' L st' h Q) : XP S d k pc L st h Q := by
  obtain ⟨n1, n2, n3⟩ := xop_not (k := k) (len := len) (h := h) (pc := pc) ho
  refine XP.one hc hd n1 n2 (fun L' hL => ⟨L', ?_, hL⟩) K
  subst hp
  simp only [x1, n3, if_pos hl, ho]
theorem xloc_mono (hL : xle L L2) (ho : xloc i L st = some (L1, st')) : ∃ L3, xloc i L2 st = some (L3, st') ∧ xle L1 L3 := by
  cases i with
  | iload i => obtain ⟨x, h1, rfl, rfl⟩ := xlI_inv ho; exact ⟨L2, by simp only [xloc, xlI, hL.2 _ _ h1], hL⟩
  | iload_n i => obtain ⟨x, h1, rfl, rfl⟩ := xlI_inv ho; exact ⟨L2, by simp only [xloc, xlI, hL.2 _ _ h1], hL⟩
  | lload i => obtain ⟨x, h1, rfl, rfl⟩ := xlJ_inv ho; exact ⟨L2, by simp only [xloc, xlJ, hL.2 _ _ h1], hL⟩
  | lload_n i => obtain ⟨x, h1, rfl, rfl⟩ := xlJ_inv ho; exact ⟨L2, by simp only [xloc, xlJ, hL.2 _ _ h1], hL⟩
  | aload i => obtain ⟨rfl, ⟨x, h1, rfl⟩ | ⟨h1, rfl⟩⟩ := xlA_inv ho <;> exact ⟨L2, by simp only [xloc, xlA, hL.2 _ _ h1], hL⟩
  | aload_n i => obtain ⟨rfl, ⟨x, h1, rfl⟩ | ⟨h1, rfl⟩⟩ := xlA_inv ho <;> exact ⟨L2, by simp only [xloc, xlA, hL.2 _ _ h1], hL⟩
  | istore i => obtain ⟨x, rfl, rfl, h1⟩ := xsI1_inv ho; exact ⟨_, by simp only [xloc, xsI1]; rw [if_pos (by rw [← hL.1]; exact h1)], hL.st1 _ _⟩
  | istore_n i => obtain ⟨x, rfl, rfl, h1⟩ := xsI1_inv ho; exact ⟨_, by simp only [xloc, xsI1]; rw [if_pos (by rw [← hL.1]; exact h1)], hL.st1 _ _⟩
  | lstore i => obtain ⟨x, rfl, rfl, h1⟩ := xsJ1_inv ho; exact ⟨_, by simp only [xloc, xsJ1]; rw [if_pos (by rw [← hL.1]; exact h1)], hL.st2 _ _⟩
  | lstore_n i => obtain ⟨x, rfl, rfl, h1⟩ := xsJ1_inv ho; exact ⟨_, by simp only [xloc, xsJ1]; rw [if_pos (by rw [← hL.1]; exact h1)], hL.st2 _ _⟩
  | astore i => obtain ⟨h1, ⟨x, rfl, rfl⟩ | ⟨rfl, rfl⟩⟩ := xsA1_inv ho <;> exact ⟨_, by simp only [xloc, xsA1]; rw [if_pos (by rw [← hL.1]; exact h1)], hL.st1 _ _⟩
  | astore_n i => obtain ⟨h1, ⟨x, rfl, rfl⟩ | ⟨rfl, rfl⟩⟩ := xsA1_inv ho <;> exact ⟨_, by simp only [xloc, xsA1]; rw [if_pos (by rw [← hL.1]; exact h1)], hL.st1 _ _⟩
  | iinc i n => obtain ⟨x, h1, h2, rfl, rfl⟩ := xinc_inv ho; exact ⟨_, by simp only [xloc, xinc, hL.2 _ _ h1]; rw [if_pos (by rw [← hL.1]; exact h2)], hL.st1 _ _⟩
  | _ => cases ho
/-- an instruction on the locals -/
theorem x_loc (hc : xcode k = cc) (hd : decode cc pc = .ok (i, len)) (hl : len = xlen i) (ho : xloc i L st = some (L1, st')) (hp : pc + len = pc') (K : XP S d k pc' L1 st' h Q) : XP S d k pc L st h Q := by
  obtain ⟨n1, n2, n3, n4⟩ := xloc_not (k := k) (len := len) (h := h) (pc := pc) ho
  refine XP.one hc hd n1 n2 (fun L' hL => ?_) K
  obtain ⟨L3, e, hL3⟩ := xloc_mono hL ho
  refine ⟨L3, ?_, hL3⟩
  subst hp
  simp only [x1, n3, n4, if_pos hl, e]
/-- an instruction on the memory -/
theorem x_mem (hc : xcode k = cc) (hd : decode cc pc = .ok (i, len)) (hl : len = xlen i) (ho : xmem S k i st h = some (st', h')) (hp : pc + len = pc') (K : XP S d k pc' L st' h' Q) : XP S d k pc L st h Q := by
  obtain ⟨n1, n2, n3, n4, n5⟩ := xmem_not (len := len) (pc := pc) ho
  refine XP.one hc hd n1 n2 (fun L' hL => ⟨L', ?_, hL⟩) K
  subst hp
  simp only [x1, n3, n4, n5, if_pos hl, ho]
/-- a jump, known where to -/
theorem x_jmp (hc : xcode k = cc) (hd : decode cc pc = .ok (i, len)) (ho : xjmp i len pc st = some (pc', st')) (K : XP S d k pc' L st' h Q) : XP S d k pc L st h Q := by
  obtain ⟨n1, n2⟩ := xjmp_not (k := k) (h := h) ho
  refine XP.one hc hd n1 n2 (fun L' hL => ⟨L', ?_, hL⟩) K
  simp only [x1, ho]
theorem x_goto {off : Int} (hc : xcode k = cc) (hd : decode cc pc = .ok (.goto off, 3)) (ht : xtg pc off = some pc') (K : XP S d k pc' L st h Q) : XP S d k pc L st h Q :=
  x_jmp hc hd (by simp only [xjmp, ht]; rfl) K
theorem x_if {cd : ClassFile.Cond} {off : Int} {x : Int32} (hc : xcode k = cc) (hd : decode cc pc = .ok (.ifCond cd off, 3)) (ht : xtg pc off = some pc') (kt : xcnd cd x 0 = true → XP S d k pc' L r h Q) (kf : xcnd cd x 0 = false → XP S d k (pc + 3) L r h Q) : XP S d k pc L (.int x :: r) h Q := by
  cases hq : xcnd cd x 0
  · exact x_jmp hc hd (by simp only [xjmp, xjif, xjc, ht, hq]; rfl) (kf hq)
  · exact x_jmp hc hd (by simp only [xjmp, xjif, xjc, ht, hq]; rfl) (kt hq)
theorem x_icmp {cd : ClassFile.Cond} {off : Int} {x z : Int32} (hc : xcode k = cc) (hd : decode cc pc = .ok (.if_icmp cd off, 3)) (ht : xtg pc off = some pc') (kt : xcnd cd x z = true → XP S d k pc' L r h Q) (kf : xcnd cd x z = false → XP S d k (pc + 3) L r h Q) : XP S d k pc L (.int z :: .int x :: r) h Q := by
  cases hq : xcnd cd x z
  · exact x_jmp hc hd (by simp only [xjmp, xjcmp, xjc, ht, hq]; rfl) (kf hq)
  · exact x_jmp hc hd (by simp only [xjmp, xjcmp, xjc, ht, hq]; rfl) (kt hq)
/-- the end -/
theorem x_ret (hc : xcode k = cc) (hd : decode cc pc = .ok (i, len)) (hr : xret k i len st = some v) (hq : Q v h) : XP S d k pc L st h Q := fun L' hL => by
  refine ⟨1, v, h, ?_, hq⟩
  subst hc
  simp only [xrun, hd, hr]
theorem xcall_notret (ho : xcall k i len st h = some (y, as, r)) : xret k i len st = none := by
  cases i <;> first | (unfold xret; split <;> rfl) | (exfalso; revert ho; unfold xcall; split <;> intro q <;> cases q)
/-- a call -/
theorem x_call (hc : xcode k = cc) (hd : decode cc pc = .ok (i, len)) (ho : xcall k i len st h = some (y, as, r)) (hcal : XP S d y 0 (xent as (xml y)) [] h Q') (kk : ∀ v h', Q' v h' → XP S (d + 1) k (pc + 3) L (v.toList ++ r) h' Q) : XP S (d + 1) k pc L st h Q := fun L' hL => by
  obtain ⟨n1, v1, h1, e1, q1⟩ := hcal _ (xle.rf _)
  obtain ⟨n2, v2, h2, e2, q2⟩ := kk v1 h1 q1 L' hL
  refine ⟨max n1 n2 + 1, v2, h2, ?_, q2⟩
  subst hc
  have e1' := xrun_mono _ _ _ _ _ _ _ _ e1 (max n1 n2) d (Nat.le_max_left _ _) (Nat.le_refl _)
  have e2' := xrun_mono _ _ _ _ _ _ _ _ e2 (max n1 n2) (d + 1) (Nat.le_max_right _ _) (Nat.le_refl _)
  simp only [xrun, hd, xcall_notret ho, ho, if_neg (Nat.succ_ne_zero d), Nat.add_sub_cancel, e1']
  exact e2'
end XPR
