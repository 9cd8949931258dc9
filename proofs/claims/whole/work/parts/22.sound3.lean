/-! Locals. -/
theorem xst1_len : ∀ (L : XL) (i : Nat) (v : Value), (xst1 L i v).length = L.length
  | [], _, _ => rfl
  | _ :: _, 0, _ => rfl
  | x :: L, 1, v => by simp only [xst1, List.length_cons, xst1_len L 0 v]
  | x :: L, i + 2, v => by simp only [xst1, List.length_cons, xst1_len L (i + 1) v]
theorem xst2_len : ∀ (L : XL) (i : Nat) (v : Value), (xst2 L i v).length = L.length
  | [], 0, _ => rfl
  | [], _ + 1, _ => by simp [xst2]
  | [_], 0, _ => rfl
  | _ :: _ :: _, 0, _ => rfl
  | x :: L, 1, v => by simp only [xst2, List.length_cons, xst2_len L 0 v]
  | x :: L, i + 2, v => by simp only [xst2, List.length_cons, xst2_len L (i + 1) v]
theorem xld_cons0 (x : Option Value) (L : XL) : xld (x :: L) 0 = x := by simp [xld]
theorem xld_consS (x : Option Value) (L : XL) (j : Nat) : xld (x :: L) (j + 1) = xld L j := by simp [xld]
theorem xld_nil (j : Nat) : xld [] j = none := by simp [xld]
theorem xst1_ld : ∀ (L : XL) (i : Nat) (v : Value) (j : Nat) (w : Value), xld (xst1 L i v) j = some w → (j = i ∧ w = v) ∨ (j ≠ i ∧ xld L j = some w ∧ ¬ (j + 1 = i ∧ w.category = 2))
  | [], i, v, j, w, h => by simp only [xst1, xld_nil] at h; cases h
  | x :: L, 0, v, 0, w, h => by simp only [xst1, xld_cons0] at h; exact Or.inl ⟨rfl, (Option.some.inj h).symm⟩
  | x :: L, 0, v, j + 1, w, h => by
    simp only [xst1, xld_consS] at h
    refine Or.inr ⟨by omega, by rw [xld_consS]; exact h, fun q => by omega⟩
  | x :: L, 1, v, 0, w, h => by
    simp only [xst1, xld_cons0] at h
    split at h
    · cases h
    · rename_i hc
      refine Or.inr ⟨by omega, by rw [xld_cons0]; exact h, fun q => hc ?_⟩
      rw [h]
      simp [xcat2, q.2]
  | x :: L, 1, v, j + 1, w, h => by
    simp only [xst1, xld_consS] at h
    rcases xst1_ld L 0 v j w h with ⟨h1, h2⟩ | ⟨h1, h2, h3⟩
    · exact Or.inl ⟨by omega, h2⟩
    · exact Or.inr ⟨by omega, by rw [xld_consS]; exact h2, fun q => by omega⟩
  | x :: L, i + 2, v, 0, w, h => by
    simp only [xst1, xld_cons0] at h
    exact Or.inr ⟨by omega, by rw [xld_cons0]; exact h, fun q => by omega⟩
  | x :: L, i + 2, v, j + 1, w, h => by
    simp only [xst1, xld_consS] at h
    rcases xst1_ld L (i + 1) v j w h with ⟨h1, h2⟩ | ⟨h1, h2, h3⟩
    · exact Or.inl ⟨by omega, h2⟩
    · exact Or.inr ⟨by omega, by rw [xld_consS]; exact h2, fun q => h3 ⟨by omega, q.2⟩⟩
theorem xst2_ld : ∀ (L : XL) (i : Nat) (v : Value) (j : Nat) (w : Value), i + 1 < L.length → xld (xst2 L i v) j = some w → (j = i ∧ w = v) ∨ (j ≠ i ∧ j ≠ i + 1 ∧ xld L j = some w ∧ ¬ (j + 1 = i ∧ w.category = 2))
  | [], i, v, j, w, hl, h => by simp at hl
  | [x], i, v, j, w, hl, h => by simp at hl
  | x :: y :: L, 0, v, 0, w, hl, h => by simp only [xst2, xld_cons0] at h; exact Or.inl ⟨rfl, (Option.some.inj h).symm⟩
  | x :: y :: L, 0, v, 1, w, hl, h => by simp only [xst2, xld_consS, xld_cons0] at h; cases h
  | x :: y :: L, 0, v, j + 2, w, hl, h => by
    simp only [xst2, xld_consS] at h
    exact Or.inr ⟨by omega, by omega, by rw [xld_consS, xld_consS]; exact h, fun q => by omega⟩
  | x :: y :: L, 1, v, 0, w, hl, h => by
    simp only [xst2, xld_cons0] at h
    split at h
    · cases h
    · rename_i hc
      refine Or.inr ⟨by omega, by omega, by rw [xld_cons0]; exact h, fun q => hc ?_⟩
      rw [h]
      simp [xcat2, q.2]
  | x :: y :: L, 1, v, j + 1, w, hl, h => by
    simp only [xst2, xld_consS] at h
    rcases xst2_ld (y :: L) 0 v j w (by simp at hl ⊢; omega) h with ⟨h1, h2⟩ | ⟨h1, h2, h3, h4⟩
    · exact Or.inl ⟨by omega, h2⟩
    · exact Or.inr ⟨by omega, by omega, by rw [xld_consS]; exact h3, fun q => by omega⟩
  | x :: y :: L, i + 2, v, 0, w, hl, h => by
    simp only [xst2, xld_cons0] at h
    exact Or.inr ⟨by omega, by omega, by rw [xld_cons0]; exact h, fun q => by omega⟩
  | x :: y :: L, i + 2, v, j + 1, w, hl, h => by
    simp only [xst2, xld_consS] at h
    rcases xst2_ld (y :: L) (i + 1) v j w (by simp at hl ⊢; omega) h with ⟨h1, h2⟩ | ⟨h1, h2, h3, h4⟩
    · exact Or.inl ⟨by omega, h2⟩
    · exact Or.inr ⟨by omega, by omega, by rw [xld_consS]; exact h3, fun q => h4 ⟨by omega, q.2⟩⟩
def xfacts (ad : Nat → Nat) (L : XL) : List (Nat × Value) := (List.range L.length).filterMap (fun j => (xld L j).map (fun v => (j, xemb ad v)))
theorem xfacts_mem {ad : Nat → Nat} {L : XL} {j : Nat} {v : Value} (h : xld L j = some v) : (j, xemb ad v) ∈ xfacts ad L := by
  refine List.mem_filterMap.mpr ⟨j, List.mem_range.mpr ?_, by rw [h]; rfl⟩
  unfold xld at h
  cases hj : L[j]? with
  | none => rw [hj] at h; cases h
  | some q => exact (List.getElem?_eq_some_iff.mp hj).1
theorem XLH.has {ad : Nat → Nat} {ls : Array Slot} {n : Nat} {L : XL} (h : XLH ad ls n L) : lv_has ls n (xfacts ad L) := by
  refine ⟨h.1, h.2.2.1, fun q hq => ?_⟩
  obtain ⟨j, -, hj⟩ := List.mem_filterMap.mp hq
  cases hv : xld L j with
  | none => rw [hv] at hj; cases hj
  | some v =>
    rw [hv] at hj
    cases hj
    exact h.2.2.2 j v hv
theorem XLH.st1 {ad : Nat → Nat} {ls ls' : Array Slot} {n i : Nat} {L : XL} {v : Value} (h : XLH ad ls n L) (h' : lv_has ls' n ((i, xemb ad v) :: (xfacts ad L).filter (fun q => !(q.1 == i) && !(q.1 + 1 == i && q.2.category == 2)))) : XLH ad ls' n (xst1 L i v) := by
  refine ⟨h'.1, (xst1_len L i v).trans h.2.1, h'.2.1, fun j w hw => ?_⟩
  rcases xst1_ld L i v j w hw with ⟨rfl, rfl⟩ | ⟨h1, h2, h3⟩
  · exact h'.2.2 _ List.mem_cons_self
  · refine h'.2.2 (j, xemb ad w) (List.mem_cons_of_mem _ (List.mem_filter.mpr ⟨xfacts_mem h2, ?_⟩))
    simp only [Bool.and_eq_true, Bool.not_eq_true', beq_eq_false_iff_ne, xemb_cat]
    refine ⟨h1, ?_⟩
    cases hq : (j + 1 == i && w.category == 2) with
    | false => rfl
    | true => simp only [Bool.and_eq_true, beq_iff_eq] at hq; exact absurd hq h3
theorem XLH.st2 {ad : Nat → Nat} {ls ls' : Array Slot} {n i : Nat} {L : XL} {v : Value} (h : XLH ad ls n L) (hi : i + 1 < L.length) (h' : lv_has ls' n ((i, xemb ad v) :: (xfacts ad L).filter (fun q => !(q.1 == i) && (!(q.1 == i + 1) && !(q.1 + 1 == i && q.2.category == 2))))) : XLH ad ls' n (xst2 L i v) := by
  refine ⟨h'.1, (xst2_len L i v).trans h.2.1, h'.2.1, fun j w hw => ?_⟩
  rcases xst2_ld L i v j w hi hw with ⟨rfl, rfl⟩ | ⟨h1, h2, h3, h4⟩
  · exact h'.2.2 _ List.mem_cons_self
  · refine h'.2.2 (j, xemb ad w) (List.mem_cons_of_mem _ (List.mem_filter.mpr ⟨xfacts_mem h3, ?_⟩))
    simp only [Bool.and_eq_true, Bool.not_eq_true', beq_eq_false_iff_ne, xemb_cat]
    refine ⟨h1, h2, ?_⟩
    cases hq : (j + 1 == i && w.category == 2) with
    | false => rfl
    | true => simp only [Bool.and_eq_true, beq_iff_eq] at hq; exact absurd hq h4
theorem xlI_inv {L L' : XL} {i : Nat} {st st' : List Value} (h : xlI L i st = some (L', st')) : ∃ x, xld L i = some (.int x) ∧ L' = L ∧ st' = .int x :: st := by
  unfold xlI at h
  split at h
  · cases h; exact ⟨_, by assumption, rfl, rfl⟩
  · cases h
theorem xlJ_inv {L L' : XL} {i : Nat} {st st' : List Value} (h : xlJ L i st = some (L', st')) : ∃ x, xld L i = some (.long x) ∧ L' = L ∧ st' = .long x :: st := by
  unfold xlJ at h
  split at h
  · cases h; exact ⟨_, by assumption, rfl, rfl⟩
  · cases h
theorem xlA_inv {L L' : XL} {i : Nat} {st st' : List Value} (h : xlA L i st = some (L', st')) : L' = L ∧ ((∃ x, xld L i = some (.ref x) ∧ st' = .ref x :: st) ∨ (xld L i = some .null ∧ st' = .null :: st)) := by
  unfold xlA at h
  split at h
  · cases h; exact ⟨rfl, Or.inl ⟨_, by assumption, rfl⟩⟩
  · cases h; exact ⟨rfl, Or.inr ⟨by assumption, rfl⟩⟩
  · cases h
theorem xsI1_inv {L L' : XL} {i : Nat} {st st' : List Value} (h : xsI1 L i st = some (L', st')) : ∃ x, st = .int x :: st' ∧ L' = xst1 L i (.int x) ∧ i < L.length := by
  unfold xsI1 at h
  split at h
  · split at h
    · cases h; exact ⟨_, rfl, rfl, by assumption⟩
    · cases h
  · cases h
theorem xsJ1_inv {L L' : XL} {i : Nat} {st st' : List Value} (h : xsJ1 L i st = some (L', st')) : ∃ x, st = .long x :: st' ∧ L' = xst2 L i (.long x) ∧ i + 1 < L.length := by
  unfold xsJ1 at h
  split at h
  · split at h
    · cases h; exact ⟨_, rfl, rfl, by assumption⟩
    · cases h
  · cases h
theorem xsA1_inv {L L' : XL} {i : Nat} {st st' : List Value} (h : xsA1 L i st = some (L', st')) : i < L.length ∧ ((∃ x, st = .ref x :: st' ∧ L' = xst1 L i (.ref x)) ∨ (st = .null :: st' ∧ L' = xst1 L i .null)) := by
  unfold xsA1 at h
  split at h
  · split at h
    · cases h; exact ⟨by assumption, Or.inl ⟨_, rfl, rfl⟩⟩
    · cases h
  · split at h
    · cases h; exact ⟨by assumption, Or.inr ⟨rfl, rfl⟩⟩
    · cases h
  · cases h
theorem xinc_inv {L L' : XL} {i : Nat} {n : Int} {st st' : List Value} (h : xinc L i n st = some (L', st')) : ∃ x, xld L i = some (.int x) ∧ i < L.length ∧ L' = xst1 L i (.int (x + Int32.ofInt n)) ∧ st' = st := by
  unfold xinc at h
  split at h
  · split at h
    · cases h; exact ⟨_, by assumption, by assumption, rfl, rfl⟩
    · cases h
  · cases h
section XLO
variable {p : Program} {l : Launch} {e : Env} {R : Room} {s : State} {m : MethodId} {args : Array Value} {below : List Frame} {meth : Method} {c : Code} {Q : State → Prop} {D : va_G} {ca : Nat → ClassId} {b scr z0 s0 k pc pc' len : Nat} {L L' : XL} {st st' r : List Value} {h : XH} {i : Instr}
set_option maxHeartbeats 4000000 in
theorem xloc_sound (hx : p.tables.exec = Jvm.exec) (hb : c.code = xcode k) (hd : decode (xcode k) pc = .ok (i, xlen i)) (ho : xloc i L st = some (L', st')) (K : XW (p, l, e, R, s, m, args, below, meth, c, Q, D, ca, b, scr, z0, s0) k (pc + xlen i) L' st' h) : XW (p, l, e, R, s, m, args, below, meth, c, Q, D, ca, b, scr, z0, s0) k pc L st h := by
  intro H locs ls hP hS hL
  have hn := hL.2.1
  cases i with
  | iload i => obtain ⟨x, h1, rfl, rfl⟩ := xlI_inv ho; exact lv_iload hx hb hd (hL.2.2.2 _ _ h1) (K H locs ls hP hS hL)
  | iload_n i => obtain ⟨x, h1, rfl, rfl⟩ := xlI_inv ho; exact lv_iload_n hx hb hd rfl (hL.2.2.2 _ _ h1) (K H locs ls hP hS hL)
  | lload i => obtain ⟨x, h1, rfl, rfl⟩ := xlJ_inv ho; exact lv_lload hx hb hd (hL.2.2.2 _ _ h1) (K H locs ls hP hS hL)
  | lload_n i => obtain ⟨x, h1, rfl, rfl⟩ := xlJ_inv ho; exact lv_lload_n hx hb hd rfl (hL.2.2.2 _ _ h1) (K H locs ls hP hS hL)
  | aload i =>
    obtain ⟨rfl, ⟨x, h1, rfl⟩ | ⟨h1, rfl⟩⟩ := xlA_inv ho
    · exact lv_aload hx hb hd (hL.2.2.2 _ _ h1) (K H locs ls hP hS hL)
    · exact lv_aloadN hx hb hd (hL.2.2.2 _ _ h1) (K H locs ls hP hS hL)
  | aload_n i =>
    obtain ⟨rfl, ⟨x, h1, rfl⟩ | ⟨h1, rfl⟩⟩ := xlA_inv ho
    · exact lv_aload_n hx hb hd rfl (hL.2.2.2 _ _ h1) (K H locs ls hP hS hL)
    · exact lv_aload_nN hx hb hd rfl (hL.2.2.2 _ _ h1) (K H locs ls hP hS hL)
  | istore i =>
    obtain ⟨x, rfl, rfl, h1⟩ := xsI1_inv ho
    exact lv_istore hx hb hd hL.has (by omega) rfl (fun ls' h' => K H locs ls' hP hS (hL.st1 (v := .int x) h'))
  | istore_n i =>
    obtain ⟨x, rfl, rfl, h1⟩ := xsI1_inv ho
    exact lv_istore_n hx hb hd rfl hL.has (by omega) rfl (fun ls' h' => K H locs ls' hP hS (hL.st1 (v := .int x) h'))
  | lstore i =>
    obtain ⟨x, rfl, rfl, h1⟩ := xsJ1_inv ho
    exact lv_lstore hx hb hd hL.has (by omega) rfl (fun ls' h' => K H locs ls' hP hS (hL.st2 (v := .long x) h1 h'))
  | lstore_n i =>
    obtain ⟨x, rfl, rfl, h1⟩ := xsJ1_inv ho
    exact lv_lstore_n hx hb hd rfl hL.has (by omega) rfl (fun ls' h' => K H locs ls' hP hS (hL.st2 (v := .long x) h1 h'))
  | astore i =>
    obtain ⟨h1, ⟨x, rfl, rfl⟩ | ⟨rfl, rfl⟩⟩ := xsA1_inv ho
    · exact lv_astore hx hb hd hL.has (by omega) rfl (fun ls' h' => K H locs ls' hP hS (hL.st1 (v := .ref x) h'))
    · exact lv_astoreN hx hb hd hL.has (by omega) rfl (fun ls' h' => K H locs ls' hP hS (hL.st1 (v := .null) h'))
  | astore_n i =>
    obtain ⟨h1, ⟨x, rfl, rfl⟩ | ⟨rfl, rfl⟩⟩ := xsA1_inv ho
    · exact lv_astore_n hx hb hd rfl hL.has (by omega) rfl (fun ls' h' => K H locs ls' hP hS (hL.st1 (v := .ref x) h'))
    · exact lv_astore_nN hx hb hd rfl hL.has (by omega) rfl (fun ls' h' => K H locs ls' hP hS (hL.st1 (v := .null) h'))
  | iinc i n =>
    obtain ⟨x, h1, h2, rfl, rfl⟩ := xinc_inv ho
    obtain ⟨q, hq⟩ := List.getElem?_of_mem (xfacts_mem (ad := xad b scr) h1)
    exact lv_iinc hx hb hd hL.has hq rfl (by omega) rfl (fun ls' h' => K H locs ls' hP hS (hL.st1 (v := .int (x + Int32.ofInt n)) h'))
  | _ => cases ho
end XLO
