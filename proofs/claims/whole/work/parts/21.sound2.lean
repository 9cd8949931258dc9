/-! Jumps and locals. -/
theorem xad_inj {b scr : Nat} (h : scr < b) {x y : Nat} (e : xad b scr x = xad b scr y) : x = y := by
  cases x with
  | zero => cases y with
    | zero => rfl
    | succ y => exfalso; simp only [xad] at e; omega
  | succ x => cases y with
    | zero => exfalso; simp only [xad] at e; omega
    | succ y => simp only [xad] at e; omega
theorem xad_injO {b scr : Nat} (h : scr < b) {x y : Option Nat} (e : x.map (xad b scr) = y.map (xad b scr)) : x = y := by
  cases x with
  | none => cases y with
    | none => rfl
    | some y => cases e
  | some x => cases y with
    | none => cases e
    | some y => exact congrArg some (xad_inj h (Option.some.inj e))
theorem xtg_inv {pc t : Nat} {off : Int} (h : xtg pc off = some t) : (pc : Int) + off = (t : Int) := by
  unfold xtg at h
  split at h
  · cases h; omega
  · cases h
theorem xjc_inv {b : Bool} {pc : Nat} {off : Int} {r : List Value} {q : Nat × List Value} (h : xjc b pc off r = some q) : ∃ t : Nat, (pc : Int) + off = (t : Int) ∧ ((b = true ∧ q = (t, r)) ∨ (b = false ∧ q = (pc + 3, r))) := by
  unfold xjc at h
  split at h
  · cases h
  · rename_i t ht
    refine ⟨t, xtg_inv ht, ?_⟩
    cases b
    · exact Or.inr ⟨rfl, (Option.some.inj h).symm⟩
    · exact Or.inl ⟨rfl, (Option.some.inj h).symm⟩
theorem xmap_inv {o : Option Nat} {r : List Value} {q : Nat × List Value} (h : o.map (fun t => (t, r)) = some q) : o = some q.1 ∧ q.2 = r := by
  cases o with
  | none => cases h
  | some t => cases h; exact ⟨rfl, rfl⟩
theorem xrf_inv {v : Value} {r : Option Nat} (h : xrf v = some r) : v = va_rf r := by
  cases v <;> first | (cases h; rfl) | cases h
section XJ
variable {p : Program} {l : Launch} {e : Env} {R : Room} {s : State} {m : MethodId} {args : Array Value} {below : List Frame} {meth : Method} {c : Code} {Q : State → Prop} {D : va_G} {ca : Nat → ClassId} {b scr z0 s0 k pc pc' len : Nat} {L L' : XL} {st st' r : List Value} {h : XH} {i : Instr}
theorem xjif_sound {cd : ClassFile.Cond} {off : Int} {x : Int32} (hx : p.tables.exec = Jvm.exec) (hb : c.code = xcode k) (hd : decode (xcode k) pc = .ok (.ifCond cd off, 3)) (ho : xjc (xcnd cd x 0) pc off r = some (pc', st')) (K : XW (p, l, e, R, s, m, args, below, meth, c, Q, D, ca, b, scr, z0, s0) k pc' L st' h) : XW (p, l, e, R, s, m, args, below, meth, c, Q, D, ca, b, scr, z0, s0) k pc L (.int x :: r) h := by
  intro H locs ls hP hS hL
  have K := K H locs ls hP hS hL
  obtain ⟨t, ht, hc⟩ := xjc_inv ho
  cases cd
  · refine lv_if_eq hx hb hd ht (fun q => ?_) (fun q => ?_) <;> rcases hc with ⟨h1, h2⟩ | ⟨h1, h2⟩ <;> simp only [xcnd, decide_eq_true_eq, decide_eq_false_iff_not] at h1 <;> first | (cases h2; exact K) | exact absurd q h1 | exact absurd h1 q
  · refine lv_if_ne hx hb hd ht (fun q => ?_) (fun q => ?_) <;> rcases hc with ⟨h1, h2⟩ | ⟨h1, h2⟩ <;> simp only [xcnd, decide_eq_true_eq, decide_eq_false_iff_not] at h1 <;> first | (cases h2; exact K) | exact absurd q h1 | exact absurd h1 q
  · refine lv_if_lt hx hb hd ht (fun q => ?_) (fun q => ?_) <;> rcases hc with ⟨h1, h2⟩ | ⟨h1, h2⟩ <;> simp only [xcnd, decide_eq_true_eq, decide_eq_false_iff_not] at h1 <;> first | (cases h2; exact K) | exact absurd q h1 | exact absurd h1 q
  · refine lv_if_ge hx hb hd ht (fun q => ?_) (fun q => ?_) <;> rcases hc with ⟨h1, h2⟩ | ⟨h1, h2⟩ <;> simp only [xcnd, decide_eq_true_eq, decide_eq_false_iff_not] at h1 <;> first | (cases h2; exact K) | exact absurd q h1 | exact absurd h1 q
  · refine lv_if_gt hx hb hd ht (fun q => ?_) (fun q => ?_) <;> rcases hc with ⟨h1, h2⟩ | ⟨h1, h2⟩ <;> simp only [xcnd, decide_eq_true_eq, decide_eq_false_iff_not] at h1 <;> first | (cases h2; exact K) | exact absurd q h1 | exact absurd h1 q
  · refine lv_if_le hx hb hd ht (fun q => ?_) (fun q => ?_) <;> rcases hc with ⟨h1, h2⟩ | ⟨h1, h2⟩ <;> simp only [xcnd, decide_eq_true_eq, decide_eq_false_iff_not] at h1 <;> first | (cases h2; exact K) | exact absurd q h1 | exact absurd h1 q
theorem xjcmp_sound {cd : ClassFile.Cond} {off : Int} {x y : Int32} (hx : p.tables.exec = Jvm.exec) (hb : c.code = xcode k) (hd : decode (xcode k) pc = .ok (.if_icmp cd off, 3)) (ho : xjc (xcnd cd x y) pc off r = some (pc', st')) (K : XW (p, l, e, R, s, m, args, below, meth, c, Q, D, ca, b, scr, z0, s0) k pc' L st' h) : XW (p, l, e, R, s, m, args, below, meth, c, Q, D, ca, b, scr, z0, s0) k pc L (.int y :: .int x :: r) h := by
  intro H locs ls hP hS hL
  have K := K H locs ls hP hS hL
  obtain ⟨t, ht, hc⟩ := xjc_inv ho
  cases cd
  · refine lv_icmp_eq hx hb hd ht (fun q => ?_) (fun q => ?_) <;> rcases hc with ⟨h1, h2⟩ | ⟨h1, h2⟩ <;> simp only [xcnd, decide_eq_true_eq, decide_eq_false_iff_not] at h1 <;> first | (cases h2; exact K) | exact absurd q h1 | exact absurd h1 q
  · refine lv_icmp_ne hx hb hd ht (fun q => ?_) (fun q => ?_) <;> rcases hc with ⟨h1, h2⟩ | ⟨h1, h2⟩ <;> simp only [xcnd, decide_eq_true_eq, decide_eq_false_iff_not] at h1 <;> first | (cases h2; exact K) | exact absurd q h1 | exact absurd h1 q
  · refine lv_icmp_lt hx hb hd ht (fun q => ?_) (fun q => ?_) <;> rcases hc with ⟨h1, h2⟩ | ⟨h1, h2⟩ <;> simp only [xcnd, decide_eq_true_eq, decide_eq_false_iff_not] at h1 <;> first | (cases h2; exact K) | exact absurd q h1 | exact absurd h1 q
  · refine lv_icmp_ge hx hb hd ht (fun q => ?_) (fun q => ?_) <;> rcases hc with ⟨h1, h2⟩ | ⟨h1, h2⟩ <;> simp only [xcnd, decide_eq_true_eq, decide_eq_false_iff_not] at h1 <;> first | (cases h2; exact K) | exact absurd q h1 | exact absurd h1 q
  · refine lv_icmp_gt hx hb hd ht (fun q => ?_) (fun q => ?_) <;> rcases hc with ⟨h1, h2⟩ | ⟨h1, h2⟩ <;> simp only [xcnd, decide_eq_true_eq, decide_eq_false_iff_not] at h1 <;> first | (cases h2; exact K) | exact absurd q h1 | exact absurd h1 q
  · refine lv_icmp_le hx hb hd ht (fun q => ?_) (fun q => ?_) <;> rcases hc with ⟨h1, h2⟩ | ⟨h1, h2⟩ <;> simp only [xcnd, decide_eq_true_eq, decide_eq_false_iff_not] at h1 <;> first | (cases h2; exact K) | exact absurd q h1 | exact absurd h1 q
theorem xjmp_sound (hsb : scr < b) (hx : p.tables.exec = Jvm.exec) (hb : c.code = xcode k) (hd : decode (xcode k) pc = .ok (i, len)) (ho : xjmp i len pc st = some (pc', st')) (K : XW (p, l, e, R, s, m, args, below, meth, c, Q, D, ca, b, scr, z0, s0) k pc' L st' h) : XW (p, l, e, R, s, m, args, below, meth, c, Q, D, ca, b, scr, z0, s0) k pc L st h := by
  cases i with
  | goto off =>
    simp only [xjmp] at ho
    split at ho
    · rename_i hl
      subst hl
      obtain ⟨h1, h2⟩ := xmap_inv ho
      cases h2
      intro H locs ls hP hS hL
      exact lv_goto hx hb hd (xtg_inv h1) (K H locs ls hP hS hL)
    · cases ho
  | ifCond cd off =>
    simp only [xjmp] at ho
    split at ho
    · rename_i hl
      subst hl
      unfold xjif at ho
      split at ho
      · exact xjif_sound hx hb hd ho K
      · cases ho
    · cases ho
  | if_icmp cd off =>
    simp only [xjmp] at ho
    split at ho
    · rename_i hl
      subst hl
      unfold xjcmp at ho
      split at ho
      · exact xjcmp_sound hx hb hd ho K
      · cases ho
    · cases ho
  | ifnull off =>
    simp only [xjmp] at ho
    split at ho
    · rename_i hl
      subst hl
      unfold xjnull at ho
      split at ho
      · obtain ⟨t, ht, ⟨h1, h2⟩ | ⟨h1, h2⟩⟩ := xjc_inv ho
        · cases h2
          intro H locs ls hP hS hL
          exact lv_ifnullN hx hb hd ht (K H locs ls hP hS hL)
        · cases h1
      · obtain ⟨t, ht, ⟨h1, h2⟩ | ⟨h1, h2⟩⟩ := xjc_inv ho
        · cases h1
        · cases h2
          intro H locs ls hP hS hL
          exact lv_ifnull hx hb hd (K H locs ls hP hS hL)
      · cases ho
    · cases ho
  | ifnonnull off =>
    simp only [xjmp] at ho
    split at ho
    · rename_i hl
      subst hl
      unfold xjnull at ho
      split at ho
      · obtain ⟨t, ht, ⟨h1, h2⟩ | ⟨h1, h2⟩⟩ := xjc_inv ho
        · cases h1
        · cases h2
          intro H locs ls hP hS hL
          exact lv_ifnonnullN hx hb hd (K H locs ls hP hS hL)
      · obtain ⟨t, ht, ⟨h1, h2⟩ | ⟨h1, h2⟩⟩ := xjc_inv ho
        · cases h2
          intro H locs ls hP hS hL
          exact lv_ifnonnull hx hb hd ht (K H locs ls hP hS hL)
        · cases h1
      · cases ho
    · cases ho
  | if_acmp cd off =>
    simp only [xjmp] at ho
    split at ho
    · rename_i hl
      subst hl
      unfold xjacmp at ho
      split at ho
      · rename_i y x r
        split at ho
        · rename_i rx ry hrx hry
          obtain ⟨t, ht, hc⟩ := xjc_inv ho
          intro H locs ls hP hS hL
          have K := K H locs ls hP hS hL
          rw [xrf_inv hrx, xrf_inv hry]
          show W _ _ _ _ _ _ _ _ _ _ _ _ _ _ _ (F0 m pc ls (xemb _ (va_rf ry) :: xemb _ (va_rf rx) :: List.map _ r))
          rw [xemb_rf, xemb_rf]
          cases cd
          · refine lv_acmp_eq hx hb hd ht (fun q => ?_) (fun q => ?_)
            · have q := xad_injO hsb q
              rcases hc with ⟨h1, h2⟩ | ⟨h1, h2⟩
              · cases h2; exact K
              · simp [q] at h1
            · have q : ¬ rx = ry := fun z => q (by rw [z])
              rcases hc with ⟨h1, h2⟩ | ⟨h1, h2⟩
              · simp [q] at h1
              · cases h2; exact K
          · refine lv_acmp_ne hx hb hd ht (fun q => ?_) (fun q => ?_)
            · have q : ¬ rx = ry := fun z => q (by rw [z])
              rcases hc with ⟨h1, h2⟩ | ⟨h1, h2⟩
              · cases h2; exact K
              · simp [q] at h1
            · have q := xad_injO hsb q
              rcases hc with ⟨h1, h2⟩ | ⟨h1, h2⟩
              · simp [q] at h1
              · cases h2; exact K
        · cases ho
      · cases ho
    · cases ho
  | tableswitch d lo hi offs =>
    simp only [xjmp] at ho
    unfold xjtab at ho
    split at ho
    · split at ho
      · rename_i hq
        obtain ⟨h1, h2⟩ := xmap_inv ho
        cases h2
        intro H locs ls hP hS hL
        exact lv_tableOut hx hb hd hq (xtg_inv h1) (K H locs ls hP hS hL)
      · rename_i hq
        split at ho
        · rename_i off hoff
          obtain ⟨h1, h2⟩ := xmap_inv ho
          cases h2
          intro H locs ls hP hS hL
          exact lv_tableIn hx hb hd (fun z => hq (Or.inl z)) (fun z => hq (Or.inr z)) hoff (xtg_inv h1) (K H locs ls hP hS hL)
        · cases ho
    · cases ho
  | lookupswitch d ps =>
    simp only [xjmp] at ho
    unfold xjlook at ho
    split at ho
    · split at ho
      · rename_i hq
        obtain ⟨h1, h2⟩ := xmap_inv ho
        cases h2
        intro H locs ls hP hS hL
        exact lv_lookup hx hb hd hq rfl (xtg_inv h1) (K H locs ls hP hS hL)
      · cases ho
    · cases ho
  | _ => cases ho
end XJ
