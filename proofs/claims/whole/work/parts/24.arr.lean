/-! Arrays, new cells, constants. -/
theorem xu_upd {f : Nat → Nat → Int32} {a i : Nat} {x : Int32} : xu f a i x a = upd (f a) i x := by
  funext y
  rw [xu_at]
  rfl
theorem xu_updL {f : Nat → Nat → Int64} {a i : Nat} {x : Int64} : xu f a i x a = vp_updL (f a) i x := by
  funext y
  rw [xu_at]
  rfl
theorem xwid_emb (ad : Nat → Nat) (r : List Value) : ((r.map (xemb ad)).map fun v => v.category).sum = xwid r := by
  unfold xwid
  rw [List.map_map]
  congr 1
  apply List.map_congr_left
  intro v _
  exact xemb_cat ad v
theorem xsetI {ad : Nat → Nat} {ca : Nat → ClassId} {b scr a i : Nat} {h : XH} {x : Int32} {e : va_E} (ht : (xkd h a).1 ≠ 999) (he : xcl0 ad ca (xkd h a) (xu (xhI h) a i x a) (xhJ h a) (xhR h a) = e) : (xw ad ca b h).set (a - 1) (xad b scr a, e) = xw ad ca b (xsI h (xu (xhI h) a i x)) := by
  obtain ⟨h1, h2, h3⟩ := xkd_in ht
  refine xw_set (h := h) (h' := xsI h (xu (xhI h) a i x)) rfl h1 h2 (fun y hy => ?_) ?_
  · show xcl0 ad ca (xhk h y) (xu (xhI h) a i x y) (xhJ h y) (xhR h y) = xcl0 ad ca (xhk h y) (xhI h y) (xhJ h y) (xhR h y)
    rw [xu_ne hy]
  · show xcl0 ad ca (xhk h a) (xu (xhI h) a i x a) (xhJ h a) (xhR h a) = e
    rw [h3]
    exact he
theorem xsetJ {ad : Nat → Nat} {ca : Nat → ClassId} {b scr a i : Nat} {h : XH} {x : Int64} {e : va_E} (ht : (xkd h a).1 ≠ 999) (he : xcl0 ad ca (xkd h a) (xhI h a) (xu (xhJ h) a i x a) (xhR h a) = e) : (xw ad ca b h).set (a - 1) (xad b scr a, e) = xw ad ca b (xsJ h (xu (xhJ h) a i x)) := by
  obtain ⟨h1, h2, h3⟩ := xkd_in ht
  refine xw_set (h := h) (h' := xsJ h (xu (xhJ h) a i x)) rfl h1 h2 (fun y hy => ?_) ?_
  · show xcl0 ad ca (xhk h y) (xhI h y) (xu (xhJ h) a i x y) (xhR h y) = xcl0 ad ca (xhk h y) (xhI h y) (xhJ h y) (xhR h y)
    rw [xu_ne hy]
  · show xcl0 ad ca (xhk h a) (xhI h a) (xu (xhJ h) a i x a) (xhR h a) = e
    rw [h3]
    exact he
theorem xsetR {ad : Nat → Nat} {ca : Nat → ClassId} {b scr a i : Nat} {h : XH} {x : Option Nat} {e : va_E} (ht : (xkd h a).1 ≠ 999) (he : xcl0 ad ca (xkd h a) (xhI h a) (xhJ h a) (xu (xhR h) a i x a) = e) : (xw ad ca b h).set (a - 1) (xad b scr a, e) = xw ad ca b (xsR h (xu (xhR h) a i x)) := by
  obtain ⟨h1, h2, h3⟩ := xkd_in ht
  refine xw_set (h := h) (h' := xsR h (xu (xhR h) a i x)) rfl h1 h2 (fun y hy => ?_) ?_
  · show xcl0 ad ca (xhk h y) (xhI h y) (xhJ h y) (xu (xhR h) a i x y) = xcl0 ad ca (xhk h y) (xhI h y) (xhJ h y) (xhR h y)
    rw [xu_ne hy]
  · show xcl0 ad ca (xhk h a) (xhI h a) (xhJ h a) (xu (xhR h) a i x a) = e
    rw [h3]
    exact he
theorem xrowI {ad : Nat → Nat} {ca : Nat → ClassId} {b scr a : Nat} {h : XH} {g : Nat → Int32} {e : va_E} (ht : (xkd h a).1 ≠ 999) (he : xcl0 ad ca (xkd h a) g (xhJ h a) (xhR h a) = e) : (xw ad ca b h).set (a - 1) (xad b scr a, e) = xw ad ca b (xsI h (xrow (xhI h) a g)) := by
  obtain ⟨h1, h2, h3⟩ := xkd_in ht
  refine xw_set (h := h) (h' := xsI h (xrow (xhI h) a g)) rfl h1 h2 (fun y hy => ?_) ?_
  · show xcl0 ad ca (xhk h y) (xrow (xhI h) a g y) (xhJ h y) (xhR h y) = xcl0 ad ca (xhk h y) (xhI h y) (xhJ h y) (xhR h y)
    rw [xrow_ne hy]
  · show xcl0 ad ca (xhk h a) (xrow (xhI h) a g a) (xhJ h a) (xhR h a) = e
    rw [h3, xrow_at]
    exact he
theorem xrowJ {ad : Nat → Nat} {ca : Nat → ClassId} {b scr a : Nat} {h : XH} {g : Nat → Int64} {e : va_E} (ht : (xkd h a).1 ≠ 999) (he : xcl0 ad ca (xkd h a) (xhI h a) g (xhR h a) = e) : (xw ad ca b h).set (a - 1) (xad b scr a, e) = xw ad ca b (xsJ h (xrow (xhJ h) a g)) := by
  obtain ⟨h1, h2, h3⟩ := xkd_in ht
  refine xw_set (h := h) (h' := xsJ h (xrow (xhJ h) a g)) rfl h1 h2 (fun y hy => ?_) ?_
  · show xcl0 ad ca (xhk h y) (xhI h y) (xrow (xhJ h) a g y) (xhR h y) = xcl0 ad ca (xhk h y) (xhI h y) (xhJ h y) (xhR h y)
    rw [xrow_ne hy]
  · show xcl0 ad ca (xhk h a) (xhI h a) (xrow (xhJ h) a g a) (xhR h a) = e
    rw [h3, xrow_at]
    exact he
theorem xw_xnew {ad : Nat → Nat} {ca : Nat → ClassId} {b t n : Nat} {h : XH} (h1 : 1 ≤ xhz h) : xw ad ca b (xnew h t n) = xw ad ca b h ++ [(b + (xhz h - 1), xcl0 ad ca (t, n) (fun _ => 0) (fun _ => 0) (fun _ => none))] := by
  have hold : ∀ x, x < xhz h → xcell ad ca (xnew h t n) x = xcell ad ca h x := by
    intro x hx
    have hne : x ≠ xhz h := by omega
    show xcl0 ad ca (if x = xhz h then (t, n) else xhk h x) (xrow (xhI h) (xhz h) (fun _ => 0) x) (xrow (xhJ h) (xhz h) (fun _ => 0) x) (xrow (xhR h) (xhz h) (fun _ => none) x) = xcl0 ad ca (xhk h x) (xhI h x) (xhJ h x) (xhR h x)
    rw [if_neg hne, xrow_ne hne, xrow_ne hne, xrow_ne hne]
  have hnew : xcell ad ca (xnew h t n) (xhz h) = xcl0 ad ca (t, n) (fun _ => 0) (fun _ => 0) (fun _ => none) := by
    show xcl0 ad ca (if xhz h = xhz h then (t, n) else xhk h (xhz h)) (xrow (xhI h) (xhz h) (fun _ => 0) (xhz h)) (xrow (xhJ h) (xhz h) (fun _ => 0) (xhz h)) (xrow (xhR h) (xhz h) (fun _ => none) (xhz h)) = _
    rw [if_pos rfl, xrow_at, xrow_at, xrow_at]
  unfold xw
  rw [show xhz (xnew h t n) - 1 = (xhz h - 1) + 1 from by show xhz h + 1 - 1 = _; omega, List.range_succ, List.map_append]
  congr 1
  · apply List.map_congr_left
    intro x hx
    rw [hold (x + 1) (by have := List.mem_range.mp hx; omega)]
  · rw [List.map_singleton, Nat.sub_add_cancel h1, hnew]
theorem xw_push {D : va_G} {ad : Nat → Nat} {ca : Nat → ClassId} {b q : Nat} {h : XH} {e : va_E} {H1 : Heap} (h1 : 1 ≤ xhz h) (hP : va_P D xcls (xw ad ca b h ++ [(q, e)]) H1) (hD : va_D (fun q => b ≤ q) (xw ad ca b h ++ [(q, e)])) (hz : H1.size ≤ b + xhz h) : q = b + (xhz h - 1) := by
  have hl : (xw ad ca b h).length = xhz h - 1 := by simp [xw]
  have hlast : (xw ad ca b h ++ [(q, e)])[xhz h - 1]? = some (q, e) := by
    rw [List.getElem?_append_right (by omega), hl, Nat.sub_self]
    rfl
  have hlt : q < H1.size := (hP _ _ hlast).lt
  have hge : b ≤ q := hD.2 _ _ hlast
  by_cases hc : q - b < xhz h - 1
  · exfalso
    have hi : (xw ad ca b h ++ [(q, e)])[q - b]? = some (b + (q - b), xcell ad ca h (q - b + 1)) := by
      rw [List.getElem?_append_left (by omega)]
      unfold xw
      rw [List.getElem?_map, List.getElem?_range hc]
      rfl
    have := hD.1 _ _ _ _ hi hlast (by show b + (q - b) = q; omega)
    omega
  · omega
theorem W.sized {p : Program} {l : Launch} {e : Env} {R : Room} {s : State} {m : MethodId} {args : Array Value} {below : List Frame} {meth : Method} {c : Code} {H : Heap} {locs : List Loc} {cells slots : Nat} {Q : State → Prop} {g : JFrame} (k : H.size ≤ s.heap.size + cells → W p l e R s m args below meth c H locs cells slots Q g) : W p l e R s m args below meth c H locs cells slots Q g := fun T hT X => k (by rw [← hT]; exact X.heapSize) T hT X
def xoty : FieldType → Bool
  | .int => true
  | .long => true
  | .boolean => true
  | .object _ => true
  | .array _ => true
  | _ => false
set_option maxRecDepth 100000 in
theorem xs_oty : (List.range 10).all (fun ci => (List.range (xnf ci)).all (fun j => xoty (xft ci j))) = true := by decide +kernel
theorem xoty_def {ty : FieldType} (h : xoty ty = true) (ad : Nat → Nat) (j : Nat) : defaultValue ty = xemb ad (xfv ty (fun _ => 0) (fun _ => 0) (fun _ => none) j) := by
  cases ty <;> first | rfl | cases h
section XAR
variable {p : Program} {l : Launch} {e : Env} {R : Room} {s : State} {m : MethodId} {args : Array Value} {below : List Frame} {meth : Method} {c : Code} {Q : State → Prop} {D : va_G} {ca : Nat → ClassId} {b scr z0 s0 k pc pc' len : Nat} {L L' : XL} {st st' r : List Value} {h h' : XH} {i : Instr} {S : XS}
theorem xloads_sound (hx : p.tables.exec = Jvm.exec) (hb : c.code = xcode k) (hK : va_K D xcls (xtys ca) s) (hX : va_X scr S.1 S.2 s s.heap) (hsb : scr < b) (hbs : b ≤ s.heap.size) :
    (decode (xcode k) pc = .ok (.iaload, 1) → xiald S h st = some (st', h') → XW (p, l, e, R, s, m, args, below, meth, c, Q, D, ca, b, scr, z0, s0) k (pc + 1) L st' h' → XW (p, l, e, R, s, m, args, below, meth, c, Q, D, ca, b, scr, z0, s0) k pc L st h) ∧
    (decode (xcode k) pc = .ok (.laload, 1) → xjald h st = some (st', h') → XW (p, l, e, R, s, m, args, below, meth, c, Q, D, ca, b, scr, z0, s0) k (pc + 1) L st' h' → XW (p, l, e, R, s, m, args, below, meth, c, Q, D, ca, b, scr, z0, s0) k pc L st h) ∧
    (decode (xcode k) pc = .ok (.baload, 1) → xzald h st = some (st', h') → XW (p, l, e, R, s, m, args, below, meth, c, Q, D, ca, b, scr, z0, s0) k (pc + 1) L st' h' → XW (p, l, e, R, s, m, args, below, meth, c, Q, D, ca, b, scr, z0, s0) k pc L st h) ∧
    (decode (xcode k) pc = .ok (.aaload, 1) → xaald h st = some (st', h') → XW (p, l, e, R, s, m, args, below, meth, c, Q, D, ca, b, scr, z0, s0) k (pc + 1) L st' h' → XW (p, l, e, R, s, m, args, below, meth, c, Q, D, ca, b, scr, z0, s0) k pc L st h) ∧
    (decode (xcode k) pc = .ok (.arraylength, 1) → xalen S h st = some (st', h') → XW (p, l, e, R, s, m, args, below, meth, c, Q, D, ca, b, scr, z0, s0) k (pc + 1) L st' h' → XW (p, l, e, R, s, m, args, below, meth, c, Q, D, ca, b, scr, z0, s0) k pc L st h) := by
  refine ⟨fun hd ho K => ?_, fun hd ho K => ?_, fun hd ho K => ?_, fun hd ho K => ?_, fun hd ho K => ?_⟩
  · unfold xiald at ho
    split at ho
    · split at ho
      · rename_i i a r ha
        subst ha
        split at ho
        · rename_i hi
          cases ho
          intro H locs ls hP hS hL
          exact va_sld hx hb hX (by omega) (by omega) hS (xinb_in hi) hd (K H locs ls hP hS hL)
        · cases ho
      · split at ho
        · rename_i hc
          cases ho
          intro H locs ls hP hS hL
          refine va_iald hx hb hK hP _ 0 ((xw_arr (scr := scr) (by rw [hc.1]; decide)).trans (by rw [xc_int hc.1])) rfl (xinb_in hc.2) hd (K H locs ls hP hS hL)
        · cases ho
    · cases ho
  · unfold xjald at ho
    split at ho
    · split at ho
      · rename_i hc
        cases ho
        intro H locs ls hP hS hL
        refine va_lald hx hb hK hP _ 1 ((xw_arr (scr := scr) (by rw [hc.1]; decide)).trans (by rw [xc_long hc.1])) rfl (xinb_in hc.2) hd (K H locs ls hP hS hL)
      · cases ho
    · cases ho
  · unfold xzald at ho
    split at ho
    · split at ho
      · rename_i hc
        cases ho
        intro H locs ls hP hS hL
        refine va_zald hx hb hK hP _ 2 ((xw_arr (scr := scr) (by rw [hc.1]; decide)).trans (by rw [xc_bool hc.1])) rfl (xinb_in hc.2) hd (K H locs ls hP hS hL)
      · cases ho
    · cases ho
  · unfold xaald at ho
    split at ho
    · split at ho
      · rename_i i a r hc
        cases ho
        obtain ⟨q, hq, hq2⟩ : ∃ q, (xkd h a).1 = 103 + q ∧ q < 2 := ⟨(xkd h a).1 - 103, by omega, by have := hc.2.1; unfold xnq at this; omega⟩
        intro H locs ls hP hS hL
        have K := K H locs ls hP hS hL
        rw [List.map_cons, xemb_rf] at K
        have ha := (xw_arr (scr := scr) (ad := xad b scr) (ca := ca) (b := b) (h := h) (a := a) (by omega)).trans (by rw [xc_ref hq])
        rcases (show q = 0 ∨ q = 1 by omega) with rfl | rfl
        · exact va_aldq hx hb hK hP _ 3 ha rfl (xinb_in hc.2.2) hd K
        · exact va_aldq hx hb hK hP _ 4 ha rfl (xinb_in hc.2.2) hd K
      · cases ho
    · cases ho
  · unfold xalen at ho
    split at ho
    · split at ho
      · rename_i a r ha
        subst ha
        cases ho
        intro H locs ls hP hS hL
        exact va_slen (b := scr) hx hb hX (by omega) (by omega) hS hd (K H locs ls hP hS hL)
      · split at ho
        · rename_i a r _ hc
          cases ho
          intro H locs ls hP hS hL
          have K := K H locs ls hP hS hL
          have ht : (xkd h a).1 ≠ 999 := by have := hc.2; unfold xnq at this; omega
          have ha := xw_arr (scr := scr) (ad := xad b scr) (ca := ca) (b := b) (h := h) (a := a) ht
          have hc2 : (xkd h a).1 < 105 := by have := hc.2; unfold xnq at this; omega
          rcases (show (xkd h a).1 = 100 ∨ (xkd h a).1 = 101 ∨ (xkd h a).1 = 102 ∨ (xkd h a).1 = 103 + 0 ∨ (xkd h a).1 = 103 + 1 by omega) with q | q | q | q | q
          · exact va_alen (cA := ca 0) (x := ((xkd h a).2, .inl (xhI h a))) hx hb hK hP _ 0 (ha.trans (by rw [xc_int q])) rfl rfl hd K
          · exact va_alen (cA := ca 1) (x := ((xkd h a).2, .inr (.inl (xhJ h a)))) hx hb hK hP _ 1 (ha.trans (by rw [xc_long q])) rfl rfl hd K
          · exact va_alen (cA := ca 2) (x := ((xkd h a).2, .inl (xhI h a))) hx hb hK hP _ 2 (ha.trans (by rw [xc_bool q])) rfl rfl hd K
          · exact va_alen (cA := ca 3) (x := ((xkd h a).2, .inr (.inr (.inr (.inr (fun i => (xhR h a i).map (xad b scr))))))) hx hb hK hP _ 3 (ha.trans (by rw [xc_ref q])) rfl rfl hd K
          · exact va_alen (cA := ca 4) (x := ((xkd h a).2, .inr (.inr (.inr (.inr (fun i => (xhR h a i).map (xad b scr))))))) hx hb hK hP _ 4 (ha.trans (by rw [xc_ref q])) rfl rfl hd K
        · cases ho
    · cases ho
theorem xstores_sound (hx : p.tables.exec = Jvm.exec) (hb : c.code = xcode k) (hK : va_K D xcls (xtys ca) s) :
    (decode (xcode k) pc = .ok (.iastore, 1) → xiast h st = some (st', h') → XW (p, l, e, R, s, m, args, below, meth, c, Q, D, ca, b, scr, z0, s0) k (pc + 1) L st' h' → XW (p, l, e, R, s, m, args, below, meth, c, Q, D, ca, b, scr, z0, s0) k pc L st h) ∧
    (decode (xcode k) pc = .ok (.lastore, 1) → xjast h st = some (st', h') → XW (p, l, e, R, s, m, args, below, meth, c, Q, D, ca, b, scr, z0, s0) k (pc + 1) L st' h' → XW (p, l, e, R, s, m, args, below, meth, c, Q, D, ca, b, scr, z0, s0) k pc L st h) ∧
    (decode (xcode k) pc = .ok (.bastore, 1) → xzast h st = some (st', h') → XW (p, l, e, R, s, m, args, below, meth, c, Q, D, ca, b, scr, z0, s0) k (pc + 1) L st' h' → XW (p, l, e, R, s, m, args, below, meth, c, Q, D, ca, b, scr, z0, s0) k pc L st h) ∧
    (decode (xcode k) pc = .ok (.aastore, 1) → xaast h st = some (st', h') → XW (p, l, e, R, s, m, args, below, meth, c, Q, D, ca, b, scr, z0, s0) k (pc + 1) L st' h' → XW (p, l, e, R, s, m, args, below, meth, c, Q, D, ca, b, scr, z0, s0) k pc L st h) := by
  refine ⟨fun hd ho K => ?_, fun hd ho K => ?_, fun hd ho K => ?_, fun hd ho K => ?_⟩
  · unfold xiast at ho
    split at ho
    · split at ho
      · rename_i x i a r hc
        cases ho
        intro H locs ls hP hS hL
        have ht : (xkd h a).1 ≠ 999 := by rw [hc.1]; decide
        refine va_iast hx hb hK hP (xw_D _ _ _ _) hS _ 0 ((xw_arr (scr := scr) ht).trans (by rw [xc_int hc.1])) rfl (xinb_in hc.2) hd (fun H1 locs1 hP1 _ hS1 => ?_)
        rw [xsetI (i := i.toNatClampNeg) (x := x) ht (by rw [xc_int hc.1, xu_upd])] at hP1
        exact K H1 locs1 ls hP1 hS1 hL
      · cases ho
    · cases ho
  · unfold xjast at ho
    split at ho
    · split at ho
      · rename_i x i a r hc
        cases ho
        intro H locs ls hP hS hL
        have ht : (xkd h a).1 ≠ 999 := by rw [hc.1]; decide
        refine va_last hx hb hK hP (xw_D _ _ _ _) hS _ 1 ((xw_arr (scr := scr) ht).trans (by rw [xc_long hc.1])) rfl (xinb_in hc.2) hd (fun H1 locs1 hP1 _ hS1 => ?_)
        rw [xsetJ (i := i.toNatClampNeg) (x := x) ht (by rw [xc_long hc.1, xu_updL])] at hP1
        exact K H1 locs1 ls hP1 hS1 hL
      · cases ho
    · cases ho
  · unfold xzast at ho
    split at ho
    · split at ho
      · rename_i x i a r hc
        cases ho
        intro H locs ls hP hS hL
        have ht : (xkd h a).1 ≠ 999 := by rw [hc.1]; decide
        have hn : vp_nar .boolean x = x := by rcases hc.2.2 with rfl | rfl <;> decide
        refine va_zast hx hb hK hP (xw_D _ _ _ _) hS _ 2 ((xw_arr (scr := scr) ht).trans (by rw [xc_bool hc.1])) rfl (xinb_in hc.2.1) hd (fun H1 locs1 hP1 _ hS1 => ?_)
        rw [hn, xsetI (i := i.toNatClampNeg) (x := x) ht (by rw [xc_bool hc.1, xu_upd])] at hP1
        exact K H1 locs1 ls hP1 hS1 hL
      · cases ho
    · cases ho
  · unfold xaast at ho
    split at ho
    · split at ho
      · rename_i v i a r hc
        cases ho
        obtain ⟨q, hq, hq2⟩ : ∃ q, (xkd h a).1 = 103 + q ∧ q < 2 := ⟨(xkd h a).1 - 103, by omega, by have := hc.2.1; unfold xnq at this; omega⟩
        have hvk := hc.2.2.2
        rw [show (xkd h a).1 - 103 = q by omega] at hvk
        intro H locs ls hP hS hL
        have ht : (xkd h a).1 ≠ 999 := by omega
        have ha := (xw_arr (scr := scr) (ad := xad b scr) (ca := ca) (b := b) (h := h) (a := a) ht).trans (by rw [xc_ref hq])
        have hfin : ∀ (H1 : Heap) (locs1 : List Loc), va_P D xcls ((xw (xad b scr) ca b h).set (a - 1) (xad b scr a, .inl (ca (3 + q), (xkd h a).2, .inr (.inr (.inr (.inr (va_up (fun i => (xhR h a i).map (xad b scr)) i.toNatClampNeg (some (xad b scr v))))))))) H1 → va_D (fun q => b ≤ q) ((xw (xad b scr) ca b h).set (a - 1) (xad b scr a, .inl (ca (3 + q), (xkd h a).2, .inr (.inr (.inr (.inr (va_up (fun i => (xhR h a i).map (xad b scr)) i.toNatClampNeg (some (xad b scr v))))))))) → va_S (fun q => b ≤ q) s.heap H1 locs1 → W p l e R s m args below meth c H1 locs1 (xhz h - z0) (xhs h - s0) Q (F0 m (pc + 1) ls (st'.map (xemb (xad b scr)))) := by
          intro H1 locs1 hP1 _ hS1
          rw [xsetR (i := i.toNatClampNeg) (x := some v) ht (by
            rw [xc_ref hq]
            congr 7
            funext y
            rw [xu_at]
            unfold va_up
            by_cases hy : y = i.toNatClampNeg
            · rw [if_pos hy, if_pos hy]; rfl
            · rw [if_neg hy, if_neg hy])] at hP1
          exact K H1 locs1 ls hP1 hS1 hL
        rcases (show q = 0 ∨ q = 1 by omega) with rfl | rfl
        · exact va_astq (r := (xcn 1, xTT 1, xnf 1)) hx hb hK hP (xw_D _ _ _ _) hS _ 3 _ 1 ha rfl (xw_obj (scr := scr) hvk (by decide)) (xcls_at (by decide)) (xinb_in hc.2.2.1) hd hfin
        · exact va_astq (r := (xcn 3, xTT 3, xnf 3)) hx hb hK hP (xw_D _ _ _ _) hS _ 4 _ 3 ha rfl (xw_obj (scr := scr) hvk (by decide)) (xcls_at (by decide)) (xinb_in hc.2.2.1) hd hfin
      · cases ho
    · split at ho
      · rename_i i a r hc
        cases ho
        obtain ⟨q, hq, hq2⟩ : ∃ q, (xkd h a).1 = 103 + q ∧ q < 2 := ⟨(xkd h a).1 - 103, by omega, by have := hc.2.1; unfold xnq at this; omega⟩
        intro H locs ls hP hS hL
        have ht : (xkd h a).1 ≠ 999 := by omega
        have ha := (xw_arr (scr := scr) (ad := xad b scr) (ca := ca) (b := b) (h := h) (a := a) ht).trans (by rw [xc_ref hq])
        have hfin : ∀ (H1 : Heap) (locs1 : List Loc), va_P D xcls ((xw (xad b scr) ca b h).set (a - 1) (xad b scr a, .inl (ca (3 + q), (xkd h a).2, .inr (.inr (.inr (.inr (va_up (fun i => (xhR h a i).map (xad b scr)) i.toNatClampNeg none))))))) H1 → va_D (fun q => b ≤ q) ((xw (xad b scr) ca b h).set (a - 1) (xad b scr a, .inl (ca (3 + q), (xkd h a).2, .inr (.inr (.inr (.inr (va_up (fun i => (xhR h a i).map (xad b scr)) i.toNatClampNeg none))))))) → va_S (fun q => b ≤ q) s.heap H1 locs1 → W p l e R s m args below meth c H1 locs1 (xhz h - z0) (xhs h - s0) Q (F0 m (pc + 1) ls (st'.map (xemb (xad b scr)))) := by
          intro H1 locs1 hP1 _ hS1
          rw [xsetR (i := i.toNatClampNeg) (x := none) ht (by
            rw [xc_ref hq]
            congr 7
            funext y
            rw [xu_at]
            unfold va_up
            by_cases hy : y = i.toNatClampNeg
            · rw [if_pos hy, if_pos hy]; rfl
            · rw [if_neg hy, if_neg hy])] at hP1
          exact K H1 locs1 ls hP1 hS1 hL
        rcases (show q = 0 ∨ q = 1 by omega) with rfl | rfl
        · exact va_astqN hx hb hK hP (xw_D _ _ _ _) hS _ 3 ha rfl (xinb_in hc.2.2) hd hfin
        · exact va_astqN hx hb hK hP (xw_D _ _ _ _) hS _ 4 ha rfl (xinb_in hc.2.2) hd hfin
      · cases ho
    · cases ho
end XAR
