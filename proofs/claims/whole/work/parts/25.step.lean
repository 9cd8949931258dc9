/-! One step of the small machine is sound. -/
def XCx (S : XS) (p : Program) (s : State) (m : MethodId) (args : Array Value) (meth : Method) (c : Code) (D : va_G) (ca : Nat → ClassId) (b scr z0 k : Nat) : Prop :=
  p.tables.exec = Jvm.exec ∧ c.code = xcode k ∧ c.maxLocals = xml k ∧ s.vm.findClass (xcn (xkc k)) = some m.cls ∧ (∀ w ∈ xgood, w.before args s = true) ∧ (∀ w ∈ xnest, va_Nw w s) ∧ va_AO (xcn 1) s ∧ va_AO (xcn 3) s ∧ va_K D xcls (xtys ca) s ∧ va_X scr S.1 S.2 s s.heap ∧ scr < b ∧ 1 ≤ z0 ∧ s.heap.size = b + (z0 - 1) ∧ ((xyn k).name = "<init>" → meth.name = "<init>") ∧ meth.sig.returnType = xrty k ∧ meth.locks = false
theorem xmem_grow {S : XS} {k : Nat} {i : Instr} {st st' : List Value} {h h' : XH} (ho : xmem S k i st h = some (st', h')) : xhz h ≤ xhz h' ∧ xhs h ≤ xhs h' := by
  have same : ∀ {q : List Value × XH}, some q = some (st', h') → xhz q.2 = xhz h → xhs q.2 = xhs h → xhz h ≤ xhz h' ∧ xhs h ≤ xhs h' := by
    intro q e a b
    cases e
    exact ⟨Nat.le_of_eq a.symm, Nat.le_of_eq b.symm⟩
  cases i with
  | getfield idx =>
    simp only [xmem] at ho
    unfold xgetf at ho
    split at ho
    · split at ho
      · split at ho
        · exact same ho rfl rfl
        · cases ho
      · cases ho
    · cases ho
  | putfield idx =>
    simp only [xmem] at ho
    unfold xputf at ho
    split at ho
    · split at ho
      · split at ho
        · rename_i v a r _ ci j _ _
          cases hfp : xfp (xft ci j) h a j v with
          | none => rw [hfp] at ho; cases ho
          | some h2 =>
            rw [hfp] at ho
            obtain ⟨f1, f2, -⟩ := xfp_spec hfp
            exact same ho f1 f2
        · cases ho
      · cases ho
    · cases ho
  | iaload =>
    simp only [xmem] at ho
    unfold xiald at ho
    split at ho
    · split at ho
      · split at ho
        · exact same ho rfl rfl
        · cases ho
      · split at ho
        · exact same ho rfl rfl
        · cases ho
    · cases ho
  | laload =>
    simp only [xmem] at ho
    unfold xjald at ho
    split at ho
    · split at ho
      · exact same ho rfl rfl
      · cases ho
    · cases ho
  | baload =>
    simp only [xmem] at ho
    unfold xzald at ho
    split at ho
    · split at ho
      · exact same ho rfl rfl
      · cases ho
    · cases ho
  | aaload =>
    simp only [xmem] at ho
    unfold xaald at ho
    split at ho
    · split at ho
      · exact same ho rfl rfl
      · cases ho
    · cases ho
  | iastore =>
    simp only [xmem] at ho
    unfold xiast at ho
    split at ho
    · split at ho
      · exact same ho rfl rfl
      · cases ho
    · cases ho
  | lastore =>
    simp only [xmem] at ho
    unfold xjast at ho
    split at ho
    · split at ho
      · exact same ho rfl rfl
      · cases ho
    · cases ho
  | bastore =>
    simp only [xmem] at ho
    unfold xzast at ho
    split at ho
    · split at ho
      · exact same ho rfl rfl
      · cases ho
    · cases ho
  | aastore =>
    simp only [xmem] at ho
    unfold xaast at ho
    split at ho
    · split at ho
      · exact same ho rfl rfl
      · cases ho
    · split at ho
      · exact same ho rfl rfl
      · cases ho
    · cases ho
  | arraylength =>
    simp only [xmem] at ho
    unfold xalen at ho
    split at ho
    · split at ho
      · exact same ho rfl rfl
      · split at ho
        · exact same ho rfl rfl
        · cases ho
    · cases ho
  | newarray t =>
    have key : ∀ t, xnwa t h st = some (st', h') → xhz h ≤ xhz h' ∧ xhs h ≤ xhs h' := by
      intro t ho
      unfold xnwa at ho
      split at ho
      · split at ho
        · cases ho
          exact ⟨Nat.le_succ _, Nat.le_add_right _ _⟩
        · cases ho
      · cases ho
    cases t <;> first | exact key _ ho | cases ho
  | anewarray idx =>
    simp only [xmem] at ho
    cases hq : xanw (xkc k) idx with
    | none => rw [hq] at ho; cases ho
    | some t =>
      rw [hq] at ho
      simp only [Option.bind_some] at ho
      unfold xnwa at ho
      split at ho
      · split at ho
        · cases ho
          exact ⟨Nat.le_succ _, Nat.le_add_right _ _⟩
        · cases ho
      · cases ho
  | new idx =>
    simp only [xmem] at ho
    cases hq : xnwc (xkc k) idx with
    | none => rw [hq] at ho; cases ho
    | some t =>
      rw [hq] at ho
      cases ho
      exact ⟨Nat.le_succ _, Nat.le_add_right _ _⟩
  | ldc idx =>
    simp only [xmem, xldc] at ho
    cases hq : xcst (xkc k) idx with
    | none => rw [hq] at ho; cases ho
    | some v => rw [hq] at ho; cases v <;> first | exact same ho rfl rfl | cases ho
  | ldc_w idx =>
    simp only [xmem, xldc] at ho
    cases hq : xcst (xkc k) idx with
    | none => rw [hq] at ho; cases ho
    | some v => rw [hq] at ho; cases v <;> first | exact same ho rfl rfl | cases ho
  | ldc2_w idx =>
    simp only [xmem, xldc2] at ho
    cases hq : xcst (xkc k) idx with
    | none => rw [hq] at ho; cases ho
    | some v => rw [hq] at ho; cases v <;> first | exact same ho rfl rfl | cases ho
  | _ => cases ho
theorem xcpy_inv {h h' : XH} {st st' : List Value} (ho : xcpy h st = some (st', h')) : ∃ n dp a sp a0, st = .int n :: .int dp :: .ref a :: .int sp :: .ref a0 :: st' ∧ xwid st' ≤ 8 ∧ ¬ sp < 0 ∧ ¬ dp < 0 ∧ ¬ n < 0 ∧ sp.toNatClampNeg + n.toNatClampNeg ≤ (xkd h a0).2 ∧ dp.toNatClampNeg + n.toNatClampNeg ≤ (xkd h a).2 ∧
    (((xkd h a0).1 = 100 ∧ (xkd h a).1 = 100 ∧ h' = xsI h (xrow (xhI h) a (va_cpy (xhI h a0) (xhI h a) sp.toNatClampNeg dp.toNatClampNeg n.toNatClampNeg))) ∨
     ((xkd h a0).1 = 101 ∧ (xkd h a).1 = 101 ∧ h' = xsJ h (xrow (xhJ h) a (va_cpy (xhJ h a0) (xhJ h a) sp.toNatClampNeg dp.toNatClampNeg n.toNatClampNeg)))) := by
  unfold xcpy at ho
  split at ho
  · split at ho
    · rename_i hc
      obtain ⟨c1, c2, c3, c4, c5, c6⟩ := hc
      split at ho
      · rename_i hq
        cases ho
        exact ⟨_, _, _, _, _, rfl, c1, c2, c3, c4, c5, c6, Or.inl ⟨hq.1, hq.2, rfl⟩⟩
      · split at ho
        · rename_i hq
          cases ho
          exact ⟨_, _, _, _, _, rfl, c1, c2, c3, c4, c5, c6, Or.inr ⟨hq.1, hq.2, rfl⟩⟩
        · cases ho
    · cases ho
  · cases ho
theorem xn0_inv {st st' : List Value} (h : xn0 st = some st') : ∃ a, st = .ref a :: st' ∧ xwid st' ≤ 8 := by
  unfold xn0 at h
  split at h
  · split at h
    · cases h; exact ⟨_, rfl, by assumption⟩
    · cases h
  · cases h
theorem xnatv_inv {d k : Nat} {i : Instr} {st st' : List Value} {h h' : XH} (ho : xnatv d k i st h = some (st', h')) : ¬ d = 0 ∧ ((∃ idx, i = .invokespecial idx ∧ xnat (xkc k) idx = some 0 ∧ h' = h ∧ ∃ a, st = .ref a :: st' ∧ xwid st' ≤ 8) ∨ (∃ idx, i = .invokestatic idx ∧ xnat (xkc k) idx = some 7 ∧ xcpy h st = some (st', h'))) := by
  unfold xnatv at ho
  split at ho
  · cases ho
  · rename_i hd
    refine ⟨hd, ?_⟩
    cases i with
    | invokespecial idx =>
      simp only at ho
      split at ho
      · rename_i hn
        cases hq : xn0 st with
        | none => rw [hq] at ho; cases ho
        | some r =>
          rw [hq] at ho
          cases ho
          exact Or.inl ⟨idx, rfl, hn, rfl, xn0_inv hq⟩
      · cases ho
    | invokestatic idx =>
      simp only at ho
      cases hq : xnat (xkc k) idx with
      | none => rw [hq] at ho; cases ho
      | some t =>
        rw [hq] at ho
        simp only [Option.bind_some, xnatS] at ho
        split at ho
        · rename_i ht
          exact Or.inr ⟨idx, rfl, by rw [hq, ht], ho⟩
        · cases ho
    | _ => cases ho
theorem xnatv_grow {d k : Nat} {i : Instr} {st st' : List Value} {h h' : XH} (ho : xnatv d k i st h = some (st', h')) : xhz h' = xhz h ∧ xhs h' = xhs h := by
  obtain ⟨-, ⟨idx, -, -, rfl, -⟩ | ⟨idx, -, -, hc⟩⟩ := xnatv_inv ho
  · exact ⟨rfl, rfl⟩
  · obtain ⟨n, dp, a, sp, a0, -, -, -, -, -, -, -, ⟨-, -, rfl⟩ | ⟨-, -, rfl⟩⟩ := xcpy_inv hc <;> exact ⟨rfl, rfl⟩
theorem x1_grow {S : XS} {d k len pc pc' : Nat} {i : Instr} {L L' : XL} {st st' : List Value} {h h' : XH} (e : x1 S d k i len pc L st h = some (pc', L', st', h')) : xhz h ≤ xhz h' ∧ xhs h ≤ xhs h' := by
  unfold x1 at e
  split at e
  · cases e; exact ⟨Nat.le_refl _, Nat.le_refl _⟩
  · split at e
    · split at e
      · cases e; exact ⟨Nat.le_refl _, Nat.le_refl _⟩
      · split at e
        · cases e; exact ⟨Nat.le_refl _, Nat.le_refl _⟩
        · split at e
          · rename_i q hq
            cases e
            exact xmem_grow hq
          · split at e
            · rename_i q hq
              cases e
              obtain ⟨a, b⟩ := xnatv_grow hq
              exact ⟨Nat.le_of_eq a.symm, Nat.le_of_eq b.symm⟩
            · cases e
    · cases e
theorem xrun_grow {S : XS} : ∀ (n d k pc : Nat) (L : XL) (st : List Value) (h : XH) (v : Option Value) (h' : XH), xrun S n d k pc L st h = some (v, h') → xhz h ≤ xhz h' ∧ xhs h ≤ xhs h' := by
  intro n
  induction n with
  | zero => intro d k pc L st h v h' e; cases e
  | succ n ih =>
    intro d k pc L st h v h' e
    simp only [xrun] at e
    split at e
    · cases e
    · split at e
      · cases e; exact ⟨Nat.le_refl _, Nat.le_refl _⟩
      · split at e
        · split at e
          · cases e
          · split at e
            · cases e
            · rename_i v1 h1 hc
              have q1 := ih _ _ _ _ _ _ _ _ hc
              have q2 := ih _ _ _ _ _ _ _ _ e
              exact ⟨Nat.le_trans q1.1 q2.1, Nat.le_trans q1.2 q2.2⟩
        · split at e
          · cases e
          · rename_i pc' L' st' h1 hc
            have q1 := x1_grow hc
            have q2 := ih _ _ _ _ _ _ _ _ e
            exact ⟨Nat.le_trans q1.1 q2.1, Nat.le_trans q1.2 q2.2⟩
theorem xs_nw : xnwcT.all (fun q => decide (q.2.2 < 10)) = true := by decide +kernel
theorem xnwc_lt {kc idx ci : Nat} (h : xnwc kc idx = some ci) : ci < 10 := by
  have h1 := List.all_eq_true.mp xs_nw _ (xfind_mem h)
  simpa only [decide_eq_true_eq] using h1
section XST
variable {p : Program} {l : Launch} {e : Env} {R : Room} {s : State} {m : MethodId} {args : Array Value} {below : List Frame} {meth : Method} {c : Code} {Q : State → Prop} {D : va_G} {ca : Nat → ClassId} {b scr z0 s0 k pc pc' len d : Nat} {L L' : XL} {st st' r : List Value} {h h' : XH} {i : Instr} {S : XS}
theorem xnew_go {q t n : Nat} {el : va_E} {H1 : Heap} {locs : List Loc} {ls : Array Slot} (h1 : 1 ≤ z0) (hz0 : z0 ≤ xhz h) (hs0 : s0 ≤ xhs h) (hss : s.heap.size = b + (z0 - 1)) (he : el = xcl0 (xad b scr) ca (t, n) (fun _ => 0) (fun _ => 0) (fun _ => none)) (hP1 : va_P D xcls (xw (xad b scr) ca b h ++ [(q, el)]) H1) (hD1 : va_D (fun q => b ≤ q) (xw (xad b scr) ca b h ++ [(q, el)])) (hS1 : va_S (fun q => b ≤ q) s.heap H1 locs) (hL : XLH (xad b scr) ls (xml k) L) (K : XW (p, l, e, R, s, m, args, below, meth, c, Q, D, ca, b, scr, z0, s0) k pc' L (.ref (xhz h) :: r) (xnew h t n)) :
    W p l e R s m args below meth c H1 locs (xhz h - z0 + 1) (xhs h - s0 + n) Q (F0 m pc' ls (.ref q :: r.map (xemb (xad b scr)))) := by
  refine W.sized (fun hz => ?_)
  have hq := xw_push (by omega) hP1 hD1 (by omega)
  subst hq
  rw [he, ← xw_xnew (by omega)] at hP1
  have K := K H1 locs ls hP1 hS1 hL
  have e1 : xhz (xnew h t n) - z0 = xhz h - z0 + 1 := by show xhz h + 1 - z0 = _; omega
  have e2 : xhs (xnew h t n) - s0 = xhs h - s0 + n := by show xhs h + n - s0 = _; omega
  rw [e1, e2] at K
  have e3 : (Value.ref (xhz h) :: r).map (xemb (xad b scr)) = .ref (b + (xhz h - 1)) :: r.map (xemb (xad b scr)) := by
    rw [List.map_cons]
    show Value.ref (xad b scr (xhz h)) :: _ = _
    rw [xad_pos (by omega)]
  rw [e3] at K
  exact K
set_option maxHeartbeats 4000000 in
theorem xmem_sound (C : XCx S p s m args meth c D ca b scr z0 k) (hz0 : z0 ≤ xhz h) (hs0 : s0 ≤ xhs h) (hR1 : xhz h' - z0 ≤ R.cells) (hR2 : xhs h' - s0 ≤ R.slots)
    (hd : decode (xcode k) pc = .ok (i, xlen i)) (ho : xmem S k i st h = some (st', h')) (K : XW (p, l, e, R, s, m, args, below, meth, c, Q, D, ca, b, scr, z0, s0) k (pc + xlen i) L st' h') : XW (p, l, e, R, s, m, args, below, meth, c, Q, D, ca, b, scr, z0, s0) k pc L st h := by
  obtain ⟨hx, hb, hml, hown, hts, hnw, hao1, hao3, hK, hX, hsb, hz1, hss, hin, hrt, hlk⟩ := C
  have hA : ∀ q, s.heap.size ≤ q → b ≤ q := fun q hq => by omega
  cases i with
  | getfield idx => exact xgetf_sound hx hb hown hts hK hd ho K
  | putfield idx => exact xputf_sound hx hb hown hts hK hin hd ho K
  | iaload => exact (xloads_sound hx hb hK hX hsb (by omega)).1 hd ho K
  | laload => exact (xloads_sound hx hb hK hX hsb (by omega)).2.1 hd ho K
  | baload => exact (xloads_sound hx hb hK hX hsb (by omega)).2.2.1 hd ho K
  | aaload => exact (xloads_sound hx hb hK hX hsb (by omega)).2.2.2.1 hd ho K
  | arraylength => exact (xloads_sound hx hb hK hX hsb (by omega)).2.2.2.2 hd ho K
  | iastore => exact (xstores_sound hx hb hK).1 hd ho K
  | lastore => exact (xstores_sound hx hb hK).2.1 hd ho K
  | bastore => exact (xstores_sound hx hb hK).2.2.1 hd ho K
  | aastore => exact (xstores_sound hx hb hK).2.2.2 hd ho K
  | newarray t =>
    cases t with
    | int =>
      simp only [xmem] at ho
      unfold xnwa at ho
      split at ho
      · split at ho
        · rename_i n r hn
          cases ho
          intro H locs ls hP hS hL
          have e1 : xhz (xnew h (100 + 0) n.toNatClampNeg) = xhz h + 1 := rfl
          have e2 : xhs (xnew h (100 + 0) n.toNatClampNeg) = xhs h + n.toNatClampNeg := rfl
          refine va_newa (atype := .int) hx hb (hts _ xg_glob.2.2.2.2.2.1) (ty := .int) rfl hK hP (xw_D _ _ _ _) hS hA (a0 := (n.toNatClampNeg, .inl (fun _ => 0))) (fun _ => rfl) hn.1 rfl (by show _ * 4 ≤ _; omega) (by omega) (by omega) hd (fun q cA H1 hK1 hP1 hD1 hS1 => ?_)
          have hc : cA = ca 0 := Option.some.inj ((hK1.2 5 _ rfl).2.symm.trans (hK.2 0 _ rfl).2)
          subst hc
          exact xnew_go hz1 hz0 hs0 hss (by rw [xc_int rfl]) hP1 hD1 hS1 hL K
        · cases ho
      · cases ho
    | long =>
      simp only [xmem] at ho
      unfold xnwa at ho
      split at ho
      · split at ho
        · rename_i n r hn
          cases ho
          intro H locs ls hP hS hL
          have e1 : xhz (xnew h (100 + 1) n.toNatClampNeg) = xhz h + 1 := rfl
          have e2 : xhs (xnew h (100 + 1) n.toNatClampNeg) = xhs h + n.toNatClampNeg := rfl
          refine va_newa (atype := .long) hx hb (hts _ xg_glob.2.2.2.2.2.2.1) (ty := .long) rfl hK hP (xw_D _ _ _ _) hS hA (a0 := (n.toNatClampNeg, .inr (.inl (fun _ => 0)))) (fun _ => rfl) hn.1 rfl (by show _ * 8 ≤ _; omega) (by omega) (by omega) hd (fun q cA H1 hK1 hP1 hD1 hS1 => ?_)
          have hc : cA = ca 1 := Option.some.inj ((hK1.2 5 _ rfl).2.symm.trans (hK.2 1 _ rfl).2)
          subst hc
          exact xnew_go hz1 hz0 hs0 hss (by rw [xc_long rfl]) hP1 hD1 hS1 hL K
        · cases ho
      · cases ho
    | boolean =>
      simp only [xmem] at ho
      unfold xnwa at ho
      split at ho
      · split at ho
        · rename_i n r hn
          cases ho
          intro H locs ls hP hS hL
          have e1 : xhz (xnew h (100 + 2) n.toNatClampNeg) = xhz h + 1 := rfl
          have e2 : xhs (xnew h (100 + 2) n.toNatClampNeg) = xhs h + n.toNatClampNeg := rfl
          refine va_newa (atype := .boolean) hx hb (hts _ xg_glob.2.2.2.2.2.2.2) (ty := .boolean) rfl hK hP (xw_D _ _ _ _) hS hA (a0 := (n.toNatClampNeg, .inl (fun _ => 0))) (fun _ => rfl) hn.1 rfl (by show _ * 1 ≤ _; omega) (by omega) (by omega) hd (fun q cA H1 hK1 hP1 hD1 hS1 => ?_)
          have hc : cA = ca 2 := Option.some.inj ((hK1.2 5 _ rfl).2.symm.trans (hK.2 2 _ rfl).2)
          subst hc
          exact xnew_go hz1 hz0 hs0 hss (by rw [xc_bool rfl]) hP1 hD1 hS1 hL K
        · cases ho
      · cases ho
    | _ => cases ho
  | anewarray idx =>
    simp only [xmem] at ho
    cases hq : xanw (xkc k) idx with
    | none => rw [hq] at ho; cases ho
    | some t =>
      rw [hq] at ho
      simp only [Option.bind_some] at ho
      obtain ⟨ht, hl⟩ := xanw_ok hq
      unfold xnwa at ho
      split at ho
      · split at ho
        · rename_i n r hn
          cases ho
          intro H locs ls hP hS hL
          have e1 : xhz (xnew h (100 + (3 + t)) n.toNatClampNeg) = xhz h + 1 := rfl
          have e2 : xhs (xnew h (100 + (3 + t)) n.toNatClampNeg) = xhs h + n.toNatClampNeg := rfl
          rcases (show t = 0 ∨ t = 1 by omega) with rfl | rfl
          · refine va_newq hx hb hown (hts _ hl) hao1 hK hP (xw_D _ _ _ _) hS hA hn.1 rfl (by omega) (by omega) (by omega) hd (fun q cA H1 hK1 hP1 hD1 hS1 => ?_)
            obtain ⟨_, _, -, -, -, g1⟩ := (hK1.2 5 _ rfl).2
            obtain ⟨_, _, -, -, -, g2⟩ := (hK.2 3 _ rfl).2
            have hc : cA = ca 3 := Option.some.inj (g1.symm.trans g2)
            subst hc
            exact xnew_go hz1 hz0 hs0 hss (by rw [xc_ref (q := 0) rfl]; rfl) hP1 hD1 hS1 hL K
          · refine va_newq hx hb hown (hts _ hl) hao3 hK hP (xw_D _ _ _ _) hS hA hn.1 rfl (by omega) (by omega) (by omega) hd (fun q cA H1 hK1 hP1 hD1 hS1 => ?_)
            obtain ⟨_, _, -, -, -, g1⟩ := (hK1.2 5 _ rfl).2
            obtain ⟨_, _, -, -, -, g2⟩ := (hK.2 4 _ rfl).2
            have hc : cA = ca 4 := Option.some.inj (g1.symm.trans g2)
            subst hc
            exact xnew_go hz1 hz0 hs0 hss (by rw [xc_ref (q := 1) rfl]; rfl) hP1 hD1 hS1 hL K
        · cases ho
      · cases ho
  | new idx =>
    simp only [xmem] at ho
    cases hq : xnwc (xkc k) idx with
    | none => rw [hq] at ho; cases ho
    | some ci =>
      rw [hq] at ho
      cases ho
      have hci : ci < 10 := xnwc_lt hq
      intro H locs ls hP hS hL
      have e1 : xhz (xnew h ci (xnf ci)) = xhz h + 1 := rfl
      have e2 : xhs (xnew h ci (xnf ci)) = xhs h + xnf ci := rfl
      refine va_new (ci := ci) (C := xcn ci) (T := xTT ci) (N := xnf ci) (fs := (List.range (xnf ci)).map (fun j => xemb (xad b scr) (xfv (xft ci j) (fun _ => 0) (fun _ => 0) (fun _ => none) j))) hx hb hts (xws_in hci) (xft ci) (xf_ty hci) hown (hts _ (xnwc_ok hq)) (hts _ (xin_ci hci).1) (hts _ (xin_ci hci).2) hK hP (xw_D _ _ _ _) hS hA (xcls_at hci) (fun j hj => ?_) (by omega) (by omega) hd (fun q H1 hP1 hD1 hS1 => ?_)
      · rw [xoty_def (xall_r (xall_r xs_oty hci) hj) (xad b scr) j]
        unfold vp_V
        rw [List.getD_eq_getElem?_getD, List.getElem?_map, List.getElem?_range hj]
        rfl
      · exact xnew_go hz1 hz0 hs0 hss (by unfold xcl0; rw [if_pos (show (ci, xnf ci).1 < 100 by show ci < 100; omega)]) hP1 hD1 hS1 hL K
  | ldc idx =>
    simp only [xmem, xldc] at ho
    cases hq : xcst (xkc k) idx with
    | none => rw [hq] at ho; cases ho
    | some v =>
      rw [hq] at ho
      cases v with
      | int x => cases ho; intro H locs ls hP hS hL; exact lv_ldc hx hb hown (hts _ (xcst_ok hq)) hd (K H locs ls hP hS hL)
      | _ => cases ho
  | ldc_w idx =>
    simp only [xmem, xldc] at ho
    cases hq : xcst (xkc k) idx with
    | none => rw [hq] at ho; cases ho
    | some v =>
      rw [hq] at ho
      cases v with
      | int x => cases ho; intro H locs ls hP hS hL; exact lv_ldcw hx hb hown (hts _ (xcst_ok hq)) hd (K H locs ls hP hS hL)
      | _ => cases ho
  | ldc2_w idx =>
    simp only [xmem, xldc2] at ho
    cases hq : xcst (xkc k) idx with
    | none => rw [hq] at ho; cases ho
    | some v =>
      rw [hq] at ho
      cases v with
      | long x => cases ho; intro H locs ls hP hS hL; exact lv_ldc2 hx hb hown (hts _ (xcst_ok hq)) hd (K H locs ls hP hS hL)
      | _ => cases ho
  | _ => cases ho
end XST
