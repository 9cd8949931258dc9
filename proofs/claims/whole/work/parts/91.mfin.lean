/-! finish: the model. -/
def orX (f : Nat → Int32) (k : Nat) : Nat → Int32
  | 0 => 0
  | n + 1 => if n = k then orX f k n else orX f k n ||| f n
theorem ib_orX {f : Nat → Int32} {k g : Nat} : ∀ n, ib (orX f k n) g = true ↔ ∃ i, i < n ∧ i ≠ k ∧ ib (f i) g = true
  | 0 => by rw [show orX f k 0 = 0 from rfl, ib_0]; exact ⟨fun q => absurd q (by decide), fun ⟨i, h, _⟩ => absurd h (by omega)⟩
  | n + 1 => by
    simp only [orX]
    by_cases e : n = k
    · rw [if_pos e, ib_orX n]
      constructor
      · rintro ⟨i, h, q⟩; exact ⟨i, by omega, q⟩
      · rintro ⟨i, h, q, r⟩; exact ⟨i, by omega, q, r⟩
    · rw [if_neg e, ib_or, Bool.or_eq_true, ib_orX n]
      constructor
      · rintro (⟨i, h, q⟩ | q)
        · exact ⟨i, by omega, q⟩
        · exact ⟨n, by omega, e, q⟩
      · rintro ⟨i, h, q, r⟩
        by_cases e : i = n
        · subst e; exact Or.inr r
        · exact Or.inl ⟨i, by omega, q, r⟩
theorem orX_S {f : Nat → Int32} {k n : Nat} (h : n ≤ k) : orX f k n = orS f n := by
  induction n with
  | zero => rfl
  | succ n ih =>
    simp only [orX, orS]
    rw [if_neg (by omega), ih (by omega)]
theorem and_not0 {x y : Int32} : x &&& (y ^^^ -1) = 0 ↔ x &&& y = x := by
  constructor
  · intro h
    refine ib_ext (fun g hg => ?_)
    have := congrArg (fun z => ib z g) h
    simp only [ib_and, ib_not hg, ib_0] at this
    rw [ib_and]
    cases hx : ib x g <;> cases hy : ib y g <;> simp_all
  · intro h
    refine ib_ext (fun g hg => ?_)
    have := congrArg (fun z => ib z g) h
    simp only [ib_and] at this
    rw [ib_and, ib_not hg, ib_0]
    cases hx : ib x g <;> cases hy : ib y g <;> simp_all
section MF
variable {S : XS} {d nb ns s : Nat} {I P : Nat → Nat → Int32} {J : Nat → Nat → Int64} {R : Nat → Nat → Option Nat} {su ar : Nat → CA} {c : CA}
/-- the model's scratch rows alone differ -/
def MS1 (I I' : Nat → Nat → Int32) (J J' : Nat → Nat → Int64) : Prop := (∀ x, x ≠ 271 → I' x = I x) ∧ ∀ x, x ≠ 272 → x ≠ 273 → J' x = J x
/-- others(k) -/
theorem s_others (hR : RF R) (hP : MPg I P nb) (hns : ns ≤ 24) (e12 : I 261 12 = nI ns) (hs : ∀ j, j < ns → WC (su j) ∧ RM I (33 + j) (su j)) (k : Nat) {xk : Int32} (ek : ∀ j, j < ns → (nI j = xk ↔ j = k)) :
    XP S (d + 7) 148 0 (xent [.ref 261, .int xk] 4) [] (hh I J R) (fun v h' => v = some (.int (orX (fun i => kS P nb (su i)) k ns)) ∧ ∃ I' J', h' = hh I' J' R ∧ MS1 I I' J J') := by
  have loop : ∀ (m o : Nat), o + m = ns → ∀ I' J', MS1 I I' J J' → XP S (d + 7) 148 4 [some (.ref 261), some (.int xk), some (.int (orX (fun i => kS P nb (su i)) k o)), some (.int (nI o))] [] (hh I' J' R) (fun v h' => v = some (.int (orX (fun i => kS P nb (su i)) k ns)) ∧ ∃ I' J', h' = hh I' J' R ∧ MS1 I I' J J') := by
    intro m
    induction m with
    | zero =>
      intro o ho I' J' hm
      have ho : o = ns := by omega
      subst ho
      refine y_loc (pc' := 5) xD_148 rfl rfl rfl rfl ?_
      refine y_loc (pc' := 6) xD_148 rfl rfl rfl rfl ?_
      refine m_getI (pc' := 9) xD_148 rfl rfl rfl (by first | rfl | assumption) (((congrFun (hm.1 261 (by decide)) 12).trans e12)) rfl ?_
      refine y_icge (pt := 38) (pf := 12) xD_148 rfl rfl rfl (fun h9 => ?_) (fun h9 => ?_)
      · skip
        refine y_loc (pc' := 39) xD_148 rfl rfl rfl rfl ?_
        refine y_retI xD_148 rfl rfl ?_
        exact ⟨rfl, I', J', rfl, hm⟩
      · skip
        exact absurd (Int32.le_refl _) h9
    | succ m ih =>
      intro o ho I' J' hm
      have hP' : MPg I' P nb := hP.fr (by rw [hm.1 261 (by decide)]) (fun x a b => hm.1 x (by omega))
      have ro : RM I' (33 + o) (su o) := (hs o (by omega)).2.row (hm.1 262 (by decide)) (hm.1 263 (by decide))
      have e33 : (33 : Int32) + nI o = nI (33 + o) := nI_add 33 o
      have step := ih (o + 1) (by omega)
      simp only [orX] at step
      have eo := ek o (by omega)
      refine y_loc (pc' := 5) xD_148 rfl rfl rfl rfl ?_
      refine y_loc (pc' := 6) xD_148 rfl rfl rfl rfl ?_
      refine m_getI (pc' := 9) xD_148 rfl rfl rfl (by first | rfl | assumption) (((congrFun (hm.1 261 (by decide)) 12).trans e12)) rfl ?_
      refine y_icge (pt := 38) (pf := 12) xD_148 rfl rfl rfl (fun h9 => ?_) (fun h9 => ?_)
      · skip
        exact absurd h9 (nI_ge (a := o) (b := ns) (by omega) (by omega))
      · skip
        refine y_loc (pc' := 13) xD_148 rfl rfl rfl rfl ?_
        refine y_loc (pc' := 14) xD_148 rfl rfl rfl rfl ?_
        refine y_icne (pt := 21) (pf := 17) xD_148 rfl rfl rfl (fun h14 => ?_) (fun h14 => ?_)
        · skip
          refine y_loc (pc' := 22) xD_148 rfl rfl rfl rfl ?_
          refine y_loc (pc' := 23) xD_148 rfl rfl rfl rfl ?_
          refine y_ci (pc' := 25) (33) xD_148 rfl rfl rfl rfl ?_
          refine y_loc (pc' := 26) xD_148 rfl rfl rfl rfl ?_
          refine y_iadd (pc' := 27) xD_148 rfl (e33) rfl ?_
          refine y_callV xD_148 rfl rfl rfl rfl (by first | rfl | assumption) rfl rfl rfl rfl (s_kreached (d := d) hR (by omega) hP' (hs o (by omega)).1 ro rfl) (fun v h' hq => ?_)
          obtain ⟨rfl, vv, N, res, rfl⟩ := hq
          refine y_op (pc' := 31) xD_148 rfl rfl rfl rfl ?_
          refine y_loc (pc' := 32) xD_148 rfl rfl rfl rfl ?_
          refine y_inc (pc' := 35) (nI (o + 1)) xD_148 rfl rfl rfl (nI_1 (o)) rfl rfl ?_
          refine y_goto (pc' := 4) xD_148 rfl rfl ?_
          first
          | (rw [if_pos (eo.mp h14)] at step
             exact step I' J' hm)
          | (rw [if_neg (fun q => h14 (eo.mpr q))] at step
             exact step _ _ ⟨fun x h => (xrow_ne h).trans (hm.1 x h), fun x h1 h2 => (xrow_ne h1).trans ((xrow_ne h2).trans (hm.2 x h1 h2))⟩)
        · skip
          refine y_loc (pc' := 18) xD_148 rfl rfl rfl rfl ?_
          refine y_goto (pc' := 31) xD_148 rfl rfl ?_
          refine y_loc (pc' := 32) xD_148 rfl rfl rfl rfl ?_
          refine y_inc (pc' := 35) (nI (o + 1)) xD_148 rfl rfl rfl (nI_1 (o)) rfl rfl ?_
          refine y_goto (pc' := 4) xD_148 rfl rfl ?_
          first
          | (rw [if_pos (eo.mp h14)] at step
             exact step I' J' hm)
          | (rw [if_neg (fun q => h14 (eo.mpr q))] at step
             exact step _ _ ⟨fun x h => (xrow_ne h).trans (hm.1 x h), fun x h1 h2 => (xrow_ne h1).trans ((xrow_ne h2).trans (hm.2 x h1 h2))⟩)
  refine y_ci (pc' := 1) (0) xD_148 rfl rfl rfl rfl ?_
  refine y_loc (pc' := 2) xD_148 rfl rfl rfl rfl ?_
  refine y_ci (pc' := 3) (0) xD_148 rfl rfl rfl rfl ?_
  refine y_loc (pc' := 4) xD_148 rfl rfl rfl rfl ?_
  exact loop ns 0 (by omega) I J ⟨fun _ _ => rfl, fun _ _ _ => rfl⟩
/-- cut(slot, g), at slot 57 -/
theorem s_cut (hR : RF R) (hP : MPg I P nb) (w : WC c) (z : 0 < c.1) (r : RM I 57 c) (g : Nat) (hg : g < 2 * nb) :
    XP S (d + 6) 149 0 (xent [.ref 261, .int 57, .int (nI g)] 4) [] (hh I J R) (fun v h' => v = none ∧ ∃ I' J', h' = hh I' J' R ∧ RM I' 57 (ctS P nb g c.1 c (I 261 13)).1 ∧ I' 261 13 = (ctS P nb g c.1 c (I 261 13)).2 ∧ SF (fun t => t ≠ 57 ∧ t ≠ 58) I I' ∧ (∀ x, x ≠ 261 → x ≠ 262 → x ≠ 263 → x ≠ 271 → I' x = I x) ∧ (∀ j, j ≠ 13 → I' 261 j = I 261 j) ∧ ∀ x, x ≠ 272 → x ≠ 273 → J' x = J x) := by
  have nb2 := hP.1.2.1
  have g24 : g < 24 := by omega
  have loop : ∀ (p : Nat) (c' : CA) (I' : Nat → Nat → Int32) (J' : Nat → Nat → Int64), WC c' → 0 < c'.1 → p ≤ c'.1 → RM I' 57 c' → ctS P nb g p c' (I' 261 13) = ctS P nb g c.1 c (I 261 13) → SF (fun t => t ≠ 57 ∧ t ≠ 58) I I' → (∀ x, x ≠ 261 → x ≠ 262 → x ≠ 263 → x ≠ 271 → I' x = I x) → (∀ j, j ≠ 13 → I' 261 j = I 261 j) → (∀ x, x ≠ 272 → x ≠ 273 → J' x = J x) → XP S (d + 6) 149 9 [some (.ref 261), some (.int 57), some (.int (nI g)), some (.int (nI p - 1))] [] (hh I' J' R) (fun v h' => v = none ∧ ∃ I' J', h' = hh I' J' R ∧ RM I' 57 (ctS P nb g c.1 c (I 261 13)).1 ∧ I' 261 13 = (ctS P nb g c.1 c (I 261 13)).2 ∧ SF (fun t => t ≠ 57 ∧ t ≠ 58) I I' ∧ (∀ x, x ≠ 261 → x ≠ 262 → x ≠ 263 → x ≠ 271 → I' x = I x) ∧ (∀ j, j ≠ 13 → I' 261 j = I 261 j) ∧ ∀ x, x ≠ 272 → x ≠ 273 → J' x = J x) := by
    intro p
    induction p with
    | zero =>
      intro c' I' J' w' z' h' r' e' sf fI fF fJ
      rw [← e']
      refine y_loc (pc' := 10) xD_149 rfl rfl rfl rfl ?_
      refine y_iflt (pt := 86) (pf := 13) xD_149 rfl rfl rfl (fun h10 => ?_) (fun h10 => ?_)
      · skip
        refine y_retV xD_149 rfl rfl ?_
        exact ⟨rfl, I', J', rfl, r', rfl, sf, fI, fF, fJ⟩
      · skip
        exact absurd (show nI 0 - 1 < 0 by decide) h10
    | succ p ih =>
      intro c' I' J' w' z' h' r' e' sf fI fF fJ
      have c6 := w'.1
      have pe : nI (p + 1) - 1 = nI p := by rw [show nI (p + 1) - 1 = nI (p + 1 - 1) from pk_sub (b := 1) (by omega)]; rfl
      have pd : nI p + Int32.ofInt (-1) = nI p - 1 := by rw [Int32.sub_eq_add_neg]; rfl
      rw [pe]
      simp only [ctS] at e'
      have l1 : nI c'.1 ≤ 1 ↔ c'.1 ≤ 1 := nI_leI (b := 1) (by omega) (by decide)
      have skip : ¬ (1 < c'.1 ∧ rfd c'.2 p c'.1 = false) → XP S (d + 6) 149 80 [some (.ref 261), some (.int 57), some (.int (nI g)), some (.int (nI p))] [] (hh I' J' R) (fun v h' => v = none ∧ ∃ I' J', h' = hh I' J' R ∧ RM I' 57 (ctS P nb g c.1 c (I 261 13)).1 ∧ I' 261 13 = (ctS P nb g c.1 c (I 261 13)).2 ∧ SF (fun t => t ≠ 57 ∧ t ≠ 58) I I' ∧ (∀ x, x ≠ 261 → x ≠ 262 → x ≠ 263 → x ≠ 271 → I' x = I x) ∧ (∀ j, j ≠ 13 → I' 261 j = I 261 j) ∧ ∀ x, x ≠ 272 → x ≠ 273 → J' x = J x) := by
        intro q
        rw [if_neg q] at e'
        refine y_inc (pc' := 83) (nI p - 1) xD_149 rfl rfl rfl pd rfl rfl ?_
        refine y_goto (pc' := 9) xD_149 rfl rfl ?_
        exact ih c' I' J' w' z' (by omega) r' e' sf fI fF fJ
      have hrf := s_referred (S := S) (d := d + 4) (I := I') (J := J') (R := R) hR (s := 57) (by decide) c'.1 p r'.1 c6 (xs := 57) (xp := nI p) rfl rfl
      rw [rfd_c r'.2 c'.1 (Nat.le_refl _)] at hrf
      refine y_loc (pc' := 10) xD_149 rfl rfl rfl rfl ?_
      refine y_iflt (pt := 86) (pf := 13) xD_149 rfl rfl rfl (fun h10 => ?_) (fun h10 => ?_)
      · skip
        exact absurd h10 (nI_pos (by omega))
      · skip
        refine y_loc (pc' := 14) xD_149 rfl rfl rfl rfl ?_
        first | refine m_getR (pc' := 17) xD_149 rfl rfl rfl rfl (hR.1 _ _ _ rfl) rfl ?_ | refine m_getR (pc' := 17) xD_149 rfl rfl (by first | rfl | assumption) rfl (by assumption) rfl ?_
        refine y_loc (pc' := 18) xD_149 rfl rfl rfl rfl ?_
        refine m_iald (pc' := 19) (57) xD_149 rfl (by first | rfl | assumption) (by first | assumption | omega) (by first | decide | assumption) (by first | decide | omega) (by first | rfl | assumption) rfl ?_
        rw [r'.1]
        refine y_ci (pc' := 20) (1) xD_149 rfl rfl rfl rfl ?_
        refine y_icle (pt := 80) (pf := 23) xD_149 rfl rfl rfl (fun h20 => ?_) (fun h20 => ?_)
        · skip
          first
          | exact skip (fun q => absurd (l1.mp h20) (by omega))
          | exact skip (fun q => h29 (by rw [q.2]; rfl))
        · skip
          refine y_loc (pc' := 24) xD_149 rfl rfl rfl rfl ?_
          refine y_loc (pc' := 25) xD_149 rfl rfl rfl rfl ?_
          refine y_loc (pc' := 26) xD_149 rfl rfl rfl rfl ?_
          refine y_callV xD_149 rfl rfl rfl rfl (by first | rfl | assumption) rfl rfl rfl rfl (hrf) (fun v h' hq => ?_)
          obtain ⟨rfl, rfl⟩ := hq
          refine y_ifne (pt := 80) (pf := 32) xD_149 rfl rfl rfl (fun h29 => ?_) (fun h29 => ?_)
          · skip
            first
            | exact skip (fun q => absurd (l1.mp h20) (by omega))
            | exact skip (fun q => h29 (by rw [q.2]; rfl))
          · skip
            skip
            have cond : 1 < c'.1 ∧ rfd c'.2 p c'.1 = false := ⟨Nat.lt_of_not_le (fun q => h20 (l1.mpr q)), zB_f.mp h29⟩
            rw [if_pos cond] at e'
            have r1 := RM_cp (t := 58) w' r'
            have r1' : RM (xu (xrow I' 262 (sl1 (I' 262) 58 (slM I' 57))) 263 58 (I' 263 57)) 57 c' := r'.sf w' SF_cp (show 57 ≠ 58 by decide)
            have wt := ctC_w w' (p := p) (by omega)
            refine y_loc (pc' := 33) xD_149 rfl rfl rfl rfl ?_
            refine y_loc (pc' := 34) xD_149 rfl rfl rfl rfl ?_
            refine y_ci (pc' := 36) (58) xD_149 rfl rfl rfl rfl ?_
            refine y_callV xD_149 rfl rfl rfl rfl (by first | rfl | assumption) rfl rfl rfl rfl (s_mcopy (d := d + 5) hR (s := 57) (t := 58) (by decide) (by decide) (by decide) rfl rfl) (fun v h' hq => ?_)
            obtain ⟨rfl, rfl⟩ := hq
            refine y_loc (pc' := 40) xD_149 rfl rfl rfl rfl ?_
            refine y_ci (pc' := 42) (58) xD_149 rfl rfl rfl rfl ?_
            refine y_loc (pc' := 43) xD_149 rfl rfl rfl rfl ?_
            refine y_callV xD_149 rfl rfl rfl rfl (by first | rfl | assumption) rfl rfl rfl rfl (s_mtakeOutC (d := d + 4) hR (s := 58) (by decide) w' r1 (p := p) (by omega) rfl rfl) (fun v h' hq => ?_)
            obtain ⟨rfl, I2, rfl, r2, s2, x2⟩ := hq
            have X2 : ∀ x, x ≠ 262 → x ≠ 263 → I2 x = I' x := fun x h1 h2 => (x2 x h1 h2).trans ((xu_ne h2).trans (xrow_ne h1))
            have r2' : RM I2 57 c' := r1'.sf w' s2 (show 57 ≠ 58 by decide)
            have sf2 : SF (fun t => t ≠ 57 ∧ t ≠ 58) I I2 := sf.tr ((SF_cp.w (fun t (ht : t ≠ 57 ∧ t ≠ 58) => ht.2)).tr (s2.w (fun t ht => ht.2)))
            have hP2 : MPg I2 P nb := hP.fr (by rw [X2 261 (by decide) (by decide)]; exact fF 10 (by decide)) (fun x a b => (X2 x (by omega) (by omega)).trans (fI x (by omega) (by omega) (by omega) (by omega)))
            refine y_loc (pc' := 47) xD_149 rfl rfl rfl rfl ?_
            refine y_ci (pc' := 49) (58) xD_149 rfl rfl rfl rfl ?_
            refine y_callV xD_149 rfl rfl rfl rfl (by first | rfl | assumption) rfl rfl rfl rfl (s_kperform (d := d) hR (s := 58) (by decide) hP2 wt r2 rfl) (fun v h' hq => ?_)
            obtain ⟨rfl, vv, N, res, rfl, n1, n2⟩ := hq
            refine y_loc (pc' := 53) xD_149 rfl rfl rfl rfl ?_
            refine y_op (pc' := 54) xD_149 rfl rfl rfl rfl ?_
            refine m_get (pc' := 57) xD_149 rfl rfl (by first | rfl | assumption) rfl rfl ?_
            refine y_ci (pc' := 58) (1) xD_149 rfl rfl rfl rfl ?_
            refine y_op (pc' := 59) xD_149 rfl rfl rfl rfl ?_
            refine m_putI (pc' := 62) xD_149 rfl rfl (by first | rfl | assumption) rfl rfl rfl ?_
            have en : xrow (xrow J' 273 N) 272 res 273 g = (kr P nb (ctC c' p)).2.1 g := by rw [xrow_ne (by decide), xrow_at]; exact n1 g g24
            have ibg : ib (kS P nb (ctC c' p)) g = true ↔ (kr P nb (ctC c' p)).2.1 g = 0 := (ib_set (by omega) (2 * nb) (by omega)).trans ⟨fun q => q.2, fun q => ⟨hg, q⟩⟩
            obtain ⟨I3, eI3⟩ : ∃ I3, I3 = xu (xrow I2 271 vv) 261 13 (xrow I2 271 vv 261 13 + 1) := ⟨_, rfl⟩
            have X3 : ∀ x, x ≠ 261 → x ≠ 271 → I3 x = I2 x := fun x h1 h2 => by rw [eI3, xu_ne h1, xrow_ne h2]
            have F3 : ∀ j, j ≠ 13 → I3 261 j = I 261 j := fun j hj => by
              rw [eI3]
              show (if _ then _ else _) = _
              rw [if_neg (fun q => hj q.2), xrow_ne (by decide), X2 261 (by decide) (by decide)]
              exact fF j hj
            have C3 : I3 261 13 = I' 261 13 + 1 := by rw [eI3, xu_ii, xrow_ne (by decide), X2 261 (by decide) (by decide)]
            have fI3 : ∀ x, x ≠ 261 → x ≠ 262 → x ≠ 263 → x ≠ 271 → I3 x = I x := fun x h1 h2 h3 h4 => (X3 x h1 h4).trans ((X2 x h2 h3).trans (fI x h1 h2 h3 h4))
            have fJ3 : ∀ x, x ≠ 272 → x ≠ 273 → xrow (xrow J' 273 N) 272 res x = J x := fun x h1 h2 => (xrow_ne h1).trans ((xrow_ne h2).trans (fJ x h1 h2))
            have r3 : RM I3 57 c' := r2'.row (X3 262 (by decide) (by decide)) (X3 263 (by decide) (by decide))
            have t3 : RM I3 58 (ctC c' p) := r2.row (X3 262 (by decide) (by decide)) (X3 263 (by decide) (by decide))
            have sf3 : SF (fun t => t ≠ 57 ∧ t ≠ 58) I I3 := sf2.tr (SF.rfl' (X3 262 (by decide) (by decide)) (X3 263 (by decide) (by decide)))
            have go80 : ∀ (c4 : CA) (I4 : Nat → Nat → Int32), WC c4 → 0 < c4.1 → p ≤ c4.1 → RM I4 57 c4 → ctS P nb g p c4 (I4 261 13) = ctS P nb g c.1 c (I 261 13) → SF (fun t => t ≠ 57 ∧ t ≠ 58) I I4 → (∀ x, x ≠ 261 → x ≠ 262 → x ≠ 263 → x ≠ 271 → I4 x = I x) → (∀ j, j ≠ 13 → I4 261 j = I 261 j) → XP S (d + 6) 149 80 [some (.ref 261), some (.int 57), some (.int (nI g)), some (.int (nI p))] [] (hh I4 (xrow (xrow J' 273 N) 272 res) R) (fun v h' => v = none ∧ ∃ I' J', h' = hh I' J' R ∧ RM I' 57 (ctS P nb g c.1 c (I 261 13)).1 ∧ I' 261 13 = (ctS P nb g c.1 c (I 261 13)).2 ∧ SF (fun t => t ≠ 57 ∧ t ≠ 58) I I' ∧ (∀ x, x ≠ 261 → x ≠ 262 → x ≠ 263 → x ≠ 271 → I' x = I x) ∧ (∀ j, j ≠ 13 → I' 261 j = I 261 j) ∧ ∀ x, x ≠ 272 → x ≠ 273 → J' x = J x) := by
              intro c4 I4 a1 a2 a3 a4 a5 a6 a7 a8
              refine y_inc (pc' := 83) (nI p - 1) xD_149 rfl rfl rfl pd rfl rfl ?_
              refine y_goto (pc' := 9) xD_149 rfl rfl ?_
              exact ih c4 I4 _ a1 a2 a3 a4 a5 a6 a7 a8 fJ3
            show XP S (d + 6) 149 62 [some (.ref 261), some (.int 57), some (.int (nI g)), some (.int (nI p))] [] (hh (xu (xrow I2 271 vv) 261 13 (xrow I2 271 vv 261 13 + 1)) (xrow (xrow J' 273 N) 272 res) R) _
            rw [← eI3]
            refine y_loc (pc' := 63) xD_149 rfl rfl rfl rfl ?_
            first | refine m_getR (pc' := 66) xD_149 rfl rfl rfl rfl (hR.1 _ _ _ rfl) rfl ?_ | refine m_getR (pc' := 66) xD_149 rfl rfl (by first | rfl | assumption) rfl (by assumption) rfl ?_
            refine y_loc (pc' := 67) xD_149 rfl rfl rfl rfl ?_
            refine m_jald (pc' := 68) (g) xD_149 rfl (by first | rfl | assumption) (by first | assumption | omega) (by first | decide | assumption) (by first | rfl | assumption) rfl ?_
            rw [en]
            refine y_cj (pc' := 69) (0) xD_149 rfl rfl rfl rfl ?_
            refine y_op (pc' := 70) xD_149 rfl rfl rfl rfl ?_
            refine y_ifne (pt := 80) (pf := 73) xD_149 rfl rfl rfl (fun h70 => ?_) (fun h70 => ?_)
            · skip
              exact go80 c' I3 w' z' (by omega) r3 (by rw [if_neg (fun q => h70 (lg_eq.mpr (ibg.mp q)))] at e'; rw [C3]; exact e') sf3 fI3 F3
            · skip
              skip
              rw [if_pos (ibg.mpr (lg_eq.mp h70))] at e'
              refine y_loc (pc' := 74) xD_149 rfl rfl rfl rfl ?_
              refine y_ci (pc' := 76) (58) xD_149 rfl rfl rfl rfl ?_
              refine y_loc (pc' := 77) xD_149 rfl rfl rfl rfl ?_
              refine y_callV xD_149 rfl rfl rfl rfl (by first | rfl | assumption) rfl rfl rfl rfl (s_mcopy (d := d + 5) hR (s := 58) (t := 57) (by decide) (by decide) (by decide) rfl rfl) (fun v h' hq => ?_)
              obtain ⟨rfl, rfl⟩ := hq
              refine go80 (ctC c' p) _ wt (by show 0 < c'.1 - 1; omega) (by show p ≤ c'.1 - 1; omega) (RM_cp wt t3) ?_ (sf3.tr (SF_cp.w (fun t (ht : t ≠ 57 ∧ t ≠ 58) => ht.1))) (fun x h1 h2 h3 h4 => by rw [xu_ne h3, xrow_ne h2]; exact fI3 x h1 h2 h3 h4) (fun j hj => by rw [xu_ne (by decide), xrow_ne (by decide)]; exact F3 j hj)
              rw [xu_ne (by decide), xrow_ne (by decide), C3]
              exact e'
  refine y_loc (pc' := 1) xD_149 rfl rfl rfl rfl ?_
  first | refine m_getR (pc' := 4) xD_149 rfl rfl rfl rfl (hR.1 _ _ _ rfl) rfl ?_ | refine m_getR (pc' := 4) xD_149 rfl rfl (by first | rfl | assumption) rfl (by assumption) rfl ?_
  refine y_loc (pc' := 5) xD_149 rfl rfl rfl rfl ?_
  refine m_iald (pc' := 6) (57) xD_149 rfl (by first | rfl | assumption) (by first | assumption | omega) (by first | decide | assumption) (by first | decide | omega) (by first | rfl | assumption) rfl ?_
  rw [r.1]
  refine y_ci (pc' := 7) (1) xD_149 rfl rfl rfl rfl ?_
  refine y_op (pc' := 8) xD_149 rfl rfl rfl rfl ?_
  refine y_loc (pc' := 9) xD_149 rfl rfl rfl rfl ?_
  exact loop c.1 c I J w z (Nat.le_refl _) r rfl (fun _ _ => ⟨rfl, fun _ _ => rfl⟩) (fun _ _ _ _ _ => rfl) (fun _ _ => rfl) (fun _ _ _ => rfl)
end MF

