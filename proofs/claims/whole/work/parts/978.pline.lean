/-! line: both sides. -/
section PL
variable {S : XS} {d m n : Nat} {I : Nat → Nat → Int32} {J : Nat → Nat → Int64} {R : Nat → Nat → Option Nat} {o a b c xm : Int32}
/-- the program with one line more -/
theorem pg_line {I I1 I2 : Nat → Nat → Int32} (pg : PG0 I) (hm : m < 2) (en : n = lnM I m) (n10 : n < 10) (hal : AL o a b c) (c5 : I1 (4 + 6 * m) 5 = nI (n + 1)) (cc : I1 (4 + 6 * m + 1) n = o ∧ I1 (4 + 6 * m + 2) n = a ∧ I1 (4 + 6 * m + 3) n = b ∧ I1 (4 + 6 * m + 4) n = c ∧ I1 (4 + 6 * m + 5) n = -1) (fj : ∀ x j, x ≠ 4 + 6 * m → j ≠ n → I1 x j = I x j) (fx : ∀ x, x ≠ 4 + 6 * m → x ≠ 4 + 6 * m + 1 → x ≠ 4 + 6 * m + 2 → x ≠ 4 + 6 * m + 3 → x ≠ 4 + 6 * m + 4 → x ≠ 4 + 6 * m + 5 → I1 x = I x) (e2 : I2 = xu (xrow I1 264 (w4 (I1 264) (40 * m + 4 * n) o a b c)) 265 m (nI (n + 1))) : PG0 I2 := by
  have x2 : ∀ x, x < 264 → I2 x = I1 x := fun x hx => by rw [e2, xu_ne (by omega), xrow_ne (by omega)]
  have l2 : ∀ j, j ≠ m → I2 265 j = I 265 j := fun j hj => by
    rw [e2]
    show (if _ then _ else _) = _
    rw [if_neg (fun q => hj q.2), xrow_ne (by decide), fx 265 (by omega) (by omega) (by omega) (by omega) (by omega) (by omega)]
  have l2m : I2 265 m = nI (n + 1) := by rw [e2, xu_ii]
  have c2 : ∀ m' p q, q < 4 → p < 10 → cdM I2 m' p q = if m' = m ∧ p = n then st4 o a b c q else cdM I m' p q := fun m' p q hq hp => by
    show I2 264 (40 * m' + 4 * p + q) = _
    rw [e2, xu_ne (by decide), xrow_at, fx 264 (by omega) (by omega) (by omega) (by omega) (by omega) (by omega), show 40 * m + 4 * n = 4 * (10 * m + n) by omega, show 40 * m' + 4 * p + q = 4 * (10 * m' + p) + q by omega, w4_pt hq]
    by_cases t : m' = m ∧ p = n
    · rw [if_pos t, if_pos (by rw [t.1, t.2])]; rfl
    · rw [if_neg t, if_neg (by omega)]
      show _ = I 264 (40 * m' + 4 * p + q)
      rw [show 40 * m' + 4 * p + q = 4 * (10 * m' + p) + q by omega]
  intro m' hm'
  obtain ⟨a1, a2, a3, a4, a5, a6⟩ := pg m' hm'
  by_cases t : m' = m
  · subst t
    rw [← en] at a1 a2 a3 a4 a5 a6
    have el : lnM I2 m' = n + 1 := by unfold lnM; rw [l2m]; exact nI_cl (by omega)
    have AG : ag (cdM I2 m') (cdC I2 (4 + 6 * m')) (n + 1) := fun p hp q hq => by
      rw [c2 m' p q hq (by omega)]
      show I2 (4 + 6 * m' + 1 + q % 4) p = _
      rw [x2 _ (by omega), Nat.mod_eq_of_lt hq]
      by_cases e : p = n
      · subst e
        rw [if_pos ⟨rfl, rfl⟩]
        obtain ⟨q1, q2, q3, q4, q5⟩ := cc
        rcases (show q = 0 ∨ q = 1 ∨ q = 2 ∨ q = 3 by omega) with rfl | rfl | rfl | rfl
        · exact q1
        · exact q2
        · exact q3
        · exact q4
      · rw [if_neg (fun t => e t.2), fj _ _ (by omega) e]
        have := a5 p (by omega) q hq
        rw [← this]
        show _ = I (4 + 6 * m' + 1 + q % 4) p
        rw [Nat.mod_eq_of_lt hq]
    rw [el]
    refine ⟨l2m, by omega, fun p hp => ?_, by rw [x2 _ (by omega)]; exact c5, AG, fun p hp => ?_⟩
    · unfold VL
      rw [c2 m' p 0 (by decide) (by omega), c2 m' p 1 (by decide) (by omega), c2 m' p 2 (by decide) (by omega), c2 m' p 3 (by decide) (by omega)]
      by_cases e : p = n
      · rw [if_pos ⟨rfl, e⟩, if_pos ⟨rfl, e⟩, if_pos ⟨rfl, e⟩, if_pos ⟨rfl, e⟩]; exact hal
      · rw [if_neg (fun t => e t.2), if_neg (fun t => e t.2), if_neg (fun t => e t.2), if_neg (fun t => e t.2)]; exact a3 p (by omega)
    · rw [x2 _ (by omega)]
      by_cases e : p = n
      · rw [e]; exact cc.2.2.2.2
      · rw [fj _ _ (by omega) e]; exact a6 p (by omega)
  · have el : lnM I2 m' = lnM I m' := by unfold lnM; rw [l2 m' t]
    have ec : ∀ p, p < lnM I m' → ∀ q, q < 4 → cdM I2 m' p q = cdM I m' p q := fun p hp q hq => by rw [c2 m' p q hq (by omega), if_neg (fun q => t q.1)]
    have eC : ∀ x, x ≤ 5 → I2 (4 + 6 * m' + x) = I (4 + 6 * m' + x) := fun x hx => by rw [x2 _ (by omega), fx _ (by omega) (by omega) (by omega) (by omega) (by omega) (by omega)]
    rw [el]
    refine ⟨by rw [l2 m' t]; exact a1, a2, fun p hp => VL_ag (fun p hp q hq => ec p hp q hq) hp (a3 p hp), by rw [show 4 + 6 * m' = 4 + 6 * m' + 0 from rfl, eC 0 (by omega)]; exact a4, fun p hp q hq => ?_, fun p hp => by rw [eC 5 (by omega)]; exact a6 p hp⟩
    rw [ec p hp q hq, ← a5 p hp q hq]
    show I2 (4 + 6 * m' + 1 + q % 4) p = I (4 + 6 * m' + 1 + q % 4) p
    rw [Nat.add_assoc, eC _ (by omega)]
theorem p_line (h : Inv I J R) : PrI S (d + 3) 10 6 [.int xm, .int o, .int a, .int b, .int c] 99 11 [.int xm, .int o, .int a, .int b, .int c] I J R := by
  obtain ⟨st, P, nb, A, np, pop, ar, B, ns, su, lt, wr, cc, hi⟩ := id h
  obtain ⟨hR, h2, h3, h4, h5, h6, h7, h8, h9, h10, h11, h12, h13, h14⟩ := hi
  have eqw : ((0 : Int32) ≤ xm ∧ xm ≤ 1) ↔ (0 ≤ xm ∧ xm < 2) := by
    rw [Int32.le_iff_toInt_le, Int32.le_iff_toInt_le, Int32.lt_iff_toInt_lt]
    show ((0 : Int) ≤ _ ∧ xm.toInt ≤ 1) ↔ ((0 : Int) ≤ _ ∧ xm.toInt < 2)
    omega
  have no : (st = true ∨ ¬ (0 ≤ xm ∧ xm < 2)) → XP S (d + 3) 99 0 (xent [.ref 261, .int xm, .int o, .int a, .int b, .int c] 11) [] (hh I J R) (fun v2 h2 => v2 = some (.int 0) ∧ ∃ I2 J2 R2, h2 = hh I2 J2 R2 ∧ Inv I2 J2 R2) := by
    intro q
    refine y_loc (pc' := 1) xD_99 rfl rfl rfl rfl ?_
    refine m_getZ (pc' := 4) xD_99 rfl rfl rfl (by first | rfl | assumption) (h4.2) rfl ?_
    refine y_ifne (pt := 37) (pf := 7) xD_99 rfl rfl rfl (fun h4' => ?_) (fun h4' => ?_)
    · skip
      refine y_ci (pc' := 38) (0) xD_99 rfl rfl rfl rfl ?_
      refine y_retZ xD_99 rfl rfl (by first | decide | assumption) ?_
      exact ⟨rfl, I, J, R, rfl, h⟩
    · skip
      refine y_loc (pc' := 8) xD_99 rfl rfl rfl rfl ?_
      refine y_ci (pc' := 9) (0) xD_99 rfl rfl rfl rfl ?_
      refine y_ci (pc' := 10) (1) xD_99 rfl rfl rfl rfl ?_
      refine y_callS xD_99 rfl rfl rfl rfl rfl rfl rfl rfl (s_within) (fun v h' hq => ?_)
      obtain ⟨rfl, rfl⟩ := hq
      refine y_ifeq (pt := 37) (pf := 16) xD_99 rfl rfl rfl (fun h13' => ?_) (fun h13' => ?_)
      · skip
        refine y_ci (pc' := 38) (0) xD_99 rfl rfl rfl rfl ?_
        refine y_retZ xD_99 rfl rfl (by first | decide | assumption) ?_
        exact ⟨rfl, I, J, R, rfl, h⟩
      · refine absurd q (fun t => t.elim (fun t => ?_) (fun t => t (eqw.mp (zB_n0.mp h13'))))
        rw [t] at h4'
        exact absurd h4' (by decide)
  unfold PrI
  refine y_loc (pc' := 1) xD_10 rfl rfl rfl rfl ?_
  refine m_getZ (pc' := 4) xD_10 rfl rfl rfl (by first | rfl | assumption) (h4.1) rfl ?_
  refine y_ifne (pt := 14) (pf := 7) xD_10 rfl rfl rfl (fun h4' => ?_) (fun h4' => ?_)
  · skip
    refine y_ci (pc' := 15) (0) xD_10 rfl rfl rfl rfl ?_
    refine y_retZ xD_10 rfl rfl (by first | decide | assumption) ?_
    exact ⟨⟨_, rfl⟩, I, J, R, rfl, no (Or.inl (by cases st; exact absurd rfl h4'; rfl))⟩
  · skip
    have hs : st = false := by
      cases st
      · rfl
      · exact absurd h4' (by decide)
    subst hs
    refine y_loc (pc' := 8) xD_10 rfl rfl rfl rfl ?_
    refine y_callS xD_10 rfl rfl rfl rfl rfl rfl rfl rfl (s_isMethod) (fun v h' hq => ?_)
    obtain ⟨rfl, rfl⟩ := hq
    refine y_ifne (pt := 16) (pf := 14) xD_10 rfl rfl rfl (fun h11' => ?_) (fun h11' => ?_)
    · skip
      have hx := zB_n0.mp h11'
      obtain ⟨m, -, hm, ex⟩ := i32_range (a := 0) (b := 2) (by decide) hx.1 hx.2 (by decide)
      obtain ⟨nb0, np0, ns0, lt0, ar0, pg, z16, z69, z18⟩ := h9 rfl
      subst nb0
      subst np0
      subst ns0
      have rk : R 3 m = some (4 + 6 * m) := by
        rcases (show m = 0 ∨ m = 1 by omega) with rfl | rfl
        · exact hR.1 3 0 4 (by decide)
        · exact hR.1 3 1 10 (by decide)
      have kk := (kMeth (A := 4 + 6 * m) (by omega)).1
      obtain ⟨n, en⟩ : ∃ n, n = lnM I m := ⟨_, rfl⟩
      obtain ⟨a1, a2, a3, a4, a5, a6⟩ := pg m hm
      rw [← en] at a1 a2 a4
      refine y_loc (pc' := 17) xD_10 rfl rfl rfl rfl ?_
      first | refine m_getR (pc' := 20) xD_10 rfl rfl rfl rfl (hR.1 _ _ _ rfl) rfl ?_ | refine m_getR (pc' := 20) xD_10 rfl rfl (by first | rfl | assumption) rfl (by assumption) rfl ?_
      first | refine m_getR (pc' := 23) xD_10 rfl rfl rfl rfl (hR.1 _ _ _ rfl) rfl ?_ | refine m_getR (pc' := 23) xD_10 rfl rfl (by first | rfl | assumption) rfl (by assumption) rfl ?_
      refine y_loc (pc' := 24) xD_10 rfl rfl rfl rfl ?_
      refine m_aald (pc' := 25) (m) (q := 1) xD_10 rfl (by first | rfl | assumption) (by first | decide | assumption) (by first | assumption | omega) (by first | decide | assumption) ex rk rfl ?_
      refine y_loc (pc' := 26) xD_10 rfl rfl rfl rfl ?_
      refine y_loc (pc' := 27) xD_10 rfl rfl rfl rfl ?_
      refine y_loc (pc' := 29) xD_10 rfl rfl rfl rfl ?_
      refine y_loc (pc' := 31) xD_10 rfl rfl rfl rfl ?_
      refine y_callV xD_10 rfl rfl rfl rfl (by first | rfl | assumption) rfl rfl rfl rfl (s_append (A := 4 + 6 * m) (d := d) hR (by omega) a4 a2) (fun v h' hq => ?_)
      rcases hq with ⟨nq, rfl, rfl⟩ | ⟨n10, hal, rfl, I1, rfl, c5, cj, cq, fj, fx⟩
      · skip
        refine y_retZ xD_10 rfl rfl (by first | decide | assumption) ?_
        refine ⟨⟨_, rfl⟩, I, J, R, rfl, ?_⟩
        rw [ex]
        refine XP.conseq (s_mline (d := d + 2) hR h4.2 hm a1 a2) (fun v h' hq => ?_)
        rcases hq with ⟨-, rfl, rfl⟩ | ⟨p1, p2, -, -⟩
        · exact ⟨rfl, I, J, R, rfl, h⟩
        · exact absurd ⟨p1, p2⟩ nq
      · skip
        refine y_retZ xD_10 rfl rfl (by first | decide | assumption) ?_
        refine ⟨⟨_, rfl⟩, I1, J, R, rfl, ?_⟩
        rw [ex]
        have y1 : ∀ x, 16 ≤ x → I1 x = I x := fun x hx => fx x (by omega) (by omega) (by omega) (by omega) (by omega) (by omega)
        have y0 : ∀ x, x < 4 → I1 x = I x := fun x hx => fx x (by omega) (by omega) (by omega) (by omega) (by omega) (by omega)
        refine XP.conseq (s_mline (d := d + 2) hR (by rw [y1 261 (by decide)]; exact h4.2) hm (by rw [y1 265 (by decide)]; exact a1) a2) (fun v h' hq => ?_)
        rcases hq with ⟨p, -, -⟩ | ⟨-, -, rfl, rfl⟩
        · exact absurd ⟨n10, hal⟩ p
        · obtain ⟨I2, eI2⟩ : ∃ I2, I2 = xu (xrow I1 264 (w4 (I1 264) (40 * m + 4 * n) o a b c)) 265 m (nI (n + 1)) := ⟨_, rfl⟩
          rw [← eI2]
          have PG := pg_line pg hm en n10 hal c5 cq fj fx eI2
          have x2 : ∀ x, x ≠ 264 → x ≠ 265 → I2 x = I1 x := fun x a b => by rw [eI2, xu_ne b, xrow_ne a]
          have X : ∀ x, 16 ≤ x → x ≠ 264 → x ≠ 265 → I2 x = I x := fun x a b c => (x2 x b c).trans (y1 x a)
          have X0 : ∀ x, x < 4 → I2 x = I x := fun x a => (x2 x (by omega) (by omega)).trans (y0 x a)
          have Z16 : ∀ k, I2 16 k = 0 := fun k => by rw [X 16 (by decide) (by decide) (by decide)]; exact z16 k
          have Z69 : ∀ k, I2 269 k = 0 := fun k => by rw [X 269 (by decide) (by decide) (by decide)]; exact z69 k
          have s2 := X 262 (by decide) (by decide) (by decide)
          have s3 := X 263 (by decide) (by decide) (by decide)
          have s61 := X 261 (by decide) (by decide) (by decide)
          have pp := pg_prog PG (by rw [X0 2 (by decide)]; exact h5.1.1) (by rw [s61]; exact h5.2.1.1) Z16 Z69
          refine ⟨rfl, I2, J, R, rfl, false, I2, 0, A, 0, pop, ar, B, 0, su, lt, wr, cc, hR, h2, by rw [X 20 (by decide) (by decide) (by decide), s61]; exact h3, by rw [X0 1 (by decide), s61]; exact h4, pp, fun m' hm' => ?_, fun k hk => absurd hk (Nat.not_lt_zero _), fun q => absurd q (by decide), fun _ => ⟨rfl, rfl, rfl, lt0, ar0, PG, Z16, Z69, by rw [X 18 (by decide) (by decide) (by decide)]; exact z18⟩, ⟨⟨h10.1.1, by rw [X 121 (by decide) (by decide) (by decide)]; exact h10.1.2.1, by decide, fun k hk => absurd hk (Nat.not_lt_zero _)⟩, by rw [s61]; exact h10.2.1, by decide, fun k hk => absurd hk (Nat.not_lt_zero _)⟩, ⟨(h11.1.fr (fun x a b => ⟨X x (by omega) (by omega) (by omega), rfl⟩)).any ar0, fun g hg => ⟨(h11.2.1 g hg).1, (h11.2.1 g hg).2.row s2 s3⟩, fun g _ => ar0 g⟩, ⟨⟨h12.1.1, by rw [X 151 (by decide) (by decide) (by decide)]; exact h12.1.2.1, by decide, fun k hk => absurd hk (Nat.not_lt_zero _)⟩, by rw [s61]; exact h12.2.1, by decide, fun k hk => absurd hk (Nat.not_lt_zero _)⟩, ⟨h13.1, h13.2.1.fr (X _ (by decide) (by decide) (by decide)) (X _ (by decide) (by decide) (by decide)), h13.2.2.1.row s2 s3, fun q => by rw [lt0] at q; exact absurd q (by decide)⟩, h14.1, h14.2.1.fr (X _ (by decide) (by decide) (by decide)) (X _ (by decide) (by decide) (by decide)), h14.2.2.row s2 s3⟩
          rw [X 266 (by decide) (by decide) (by decide), x2 _ (by omega) (by omega)]
          have w := h6 m' hm'
          by_cases t : m' = m
          · subst t; rw [cj 6 (by decide)]; exact w
          · rw [fx _ (by omega) (by omega) (by omega) (by omega) (by omega) (by omega)]; exact w
    · skip
      refine y_ci (pc' := 15) (0) xD_10 rfl rfl rfl rfl ?_
      refine y_retZ xD_10 rfl rfl (by first | decide | assumption) ?_
      exact ⟨⟨_, rfl⟩, I, J, R, rfl, no (Or.inr (zB_0.mp h11'))⟩
end PL

