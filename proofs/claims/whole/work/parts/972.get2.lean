/-! fitness, result, depends. -/
section GD
variable {S : XS} {d nb : Nat} {st : Bool} {I P : Nat → Nat → Int32} {J : Nat → Nat → Int64} {R : Nat → Nat → Option Nat} {x y z : Int32}
theorem g_range (hnb : nb ≤ 12) : (0 ≤ y ∧ y < nI (2 * nb)) ↔ ∃ g, g < 2 * nb ∧ y = nI g := by
  constructor
  · rintro ⟨a, b⟩
    obtain ⟨g, -, hg, e⟩ := i32_range (a := 0) (b := 2 * nb) (by omega) a b (by decide)
    exact ⟨g, hg, e⟩
  · rintro ⟨g, hg, rfl⟩
    exact ⟨nI_pos' (by omega), nI_lt hg (by omega)⟩
theorem s_isGoal (hR : RF R) (hC : CPg I P nb) (s1 : I 1 8 = zB st) : XP S (d + 1) 66 0 (xent [.ref 1, .int y] 2) [] (hh I J R) (fun v h' => (∃ t : Bool, (t = true ↔ st = true ∧ ∃ g, g < 2 * nb ∧ y = nI g) ∧ v = some (.int (zB t))) ∧ h' = hh I J R) := by
  have gr := g_range (y := y) hC.2.1
  have gc : (2 : Int32) * I 2 3 = nI (2 * nb) := by rw [hC.1]; exact pk_mul 2 nb
  refine y_loc (pc' := 1) xD_66 rfl rfl rfl rfl ?_
  refine m_getZ (pc' := 4) xD_66 rfl rfl rfl (by first | rfl | assumption) (s1) rfl ?_
  refine y_ifeq (pt := 26) (pf := 7) xD_66 rfl rfl rfl (fun h4 => ?_) (fun h4 => ?_)
  · skip
    refine y_ci (pc' := 27) (0) xD_66 rfl rfl rfl rfl ?_
    refine y_retZ xD_66 rfl rfl (by first | decide | assumption) ?_
    exact ⟨⟨false, ⟨fun q => absurd q (by decide), fun q => by rw [q.1] at h4; exact absurd h4 (by decide)⟩, rfl⟩, rfl⟩
  · skip
    have hs : st = true := by rw [zB_f, Bool.not_eq_false] at h4; exact h4
    refine y_loc (pc' := 8) xD_66 rfl rfl rfl rfl ?_
    refine y_iflt (pt := 26) (pf := 11) xD_66 rfl rfl rfl (fun h8 => ?_) (fun h8 => ?_)
    · skip
      refine y_ci (pc' := 27) (0) xD_66 rfl rfl rfl rfl ?_
      refine y_retZ xD_66 rfl rfl (by first | decide | assumption) ?_
      exact ⟨⟨false, ⟨fun q => absurd q (by decide), fun q => absurd (gr.mpr q.2).1 (Int32.not_le.mpr h8)⟩, rfl⟩, rfl⟩
    · skip
      refine y_loc (pc' := 12) xD_66 rfl rfl rfl rfl ?_
      refine y_loc (pc' := 13) xD_66 rfl rfl rfl rfl ?_
      first | refine m_getR (pc' := 16) xD_66 rfl rfl rfl rfl (hR.1 _ _ _ rfl) rfl ?_ | refine m_getR (pc' := 16) xD_66 rfl rfl (by first | rfl | assumption) rfl (by assumption) rfl ?_
      refine y_callV xD_66 rfl rfl rfl rfl (by first | rfl | assumption) rfl rfl rfl rfl (s_goalCount) (fun v h' hq => ?_)
      obtain ⟨rfl, rfl⟩ := hq
      rw [gc]
      refine y_icge (pt := 26) (pf := 22) xD_66 rfl rfl rfl (fun h19 => ?_) (fun h19 => ?_)
      · skip
        refine y_ci (pc' := 27) (0) xD_66 rfl rfl rfl rfl ?_
        refine y_retZ xD_66 rfl rfl (by first | decide | assumption) ?_
        exact ⟨⟨false, ⟨fun q => absurd q (by decide), fun q => absurd (gr.mpr q.2).2 (Int32.not_lt.mpr h19)⟩, rfl⟩, rfl⟩
      · skip
        refine y_ci (pc' := 23) (1) xD_66 rfl rfl rfl rfl ?_
        refine y_goto (pc' := 27) xD_66 rfl rfl ?_
        refine y_retZ xD_66 rfl rfl (by first | decide | assumption) ?_
        exact ⟨⟨true, ⟨fun _ => ⟨hs, gr.mp ⟨Int32.not_lt.mp h8, Int32.not_le.mp h19⟩⟩, fun _ => rfl⟩, rfl⟩, rfl⟩
theorem s_goal (hM : MPg I P nb) (s2 : I 261 9 = zB st) : XP S d 103 0 (xent [.ref 261, .int y] 2) [] (hh I J R) (fun v h' => (∃ t : Bool, (t = true ↔ st = true ∧ ∃ g, g < 2 * nb ∧ y = nI g) ∧ v = some (.int (zB t))) ∧ h' = hh I J R) := by
  have gr := g_range (y := y) hM.1.2.1
  have e2 : (2 : Int32) * nI nb = nI (2 * nb) := pk_mul 2 nb
  refine y_loc (pc' := 1) xD_103 rfl rfl rfl rfl ?_
  refine m_getZ (pc' := 4) xD_103 rfl rfl rfl (by first | rfl | assumption) (s2) rfl ?_
  refine y_ifeq (pt := 25) (pf := 7) xD_103 rfl rfl rfl (fun h4 => ?_) (fun h4 => ?_)
  · skip
    refine y_ci (pc' := 26) (0) xD_103 rfl rfl rfl rfl ?_
    refine y_retZ xD_103 rfl rfl (by first | decide | assumption) ?_
    exact ⟨⟨false, ⟨fun q => absurd q (by decide), fun q => by rw [q.1] at h4; exact absurd h4 (by decide)⟩, rfl⟩, rfl⟩
  · skip
    have hs : st = true := by rw [zB_f, Bool.not_eq_false] at h4; exact h4
    refine y_loc (pc' := 8) xD_103 rfl rfl rfl rfl ?_
    refine y_iflt (pt := 25) (pf := 11) xD_103 rfl rfl rfl (fun h8 => ?_) (fun h8 => ?_)
    · skip
      refine y_ci (pc' := 26) (0) xD_103 rfl rfl rfl rfl ?_
      refine y_retZ xD_103 rfl rfl (by first | decide | assumption) ?_
      exact ⟨⟨false, ⟨fun q => absurd q (by decide), fun q => absurd (gr.mpr q.2).1 (Int32.not_le.mpr h8)⟩, rfl⟩, rfl⟩
    · skip
      refine y_loc (pc' := 12) xD_103 rfl rfl rfl rfl ?_
      refine y_ci (pc' := 13) (2) xD_103 rfl rfl rfl rfl ?_
      refine y_loc (pc' := 14) xD_103 rfl rfl rfl rfl ?_
      refine m_getI (pc' := 17) xD_103 rfl rfl rfl (by first | rfl | assumption) (hM.1.1) rfl ?_
      refine y_imul (pc' := 18) xD_103 rfl (e2) rfl ?_
      refine y_icge (pt := 25) (pf := 21) xD_103 rfl rfl rfl (fun h18 => ?_) (fun h18 => ?_)
      · skip
        refine y_ci (pc' := 26) (0) xD_103 rfl rfl rfl rfl ?_
        refine y_retZ xD_103 rfl rfl (by first | decide | assumption) ?_
        exact ⟨⟨false, ⟨fun q => absurd q (by decide), fun q => absurd (gr.mpr q.2).2 (Int32.not_lt.mpr h18)⟩, rfl⟩, rfl⟩
      · skip
        refine y_ci (pc' := 22) (1) xD_103 rfl rfl rfl rfl ?_
        refine y_goto (pc' := 26) xD_103 rfl rfl ?_
        refine y_retZ xD_103 rfl rfl (by first | decide | assumption) ?_
        exact ⟨⟨true, ⟨fun _ => ⟨hs, gr.mp ⟨Int32.not_lt.mp h8, Int32.not_le.mp h18⟩⟩, fun _ => rfl⟩, rfl⟩, rfl⟩
theorem p_depends (h : Inv I J R) : PrI S (d + 2) 65 3 [.int x, .int y] 102 3 [.int x, .int y] I J R := by
  obtain ⟨st, P, nb, A, np, pop, ar, B, ns, su, lt, wr, cc, hi⟩ := id h
  obtain ⟨hR, h2, h3, h4, h5, h6, h7, h8, h9, h10, h11, h12, h13, h14⟩ := hi
  have nb2 := h5.1.2.1
  have e16 : I 16 = P 269 := h5.1.2.2.2.2
  have e69 : I 269 = P 269 := h5.2.2.2.2.2.2
  -- the model's answer
  have mdl : ∀ r : Int32, ((¬ ((st = true ∧ ∃ g, g < 2 * nb ∧ x = nI g) ∧ (st = true ∧ ∃ g, g < 2 * nb ∧ y = nI g)) ∧ r = 0) ∨ ∃ g k, g < 2 * nb ∧ k < 2 * nb ∧ st = true ∧ x = nI g ∧ y = nI k ∧ r = zB (ib (P 269 (g / 2)) k)) → XP S (d + 2) 102 0 (xent [.ref 261, .int x, .int y] 3) [] (hh I J R) (fun v2 h2 => v2 = some (.int r) ∧ ∃ I2 J2 R2, h2 = hh I2 J2 R2 ∧ Inv I2 J2 R2) := by
    intro r hr
    have no : ¬ ((st = true ∧ ∃ g, g < 2 * nb ∧ x = nI g) ∧ (st = true ∧ ∃ g, g < 2 * nb ∧ y = nI g)) → r = 0 := fun q => hr.elim (fun t => t.2) (fun ⟨g, k, a, b, c, e, f, _⟩ => absurd ⟨⟨c, g, a, e⟩, c, k, b, f⟩ q)
    refine y_loc (pc' := 1) xD_102 rfl rfl rfl rfl ?_
    refine y_loc (pc' := 2) xD_102 rfl rfl rfl rfl ?_
    refine y_callV xD_102 rfl rfl rfl rfl (by first | rfl | assumption) rfl rfl rfl rfl (s_goal (d := d + 1) (y := x) h5.2 h4.2) (fun v h' hq => ?_)
    obtain ⟨⟨t1, k1, rfl⟩, rfl⟩ := hq
    refine y_ifeq (pt := 36) (pf := 8) xD_102 rfl rfl rfl (fun h5' => ?_) (fun h5' => ?_)
    · skip
      refine y_ci (pc' := 37) (0) xD_102 rfl rfl rfl rfl ?_
      refine y_retZ xD_102 rfl rfl (by first | decide | assumption) ?_
      rw [no (fun q => by have := k1.mpr q.1; rw [zB_f.mp h5'] at this; exact absurd this (by decide))]
      exact ⟨rfl, I, J, R, rfl, h⟩
    · skip
      refine y_loc (pc' := 9) xD_102 rfl rfl rfl rfl ?_
      refine y_loc (pc' := 10) xD_102 rfl rfl rfl rfl ?_
      refine y_callV xD_102 rfl rfl rfl rfl (by first | rfl | assumption) rfl rfl rfl rfl (s_goal (d := d + 1) (y := y) h5.2 h4.2) (fun v h' hq => ?_)
      obtain ⟨⟨t2, k2, rfl⟩, rfl⟩ := hq
      refine y_ifeq (pt := 36) (pf := 16) xD_102 rfl rfl rfl (fun h13' => ?_) (fun h13' => ?_)
      · skip
        refine y_ci (pc' := 37) (0) xD_102 rfl rfl rfl rfl ?_
        refine y_retZ xD_102 rfl rfl (by first | decide | assumption) ?_
        rw [no (fun q => by have := k2.mpr q.2; rw [zB_f.mp h13'] at this; exact absurd this (by decide))]
        exact ⟨rfl, I, J, R, rfl, h⟩
      · skip
        have y1 := k1.mp (by rw [zB_f, Bool.not_eq_false] at h5'; exact h5')
        have y2 := k2.mp (by rw [zB_f, Bool.not_eq_false] at h13'; exact h13')
        rcases hr with ⟨n, -⟩ | ⟨g, k, hg, hk, -, ex, ey, er⟩
        · exact absurd ⟨y1, y2⟩ n
        · have ed : x / 2 = nI (g / 2) := by rw [ex]; exact pk_div (d := 2) (by omega) (by decide) (by decide)
          have b1 := bit1 (g := k) (by omega) (P 269 (g / 2))
          refine y_loc (pc' := 17) xD_102 rfl rfl rfl rfl ?_
          first | refine m_getR (pc' := 20) xD_102 rfl rfl rfl rfl (hR.1 _ _ _ rfl) rfl ?_ | refine m_getR (pc' := 20) xD_102 rfl rfl (by first | rfl | assumption) rfl (by assumption) rfl ?_
          refine y_loc (pc' := 21) xD_102 rfl rfl rfl rfl ?_
          refine y_ci (pc' := 22) (2) xD_102 rfl rfl rfl rfl ?_
          refine y_op (pc' := 23) xD_102 rfl rfl rfl rfl ?_
          refine m_iald (pc' := 24) ((g / 2)) xD_102 rfl (by first | rfl | assumption) (by first | assumption | omega) (by first | decide | assumption) (by first | decide | omega) ed rfl ?_
          rw [e69]
          refine y_loc (pc' := 25) xD_102 rfl rfl rfl rfl ?_
          rw [ey]
          refine y_op (pc' := 26) xD_102 rfl rfl rfl rfl ?_
          refine y_ci (pc' := 27) (1) xD_102 rfl rfl rfl rfl ?_
          refine y_op (pc' := 28) xD_102 rfl rfl rfl rfl ?_
          refine y_ci (pc' := 29) (1) xD_102 rfl rfl rfl rfl ?_
          refine y_icne (pt := 36) (pf := 32) xD_102 rfl rfl rfl (fun h29 => ?_) (fun h29 => ?_)
          · skip
            refine y_ci (pc' := 37) (0) xD_102 rfl rfl rfl rfl ?_
            refine y_retZ xD_102 rfl rfl (by first | decide | assumption) ?_
            rw [er, show ib (P 269 (g / 2)) k = false from Bool.not_eq_true _ ▸ (fun q => h29 (b1.mpr q))]
            exact ⟨rfl, I, J, R, rfl, h⟩
          · skip
            refine y_ci (pc' := 33) (1) xD_102 rfl rfl rfl rfl ?_
            refine y_goto (pc' := 37) xD_102 rfl rfl ?_
            refine y_retZ xD_102 rfl rfl (by first | decide | assumption) ?_
            rw [er, b1.mp h29]
            exact ⟨rfl, I, J, R, rfl, h⟩
  unfold PrI
  refine y_loc (pc' := 1) xD_65 rfl rfl rfl rfl ?_
  refine y_loc (pc' := 2) xD_65 rfl rfl rfl rfl ?_
  refine y_callV xD_65 rfl rfl rfl rfl (by first | rfl | assumption) rfl rfl rfl rfl (s_isGoal (d := d) (y := x) hR h5.1 h4.1) (fun v h' hq => ?_)
  obtain ⟨⟨t1, k1, rfl⟩, rfl⟩ := hq
  refine y_ifeq (pt := 38) (pf := 8) xD_65 rfl rfl rfl (fun h5' => ?_) (fun h5' => ?_)
  · skip
    refine y_ci (pc' := 39) (0) xD_65 rfl rfl rfl rfl ?_
    refine y_retZ xD_65 rfl rfl (by first | decide | assumption) ?_
    exact ⟨⟨_, rfl⟩, I, J, R, rfl, mdl 0 (Or.inl ⟨fun q => by have := k1.mpr q.1; rw [zB_f.mp h5'] at this; exact absurd this (by decide), rfl⟩)⟩
  · skip
    refine y_loc (pc' := 9) xD_65 rfl rfl rfl rfl ?_
    refine y_loc (pc' := 10) xD_65 rfl rfl rfl rfl ?_
    refine y_callV xD_65 rfl rfl rfl rfl (by first | rfl | assumption) rfl rfl rfl rfl (s_isGoal (d := d) (y := y) hR h5.1 h4.1) (fun v h' hq => ?_)
    obtain ⟨⟨t2, k2, rfl⟩, rfl⟩ := hq
    refine y_ifeq (pt := 38) (pf := 16) xD_65 rfl rfl rfl (fun h13' => ?_) (fun h13' => ?_)
    · skip
      refine y_ci (pc' := 39) (0) xD_65 rfl rfl rfl rfl ?_
      refine y_retZ xD_65 rfl rfl (by first | decide | assumption) ?_
      exact ⟨⟨_, rfl⟩, I, J, R, rfl, mdl 0 (Or.inl ⟨fun q => by have := k2.mpr q.2; rw [zB_f.mp h13'] at this; exact absurd this (by decide), rfl⟩)⟩
    · skip
      obtain ⟨hs, g, hg, ex⟩ := k1.mp (by rw [zB_f, Bool.not_eq_false] at h5'; exact h5')
      obtain ⟨-, k, hk, ey⟩ := k2.mp (by rw [zB_f, Bool.not_eq_false] at h13'; exact h13')
      have ed : x / 2 = nI (g / 2) := by rw [ex]; exact pk_div (d := 2) (by omega) (by decide) (by decide)
      have b0 := bit0 (g := k) (by omega) (P 269 (g / 2))
      refine y_loc (pc' := 17) xD_65 rfl rfl rfl rfl ?_
      first | refine m_getR (pc' := 20) xD_65 rfl rfl rfl rfl (hR.1 _ _ _ rfl) rfl ?_ | refine m_getR (pc' := 20) xD_65 rfl rfl (by first | rfl | assumption) rfl (by assumption) rfl ?_
      first | refine m_getR (pc' := 23) xD_65 rfl rfl rfl rfl (hR.1 _ _ _ rfl) rfl ?_ | refine m_getR (pc' := 23) xD_65 rfl rfl (by first | rfl | assumption) rfl (by assumption) rfl ?_
      refine y_loc (pc' := 24) xD_65 rfl rfl rfl rfl ?_
      refine y_ci (pc' := 25) (2) xD_65 rfl rfl rfl rfl ?_
      refine y_op (pc' := 26) xD_65 rfl rfl rfl rfl ?_
      refine m_iald (pc' := 27) ((g / 2)) xD_65 rfl (by first | rfl | assumption) (by first | assumption | omega) (by first | decide | assumption) (by first | decide | omega) ed rfl ?_
      rw [e16]
      refine y_loc (pc' := 28) xD_65 rfl rfl rfl rfl ?_
      refine y_callS xD_65 rfl rfl rfl rfl rfl rfl rfl rfl (s_hasGoal) (fun v h' hq => ?_)
      obtain ⟨rfl, rfl⟩ := hq
      rw [ey]
      refine y_ifeq (pt := 38) (pf := 34) xD_65 rfl rfl rfl (fun h31 => ?_) (fun h31 => ?_)
      · skip
        refine y_ci (pc' := 39) (0) xD_65 rfl rfl rfl rfl ?_
        refine y_retZ xD_65 rfl rfl (by first | decide | assumption) ?_
        refine ⟨⟨_, rfl⟩, I, J, R, rfl, ?_⟩
        rw [← ey]
        exact mdl 0 (Or.inr ⟨g, k, hg, hk, hs, ex, ey, by rw [b0.mp (Classical.not_not.mp (zB_0.mp h31))]; rfl⟩)
      · skip
        refine y_ci (pc' := 35) (1) xD_65 rfl rfl rfl rfl ?_
        refine y_goto (pc' := 39) xD_65 rfl rfl ?_
        refine y_retZ xD_65 rfl rfl (by first | decide | assumption) ?_
        refine ⟨⟨_, rfl⟩, I, J, R, rfl, ?_⟩
        rw [← ey]
        exact mdl 1 (Or.inr ⟨g, k, hg, hk, hs, ex, ey, by have q := zB_n0.mp h31; rw [b0, Bool.not_eq_false] at q; rw [q]; rfl⟩)
theorem p_fitness (h : Inv I J R) : PrJ S (d + 6) 93 4 [.int x, .int y] 156 4 [.int x, .int y] I J R := by
  obtain ⟨st, P, nb, SLx, ms, hR, nb2, hM, hC, s1, s2, cn, sl, un⟩ := inv_look (S := S) (x := x) h
  unfold PrJ
  refine y_loc (pc' := 1) xD_93 rfl rfl rfl rfl ?_
  refine y_loc (pc' := 2) xD_93 rfl rfl rfl rfl ?_
  refine y_callV xD_93 rfl rfl rfl rfl (by first | rfl | assumption) rfl rfl rfl rfl (cn (d + 4)) (fun v h' hq => ?_)
  obtain ⟨rfl, hv⟩ := hq
  rcases hv with ⟨rfl, no⟩ | ⟨a, c, s, rfl, ca, xx, w, z0, rm, s57, hs⟩
  · skip
    refine y_loc (pc' := 6) xD_93 rfl rfl rfl rfl ?_
    refine y_loc (pc' := 7) xD_93 rfl rfl rfl rfl ?_
    refine y_jmp (pc' := 18) xD_93 rfl (rfl) ?_
    refine y_ldc (pc' := 21) xD_93 rfl rfl rfl rfl ?_
    refine y_goto (pc' := 30) xD_93 rfl rfl ?_
    refine y_retJ xD_93 rfl rfl ?_
    refine ⟨⟨_, rfl⟩, I, J, R, rfl, ?_⟩
    refine y_loc (pc' := 1) xD_156 rfl rfl rfl rfl ?_
    refine y_loc (pc' := 2) xD_156 rfl rfl rfl rfl ?_
    refine y_callV xD_156 rfl rfl rfl rfl (by first | rfl | assumption) rfl rfl rfl rfl (sl (d + 4)) (fun v h' hq => ?_)
    obtain ⟨rfl, hv⟩ := hq
    rcases hv with ⟨rfl, -⟩ | ⟨s, rfl, -, hs⟩
    · skip
      refine y_loc (pc' := 6) xD_156 rfl rfl rfl rfl ?_
      refine y_loc (pc' := 7) xD_156 rfl rfl rfl rfl ?_
      refine y_iflt (pt := 18) (pf := 10) xD_156 rfl rfl rfl (fun h7 => ?_) (fun h7 => ?_)
      · skip
        refine y_ldc (pc' := 21) xD_156 rfl rfl rfl rfl ?_
        refine y_retJ xD_156 rfl rfl ?_
        exact ⟨rfl, I, J, R, rfl, h⟩
      · exact absurd (show (-1 : Int32) < 0 by decide) h7
    · exact absurd hs (no s)
  · obtain ⟨ka, -, -, ka3⟩ := kCase ca
    have ra := (hR.2 a ca).2.2
    have mdl : ∀ r : Int64, ((¬ (st = true ∧ ∃ g, g < 2 * nb ∧ y = nI g) ∧ r = -1) ∨ ∃ g, g < 2 * nb ∧ st = true ∧ y = nI g ∧ r = kF P nb c g) → XP S (d + 6) 156 0 (xent [.ref 261, .int x, .int y] 4) [] (hh I J R) (fun v2 h2 => v2 = some (.long r) ∧ ∃ I2 J2 R2, h2 = hh I2 J2 R2 ∧ Inv I2 J2 R2) := by
      intro r hr
      refine y_loc (pc' := 1) xD_156 rfl rfl rfl rfl ?_
      refine y_loc (pc' := 2) xD_156 rfl rfl rfl rfl ?_
      refine y_callV xD_156 rfl rfl rfl rfl (by first | rfl | assumption) rfl rfl rfl rfl (sl (d + 4)) (fun v h' hq => ?_)
      obtain ⟨rfl, hv⟩ := hq
      rcases hv with ⟨rfl, no⟩ | ⟨s', rfl, -, hs'⟩
      · exact absurd hs (no s)
      · have e := un s' s hs' hs
        subst e
        refine y_loc (pc' := 6) xD_156 rfl rfl rfl rfl ?_
        refine y_loc (pc' := 7) xD_156 rfl rfl rfl rfl ?_
        refine y_iflt (pt := 18) (pf := 10) xD_156 rfl rfl rfl (fun h7 => ?_) (fun h7 => ?_)
        · exact absurd h7 (nI_pos (by omega))
        · skip
          refine y_loc (pc' := 11) xD_156 rfl rfl rfl rfl ?_
          refine y_loc (pc' := 12) xD_156 rfl rfl rfl rfl ?_
          refine y_callV xD_156 rfl rfl rfl rfl (by first | rfl | assumption) rfl rfl rfl rfl (s_goal (d := d + 5) (y := y) hM s2) (fun v h' hq => ?_)
          obtain ⟨⟨t1, k1, rfl⟩, rfl⟩ := hq
          refine y_ifne (pt := 22) (pf := 18) xD_156 rfl rfl rfl (fun h15 => ?_) (fun h15 => ?_)
          · skip
            have y1 := k1.mp (by rw [zB_f, Bool.not_eq_false] at h15; exact h15)
            rcases hr with ⟨n, -⟩ | ⟨g, hg, -, ey, er⟩
            · exact absurd y1 n
            · refine y_loc (pc' := 23) xD_156 rfl rfl rfl rfl ?_
              refine y_loc (pc' := 24) xD_156 rfl rfl rfl rfl ?_
              refine y_callV xD_156 rfl rfl rfl rfl (by first | rfl | assumption) rfl rfl rfl rfl (s_kperform (d := d) hR (by omega) hM w rm rfl) (fun v h' hq => ?_)
              obtain ⟨rfl, vv, N, res, rfl, n1, n2⟩ := hq
              refine y_loc (pc' := 28) xD_156 rfl rfl rfl rfl ?_
              refine y_loc (pc' := 29) xD_156 rfl rfl rfl rfl ?_
              refine y_callV xD_156 rfl rfl rfl rfl (by first | rfl | assumption) rfl rfl rfl rfl (s_level (d := d + 5) (I := xrow I 271 vv) (J := xrow (xrow J 273 N) 272 res) (nb := nb) hR (by rw [xrow_ne (by decide)]; exact hM.1.1) nb2 g (by omega) ey) (fun v h' hq => ?_)
              obtain ⟨rfl, rfl⟩ := hq
              rw [xrow_ne (show (273 : Nat) ≠ 272 by decide), xrow_at, xrow_ne (show (269 : Nat) ≠ 271 by decide), hM.2.2.2.2.2, q_level_c nb2 (by omega) n1]
              refine y_retJ xD_156 rfl rfl ?_
              exact ⟨by rw [er]; rfl, _, _, R, rfl, ms _ _ ⟨fun x h => xrow_ne h, fun x h1 h2 => (xrow_ne h1).trans (xrow_ne h2)⟩⟩
          · skip
            refine y_ldc (pc' := 21) xD_156 rfl rfl rfl rfl ?_
            refine y_retJ xD_156 rfl rfl ?_
            rcases hr with ⟨-, rfl⟩ | ⟨g, hg, q, ey, er⟩
            · exact ⟨rfl, I, J, R, rfl, h⟩
            · have := k1.mpr ⟨q, g, hg, ey⟩
              rw [zB_f.mp h15] at this
              exact absurd this (by decide)
    refine y_loc (pc' := 6) xD_93 rfl rfl rfl rfl ?_
    refine y_loc (pc' := 7) xD_93 rfl rfl rfl rfl ?_
    refine y_jmp (pc' := 10) xD_93 rfl (rfl) ?_
    refine y_loc (pc' := 11) xD_93 rfl rfl rfl rfl ?_
    refine y_loc (pc' := 12) xD_93 rfl rfl rfl rfl ?_
    refine y_callV xD_93 rfl rfl rfl rfl (by first | rfl | assumption) rfl rfl rfl rfl (s_isGoal (d := d + 4) (y := y) hR hC s1) (fun v h' hq => ?_)
    obtain ⟨⟨t1, k1, rfl⟩, rfl⟩ := hq
    refine y_ifne (pt := 24) (pf := 18) xD_93 rfl rfl rfl (fun h15 => ?_) (fun h15 => ?_)
    · skip
      obtain ⟨q, g, hg, ey⟩ := k1.mp (by rw [zB_f, Bool.not_eq_false] at h15; exact h15)
      have ex := xx.2.2.2 g hg
      refine y_loc (pc' := 25) xD_93 rfl rfl rfl rfl ?_
      first | refine m_getR (pc' := 28) xD_93 rfl rfl rfl rfl (hR.1 _ _ _ rfl) rfl ?_ | refine m_getR (pc' := 28) xD_93 rfl rfl (by first | rfl | assumption) rfl (by assumption) rfl ?_
      refine y_loc (pc' := 29) xD_93 rfl rfl rfl rfl ?_
      refine m_jald (pc' := 30) (g) xD_93 rfl (by first | rfl | assumption) (by omega) (by first | decide | assumption) ey rfl ?_
      rw [ex]
      refine y_retJ xD_93 rfl rfl ?_
      exact ⟨⟨_, rfl⟩, I, J, R, rfl, mdl _ (Or.inr ⟨g, hg, q, ey, rfl⟩)⟩
    · skip
      refine y_ldc (pc' := 21) xD_93 rfl rfl rfl rfl ?_
      refine y_goto (pc' := 30) xD_93 rfl rfl ?_
      refine y_retJ xD_93 rfl rfl ?_
      exact ⟨⟨_, rfl⟩, I, J, R, rfl, mdl _ (Or.inl ⟨fun q => by have := k1.mpr q; rw [zB_f.mp h15] at this; exact absurd this (by decide), rfl⟩)⟩
theorem p_result (h : Inv I J R) : PrJ S (d + 6) 94 4 [.int x, .int y] 157 4 [.int x, .int y] I J R := by
  obtain ⟨st, P, nb, SLx, ms, hR, nb2, hM, hC, s1, s2, cn, sl, un⟩ := inv_look (S := S) (x := x) h
  unfold PrJ
  refine y_loc (pc' := 1) xD_94 rfl rfl rfl rfl ?_
  refine y_loc (pc' := 2) xD_94 rfl rfl rfl rfl ?_
  refine y_callV xD_94 rfl rfl rfl rfl (by first | rfl | assumption) rfl rfl rfl rfl (cn (d + 4)) (fun v h' hq => ?_)
  obtain ⟨rfl, hv⟩ := hq
  rcases hv with ⟨rfl, no⟩ | ⟨a, c, s, rfl, ca, xx, w, z0, rm, s57, hs⟩
  · skip
    refine y_loc (pc' := 6) xD_94 rfl rfl rfl rfl ?_
    refine y_loc (pc' := 7) xD_94 rfl rfl rfl rfl ?_
    refine y_jmp (pc' := 18) xD_94 rfl (rfl) ?_
    refine y_ldc (pc' := 21) xD_94 rfl rfl rfl rfl ?_
    refine y_goto (pc' := 30) xD_94 rfl rfl ?_
    refine y_retJ xD_94 rfl rfl ?_
    refine ⟨⟨_, rfl⟩, I, J, R, rfl, ?_⟩
    refine y_loc (pc' := 1) xD_157 rfl rfl rfl rfl ?_
    refine y_loc (pc' := 2) xD_157 rfl rfl rfl rfl ?_
    refine y_callV xD_157 rfl rfl rfl rfl (by first | rfl | assumption) rfl rfl rfl rfl (sl (d + 4)) (fun v h' hq => ?_)
    obtain ⟨rfl, hv⟩ := hq
    rcases hv with ⟨rfl, -⟩ | ⟨s, rfl, -, hs⟩
    · skip
      refine y_loc (pc' := 6) xD_157 rfl rfl rfl rfl ?_
      refine y_loc (pc' := 7) xD_157 rfl rfl rfl rfl ?_
      refine y_iflt (pt := 26) (pf := 10) xD_157 rfl rfl rfl (fun h7 => ?_) (fun h7 => ?_)
      · skip
        refine y_ldc (pc' := 29) xD_157 rfl rfl rfl rfl ?_
        refine y_retJ xD_157 rfl rfl ?_
        exact ⟨rfl, I, J, R, rfl, h⟩
      · exact absurd (show (-1 : Int32) < 0 by decide) h7
    · exact absurd hs (no s)
  · obtain ⟨ka, -, ka2, -⟩ := kCase ca
    have ra := (hR.2 a ca).2.1
    have c6 := w.1
    have hw := hs_within (y := y) c6 z0
    have mdl : ∀ r : Int64, ((¬ (0 ≤ y ∧ y < nI c.1) ∧ r = 4294967300) ∨ ∃ j, j < c.1 ∧ y = nI j ∧ r = kR P nb c j) → XP S (d + 6) 157 0 (xent [.ref 261, .int x, .int y] 4) [] (hh I J R) (fun v2 h2 => v2 = some (.long r) ∧ ∃ I2 J2 R2, h2 = hh I2 J2 R2 ∧ Inv I2 J2 R2) := by
      intro r hr
      refine y_loc (pc' := 1) xD_157 rfl rfl rfl rfl ?_
      refine y_loc (pc' := 2) xD_157 rfl rfl rfl rfl ?_
      refine y_callV xD_157 rfl rfl rfl rfl (by first | rfl | assumption) rfl rfl rfl rfl (sl (d + 4)) (fun v h' hq => ?_)
      obtain ⟨rfl, hv⟩ := hq
      rcases hv with ⟨rfl, no⟩ | ⟨s', rfl, -, hs'⟩
      · exact absurd hs (no s)
      · have e := un s' s hs' hs
        subst e
        refine y_loc (pc' := 6) xD_157 rfl rfl rfl rfl ?_
        refine y_loc (pc' := 7) xD_157 rfl rfl rfl rfl ?_
        refine y_iflt (pt := 26) (pf := 10) xD_157 rfl rfl rfl (fun h7 => ?_) (fun h7 => ?_)
        · exact absurd h7 (nI_pos (by omega))
        · skip
          refine y_loc (pc' := 11) xD_157 rfl rfl rfl rfl ?_
          refine y_ci (pc' := 12) (0) xD_157 rfl rfl rfl rfl ?_
          refine y_loc (pc' := 13) xD_157 rfl rfl rfl rfl ?_
          first | refine m_getR (pc' := 16) xD_157 rfl rfl rfl rfl (hR.1 _ _ _ rfl) rfl ?_ | refine m_getR (pc' := 16) xD_157 rfl rfl (by first | rfl | assumption) rfl (by assumption) rfl ?_
          refine y_loc (pc' := 17) xD_157 rfl rfl rfl rfl ?_
          refine m_iald (pc' := 18) (s') xD_157 rfl (by first | rfl | assumption) (by first | assumption | omega) (by first | decide | assumption) (by first | decide | omega) (by first | rfl | assumption) rfl ?_
          rw [rm.1]
          refine y_ci (pc' := 19) (1) xD_157 rfl rfl rfl rfl ?_
          refine y_op (pc' := 20) xD_157 rfl rfl rfl rfl ?_
          refine y_callS xD_157 rfl rfl rfl rfl rfl rfl rfl rfl (s_within) (fun v h' hq => ?_)
          obtain ⟨rfl, rfl⟩ := hq
          refine y_ifne (pt := 30) (pf := 26) xD_157 rfl rfl rfl (fun h23 => ?_) (fun h23 => ?_)
          · skip
            have y1 := hw.mp (zB_n0.mp h23)
            rcases hr with ⟨n, -⟩ | ⟨j, hj, ey, er⟩
            · exact absurd y1 n
            · refine y_loc (pc' := 31) xD_157 rfl rfl rfl rfl ?_
              refine y_loc (pc' := 32) xD_157 rfl rfl rfl rfl ?_
              refine y_callV xD_157 rfl rfl rfl rfl (by first | rfl | assumption) rfl rfl rfl rfl (s_kperform (d := d) hR (by omega) hM w rm rfl) (fun v h' hq => ?_)
              obtain ⟨rfl, vv, N, res, rfl, n1, n2⟩ := hq
              refine y_loc (pc' := 36) xD_157 rfl rfl rfl rfl ?_
              first | refine m_getR (pc' := 39) xD_157 rfl rfl rfl rfl (hR.1 _ _ _ rfl) rfl ?_ | refine m_getR (pc' := 39) xD_157 rfl rfl (by first | rfl | assumption) rfl (by assumption) rfl ?_
              refine y_loc (pc' := 40) xD_157 rfl rfl rfl rfl ?_
              refine m_jald (pc' := 41) (j) xD_157 rfl (by first | rfl | assumption) (by omega) (by first | decide | assumption) ey rfl ?_
              rw [xrow_at, n2 j hj]
              refine y_retJ xD_157 rfl rfl ?_
              exact ⟨by rw [er], _, _, R, rfl, ms _ _ ⟨fun x h => xrow_ne h, fun x h1 h2 => (xrow_ne h1).trans (xrow_ne h2)⟩⟩
          · skip
            refine y_ldc (pc' := 29) xD_157 rfl rfl rfl rfl ?_
            refine y_retJ xD_157 rfl rfl ?_
            rcases hr with ⟨-, rfl⟩ | ⟨j, hj, ey, er⟩
            · exact ⟨rfl, I, J, R, rfl, h⟩
            · exact absurd (hw.mpr (by rw [ey]; exact ⟨nI_pos' (by omega), nI_lt hj (by omega)⟩)) (zB_0.mp h23)
    have hst := s_hasStep (S := S) (d := d + 5) (I := I) (J := J) (R := R) (a := a) ca (x := y)
    rw [xx.1.1] at hst
    refine y_loc (pc' := 6) xD_94 rfl rfl rfl rfl ?_
    refine y_loc (pc' := 7) xD_94 rfl rfl rfl rfl ?_
    refine y_jmp (pc' := 10) xD_94 rfl (rfl) ?_
    refine y_loc (pc' := 11) xD_94 rfl rfl rfl rfl ?_
    refine y_loc (pc' := 12) xD_94 rfl rfl rfl rfl ?_
    refine y_callV xD_94 rfl rfl rfl rfl (by first | rfl | assumption) rfl rfl rfl rfl (hst) (fun v h' hq => ?_)
    obtain ⟨rfl, rfl⟩ := hq
    refine y_ifne (pt := 24) (pf := 18) xD_94 rfl rfl rfl (fun h15 => ?_) (fun h15 => ?_)
    · skip
      obtain ⟨j, -, hj, ey⟩ := i32_range (a := 0) (b := c.1) (by omega) (zB_n0.mp h15).1 (zB_n0.mp h15).2 (by decide)
      have ex := xx.2.2.1 j hj
      refine y_loc (pc' := 25) xD_94 rfl rfl rfl rfl ?_
      first | refine m_getR (pc' := 28) xD_94 rfl rfl rfl rfl (hR.1 _ _ _ rfl) rfl ?_ | refine m_getR (pc' := 28) xD_94 rfl rfl (by first | rfl | assumption) rfl (by assumption) rfl ?_
      refine y_loc (pc' := 29) xD_94 rfl rfl rfl rfl ?_
      refine m_jald (pc' := 30) (j) xD_94 rfl (by first | rfl | assumption) (by omega) (by first | decide | assumption) ey rfl ?_
      rw [ex]
      refine y_retJ xD_94 rfl rfl ?_
      exact ⟨⟨_, rfl⟩, I, J, R, rfl, mdl _ (Or.inr ⟨j, hj, ey, rfl⟩)⟩
    · skip
      refine y_ldc (pc' := 21) xD_94 rfl rfl rfl rfl ?_
      refine y_goto (pc' := 30) xD_94 rfl rfl ?_
      refine y_retJ xD_94 rfl rfl ?_
      exact ⟨⟨_, rfl⟩, I, J, R, rfl, mdl _ (Or.inl ⟨zB_0.mp h15, rfl⟩)⟩
end GD

