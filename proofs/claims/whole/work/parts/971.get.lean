/-! The calls that inv_look at cases. -/
section GC
variable {S : XS} {d : Nat} {I : Nat → Nat → Int32} {J : Nat → Nat → Int64} {R : Nat → Nat → Option Nat} {x y z : Int32}
/-- what caseNamed and slot find -/
theorem inv_look (h : Inv I J R) : ∃ (st : Bool) (P : Nat → Nat → Int32) (nb : Nat) (SLx : Nat → Prop), (∀ I' J', MS1 I I' J J' → Inv I' J' R) ∧ RF R ∧ nb ≤ 12 ∧ MPg I P nb ∧ CPg I P nb ∧ I 1 8 = zB st ∧ I 261 9 = zB st ∧ (∀ d, XP S (d + 1) 89 0 (xent [.ref 1, .int x] 3) [] (hh I J R) (fun v h' => h' = hh I J R ∧ ((v = some .null ∧ ∀ s, ¬ SLx s) ∨ ∃ a c s, v = some (.ref a) ∧ isCase a ∧ RX I J P nb a c ∧ WC c ∧ 0 < c.1 ∧ RM I s c ∧ s < 57 ∧ SLx s))) ∧ (∀ d, XP S (d + 1) 153 0 (xent [.ref 261, .int x] 2) [] (hh I J R) (fun v h' => h' = hh I J R ∧ ((v = some (.int (-1)) ∧ ∀ s, ¬ SLx s) ∨ ∃ s, v = some (.int (nI s)) ∧ s < 57 ∧ SLx s))) ∧ ∀ s s', SLx s → SLx s' → s = s' := by
  obtain ⟨st, P, nb, A, np, pop, ar, B, ns, su, lt, wr, cc, hi⟩ := h
  obtain ⟨h1, h2, h3, h4, h5, h6, h7, h8, h9, h10, h11, h12, h13, h14⟩ := id hi
  exact ⟨st, P, nb, SL np nb ns ar lt x, fun I' J' m => ⟨st, P, nb, A, np, pop, ar, B, ns, su, lt, wr, cc, hi.ms m⟩, h1, h5.1.2.1, h5.2, h5.1, h4.1, h4.2, fun d => s_caseNamed h1 h5.1.2.1 h10.1 h11.1 h11.2.2 h12.1 h13.1 h13.2.1 h13.2.2.2 (fun k hk => (h10.2.2.2 k hk).2.2) (fun g hg => (h11.2.1 g hg).2) (fun k hk => (h12.2.2.2 k hk).2) h13.2.2.1, fun d => s_slot h1 h5.2.1.1 h10.2.1 h12.2.1 h5.1.2.1 h10.2.2.1 h12.2.2.1 h13.1 (fun g hg => (h11.2.1 g hg).1) (fun g hg => (h11.2.1 g hg).2) h13.2.2.1, fun s s' a b => SL.uniq h10.2.2.1 h5.1.2.1 h12.2.2.1 a b⟩
theorem neg1 : ¬ (0 : Int32) ≤ -1 := by decide
theorem p_length (h : Inv I J R) : PrI S (d + 2) 88 3 [.int x] 152 3 [.int x] I J R := by
  obtain ⟨st, P, nb, SLx, ms, hR, nb2, hM, hC, s1, s2, cn, sl, un⟩ := inv_look (S := S) (x := x) h
  unfold PrI
  refine y_loc (pc' := 1) xD_88 rfl rfl rfl rfl ?_
  refine y_loc (pc' := 2) xD_88 rfl rfl rfl rfl ?_
  refine y_callV xD_88 rfl rfl rfl rfl (by first | rfl | assumption) rfl rfl rfl rfl (cn d) (fun v h' hq => ?_)
  obtain ⟨rfl, hv⟩ := hq
  rcases hv with ⟨rfl, no⟩ | ⟨a, c, s, rfl, ca, xx, w, z0, rm, s57, hs⟩
  · skip
    refine y_loc (pc' := 6) xD_88 rfl rfl rfl rfl ?_
    refine y_loc (pc' := 7) xD_88 rfl rfl rfl rfl ?_
    refine y_jmp (pc' := 10) xD_88 rfl (rfl) ?_
    refine y_ci (pc' := 11) (0) xD_88 rfl rfl rfl rfl ?_
    refine y_goto (pc' := 18) xD_88 rfl rfl ?_
    refine y_retI xD_88 rfl rfl ?_
    refine ⟨⟨_, rfl⟩, I, J, R, rfl, ?_⟩
    refine y_loc (pc' := 1) xD_152 rfl rfl rfl rfl ?_
    refine y_loc (pc' := 2) xD_152 rfl rfl rfl rfl ?_
    refine y_callV xD_152 rfl rfl rfl rfl (by first | rfl | assumption) rfl rfl rfl rfl (sl d) (fun v h' hq => ?_)
    obtain ⟨rfl, hv⟩ := hq
    rcases hv with ⟨rfl, -⟩ | ⟨s, rfl, -, hs⟩
    · skip
      refine y_loc (pc' := 6) xD_152 rfl rfl rfl rfl ?_
      refine y_loc (pc' := 7) xD_152 rfl rfl rfl rfl ?_
      refine y_ifge (pt := 14) (pf := 10) xD_152 rfl rfl rfl (fun h7 => ?_) (fun h7 => ?_)
      · exact absurd h7 neg1
      · skip
        refine y_ci (pc' := 11) (0) xD_152 rfl rfl rfl rfl ?_
        refine y_goto (pc' := 20) xD_152 rfl rfl ?_
        refine y_retI xD_152 rfl rfl ?_
        exact ⟨rfl, I, J, R, rfl, h⟩
    · exact absurd hs (no s)
  · have ka := (kCase ca).1
    refine y_loc (pc' := 6) xD_88 rfl rfl rfl rfl ?_
    refine y_loc (pc' := 7) xD_88 rfl rfl rfl rfl ?_
    refine y_jmp (pc' := 14) xD_88 rfl (rfl) ?_
    refine y_loc (pc' := 15) xD_88 rfl rfl rfl rfl ?_
    refine m_getI (pc' := 18) xD_88 rfl rfl rfl (by first | rfl | assumption) (xx.1.1) rfl ?_
    refine y_retI xD_88 rfl rfl ?_
    refine ⟨⟨_, rfl⟩, I, J, R, rfl, ?_⟩
    refine y_loc (pc' := 1) xD_152 rfl rfl rfl rfl ?_
    refine y_loc (pc' := 2) xD_152 rfl rfl rfl rfl ?_
    refine y_callV xD_152 rfl rfl rfl rfl (by first | rfl | assumption) rfl rfl rfl rfl (sl d) (fun v h' hq => ?_)
    obtain ⟨rfl, hv⟩ := hq
    rcases hv with ⟨rfl, no⟩ | ⟨s', rfl, -, hs'⟩
    · exact absurd hs (no s)
    · have e := un s' s hs' hs
      subst e
      refine y_loc (pc' := 6) xD_152 rfl rfl rfl rfl ?_
      refine y_loc (pc' := 7) xD_152 rfl rfl rfl rfl ?_
      refine y_ifge (pt := 14) (pf := 10) xD_152 rfl rfl rfl (fun h7 => ?_) (fun h7 => ?_)
      · skip
        refine y_loc (pc' := 15) xD_152 rfl rfl rfl rfl ?_
        first | refine m_getR (pc' := 18) xD_152 rfl rfl rfl rfl (hR.1 _ _ _ rfl) rfl ?_ | refine m_getR (pc' := 18) xD_152 rfl rfl (by first | rfl | assumption) rfl (by assumption) rfl ?_
        refine y_loc (pc' := 19) xD_152 rfl rfl rfl rfl ?_
        refine m_iald (pc' := 20) (s') xD_152 rfl (by first | rfl | assumption) (by first | assumption | omega) (by first | decide | assumption) (by first | decide | omega) (by first | rfl | assumption) rfl ?_
        rw [rm.1]
        refine y_retI xD_152 rfl rfl ?_
        exact ⟨rfl, I, J, R, rfl, h⟩
      · exact absurd (nI_pos' (by omega)) h7
theorem p_covers (h : Inv I J R) : PrI S (d + 7) 92 3 [.int x] 155 3 [.int x] I J R := by
  obtain ⟨st, P, nb, SLx, ms, hR, nb2, hM, hC, s1, s2, cn, sl, un⟩ := inv_look (S := S) (x := x) h
  unfold PrI
  refine y_loc (pc' := 1) xD_92 rfl rfl rfl rfl ?_
  refine y_loc (pc' := 2) xD_92 rfl rfl rfl rfl ?_
  refine y_callV xD_92 rfl rfl rfl rfl (by first | rfl | assumption) rfl rfl rfl rfl (cn (d + 5)) (fun v h' hq => ?_)
  obtain ⟨rfl, hv⟩ := hq
  rcases hv with ⟨rfl, no⟩ | ⟨a, c, s, rfl, ca, xx, w, z0, rm, s57, hs⟩
  · skip
    refine y_loc (pc' := 6) xD_92 rfl rfl rfl rfl ?_
    refine y_loc (pc' := 7) xD_92 rfl rfl rfl rfl ?_
    refine y_jmp (pc' := 10) xD_92 rfl (rfl) ?_
    refine y_ci (pc' := 11) (0) xD_92 rfl rfl rfl rfl ?_
    refine y_goto (pc' := 18) xD_92 rfl rfl ?_
    refine y_retI xD_92 rfl rfl ?_
    refine ⟨⟨_, rfl⟩, I, J, R, rfl, ?_⟩
    refine y_loc (pc' := 1) xD_155 rfl rfl rfl rfl ?_
    refine y_loc (pc' := 2) xD_155 rfl rfl rfl rfl ?_
    refine y_callV xD_155 rfl rfl rfl rfl (by first | rfl | assumption) rfl rfl rfl rfl (sl (d + 5)) (fun v h' hq => ?_)
    obtain ⟨rfl, hv⟩ := hq
    rcases hv with ⟨rfl, -⟩ | ⟨s, rfl, -, hs⟩
    · skip
      refine y_loc (pc' := 6) xD_155 rfl rfl rfl rfl ?_
      refine y_loc (pc' := 7) xD_155 rfl rfl rfl rfl ?_
      refine y_ifge (pt := 14) (pf := 10) xD_155 rfl rfl rfl (fun h7 => ?_) (fun h7 => ?_)
      · exact absurd h7 neg1
      · skip
        refine y_ci (pc' := 11) (0) xD_155 rfl rfl rfl rfl ?_
        refine y_goto (pc' := 19) xD_155 rfl rfl ?_
        refine y_retI xD_155 rfl rfl ?_
        exact ⟨rfl, I, J, R, rfl, h⟩
    · exact absurd hs (no s)
  · have ka := (kCase ca).1
    refine y_loc (pc' := 6) xD_92 rfl rfl rfl rfl ?_
    refine y_loc (pc' := 7) xD_92 rfl rfl rfl rfl ?_
    refine y_jmp (pc' := 14) xD_92 rfl (rfl) ?_
    refine y_loc (pc' := 15) xD_92 rfl rfl rfl rfl ?_
    refine m_getI (pc' := 18) xD_92 rfl rfl rfl (by first | rfl | assumption) (xx.2.1) rfl ?_
    refine y_retI xD_92 rfl rfl ?_
    refine ⟨⟨_, rfl⟩, I, J, R, rfl, ?_⟩
    refine y_loc (pc' := 1) xD_155 rfl rfl rfl rfl ?_
    refine y_loc (pc' := 2) xD_155 rfl rfl rfl rfl ?_
    refine y_callV xD_155 rfl rfl rfl rfl (by first | rfl | assumption) rfl rfl rfl rfl (sl (d + 5)) (fun v h' hq => ?_)
    obtain ⟨rfl, hv⟩ := hq
    rcases hv with ⟨rfl, no⟩ | ⟨s', rfl, -, hs'⟩
    · exact absurd hs (no s)
    · have e := un s' s hs' hs
      subst e
      refine y_loc (pc' := 6) xD_155 rfl rfl rfl rfl ?_
      refine y_loc (pc' := 7) xD_155 rfl rfl rfl rfl ?_
      refine y_ifge (pt := 14) (pf := 10) xD_155 rfl rfl rfl (fun h7 => ?_) (fun h7 => ?_)
      · skip
        refine y_loc (pc' := 15) xD_155 rfl rfl rfl rfl ?_
        refine y_loc (pc' := 16) xD_155 rfl rfl rfl rfl ?_
        refine y_callV xD_155 rfl rfl rfl rfl (by first | rfl | assumption) rfl rfl rfl rfl (s_kreached (d := d) hR (by omega) hM w rm rfl) (fun v h' hq => ?_)
        obtain ⟨rfl, vv, N, res, rfl⟩ := hq
        refine y_retI xD_155 rfl rfl ?_
        exact ⟨rfl, _, _, R, rfl, ms _ _ ⟨fun x h => xrow_ne h, fun x h1 h2 => (xrow_ne h1).trans (xrow_ne h2)⟩⟩
      · exact absurd (nI_pos' (by omega)) h7
theorem hs_within {n : Nat} (hn : n ≤ 6) (h0 : 0 < n) : ((0 : Int32) ≤ y ∧ y ≤ nI n - 1) ↔ (0 ≤ y ∧ y < nI n) := by
  rw [show nI n - 1 = nI (n - 1) from pk_sub (b := 1) h0, Int32.le_iff_toInt_le (y := nI (n - 1)), Int32.lt_iff_toInt_lt, nI_toInt (by omega), nI_toInt (by omega)]
  constructor
  · rintro ⟨a, b⟩; exact ⟨a, by omega⟩
  · rintro ⟨a, b⟩; exact ⟨a, by omega⟩
theorem p_step (h : Inv I J R) : PrI S (d + 2) 90 5 [.int x, .int y, .int z] 154 5 [.int x, .int y, .int z] I J R := by
  obtain ⟨st, P, nb, SLx, ms, hR, nb2, hM, hC, s1, s2, cn, sl, un⟩ := inv_look (S := S) (x := x) h
  unfold PrI
  refine y_loc (pc' := 1) xD_90 rfl rfl rfl rfl ?_
  refine y_loc (pc' := 2) xD_90 rfl rfl rfl rfl ?_
  refine y_callV xD_90 rfl rfl rfl rfl (by first | rfl | assumption) rfl rfl rfl rfl (cn d) (fun v h' hq => ?_)
  obtain ⟨rfl, hv⟩ := hq
  rcases hv with ⟨rfl, no⟩ | ⟨a, c, s, rfl, ca, xx, w, z0, rm, s57, hs⟩
  · skip
    refine y_loc (pc' := 7) xD_90 rfl rfl rfl rfl ?_
    refine y_loc (pc' := 9) xD_90 rfl rfl rfl rfl ?_
    refine y_jmp (pc' := 30) xD_90 rfl (rfl) ?_
    refine y_ci (pc' := 31) (0) xD_90 rfl rfl rfl rfl ?_
    refine y_retI xD_90 rfl rfl ?_
    refine ⟨⟨_, rfl⟩, I, J, R, rfl, ?_⟩
    refine y_loc (pc' := 1) xD_154 rfl rfl rfl rfl ?_
    refine y_loc (pc' := 2) xD_154 rfl rfl rfl rfl ?_
    refine y_callV xD_154 rfl rfl rfl rfl (by first | rfl | assumption) rfl rfl rfl rfl (sl d) (fun v h' hq => ?_)
    obtain ⟨rfl, hv⟩ := hq
    rcases hv with ⟨rfl, -⟩ | ⟨s, rfl, -, hs⟩
    · skip
      refine y_loc (pc' := 7) xD_154 rfl rfl rfl rfl ?_
      refine y_loc (pc' := 9) xD_154 rfl rfl rfl rfl ?_
      refine y_iflt (pt := 38) (pf := 12) xD_154 rfl rfl rfl (fun h9 => ?_) (fun h9 => ?_)
      · skip
        refine y_ci (pc' := 39) (0) xD_154 rfl rfl rfl rfl ?_
        refine y_goto (pc' := 50) xD_154 rfl rfl ?_
        refine y_retI xD_154 rfl rfl ?_
        exact ⟨rfl, I, J, R, rfl, h⟩
      · exact absurd (show (-1 : Int32) < 0 by decide) h9
    · exact absurd hs (no s)
  · have ka := (kCase ca).1
    have c6 := w.1
    have hw := hs_within (y := y) c6 z0
    have zw : ((0 : Int32) ≤ z ∧ z ≤ 3) ↔ (0 ≤ z ∧ z < 4) := by
      rw [Int32.le_iff_toInt_le, Int32.le_iff_toInt_le, Int32.lt_iff_toInt_lt]
      show ((0 : Int) ≤ _ ∧ z.toInt ≤ 3) ↔ ((0 : Int) ≤ _ ∧ z.toInt < 4)
      omega
    -- the model's answer
    have mdl : ∀ r : Int32, ((¬ ((0 ≤ y ∧ y < nI c.1) ∧ 0 ≤ z ∧ z < 4) ∧ r = 0) ∨ ∃ j q, j < c.1 ∧ q < 4 ∧ y = nI j ∧ z = nI q ∧ r = c.2 (4 * j + q)) → XP S (d + 2) 154 0 (xent [.ref 261, .int x, .int y, .int z] 5) [] (hh I J R) (fun v2 h2 => v2 = some (.int r) ∧ ∃ I2 J2 R2, h2 = hh I2 J2 R2 ∧ Inv I2 J2 R2) := by
      intro r hr
      refine y_loc (pc' := 1) xD_154 rfl rfl rfl rfl ?_
      refine y_loc (pc' := 2) xD_154 rfl rfl rfl rfl ?_
      refine y_callV xD_154 rfl rfl rfl rfl (by first | rfl | assumption) rfl rfl rfl rfl (sl d) (fun v h' hq => ?_)
      obtain ⟨rfl, hv⟩ := hq
      rcases hv with ⟨rfl, no⟩ | ⟨s', rfl, -, hs'⟩
      · exact absurd hs (no s)
      · have e := un s' s hs' hs
        subst e
        refine y_loc (pc' := 7) xD_154 rfl rfl rfl rfl ?_
        refine y_loc (pc' := 9) xD_154 rfl rfl rfl rfl ?_
        refine y_iflt (pt := 38) (pf := 12) xD_154 rfl rfl rfl (fun h9 => ?_) (fun h9 => ?_)
        · exact absurd h9 (nI_pos (by omega))
        · skip
          refine y_loc (pc' := 13) xD_154 rfl rfl rfl rfl ?_
          refine y_ci (pc' := 14) (0) xD_154 rfl rfl rfl rfl ?_
          refine y_loc (pc' := 15) xD_154 rfl rfl rfl rfl ?_
          first | refine m_getR (pc' := 18) xD_154 rfl rfl rfl rfl (hR.1 _ _ _ rfl) rfl ?_ | refine m_getR (pc' := 18) xD_154 rfl rfl (by first | rfl | assumption) rfl (by assumption) rfl ?_
          refine y_loc (pc' := 20) xD_154 rfl rfl rfl rfl ?_
          refine m_iald (pc' := 21) (s') xD_154 rfl (by first | rfl | assumption) (by first | assumption | omega) (by first | decide | assumption) (by first | decide | omega) (by first | rfl | assumption) rfl ?_
          rw [rm.1]
          refine y_ci (pc' := 22) (1) xD_154 rfl rfl rfl rfl ?_
          refine y_op (pc' := 23) xD_154 rfl rfl rfl rfl ?_
          refine y_callS xD_154 rfl rfl rfl rfl rfl rfl rfl rfl (s_within) (fun v h' hq => ?_)
          obtain ⟨rfl, rfl⟩ := hq
          refine y_ifeq (pt := 38) (pf := 29) xD_154 rfl rfl rfl (fun h26 => ?_) (fun h26 => ?_)
          · skip
            have n1 : ¬ (0 ≤ y ∧ y < nI c.1) := fun q => zB_0.mp h26 (hw.mpr q)
            refine y_ci (pc' := 39) (0) xD_154 rfl rfl rfl rfl ?_
            refine y_goto (pc' := 50) xD_154 rfl rfl ?_
            refine y_retI xD_154 rfl rfl ?_
            rcases hr with ⟨-, rfl⟩ | ⟨j, q, hj, hq, rfl, rfl, -⟩
            · exact ⟨rfl, I, J, R, rfl, h⟩
            · exact absurd ⟨nI_pos' (by omega), nI_lt hj (by omega)⟩ n1
          · skip
            have y1 := hw.mp (zB_n0.mp h26)
            refine y_loc (pc' := 30) xD_154 rfl rfl rfl rfl ?_
            refine y_ci (pc' := 31) (0) xD_154 rfl rfl rfl rfl ?_
            refine y_ci (pc' := 32) (3) xD_154 rfl rfl rfl rfl ?_
            refine y_callS xD_154 rfl rfl rfl rfl rfl rfl rfl rfl (s_within) (fun v h' hq => ?_)
            obtain ⟨rfl, rfl⟩ := hq
            refine y_ifne (pt := 42) (pf := 38) xD_154 rfl rfl rfl (fun h35 => ?_) (fun h35 => ?_)
            · skip
              have y2 := zw.mp (zB_n0.mp h35)
              rcases hr with ⟨n, -⟩ | ⟨j, q, hj, hq, ey, ez, rfl⟩
              · exact absurd ⟨y1, y2⟩ n
              · refine y_loc (pc' := 43) xD_154 rfl rfl rfl rfl ?_
                refine y_loc (pc' := 45) xD_154 rfl rfl rfl rfl ?_
                refine y_loc (pc' := 46) xD_154 rfl rfl rfl rfl ?_
                refine y_loc (pc' := 47) xD_154 rfl rfl rfl rfl ?_
                refine y_callV xD_154 rfl rfl rfl rfl (by first | rfl | assumption) rfl rfl rfl rfl (s_mpart (d := d + 1) hR (by omega) j q (by omega) hq rfl ey ez) (fun v h' hq => ?_)
                obtain ⟨rfl, rfl⟩ := hq
                rw [rm.2 (4 * j + q) (by omega)]
                refine y_retI xD_154 rfl rfl ?_
                exact ⟨rfl, I, J, R, rfl, h⟩
            · skip
              have n2 : ¬ (0 ≤ z ∧ z < 4) := fun q => zB_0.mp h35 (zw.mpr q)
              refine y_ci (pc' := 39) (0) xD_154 rfl rfl rfl rfl ?_
              refine y_goto (pc' := 50) xD_154 rfl rfl ?_
              refine y_retI xD_154 rfl rfl ?_
              rcases hr with ⟨-, rfl⟩ | ⟨j, q, hj, hq, ey, ez, -⟩
              · exact ⟨rfl, I, J, R, rfl, h⟩
              · exact absurd (by rw [ez]; exact ⟨nI_pos' (by omega), nI_lt (b := 4) hq (by decide)⟩) n2
    have hst := s_hasStep (S := S) (d := d + 1) (I := I) (J := J) (R := R) (a := a) ca (x := y)
    rw [xx.1.1] at hst
    refine y_loc (pc' := 7) xD_90 rfl rfl rfl rfl ?_
    refine y_loc (pc' := 9) xD_90 rfl rfl rfl rfl ?_
    refine y_jmp (pc' := 12) xD_90 rfl (rfl) ?_
    refine y_loc (pc' := 14) xD_90 rfl rfl rfl rfl ?_
    refine y_loc (pc' := 15) xD_90 rfl rfl rfl rfl ?_
    refine y_callV xD_90 rfl rfl rfl rfl (by first | rfl | assumption) rfl rfl rfl rfl (hst) (fun v h' hq => ?_)
    obtain ⟨rfl, rfl⟩ := hq
    refine y_ifeq (pt := 30) (pf := 21) xD_90 rfl rfl rfl (fun h18 => ?_) (fun h18 => ?_)
    · skip
      refine y_ci (pc' := 31) (0) xD_90 rfl rfl rfl rfl ?_
      refine y_retI xD_90 rfl rfl ?_
      exact ⟨⟨_, rfl⟩, I, J, R, rfl, mdl 0 (Or.inl ⟨fun q => zB_0.mp h18 q.1, rfl⟩)⟩
    · skip
      have y1 := zB_n0.mp h18
      refine y_loc (pc' := 22) xD_90 rfl rfl rfl rfl ?_
      refine y_iflt (pt := 30) (pf := 25) xD_90 rfl rfl rfl (fun h22 => ?_) (fun h22 => ?_)
      · skip
        refine y_ci (pc' := 31) (0) xD_90 rfl rfl rfl rfl ?_
        refine y_retI xD_90 rfl rfl ?_
        exact ⟨⟨_, rfl⟩, I, J, R, rfl, mdl 0 (Or.inl ⟨fun q => absurd q.2.1 (Int32.not_le.mpr h22), rfl⟩)⟩
      · skip
        refine y_loc (pc' := 26) xD_90 rfl rfl rfl rfl ?_
        refine y_ci (pc' := 27) (4) xD_90 rfl rfl rfl rfl ?_
        refine y_iclt (pt := 32) (pf := 30) xD_90 rfl rfl rfl (fun h27 => ?_) (fun h27 => ?_)
        · skip
          obtain ⟨j, -, hj, ey⟩ := i32_range (a := 0) (b := c.1) (by omega) y1.1 y1.2 (by decide)
          obtain ⟨q, -, hq, ez⟩ := i32_range (a := 0) (b := 4) (by decide) (Int32.not_lt.mp h22) h27 (by decide)
          refine y_loc (pc' := 34) xD_90 rfl rfl rfl rfl ?_
          refine y_loc (pc' := 35) xD_90 rfl rfl rfl rfl ?_
          refine y_loc (pc' := 36) xD_90 rfl rfl rfl rfl ?_
          refine y_callV xD_90 rfl rfl rfl rfl (by first | rfl | assumption) rfl rfl rfl rfl (s_part (d := d + 1) hR ca j q (by omega) hq ey ez) (fun v h' hq => ?_)
          obtain ⟨rfl, rfl⟩ := hq
          rw [xx.1.2 (4 * j + q) (by omega)]
          refine y_retI xD_90 rfl rfl ?_
          exact ⟨⟨_, rfl⟩, I, J, R, rfl, mdl _ (Or.inr ⟨j, q, hj, hq, ey, ez, rfl⟩)⟩
        · skip
          refine y_ci (pc' := 31) (0) xD_90 rfl rfl rfl rfl ?_
          refine y_retI xD_90 rfl rfl ?_
          exact ⟨⟨_, rfl⟩, I, J, R, rfl, mdl 0 (Or.inl ⟨fun q => h27 q.2.2, rfl⟩)⟩
end GC

