/-! start: the class. -/
theorem CAr.any {I : Nat → Nat → Int32} {J : Nat → Nat → Int64} {P P' : Nat → Nat → Int32} {nb nb' : Nat} {ar : Nat → CA} (h : CAr I J P nb ar) (z : ∀ g, (ar g).1 = 0) : CAr I J P' nb' ar := ⟨h.1, fun g hg => ⟨(h.2 g hg).1, (h.2 g hg).2.1, fun q => by have := z g; omega⟩⟩
/-- the branch k, and whether each way passes it -/
def msK (I : Nat → Nat → Int32) (k : Nat) : Prop := ms (cdM I (pM (cdM I) (lnM I) k)) (lnM I (pM (cdM I) (lnM I) k)) (pA (cdM I) (lnM I) k) 0
def ndK (I : Nat → Nat → Int32) (k : Nat) (G : Int32) : Prop := ND (cdM I (pM (cdM I) (lnM I) k)) (lnM I (pM (cdM I) (lnM I) k)) (pF (cdM I) (lnM I) (pM (cdM I) (lnM I) k)) (pA (cdM I) (lnM I) k) G
theorem CPg.fr1 {I I' P : Nat → Nat → Int32} {nb : Nat} (h : CPg I P nb) (e : ∀ x, x < 20 → x ≠ 1 → I' x = I x) : CPg I' P nb := by
  obtain ⟨h1, h2, h3, h4, h5⟩ := h
  have e1 : ∀ m, m < 2 → cdC I' (4 + 6 * m) = cdC I (4 + 6 * m) := fun m hm => by funext p q; unfold cdC; rw [e _ (by omega) (by omega)]
  have e2 : ∀ m, m < 2 → bnC I' (4 + 6 * m) = bnC I (4 + 6 * m) := fun m hm => by funext p; unfold bnC; rw [e _ (by omega) (by omega)]
  have e3 : ∀ m, m < 2 → lnC I' m = lnC I m := fun m hm => by unfold lnC; rw [e _ (by omega) (by omega)]
  refine ⟨by rw [e 2 (by decide) (by decide)]; exact h1, h2, fun m hm => ?_, fun m hm => ?_, by rw [e 16 (by decide) (by decide)]; exact h5⟩
  · rw [e1 m hm, e3 m hm, e (4 + 6 * m) (by omega) (by omega), e (4 + 6 * m + 5) (by omega) (by omega)]; exact h3 m hm
  · have t := h4 m hm
    rw [e3 m hm]
    show _ ∧ Pr (cdC I' (4 + 6 * m)) _ (bnC I' (4 + 6 * m)) _ _
    rw [e1 m hm, e2 m hm]
    exact t
section ST
variable {S : XS} {d : Nat} {I : Nat → Nat → Int32} {J : Nat → Nat → Int64} {R : Nat → Nat → Option Nat} {A : Nat → Nat} {ar pop : Nat → CA} {al : Nat → Int32} {P0 : Nat → Nat → Int32} {nb0 nb : Nat}
theorem s_start (hR : RF R) (hst : I 1 8 = 0) (h0 : PG0 I) (h16 : ∀ k, I 16 k = 0) (h23 : I 2 3 = 0) (h18 : I 18 1 = 0) (h7 : C7 R A) (e121 : I 121 1 = 0) (hAr : CAr I J P0 nb0 ar) (hz : ∀ g, (ar g).1 = 0) (enb : nb = pN (cdM I) (lnM I)) (hal : ∀ k, k < nb → (¬ al k = 0 ↔ msK I k)) :
    XP S (d + 7) 16 0 (xent [.ref 1] 3) [] (hh I J R) (fun v h' => v = some (.int (2 * nI nb)) ∧ ∃ (G con : Nat → Int32) (c0 c1 : CA) (ar1 ar2 : Nat → CA) (I' : Nat → Nat → Int32) (J' : Nat → Nat → Int64) (R' : Nat → Nat → Option Nat) (sg : Nat → Nat), h' = hh I' J' R' ∧ RF R' ∧ (∀ k, k < nb → ndK I k (G k)) ∧ (∀ k, nb ≤ k → G k = 0) ∧ (∀ q, q < 20 → isS I q = true → con (scnt I q) = cdM I (q / 10) (q % 10) 3) ∧ c0 = dcC (scnt I 20) con (J 18 2) ∧ c1 = dcC (scnt I 20) con (dcb (J 18 2) (dcn (J 18 2))) ∧ ar1 = adm ar (kS (pP I G) nb c0) c0 ∧ ar2 = adm ar1 (kS (pP I G) nb c1) c1 ∧ ordO (pP I G) nb al ar2 2 (evpop 0 pop c0 c1) sg ∧ CPo I' J' R' (pP I G) nb (fun k => A (sg k)) 2 (fun k => evpop 0 pop c0 c1 (sg k)) ∧ CAr I' J' (pP I G) nb ar2 ∧ CPg I' (pP I G) nb ∧ (∀ m, m < 2 → I' (4 + 6 * m) 6 = zB (wt (cdM I m) (lnM I m))) ∧ (∀ k, k < nb → (¬ I' 17 k = 0 ↔ (G k = 0 ∨ ¬ al k = 0))) ∧ I' 1 8 = 1 ∧ I' 18 1 = nI (scnt I 20) ∧ I' 19 = con ∧ I' 20 2 = I 20 2 + 1 + 1 ∧ J' 18 2 = dcb (dcb (J 18 2) (dcn (J 18 2))) (dcn (dcb (J 18 2) (dcn (J 18 2)))) ∧ (∀ x, 151 ≤ x → I' x = I x ∧ J' x = J x) ∧ ∀ x, x ≠ 122 → R' x = R x) := by
  obtain ⟨b0, eb0⟩ : ∃ b0, b0 = J 18 2 := ⟨_, rfl⟩
  obtain ⟨b1, eb1⟩ : ∃ b1, b1 = dcb b0 (dcn b0) := ⟨_, rfl⟩
  obtain ⟨b2, eb2⟩ : ∃ b2, b2 = dcb b1 (dcn b1) := ⟨_, rfl⟩
  obtain ⟨a1, a2, a3, a4, a5, a6⟩ := h0 0 (by decide)
  obtain ⟨c1', c2', c3', c4', c5', c6'⟩ := h0 1 (by decide)
  have a4 : I 4 5 = nI (lnM I 0) := a4
  have c4' : I 10 5 = nI (lnM I 1) := c4'
  have a5 : ag (cdM I 0) (cdC I 4) (lnM I 0) := a5
  have c5' : ag (cdM I 1) (cdC I 10) (lnM I 1) := c5'
  have nb12 : nb ≤ 12 := by rw [enb]; exact pN_12
  have sc20 := scnt_le (I := I) 20
  obtain ⟨-, cA, lA, uA, -⟩ := h7 0 (by decide)
  obtain ⟨-, cB, lB, uB, -⟩ := h7 1 (by decide)
  have uA' : A 0 + 3 < 151 := by unfold isCase at cA; omega
  have uB' : A 1 + 3 < 151 := by unfold isCase at cB; omega
  have kA := (kCase cA).1
  have kB := (kCase cB).1
  have nab : ∀ r r', r < 4 → r' < 4 → A 0 + r ≠ A 1 + r' := fun r r' a b => h7.ne (by decide) (by decide) (by decide) a b
  obtain ⟨Is, eIs⟩ : ∃ Is, Is = xu I 1 8 1 := ⟨_, rfl⟩
  have xs : ∀ x, x ≠ 1 → Is x = I x := fun x hx => by rw [eIs, xu_ne hx]
  have pn := s_pnumber (S := S) (d := d + 1) (I := Is) (J := J) (R := R) hR (n0 := lnM I 0) (n1 := lnM I 1) (by rw [xs 4 (by decide)]; exact a4) (by rw [xs 10 (by decide)]; exact c4') a2 c2' (by rw [xs 2 (by decide)]; exact h23) (c0 := cdC I 4) (c1 := cdC I 10) (by funext p q; unfold cdC; rw [xs _ (by omega)]) (by funext p q; unfold cdC; rw [xs _ (by omega)]) (fun p hp => VL_ag a5 hp (a3 p hp)) (fun p hp => VL_ag c5' hp (c3' p hp))
  refine y_loc (pc' := 1) xD_16 rfl rfl rfl rfl ?_
  refine m_getZ (pc' := 4) xD_16 rfl rfl rfl (by first | rfl | assumption) (hst) rfl ?_
  refine y_ifeq (pt := 9) (pf := 7) xD_16 rfl rfl rfl (fun h4 => ?_) (fun h4 => ?_)
  · skip
    refine y_loc (pc' := 10) xD_16 rfl rfl rfl rfl ?_
    refine y_ci (pc' := 11) (1) xD_16 rfl rfl rfl rfl ?_
    refine m_putZ (pc' := 14) ((by decide)) xD_16 rfl rfl (by first | rfl | assumption) rfl rfl rfl ?_
    show XP S (d + 7) 16 14 _ _ (hh (xu I 1 8 1) J R) _
    rw [← eIs]
    refine y_loc (pc' := 15) xD_16 rfl rfl rfl rfl ?_
    first | refine m_getR (pc' := 18) xD_16 rfl rfl rfl rfl (hR.1 _ _ _ rfl) rfl ?_ | refine m_getR (pc' := 18) xD_16 rfl rfl (by first | rfl | assumption) rfl (by assumption) rfl ?_
    refine y_callV xD_16 rfl rfl rfl rfl (by first | rfl | assumption) rfl rfl rfl rfl (pn) (fun v h' hq => ?_)
    obtain ⟨rfl, I1, I2, rfl, s1, s2⟩ := hq
    -- over I
    have s1' : StC 4 (cdC I 4) (lnM I 0) 0 I (xu I1 1 8 0) := by
      obtain ⟨t1, t2, t3, t4, t5, t6, t7, t8⟩ := s1
      refine ⟨by rw [xu_ne (by decide)]; exact t1, by rw [xu_ne (by decide)]; exact t2, fun p hp => by rw [xu_ne (by decide), ← xs (4 + 5) (by decide)]; exact t3 p hp, fun w p hp hb => by rw [xu_ne (by decide), xu_ne (by decide)]; exact t4 w p hp hb, fun k hk => by rw [xu_ne (by decide), xu_ne (by decide), ← xs 16 (by decide), ← xs 17 (by decide)]; exact t5 k hk, fun x e1 e2 e3 e4 e5 => ?_, fun j hj => by rw [xu_ne (by decide), ← xs 2 (by decide)]; exact t7 j hj, fun j hj => by rw [xu_ne (by decide), ← xs 4 (by decide)]; exact t8 j hj⟩
      by_cases e : x = 1
      · subst e
        have q := t6 1 (by decide) (by decide) (by decide) (by decide) (by decide)
        funext j
        show (if _ then _ else _) = _
        by_cases ej : j = 8
        · rw [if_pos ⟨rfl, ej⟩, ej]; exact hst.symm
        · rw [if_neg (fun t => ej t.2), q, eIs]; show (if _ then _ else _) = _; rw [if_neg (fun t => ej t.2)]
      · rw [xu_ne e]; exact (t6 x e1 e2 e3 e4 e5).trans (xs x e)
    have s2' : StC 10 (cdC I 10) (lnM I 1) (ad (cdC I 4) (lnM I 0)) (xu I1 1 8 0) (xu I2 1 8 0) := by
      obtain ⟨t1, t2, t3, t4, t5, t6, t7, t8⟩ := s2
      refine ⟨by rw [xu_ne (by decide)]; exact t1, by rw [xu_ne (by decide)]; exact t2, fun p hp => by rw [xu_ne (by decide), xu_ne (by decide)]; exact t3 p hp, fun w p hp hb => by rw [xu_ne (by decide), xu_ne (by decide)]; exact t4 w p hp hb, fun k hk => by rw [xu_ne (by decide), xu_ne (by decide), xu_ne (by decide), xu_ne (by decide)]; exact t5 k hk, fun x e1 e2 e3 e4 e5 => ?_, fun j hj => by rw [xu_ne (by decide), xu_ne (by decide)]; exact t7 j hj, fun j hj => by rw [xu_ne (by decide), xu_ne (by decide)]; exact t8 j hj⟩
      by_cases e : x = 1
      · subst e
        have q := t6 1 (by decide) (by decide) (by decide) (by decide) (by decide)
        funext j
        show (if _ then _ else _) = (if _ then _ else _)
        by_cases ej : j = 8
        · rw [if_pos ⟨rfl, ej⟩, if_pos ⟨rfl, ej⟩]
        · rw [if_neg (fun t => ej t.2), if_neg (fun t => ej t.2), q]
      · rw [xu_ne e, xu_ne e]; exact t6 x e1 e2 e3 e4 e5
    obtain ⟨g1, g2, g3, g4, g5⟩ := cpg_start h0 h16 s1' s2'
    have x2 : ∀ x, x ≠ 1 → xu I2 1 8 0 x = I2 x := fun x hx => xu_ne hx
    have n1 : I2 1 8 = 1 := by
      have q2 := s2.2.2.2.2.2.1 1 (by decide) (by decide) (by decide) (by decide) (by decide)
      have q1 := s1.2.2.2.2.2.1 1 (by decide) (by decide) (by decide) (by decide) (by decide)
      rw [q2, q1, eIs, xu_ii]
    obtain ⟨G, eG⟩ : ∃ G, G = I2 16 := ⟨_, rfl⟩
    rw [x2 16 (by decide), ← eG, ← enb] at g1
    rw [← enb] at g3 g4
    have g3 : ∀ k, k < nb → ndK I k (G k) ∧ (¬ I2 17 k = 0 ↔ (G k = 0 ∨ msK I k)) := fun k hk => by have := g3 k hk; rw [x2 16 (by decide), x2 17 (by decide), ← eG] at this; exact this
    have g4 : ∀ k, nb ≤ k → G k = 0 := fun k hk => by have := g4 k hk; rw [x2 16 (by decide), ← eG] at this; exact this
    have g2 : ∀ m, m < 2 → I2 (4 + 6 * m) 6 = zB (wt (cdM I m) (lnM I m)) := fun m hm => by have := g2 m hm; rw [x2 (4 + 6 * m) (by omega)] at this; exact this
    have g5 : ∀ x, x ≠ 1 → x ≠ 2 → x ≠ 4 → x ≠ 9 → x ≠ 10 → x ≠ 15 → x ≠ 16 → x ≠ 17 → I2 x = I x := fun x e e1 e2 e3 e4 e5 e6 e7 => by rw [← x2 x e]; exact g5 x e1 e2 e3 e4 e5 e6 e7
    have gP : CPg I2 (pP I G) nb := g1.fr1 (fun x _ hx => (x2 x hx).symm)
    have eP4 : pP I G 264 = I 264 := pP_o (by decide)
    have eP5 : pP I G 265 = I 265 := pP_o (by decide)
    have gl : GL I2 I := fun m hm => by
      have hA : 4 + 6 * m = 4 ∨ 4 + 6 * m = 10 := by omega
      refine ⟨?_, (h0 m hm).2.1, fun p hp => ?_⟩
      · rcases hA with e | e
        · rw [e, s2.2.2.2.2.2.1 4 (by decide) (by decide) (by decide) (by decide) (by decide), s1.2.2.2.2.2.2.2 5 (by decide), xs 4 (by decide), ← e]; exact (h0 m hm).2.2.2.1
        · rw [e, s2.2.2.2.2.2.2.2 5 (by decide), s1.2.2.2.2.2.1 10 (by decide) (by decide) (by decide) (by decide) (by decide), xs 10 (by decide), ← e]; exact (h0 m hm).2.2.2.1
      · have q := (h0 m hm).2.2.2.2.1 p hp
        have q0 := q 0 (by decide)
        have q3 := q 3 (by decide)
        rw [g5 (4 + 6 * m + 1) (by omega) (by omega) (by omega) (by omega) (by omega) (by omega) (by omega) (by omega), g5 (4 + 6 * m + 4) (by omega) (by omega) (by omega) (by omega) (by omega) (by omega) (by omega) (by omega)]
        exact ⟨q0, q3⟩
    refine y_loc (pc' := 22) xD_16 rfl rfl rfl rfl ?_
    first | refine m_getR (pc' := 25) xD_16 rfl rfl rfl rfl (hR.1 _ _ _ rfl) rfl ?_ | refine m_getR (pc' := 25) xD_16 rfl rfl (by first | rfl | assumption) rfl (by assumption) rfl ?_
    refine y_loc (pc' := 26) xD_16 rfl rfl rfl rfl ?_
    first | refine m_getR (pc' := 29) xD_16 rfl rfl rfl rfl (hR.1 _ _ _ rfl) rfl ?_ | refine m_getR (pc' := 29) xD_16 rfl rfl (by first | rfl | assumption) rfl (by assumption) rfl ?_
    refine y_callV xD_16 rfl rfl rfl rfl (by first | rfl | assumption) rfl rfl rfl rfl (s_gatherConstants (d := d + 6) (P := I) hR (by rw [g5 18 (by decide) (by decide) (by decide) (by decide) (by decide) (by decide) (by decide) (by decide)]; exact h18) gl) (fun v h' hq => ?_)
    obtain ⟨rfl, con, rfl, hcon⟩ := hq
    obtain ⟨I3, eI3⟩ : ∃ I3, I3 = xu (xrow I2 19 con) 18 1 (nI (scnt I 20)) := ⟨_, rfl⟩
    have x3 : ∀ x, x ≠ 18 → x ≠ 19 → I3 x = I2 x := fun x e1 e2 => by rw [eI3, xu_ne e1, xrow_ne e2]
    have h3con : I3 19 = con := by rw [eI3, xu_ne (by decide), xrow_at]
    have h3cc : I3 18 1 = nI (scnt I 20) := by rw [eI3, xu_ii]
    have X3 : ∀ x, 20 ≤ x → I3 x = I x := fun x hx => (x3 x (by omega) (by omega)).trans (g5 x (by omega) (by omega) (by omega) (by omega) (by omega) (by omega) (by omega) (by omega))
    have gP3 : CPg I3 (pP I G) nb := by
      have e1 : ∀ m, m < 2 → cdC I3 (4 + 6 * m) = cdC I2 (4 + 6 * m) := fun m hm => by funext p q; unfold cdC; rw [x3 _ (by omega) (by omega)]
      have e2 : ∀ m, m < 2 → bnC I3 (4 + 6 * m) = bnC I2 (4 + 6 * m) := fun m hm => by funext p; unfold bnC; rw [x3 _ (by omega) (by omega)]
      have e3 : ∀ m, m < 2 → lnC I3 m = lnC I2 m := fun m hm => by unfold lnC; rw [x3 _ (by omega) (by omega)]
      refine ⟨by rw [x3 2 (by decide) (by decide)]; exact gP.1, gP.2.1, fun m hm => ?_, fun m hm => ?_, by rw [x3 16 (by decide) (by decide)]; exact gP.2.2.2.2⟩
      · rw [e1 m hm, e3 m hm, x3 (4 + 6 * m) (by omega) (by omega), x3 (4 + 6 * m + 5) (by omega) (by omega)]; exact gP.2.2.1 m hm
      · have t := gP.2.2.2.1 m hm
        rw [e3 m hm]
        show _ ∧ Pr (cdC I3 (4 + 6 * m)) _ (bnC I3 (4 + 6 * m)) _ _
        rw [e1 m hm, e2 m hm]
        exact t
    obtain ⟨P, eP⟩ : ∃ P, P = pP I G := ⟨_, rfl⟩
    obtain ⟨c0, ec0⟩ : ∃ c0, c0 = dcC (scnt I 20) con b0 := ⟨_, rfl⟩
    obtain ⟨c1, ec1⟩ : ∃ c1, c1 = dcC (scnt I 20) con b1 := ⟨_, rfl⟩
    obtain ⟨ar1, ea1⟩ : ∃ ar1, ar1 = adm ar (kS P nb c0) c0 := ⟨_, rfl⟩
    obtain ⟨ar2, ea2⟩ : ∃ ar2, ar2 = adm ar1 (kS P nb c1) c1 := ⟨_, rfl⟩
    rw [← eP] at gP3
    have w0 : WC c0 := by rw [ec0]; exact dcC_w _ _ _
    have w1 : WC c1 := by rw [ec1]; exact dcC_w _ _ _
    have z0 : 0 < c0.1 := by rw [ec0]; exact (dcn_le _).2
    have z1 : 0 < c1.1 := by rw [ec1]; exact (dcn_le _).2
    have e121' : I3 121 1 = nI 0 := by rw [X3 121 (by decide)]; exact e121
    have dr0 := s_drawCase (S := S) (d := d + 3) (I := I3) (J := J) (R := R) (a := A 0) hR cA (scnt I 20) h3cc sc20
    rw [← eb0, ← eb1, h3con, ← ec0] at dr0
    show XP S (d + 7) 16 32 [some (.ref 1), none, none] [] (hh (xu (xrow I2 19 con) 18 1 (nI (scnt I 20))) J R) _
    rw [← eI3]
    refine y_ci (pc' := 33) (0) xD_16 rfl rfl rfl rfl ?_
    refine y_loc (pc' := 34) xD_16 rfl rfl rfl rfl ?_
    refine y_loc (pc' := 35) xD_16 rfl rfl rfl rfl ?_
    refine y_ci (pc' := 36) (2) xD_16 rfl rfl rfl rfl ?_
    refine y_icge (pt := 67) (pf := 39) xD_16 rfl rfl rfl (fun h36 => ?_) (fun h36 => ?_)
    · exact absurd h36 (by decide)
    · skip
      refine y_loc (pc' := 40) xD_16 rfl rfl rfl rfl ?_
      first | refine m_getR (pc' := 43) xD_16 rfl rfl rfl rfl (hR.1 _ _ _ rfl) rfl ?_ | refine m_getR (pc' := 43) xD_16 rfl rfl (by first | rfl | assumption) rfl (by assumption) rfl ?_
      refine y_loc (pc' := 44) xD_16 rfl rfl rfl rfl ?_
      refine y_callV xD_16 rfl rfl rfl rfl (by first | rfl | assumption) rfl rfl rfl rfl (s_child (np := 0) hR h7 e121' 0 (k := 0) rfl (by decide) rfl) (fun v h' hq => ?_)
      obtain ⟨rfl, rfl⟩ := hq
      refine y_loc (pc' := 48) xD_16 rfl rfl rfl rfl ?_
      refine y_loc (pc' := 49) xD_16 rfl rfl rfl rfl ?_
      first | refine m_getR (pc' := 52) xD_16 rfl rfl rfl rfl (hR.1 _ _ _ rfl) rfl ?_ | refine m_getR (pc' := 52) xD_16 rfl rfl (by first | rfl | assumption) rfl (by assumption) rfl ?_
      refine y_loc (pc' := 53) xD_16 rfl rfl rfl rfl ?_
      refine y_callV xD_16 rfl rfl rfl rfl (by first | rfl | assumption) rfl rfl rfl rfl (dr0) (fun v h' hq => ?_)
      obtain ⟨rfl, I4, rfl, r4, f4⟩ := hq
      refine y_loc (pc' := 57) xD_16 rfl rfl rfl rfl ?_
      refine y_loc (pc' := 58) xD_16 rfl rfl rfl rfl ?_
      refine y_callV xD_16 rfl rfl rfl rfl (by first | rfl | assumption) rfl rfl rfl rfl (s_runAndArchive (d := d) (ar := ar) (P := P) (nb := nb) hR cA (by omega) (gP3.fr (fun x hx => f4 x (by omega) (by omega))) w0 r4 z0 ((hAr.any hz).fr (fun x l u => ⟨(f4 x (by omega) (by omega)).trans (X3 x (by omega)), xu_ne (by omega)⟩))) (fun v h' hq => ?_)
      obtain ⟨rfl, I5, J5, rfl, x5, ar5, c5, f5, j5⟩ := hq
      rw [← ea1] at ar5
      have F5 : ∀ x, x < 20 ∨ (121 ≤ x ∧ x < 123) ∨ 151 ≤ x → I5 x = I3 x := fun x hx => (f5 x (by omega) (by omega)).trans (f4 x (by omega) (by omega))
      have b5 : J5 18 2 = b1 := by rw [j5 18 (by omega) (by omega) (by omega), xu_ii]
      have dr1 := s_drawCase (S := S) (d := d + 3) (I := I5) (J := J5) (R := R) (a := A 1) hR cB (scnt I 20) (by rw [F5 18 (by omega)]; exact h3cc) sc20
      rw [b5, ← eb2, F5 19 (by omega), h3con, ← ec1] at dr1
      refine y_inc (pc' := 64) (1 : Int32) xD_16 rfl rfl rfl rfl rfl rfl ?_
      refine y_goto (pc' := 34) xD_16 rfl rfl ?_
      refine y_loc (pc' := 35) xD_16 rfl rfl rfl rfl ?_
      refine y_ci (pc' := 36) (2) xD_16 rfl rfl rfl rfl ?_
      refine y_icge (pt := 67) (pf := 39) xD_16 rfl rfl rfl (fun h36' => ?_) (fun h36' => ?_)
      · exact absurd h36' (by decide)
      · skip
        refine y_loc (pc' := 40) xD_16 rfl rfl rfl rfl ?_
        first | refine m_getR (pc' := 43) xD_16 rfl rfl rfl rfl (hR.1 _ _ _ rfl) rfl ?_ | refine m_getR (pc' := 43) xD_16 rfl rfl (by first | rfl | assumption) rfl (by assumption) rfl ?_
        refine y_loc (pc' := 44) xD_16 rfl rfl rfl rfl ?_
        refine y_callV xD_16 rfl rfl rfl rfl (by first | rfl | assumption) rfl rfl rfl rfl (s_child (np := 0) hR h7 (by rw [F5 121 (by omega)]; exact e121') 1 (k := 1) rfl (by decide) rfl) (fun v h' hq => ?_)
        obtain ⟨rfl, rfl⟩ := hq
        refine y_loc (pc' := 48) xD_16 rfl rfl rfl rfl ?_
        refine y_loc (pc' := 49) xD_16 rfl rfl rfl rfl ?_
        first | refine m_getR (pc' := 52) xD_16 rfl rfl rfl rfl (hR.1 _ _ _ rfl) rfl ?_ | refine m_getR (pc' := 52) xD_16 rfl rfl (by first | rfl | assumption) rfl (by assumption) rfl ?_
        refine y_loc (pc' := 53) xD_16 rfl rfl rfl rfl ?_
        refine y_callV xD_16 rfl rfl rfl rfl (by first | rfl | assumption) rfl rfl rfl rfl (dr1) (fun v h' hq => ?_)
        obtain ⟨rfl, I6, rfl, r6, f6⟩ := hq
        refine y_loc (pc' := 57) xD_16 rfl rfl rfl rfl ?_
        refine y_loc (pc' := 58) xD_16 rfl rfl rfl rfl ?_
        refine y_callV xD_16 rfl rfl rfl rfl (by first | rfl | assumption) rfl rfl rfl rfl (s_runAndArchive (d := d) (ar := ar1) (P := P) (nb := nb) hR cB (by omega) (gP3.fr (fun x hx => (f6 x (by omega) (by omega)).trans (F5 x (by omega)))) w1 r6 z1 (ar5.fr (fun x l u => ⟨f6 x (by omega) (by omega), xu_ne (by omega)⟩))) (fun v h' hq => ?_)
        obtain ⟨rfl, I7, J7, rfl, x7, ar7, c7, f7, j7⟩ := hq
        rw [← ea2] at ar7
        have F7 : ∀ x, x < 20 ∨ (121 ≤ x ∧ x < 123) ∨ 151 ≤ x → I7 x = I3 x := fun x hx => (f7 x (by omega) (by omega)).trans ((f6 x (by omega) (by omega)).trans (F5 x hx))
        refine y_inc (pc' := 64) (2 : Int32) xD_16 rfl rfl rfl rfl rfl rfl ?_
        refine y_goto (pc' := 34) xD_16 rfl rfl ?_
        refine y_loc (pc' := 35) xD_16 rfl rfl rfl rfl ?_
        refine y_ci (pc' := 36) (2) xD_16 rfl rfl rfl rfl ?_
        refine y_icge (pt := 67) (pf := 39) xD_16 rfl rfl rfl (fun h36'' => ?_) (fun h36'' => ?_)
        · skip
          have hz1 : ∀ g, 2 * nb ≤ g → (ar1 g).1 = 0 := by rw [ea1]; exact adm_z nb12 (fun g _ => hz g)
          have hz2 : ∀ g, 2 * nb ≤ g → (ar2 g).1 = 0 := by rw [ea2]; exact adm_z nb12 hz1
          have efs : I7 23 1 = fS ar2 (2 * nb) := ar7.fS nb12 hz2
          have hP7 : CPg I7 P nb := gP3.fr (fun x hx => F7 x (by omega))
          have hpp : ∀ k, k < 0 + 2 → WC (evpop 0 pop c0 c1 k) ∧ 0 < (evpop 0 pop c0 c1 k).1 ∧ RX I7 J7 P nb (A k) (evpop 0 pop c0 c1 k) := by
            intro k hk
            unfold evpop
            rw [if_neg (by omega)]
            by_cases h2 : k = 0
            · rw [if_pos h2, h2]
              have n00 := nab 0 0 (by decide) (by decide)
              have n01 := nab 0 1 (by decide) (by decide)
              have n10 := nab 1 0 (by decide) (by decide)
              have n11 := nab 1 1 (by decide) (by decide)
              have n22 := nab 2 2 (by decide) (by decide)
              have n23 := nab 2 3 (by decide) (by decide)
              have n32 := nab 3 2 (by decide) (by decide)
              have n33 := nab 3 3 (by decide) (by decide)
              exact ⟨w0, z0, x5.fr ((f7 _ (by omega) (by omega)).trans (f6 _ (by omega) (by omega))) ((f7 _ (by omega) (by omega)).trans (f6 _ (by omega) (by omega))) ((j7 _ (by omega) (by omega) (by omega)).trans (xu_ne (by omega))) ((j7 _ (by omega) (by omega) (by omega)).trans (xu_ne (by omega)))⟩
            · rw [if_neg h2, show k = 1 by omega]
              exact ⟨w1, z1, x7⟩
          have i17 : I7 17 = I2 17 := (F7 17 (by omega)).trans (x3 17 (by decide) (by decide))
          have hop : ∀ k, k < nb → (¬ I7 17 k = 0 ↔ (G k = 0 ∨ ¬ al k = 0)) := fun k hk => by rw [i17, (g3 k hk).2, hal k hk]
          have eP9 : P 269 = G := by rw [eP]; funext k; unfold pP; rw [if_neg (by decide), if_neg (by decide), if_pos rfl]
          have ag := s_activeGoals (S := S) (d := d + 6) (I := I7) (J := J7) (R := R) (nb := nb) hR hP7.1 nb12 (hv := fS ar2 (2 * nb)) (opn (P 269) al (fS ar2 (2 * nb))) (fun k hk => by
            unfold opn
            rw [decide_eq_true_iff, hP7.2.2.2.2, hop k hk, eP9]
            exact or_assoc.symm)
          have e121'' : I7 121 1 = nI 0 := by rw [F7 121 (by omega)]; exact e121'
          refine y_loc (pc' := 68) xD_16 rfl rfl rfl rfl ?_
          first | refine m_getR (pc' := 71) xD_16 rfl rfl rfl rfl (hR.1 _ _ _ rfl) rfl ?_ | refine m_getR (pc' := 71) xD_16 rfl rfl (by first | rfl | assumption) rfl (by assumption) rfl ?_
          refine y_loc (pc' := 72) xD_16 rfl rfl rfl rfl ?_
          first | refine m_getR (pc' := 75) xD_16 rfl rfl rfl rfl (hR.1 _ _ _ rfl) rfl ?_ | refine m_getR (pc' := 75) xD_16 rfl rfl (by first | rfl | assumption) rfl (by assumption) rfl ?_
          refine y_loc (pc' := 76) xD_16 rfl rfl rfl rfl ?_
          first | refine m_getR (pc' := 79) xD_16 rfl rfl rfl rfl (hR.1 _ _ _ rfl) rfl ?_ | refine m_getR (pc' := 79) xD_16 rfl rfl (by first | rfl | assumption) rfl (by assumption) rfl ?_
          refine m_getI (pc' := 82) xD_16 rfl rfl rfl (by first | rfl | assumption) (efs) rfl ?_
          refine y_callV xD_16 rfl rfl rfl rfl (by first | rfl | assumption) rfl rfl rfl rfl (ag) (fun v h' hq => ?_)
          obtain ⟨rfl, rfl⟩ := hq
          refine y_callV xD_16 rfl rfl rfl rfl (by first | rfl | assumption) rfl rfl rfl rfl (s_takeInC (d := d + 2) (al := al) (ar := ar2) (pop := evpop 0 pop c0 c1) (np := 0) hR h7 hP7 (by decide) e121'' hpp rfl) (fun v h' hq => ?_)
          obtain ⟨rfl, I8, R8, sg, rfl, hR8, hO, po8, f8, q8⟩ := hq
          refine y_loc (pc' := 89) xD_16 rfl rfl rfl rfl ?_
          refine m_getR (pc' := 92) xD_16 rfl rfl (by first | rfl | assumption) rfl (hR8.1 _ _ _ rfl) rfl ?_
          refine y_callV xD_16 rfl rfl rfl rfl (by first | rfl | assumption) rfl rfl rfl rfl (s_goalCount) (fun v h' hq => ?_)
          obtain ⟨rfl, rfl⟩ := hq
          refine y_retI xD_16 rfl rfl ?_
          have hP8 : CPg I8 P nb := hP7.fr (fun x hx => f8 x (by omega))
          refine ⟨by rw [hP8.1], G, con, c0, c1, ar1, ar2, I8, J7, R8, sg, rfl, hR8, fun k hk => (g3 k hk).1, g4, hcon, by rw [← eb0]; exact ec0, by rw [← eb0, ← eb1]; exact ec1, by rw [← eP]; exact ea1, by rw [← eP]; exact ea2, by rw [← eP]; exact hO, by rw [← eP]; exact po8, by rw [← eP]; exact ar7.fr (fun x l u => ⟨f8 x (by omega), rfl⟩), by rw [← eP]; exact hP8, fun m hm => ?_, fun k hk => by rw [f8 17 (by omega)]; exact hop k hk, ?_, by rw [f8 18 (by omega), F7 18 (by omega)]; exact h3cc, by rw [f8 19 (by omega), F7 19 (by omega)]; exact h3con, ?_, ?_, fun x hx => ⟨?_, ?_⟩, q8⟩
          · rw [f8 _ (by omega), F7 _ (by omega), x3 _ (by omega) (by omega)]; exact g2 m hm
          · rw [f8 1 (by omega), F7 1 (by omega), x3 1 (by decide) (by decide)]; exact n1
          · rw [f8 20 (by omega), c7, f6 20 (by omega) (by omega), c5, f4 20 (by omega) (by omega), X3 20 (by omega)]
          · rw [j7 18 (by omega) (by omega) (by omega), xu_ii, eb2, eb1, eb0]
          · rw [f8 x (by omega), F7 x (by omega), X3 x (by omega)]
          · rw [j7 x (by omega) (by omega) (by omega), xu_ne (by omega), j5 x (by omega) (by omega) (by omega), xu_ne (by omega)]
        · exact absurd (show (2 : Int32) ≤ 2 by decide) h36''
  · skip
    exact absurd rfl h4
end ST

