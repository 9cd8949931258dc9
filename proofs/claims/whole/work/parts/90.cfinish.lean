/-! finish: the class, whole. -/
theorem C24.ne {R : Nat → Nat → Option Nat} {B : Nat → Nat} (h : C24 R B) {i j r r' : Nat} (hi : i < 24) (hj : j < 24) (hij : i ≠ j) (hr : r < 4) (hr' : r' < 4) : B i + r ≠ B j + r' := by
  obtain ⟨-, c1, l1, u1, e1⟩ := h i hi
  obtain ⟨-, c2, l2, u2, -⟩ := h j hj
  have := e1 j hj
  unfold isCase at c1 c2
  intro q
  have : B i ≠ B j := fun t => hij (this t)
  omega
def CSu (I : Nat → Nat → Int32) (J : Nat → Nat → Int64) (R : Nat → Nat → Option Nat) (P : Nat → Nat → Int32) (nb : Nat) (B : Nat → Nat) (ns : Nat) (su : Nat → CA) : Prop := C24 R B ∧ I 151 2 = nI ns ∧ ns ≤ 24 ∧ ∀ k, k < ns → WC (su k) ∧ 0 < (su k).1 ∧ RX I J P nb (B k) (su k)
section CF
variable {S : XS} {d nb : Nat} {I P : Nat → Nat → Int32} {J : Nat → Nat → Int64} {R : Nat → Nat → Option Nat} {su ar : Nat → CA} {B : Nat → Nat} {ns : Nat}
/-- Suite.goals -/
theorem s_sgoals (hR : RF R) (h : CSu I J R P nb B ns su) : XP S (d + 1) 80 0 (xent [.ref 151] 1) [] (hh I J R) (rI (sG P nb su ns) (hh I J R)) := by
  obtain ⟨hB, e2, n24, hx⟩ := h
  refine y_loc (pc' := 1) xD_80 rfl rfl rfl rfl ?_
  refine y_ci (pc' := 2) (0) xD_80 rfl rfl rfl rfl ?_
  refine y_loc (pc' := 3) xD_80 rfl rfl rfl rfl ?_
  refine m_getI (pc' := 6) xD_80 rfl rfl rfl (by first | rfl | assumption) (e2) rfl ?_
  refine y_callV xD_80 rfl rfl rfl rfl (by first | rfl | assumption) rfl rfl rfl rfl (s_goalsOf (d := d) hR hB 0 ns (by omega) (fun j => kS P nb (su j)) (fun j hj => by rw [Nat.zero_add]; exact (hx j hj).2.2.2.1) (x1 := 0) (x2 := nI ns) rfl (by rw [Nat.zero_add])) (fun v h' hq => ?_)
  obtain ⟨rfl, rfl⟩ := hq
  refine y_retI xD_80 rfl rfl ?_
  exact ⟨rfl, rfl⟩
theorem s_finish (hR : RF R) (hP : CPg I P nb) (hB : C24 R B) (hAr : CAr I J P nb ar) (hst : I 1 8 = 1) :
    XP S (d + 7) 78 0 (xent [.ref 1] 2) [] (hh I J R) (fun v h' => v = some (.int (nI (drS P nb (fnS P nb ar (I 20 2) (2 * nb)).1 (fnS P nb ar (I 20 2) (2 * nb)).2.1 (fnS P nb ar (I 20 2) (2 * nb)).2.1).2)) ∧ ∃ I' J' R' B', h' = hh I' J' R' ∧ RF R' ∧ CSu I' J' R' P nb B' (drS P nb (fnS P nb ar (I 20 2) (2 * nb)).1 (fnS P nb ar (I 20 2) (2 * nb)).2.1 (fnS P nb ar (I 20 2) (2 * nb)).2.1).2 (drS P nb (fnS P nb ar (I 20 2) (2 * nb)).1 (fnS P nb ar (I 20 2) (2 * nb)).2.1 (fnS P nb ar (I 20 2) (2 * nb)).2.1).1 ∧ I' 20 2 = (fnS P nb ar (I 20 2) (2 * nb)).2.2 ∧ (∀ x, x < 20 ∨ (23 ≤ x ∧ x < 151) ∨ 253 ≤ x → I' x = I x ∧ J' x = J x) ∧ ∀ x, x ≠ 152 → R' x = R x) := by
  have nb2 := hP.2.1
  have wa : ∀ g, g < 24 → WC (ar g) := fun g hg => (hAr.2 g hg).1
  have loop : ∀ (m g : Nat), g + m = 2 * nb → ∀ I' J', CSu I' J' R P nb B (fnS P nb ar (I 20 2) g).2.1 (fnS P nb ar (I 20 2) g).1 → I' 20 2 = (fnS P nb ar (I 20 2) g).2.2 → (∀ x, x < 20 ∨ (23 ≤ x ∧ x < 151) ∨ 253 ≤ x → I' x = I x ∧ J' x = J x) → XP S (d + 7) 78 18 [some (.ref 1), some (.int (nI g))] [] (hh I' J' R) (fun v h' => v = some (.int (nI (drS P nb (fnS P nb ar (I 20 2) (2 * nb)).1 (fnS P nb ar (I 20 2) (2 * nb)).2.1 (fnS P nb ar (I 20 2) (2 * nb)).2.1).2)) ∧ ∃ I' J' R' B', h' = hh I' J' R' ∧ RF R' ∧ CSu I' J' R' P nb B' (drS P nb (fnS P nb ar (I 20 2) (2 * nb)).1 (fnS P nb ar (I 20 2) (2 * nb)).2.1 (fnS P nb ar (I 20 2) (2 * nb)).2.1).2 (drS P nb (fnS P nb ar (I 20 2) (2 * nb)).1 (fnS P nb ar (I 20 2) (2 * nb)).2.1 (fnS P nb ar (I 20 2) (2 * nb)).2.1).1 ∧ I' 20 2 = (fnS P nb ar (I 20 2) (2 * nb)).2.2 ∧ (∀ x, x < 20 ∨ (23 ≤ x ∧ x < 151) ∨ 253 ≤ x → I' x = I x ∧ J' x = J x) ∧ ∀ x, x ≠ 152 → R' x = R x) := by
    intro m
    induction m with
    | zero =>
      intro g hg I' J' hS h20 fr
      have hg : g = 2 * nb := by omega
      subst hg
      have gc : (2 : Int32) * I' 2 3 = nI (2 * nb) := by rw [(fr 2 (by omega)).1, hP.1]; exact pk_mul 2 nb
      obtain ⟨sn, esn⟩ : ∃ sn, sn = (fnS P nb ar (I 20 2) (2 * nb)).2.1 := ⟨_, rfl⟩
      obtain ⟨sf, esf⟩ : ∃ sf, sf = (fnS P nb ar (I 20 2) (2 * nb)).1 := ⟨_, rfl⟩
      rw [← esn, ← esf] at hS ⊢
      have dn := s_dropNeedless (S := S) (d := d + 5) (I := I') (J := J') (R := R) (P := P) (nb := nb) (su := sf) (B := B) (n := sn) hR hS.1 hS.2.2.1 hS.2.1 (fun j hj => (hS.2.2.2 j hj).2.2)
      have dl := drS_le (P := P) (nb := nb) (n := sn) (su := sf) sn
      have dw := drS_w (P := P) (nb := nb) (n := sn) (su := sf) (fun j hj => ⟨(hS.2.2.2 j hj).1, (hS.2.2.2 j hj).2.1⟩) sn (Nat.le_refl _)
      refine y_loc (pc' := 19) xD_78 rfl rfl rfl rfl ?_
      refine y_loc (pc' := 20) xD_78 rfl rfl rfl rfl ?_
      first | refine m_getR (pc' := 23) xD_78 rfl rfl rfl rfl (hR.1 _ _ _ rfl) rfl ?_ | refine m_getR (pc' := 23) xD_78 rfl rfl (by first | rfl | assumption) rfl (by assumption) rfl ?_
      refine y_callV xD_78 rfl rfl rfl rfl (by first | rfl | assumption) rfl rfl rfl rfl (s_goalCount) (fun v h' hq => ?_)
      obtain ⟨rfl, rfl⟩ := hq
      rw [gc]
      refine y_icge (pt := 88) (pf := 29) xD_78 rfl rfl rfl (fun h26 => ?_) (fun h26 => ?_)
      · skip
        refine y_loc (pc' := 89) xD_78 rfl rfl rfl rfl ?_
        first | refine m_getR (pc' := 92) xD_78 rfl rfl rfl rfl (hR.1 _ _ _ rfl) rfl ?_ | refine m_getR (pc' := 92) xD_78 rfl rfl (by first | rfl | assumption) rfl (by assumption) rfl ?_
        refine y_callV xD_78 rfl rfl rfl rfl (by first | rfl | assumption) rfl rfl rfl rfl (dn) (fun v h' hq => ?_)
        obtain ⟨rfl, R', B', rfl, hR', hB', hx', fR⟩ := hq
        refine y_loc (pc' := 96) xD_78 rfl rfl rfl rfl ?_
        refine m_getR (pc' := 99) xD_78 rfl rfl (by first | rfl | assumption) rfl (hR'.1 _ _ _ rfl) rfl ?_
        refine m_getI (pc' := 102) xD_78 rfl rfl rfl (by first | rfl | assumption) (xu_ii) rfl ?_
        refine y_retI xD_78 rfl rfl ?_
        exact ⟨rfl, _, J', R', B', rfl, hR', ⟨hB', xu_ii, by have := hS.2.2.1; omega, fun k hk => ⟨(dw k hk).1, (dw k hk).2, (hx' k hk).fr (xu_ne (by have := (hB' k (by have := hS.2.2.1; omega)).2.2.1; omega)) (xu_ne (by have := (hB' k (by have := hS.2.2.1; omega)).2.2.1; omega)) rfl rfl⟩⟩, by rw [xu_ne (by decide)]; exact h20, fun x hx => ⟨(xu_ne (by omega)).trans (fr x hx).1, (fr x hx).2⟩, fR⟩
      · skip
        exact absurd (Int32.le_refl _) h26
    | succ m ih =>
      intro g hg I' J' hS h20 fr
      have g24 : g < 24 := by omega
      have gc : (2 : Int32) * I' 2 3 = nI (2 * nb) := by rw [(fr 2 (by omega)).1, hP.1]; exact pk_mul 2 nb
      have nl := fnS_le (P := P) (nb := nb) (ar := ar) (r0 := I 20 2) g
      have step := ih (g + 1) (by omega)
      obtain ⟨sn, esn⟩ : ∃ sn, sn = (fnS P nb ar (I 20 2) g).2.1 := ⟨_, rfl⟩
      obtain ⟨sf, esf⟩ : ∃ sf, sf = (fnS P nb ar (I 20 2) g).1 := ⟨_, rfl⟩
      obtain ⟨sr, esr⟩ : ∃ sr, sr = (fnS P nb ar (I 20 2) g).2.2 := ⟨_, rfl⟩
      have eN : ¬ (0 < (ar g).1 ∧ ib (sG P nb sf sn) g = false) → fnS P nb ar (I 20 2) (g + 1) = fnS P nb ar (I 20 2) g := fun q => by simp only [fnS]; rw [← esn, ← esf, if_neg q]
      have eY : (0 < (ar g).1 ∧ ib (sG P nb sf sn) g = false) → fnS P nb ar (I 20 2) (g + 1) = (uc sf sn (ctS P nb g (ar g).1 (ar g) sr).1, sn + 1, (ctS P nb g (ar g).1 (ar g) sr).2) := fun q => by simp only [fnS]; rw [← esn, ← esf, ← esr, if_pos q]
      have hS0 := hS
      rw [← esn, ← esf] at hS
      rw [← esn] at nl
      have h20' : I' 20 2 = sr := h20.trans esr.symm
      have e23 : I' 23 1 = I 23 1 := congrFun (fr 23 (by omega)).1 1
      have fnd : ib (I 23 1) g = true ↔ 0 < (ar g).1 := (hAr.1 g (by omega)).trans ⟨fun q => q.2, fun q => ⟨g24, q⟩⟩
      have b1 := bit0 g24 (I 23 1)
      have b2 := bit0 g24 (sG P nb sf sn)
      have rb := rBest hR g24
      have arx : 0 < (ar g).1 → RX I' J' P nb (25 + 4 * g) (ar g) := fun q => ((hAr.2 g g24).2.2 q).fr (fr _ (by omega)).1 (fr _ (by omega)).1 (fr _ (by omega)).2 (fr _ (by omega)).2
      have next : ¬ (0 < (ar g).1 ∧ ib (sG P nb sf sn) g = false) → XP S (d + 7) 78 82 [some (.ref 1), some (.int (nI g))] [] (hh I' J' R) (fun v h' => v = some (.int (nI (drS P nb (fnS P nb ar (I 20 2) (2 * nb)).1 (fnS P nb ar (I 20 2) (2 * nb)).2.1 (fnS P nb ar (I 20 2) (2 * nb)).2.1).2)) ∧ ∃ I' J' R' B', h' = hh I' J' R' ∧ RF R' ∧ CSu I' J' R' P nb B' (drS P nb (fnS P nb ar (I 20 2) (2 * nb)).1 (fnS P nb ar (I 20 2) (2 * nb)).2.1 (fnS P nb ar (I 20 2) (2 * nb)).2.1).2 (drS P nb (fnS P nb ar (I 20 2) (2 * nb)).1 (fnS P nb ar (I 20 2) (2 * nb)).2.1 (fnS P nb ar (I 20 2) (2 * nb)).2.1).1 ∧ I' 20 2 = (fnS P nb ar (I 20 2) (2 * nb)).2.2 ∧ (∀ x, x < 20 ∨ (23 ≤ x ∧ x < 151) ∨ 253 ≤ x → I' x = I x ∧ J' x = J x) ∧ ∀ x, x ≠ 152 → R' x = R x) := by
        intro q
        rw [eN q] at step
        refine y_inc (pc' := 85) (nI (g + 1)) xD_78 rfl rfl rfl (nI_1 (g)) rfl rfl ?_
        refine y_goto (pc' := 18) xD_78 rfl rfl ?_
        exact step I' J' hS0 h20 fr
      refine y_loc (pc' := 19) xD_78 rfl rfl rfl rfl ?_
      refine y_loc (pc' := 20) xD_78 rfl rfl rfl rfl ?_
      first | refine m_getR (pc' := 23) xD_78 rfl rfl rfl rfl (hR.1 _ _ _ rfl) rfl ?_ | refine m_getR (pc' := 23) xD_78 rfl rfl (by first | rfl | assumption) rfl (by assumption) rfl ?_
      refine y_callV xD_78 rfl rfl rfl rfl (by first | rfl | assumption) rfl rfl rfl rfl (s_goalCount) (fun v h' hq => ?_)
      obtain ⟨rfl, rfl⟩ := hq
      rw [gc]
      refine y_icge (pt := 88) (pf := 29) xD_78 rfl rfl rfl (fun h26 => ?_) (fun h26 => ?_)
      · skip
        exact absurd h26 (nI_ge (a := g) (b := 2 * nb) (by omega) (by omega))
      · skip
        refine y_loc (pc' := 30) xD_78 rfl rfl rfl rfl ?_
        first | refine m_getR (pc' := 33) xD_78 rfl rfl rfl rfl (hR.1 _ _ _ rfl) rfl ?_ | refine m_getR (pc' := 33) xD_78 rfl rfl (by first | rfl | assumption) rfl (by assumption) rfl ?_
        refine m_getI (pc' := 36) xD_78 rfl rfl rfl (by first | rfl | assumption) (e23) rfl ?_
        refine y_loc (pc' := 37) xD_78 rfl rfl rfl rfl ?_
        refine y_callS xD_78 rfl rfl rfl rfl rfl rfl rfl rfl (s_hasGoal) (fun v h' hq => ?_)
        obtain ⟨rfl, rfl⟩ := hq
        refine y_ifeq (pt := 82) (pf := 43) xD_78 rfl rfl rfl (fun h40 => ?_) (fun h40 => ?_)
        · skip
          first
          | exact next (fun q => absurd (fnd.mpr q.1) (by rw [b1.mp (Classical.not_not.mp (zB_0.mp h40))]; decide))
          | exact next (fun q => (zB_n0.mp h54) (b2.mpr q.2))
        · skip
          refine y_loc (pc' := 44) xD_78 rfl rfl rfl rfl ?_
          first | refine m_getR (pc' := 47) xD_78 rfl rfl rfl rfl (hR.1 _ _ _ rfl) rfl ?_ | refine m_getR (pc' := 47) xD_78 rfl rfl (by first | rfl | assumption) rfl (by assumption) rfl ?_
          refine y_callV xD_78 rfl rfl rfl rfl (by first | rfl | assumption) rfl rfl rfl rfl (s_sgoals (d := d + 5) hR hS) (fun v h' hq => ?_)
          obtain ⟨rfl, rfl⟩ := hq
          refine y_loc (pc' := 51) xD_78 rfl rfl rfl rfl ?_
          refine y_callS xD_78 rfl rfl rfl rfl rfl rfl rfl rfl (s_hasGoal) (fun v h' hq => ?_)
          obtain ⟨rfl, rfl⟩ := hq
          refine y_ifne (pt := 82) (pf := 57) xD_78 rfl rfl rfl (fun h54 => ?_) (fun h54 => ?_)
          · skip
            first
            | exact next (fun q => absurd (fnd.mpr q.1) (by rw [b1.mp (Classical.not_not.mp (zB_0.mp h40))]; decide))
            | exact next (fun q => (zB_n0.mp h54) (b2.mpr q.2))
          · skip
            skip
            have f1 : 0 < (ar g).1 := fnd.mp (by have q := zB_n0.mp h40; rw [b1, Bool.not_eq_false] at q; exact q)
            have f2 : ib (sG P nb sf sn) g = false := b2.mp (Classical.not_not.mp (zB_0.mp h54))
            have hcond := eY ⟨f1, f2⟩
            rw [hcond] at step
            obtain ⟨cc, ecc⟩ : ∃ cc, cc = ctS P nb g (ar g).1 (ar g) sr := ⟨_, rfl⟩
            have wcc := ctS_w (P := P) (nb := nb) (g := g) (ar g).1 (ar g) sr (wa g g24) f1 (Nat.le_refl _)
            rw [← ecc] at step wcc
            have ac := s_appendCut (S := S) (d := d) (I := I') (J := J') (R := R) (B := B) (c := ar g) (a := 25 + 4 * g) hR (hP.fr (fun x hx => (fr x (by omega)).1)) hS.1 (aCase g24) (by omega) sn (by omega) hS.2.1 (wa g g24) f1 (arx f1) g g24
            rw [h20', ← ecc] at ac
            obtain ⟨-, cb, lb, ub, -⟩ := hS.1 sn (by omega)
            have ub' : B sn + 3 < 249 := by unfold isCase at cb; omega
            refine y_loc (pc' := 58) xD_78 rfl rfl rfl rfl ?_
            first | refine m_getR (pc' := 61) xD_78 rfl rfl rfl rfl (hR.1 _ _ _ rfl) rfl ?_ | refine m_getR (pc' := 61) xD_78 rfl rfl (by first | rfl | assumption) rfl (by assumption) rfl ?_
            refine y_loc (pc' := 62) xD_78 rfl rfl rfl rfl ?_
            first | refine m_getR (pc' := 65) xD_78 rfl rfl rfl rfl (hR.1 _ _ _ rfl) rfl ?_ | refine m_getR (pc' := 65) xD_78 rfl rfl (by first | rfl | assumption) rfl (by assumption) rfl ?_
            first | refine m_getR (pc' := 68) xD_78 rfl rfl rfl rfl (hR.1 _ _ _ rfl) rfl ?_ | refine m_getR (pc' := 68) xD_78 rfl rfl (by first | rfl | assumption) rfl (by assumption) rfl ?_
            refine y_loc (pc' := 69) xD_78 rfl rfl rfl rfl ?_
            refine m_aald (pc' := 70) (g) (q := 0) xD_78 rfl (by first | rfl | assumption) (by first | decide | assumption) (by first | assumption | omega) (by first | decide | assumption) (by first | rfl | assumption) rb rfl ?_
            refine y_loc (pc' := 71) xD_78 rfl rfl rfl rfl ?_
            refine y_loc (pc' := 72) xD_78 rfl rfl rfl rfl ?_
            first | refine m_getR (pc' := 75) xD_78 rfl rfl rfl rfl (hR.1 _ _ _ rfl) rfl ?_ | refine m_getR (pc' := 75) xD_78 rfl rfl (by first | rfl | assumption) rfl (by assumption) rfl ?_
            refine y_loc (pc' := 76) xD_78 rfl rfl rfl rfl ?_
            first | refine m_getR (pc' := 79) xD_78 rfl rfl rfl rfl (hR.1 _ _ _ rfl) rfl ?_ | refine m_getR (pc' := 79) xD_78 rfl rfl (by first | rfl | assumption) rfl (by assumption) rfl ?_
            refine y_callV xD_78 rfl rfl rfl rfl (by first | rfl | assumption) rfl rfl rfl rfl (ac) (fun v h' hq => ?_)
            obtain ⟨rfl, I2, J2, rfl, x2, c2, s2, f2', j2⟩ := hq
            refine y_inc (pc' := 85) (nI (g + 1)) xD_78 rfl rfl rfl (nI_1 (g)) rfl rfl ?_
            refine y_goto (pc' := 18) xD_78 rfl rfl ?_
            refine step I2 J2 ⟨hS.1, s2, by show sn + 1 ≤ 24; omega, fun k hk => ?_⟩ c2 (fun x hx => ?_)
            · have hk : k < sn + 1 := hk
              show WC (uc sf sn cc.1 k) ∧ 0 < (uc sf sn cc.1 k).1 ∧ RX I2 J2 P nb (B k) (uc sf sn cc.1 k)
              unfold uc
              by_cases e : k = sn
              · rw [if_pos e, e]; exact ⟨wcc.1, wcc.2, x2⟩
              · rw [if_neg e]
                obtain ⟨w, z, x⟩ := hS.2.2.2 k (by omega)
                obtain ⟨-, ck, lk, uk, -⟩ := hS.1 k (by omega)
                have uk' : B k + 3 < 249 := by unfold isCase at ck; omega
                have n00 := C24.ne hS.1 (i := k) (j := sn) (r := 0) (r' := 0) (by omega) (by omega) e (by decide) (by decide)
                have n01 := C24.ne hS.1 (i := k) (j := sn) (r := 0) (r' := 1) (by omega) (by omega) e (by decide) (by decide)
                have n10 := C24.ne hS.1 (i := k) (j := sn) (r := 1) (r' := 0) (by omega) (by omega) e (by decide) (by decide)
                have n11 := C24.ne hS.1 (i := k) (j := sn) (r := 1) (r' := 1) (by omega) (by omega) e (by decide) (by decide)
                have n22 := C24.ne hS.1 (i := k) (j := sn) (r := 2) (r' := 2) (by omega) (by omega) e (by decide) (by decide)
                have n23 := C24.ne hS.1 (i := k) (j := sn) (r := 2) (r' := 3) (by omega) (by omega) e (by decide) (by decide)
                have n32 := C24.ne hS.1 (i := k) (j := sn) (r := 3) (r' := 2) (by omega) (by omega) e (by decide) (by decide)
                have n33 := C24.ne hS.1 (i := k) (j := sn) (r := 3) (r' := 3) (by omega) (by omega) e (by decide) (by decide)
                exact ⟨w, z, x.fr (f2' _ (by omega) (by omega) (by omega) (by omega) (by omega) (by omega) (by omega)) (f2' _ (by omega) (by omega) (by omega) (by omega) (by omega) (by omega) (by omega)) (j2 _ (by omega) (by omega) (by omega) (by omega) (by omega)) (j2 _ (by omega) (by omega) (by omega) (by omega) (by omega))⟩
            · exact ⟨(f2' x (by omega) (by omega) (by omega) (by omega) (by omega) (by omega) (by omega)).trans (fr x hx).1, (j2 x (by omega) (by omega) (by omega) (by omega) (by omega)).trans (fr x hx).2⟩
  have clr : XP S (d + 6) 79 0 (xent [.ref 151] 1) [] (hh I J R) (rV (hh (xu I 151 2 0) J R)) := by
    refine y_loc (pc' := 1) xD_79 rfl rfl rfl rfl ?_
    refine y_ci (pc' := 2) (0) xD_79 rfl rfl rfl rfl ?_
    refine m_putI (pc' := 5) xD_79 rfl rfl (by first | rfl | assumption) rfl rfl rfl ?_
    refine y_retV xD_79 rfl rfl ?_
    exact ⟨rfl, rfl⟩
  refine y_loc (pc' := 1) xD_78 rfl rfl rfl rfl ?_
  refine m_getZ (pc' := 4) xD_78 rfl rfl rfl (by first | rfl | assumption) (hst) rfl ?_
  refine y_ifne (pt := 9) (pf := 7) xD_78 rfl rfl rfl (fun h4 => ?_) (fun h4 => ?_)
  · skip
    refine y_loc (pc' := 10) xD_78 rfl rfl rfl rfl ?_
    first | refine m_getR (pc' := 13) xD_78 rfl rfl rfl rfl (hR.1 _ _ _ rfl) rfl ?_ | refine m_getR (pc' := 13) xD_78 rfl rfl (by first | rfl | assumption) rfl (by assumption) rfl ?_
    refine y_callV xD_78 rfl rfl rfl rfl (by first | rfl | assumption) rfl rfl rfl rfl (clr) (fun v h' hq => ?_)
    obtain ⟨rfl, rfl⟩ := hq
    refine y_ci (pc' := 17) (0) xD_78 rfl rfl rfl rfl ?_
    refine y_loc (pc' := 18) xD_78 rfl rfl rfl rfl ?_
    exact loop (2 * nb) 0 (by omega) _ J ⟨hB, xu_ii, Nat.zero_le _, fun k hk => absurd hk (Nat.not_lt_zero _)⟩ (by rw [xu_ne (by decide)]; rfl) (fun x hx => ⟨xu_ne (by omega), rfl⟩)
  · skip
    exact absurd h4 (by decide)
end CF

