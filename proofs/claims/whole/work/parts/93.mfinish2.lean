/-! finish: the model, from its start. -/
section MH
variable {S : XS} {d nb : Nat} {I P : Nat → Nat → Int32} {J : Nat → Nat → Int64} {R : Nat → Nat → Option Nat} {ar : Nat → CA}
theorem s_mfinish (hR : RF R) (hP : MPg I P nb) (hA : MAr I ar) (hst : I 261 9 = 1) :
    XP S (d + 8) 147 0 (xent [.ref 261] 5) [] (hh I J R) (fun v h' => v = some (.int (nI (drS P nb (fnS P nb ar (I 261 13) (2 * nb)).1 (fnS P nb ar (I 261 13) (2 * nb)).2.1 (fnS P nb ar (I 261 13) (2 * nb)).2.1).2)) ∧ ∃ I' J', h' = hh I' J' R ∧ MSu I' (drS P nb (fnS P nb ar (I 261 13) (2 * nb)).1 (fnS P nb ar (I 261 13) (2 * nb)).2.1 (fnS P nb ar (I 261 13) (2 * nb)).2.1).2 (drS P nb (fnS P nb ar (I 261 13) (2 * nb)).1 (fnS P nb ar (I 261 13) (2 * nb)).2.1 (fnS P nb ar (I 261 13) (2 * nb)).2.1).1 ∧ I' 261 13 = (fnS P nb ar (I 261 13) (2 * nb)).2.2 ∧ FN I I' J J') := by
  have nb2 := hP.1.2.1
  have e2 : (2 : Int32) * nI nb = nI (2 * nb) := pk_mul 2 nb
  have wa : ∀ g, g < 24 → WC (ar g) := fun g hg => (hA g hg).1
  have loop : ∀ (m g : Nat), g + m = 2 * nb → ∀ I' J' (q2 q3 q4 : Option Value), MSu I' (fnS P nb ar (I 261 13) g).2.1 (fnS P nb ar (I 261 13) g).1 → I' 261 13 = (fnS P nb ar (I 261 13) g).2.2 → FN I I' J J' → XP S (d + 8) 147 16 [some (.ref 261), some (.int (nI g)), q2, q3, q4] [] (hh I' J' R) (fun v h' => v = some (.int (nI (drS P nb (fnS P nb ar (I 261 13) (2 * nb)).1 (fnS P nb ar (I 261 13) (2 * nb)).2.1 (fnS P nb ar (I 261 13) (2 * nb)).2.1).2)) ∧ ∃ I' J', h' = hh I' J' R ∧ MSu I' (drS P nb (fnS P nb ar (I 261 13) (2 * nb)).1 (fnS P nb ar (I 261 13) (2 * nb)).2.1 (fnS P nb ar (I 261 13) (2 * nb)).2.1).2 (drS P nb (fnS P nb ar (I 261 13) (2 * nb)).1 (fnS P nb ar (I 261 13) (2 * nb)).2.1 (fnS P nb ar (I 261 13) (2 * nb)).2.1).1 ∧ I' 261 13 = (fnS P nb ar (I 261 13) (2 * nb)).2.2 ∧ FN I I' J J') := by
    intro m
    induction m with
    | zero =>
      intro g hg I' J' q2 q3 q4 hS h13 hF
      have hg : g = 2 * nb := by omega
      subst hg
      have h10 : I' 261 10 = nI nb := (hF.2.2.1 10 (by decide) (by decide)).trans hP.1.1
      have fw := fnS_w (P := P) (nb := nb) (r0 := I 261 13) wa (2 * nb) (by omega)
      obtain ⟨sn, esn⟩ : ∃ sn, sn = (fnS P nb ar (I 261 13) (2 * nb)).2.1 := ⟨_, rfl⟩
      obtain ⟨sf, esf⟩ : ∃ sf, sf = (fnS P nb ar (I 261 13) (2 * nb)).1 := ⟨_, rfl⟩
      rw [← esn, ← esf] at hS fw ⊢
      have dr := s_drop (S := S) (d := d) (I := I) (J := J) (R := R) (P := P) (nb := nb) (su := sf) hR hP (n := sn) hS.2.1 fw (r0 := (fnS P nb ar (I 261 13) (2 * nb)).2.2) sn 0 (by omega) I' J'
      have hS' : MSu I' ((drS P nb sf sn 0).2 + (sn - 0)) (md (drS P nb sf sn 0).1 (drS P nb sf sn 0).2 sf 0) := ⟨by show I' 261 12 = nI (0 + (sn - 0)); rw [Nat.sub_zero, Nat.zero_add]; exact hS.1, by show 0 + (sn - 0) ≤ 24; have := hS.2.1; omega, fun j hj => by
        have hj : j < 0 + (sn - 0) := hj
        have e : md (drS P nb sf sn 0).1 (drS P nb sf sn 0).2 sf 0 j = sf j := by
          show md sf 0 sf 0 j = sf j
          unfold md
          rw [if_neg (by omega), Nat.zero_add, Nat.sub_zero]
        rw [e]; exact hS.2.2 j (by omega)⟩
      refine y_loc (pc' := 17) xD_147 rfl rfl rfl rfl ?_
      refine y_ci (pc' := 18) (2) xD_147 rfl rfl rfl rfl ?_
      refine y_loc (pc' := 19) xD_147 rfl rfl rfl rfl ?_
      refine m_getI (pc' := 22) xD_147 rfl rfl rfl (by first | rfl | assumption) (h10) rfl ?_
      refine y_imul (pc' := 23) xD_147 rfl (e2) rfl ?_
      refine y_icge (pt := 98) (pf := 26) xD_147 rfl rfl rfl (fun h23 => ?_) (fun h23 => ?_)
      · skip
        refine y_ci (pc' := 99) (0) xD_147 rfl rfl rfl rfl ?_
        refine y_loc (pc' := 100) xD_147 rfl rfl rfl rfl ?_
        exact dr _ _ _ hS' h13 hF
      · skip
        exact absurd (Int32.le_refl _) h23
    | succ m ih =>
      intro g hg I' J' q2 q3 q4 hS h13 hF
      have g24 : g < 24 := by omega
      have h10 : I' 261 10 = nI nb := (hF.2.2.1 10 (by decide) (by decide)).trans hP.1.1
      have nl := fnS_le (P := P) (nb := nb) (ar := ar) (r0 := I 261 13) g
      have step := ih (g + 1) (by omega)
      obtain ⟨sn, esn⟩ : ∃ sn, sn = (fnS P nb ar (I 261 13) g).2.1 := ⟨_, rfl⟩
      obtain ⟨sf, esf⟩ : ∃ sf, sf = (fnS P nb ar (I 261 13) g).1 := ⟨_, rfl⟩
      obtain ⟨sr, esr⟩ : ∃ sr, sr = (fnS P nb ar (I 261 13) g).2.2 := ⟨_, rfl⟩
      have eN : ¬ (0 < (ar g).1 ∧ ib (sG P nb sf sn) g = false) → fnS P nb ar (I 261 13) (g + 1) = fnS P nb ar (I 261 13) g := fun q => by simp only [fnS]; rw [← esn, ← esf, if_neg q]
      have eY : (0 < (ar g).1 ∧ ib (sG P nb sf sn) g = false) → fnS P nb ar (I 261 13) (g + 1) = (uc sf sn (ctS P nb g (ar g).1 (ar g) sr).1, sn + 1, (ctS P nb g (ar g).1 (ar g) sr).2) := fun q => by simp only [fnS]; rw [← esn, ← esf, ← esr, if_pos q]
      rw [← esn] at nl
      have hS0 : MSu I' sn sf := by rw [esn, esf]; exact hS
      have h13' : I' 261 13 = sr := h13.trans esr.symm
      have hP' : MPg I' P nb := hP.fr (hF.2.2.1 10 (by decide) (by decide)) (fun x a b => hF.2.1 x (by omega) (by omega) (by omega) (by omega))
      have oth := s_others (S := S) (d := d) (I := I') (J := J') (R := R) (P := P) (nb := nb) (ns := sn) (su := sf) hR hP' hS0.2.1 hS0.1 hS0.2.2 24 (xk := -1) (fun j hj => ⟨fun q => absurd q (nI_m1 (by have := hS0.2.1; omega)), fun q => by have := hS0.2.1; omega⟩)
      rw [orX_S hS0.2.1] at oth
      have l0 : nI (ar g).1 ≤ 0 ↔ (ar g).1 ≤ 0 := nI_leI (b := 0) (by have := (wa g g24).1; omega) (by decide)
      have b2 := bit0 g24 (sG P nb sf sn)
      have ra : RM I' (9 + g) (ar g) := (hA g g24).2.sf (wa g g24) hF.1 (show 9 + g < 33 by omega)
      have next : ¬ (0 < (ar g).1 ∧ ib (sG P nb sf sn) g = false) → ∀ I1 J1 (q2 q3 q4 : Option Value), MSu I1 sn sf → I1 261 13 = sr → FN I I1 J J1 → XP S (d + 8) 147 92 [some (.ref 261), some (.int (nI g)), q2, q3, q4] [] (hh I1 J1 R) (fun v h' => v = some (.int (nI (drS P nb (fnS P nb ar (I 261 13) (2 * nb)).1 (fnS P nb ar (I 261 13) (2 * nb)).2.1 (fnS P nb ar (I 261 13) (2 * nb)).2.1).2)) ∧ ∃ I' J', h' = hh I' J' R ∧ MSu I' (drS P nb (fnS P nb ar (I 261 13) (2 * nb)).1 (fnS P nb ar (I 261 13) (2 * nb)).2.1 (fnS P nb ar (I 261 13) (2 * nb)).2.1).2 (drS P nb (fnS P nb ar (I 261 13) (2 * nb)).1 (fnS P nb ar (I 261 13) (2 * nb)).2.1 (fnS P nb ar (I 261 13) (2 * nb)).2.1).1 ∧ I' 261 13 = (fnS P nb ar (I 261 13) (2 * nb)).2.2 ∧ FN I I' J J') := by
        intro q I1 J1 q2 q3 q4 a1 a2 a3
        rw [eN q, ← esn, ← esf, ← esr] at step
        refine y_inc (pc' := 95) (nI (g + 1)) xD_147 rfl rfl rfl (nI_1 (g)) rfl rfl ?_
        refine y_goto (pc' := 16) xD_147 rfl rfl ?_
        exact step I1 J1 _ _ _ a1 a2 a3
      have msM : ∀ {I2 : Nat → Nat → Int32} {J2 : Nat → Nat → Int64}, MS1 I' I2 J' J2 → MSu I2 sn sf ∧ I2 261 13 = sr ∧ FN I I2 J J2 ∧ RM I2 (9 + g) (ar g) := fun m => ⟨⟨by rw [m.1 261 (by decide)]; exact hS0.1, hS0.2.1, fun j hj => ⟨(hS0.2.2 j hj).1, (hS0.2.2 j hj).2.row (m.1 262 (by decide)) (m.1 263 (by decide))⟩⟩, by rw [m.1 261 (by decide)]; exact h13', hF.ms m, ra.row (m.1 262 (by decide)) (m.1 263 (by decide))⟩
      refine y_loc (pc' := 17) xD_147 rfl rfl rfl rfl ?_
      refine y_ci (pc' := 18) (2) xD_147 rfl rfl rfl rfl ?_
      refine y_loc (pc' := 19) xD_147 rfl rfl rfl rfl ?_
      refine m_getI (pc' := 22) xD_147 rfl rfl rfl (by first | rfl | assumption) (h10) rfl ?_
      refine y_imul (pc' := 23) xD_147 rfl (e2) rfl ?_
      refine y_icge (pt := 98) (pf := 26) xD_147 rfl rfl rfl (fun h23 => ?_) (fun h23 => ?_)
      · exact absurd h23 (nI_ge (a := g) (b := 2 * nb) (by omega) (by omega))
      · skip
        refine y_loc (pc' := 27) xD_147 rfl rfl rfl rfl ?_
        refine y_ci (pc' := 28) (-1) xD_147 rfl rfl rfl rfl ?_
        refine y_callV xD_147 rfl rfl rfl rfl (by first | rfl | assumption) rfl rfl rfl rfl (oth) (fun v h' hq => ?_)
        obtain ⟨rfl, I1, J1, rfl, m1⟩ := hq
        obtain ⟨S1, C1, F1, R1⟩ := msM m1
        show XP S (d + 8) 147 31 [some (.ref 261), some (.int (nI g)), q2, q3, q4] [.int (sG P nb sf sn)] (hh I1 J1 R) _
        refine y_loc (pc' := 32) xD_147 rfl rfl rfl rfl ?_
        refine y_loc (pc' := 33) xD_147 rfl rfl rfl rfl ?_
        first | refine m_getR (pc' := 36) xD_147 rfl rfl rfl rfl (hR.1 _ _ _ rfl) rfl ?_ | refine m_getR (pc' := 36) xD_147 rfl rfl (by first | rfl | assumption) rfl (by assumption) rfl ?_
        refine y_ci (pc' := 38) (9) xD_147 rfl rfl rfl rfl ?_
        refine y_loc (pc' := 39) xD_147 rfl rfl rfl rfl ?_
        refine y_iadd (pc' := 40) xD_147 rfl ((show (9 : Int32) + nI g = nI (9 + g) from nI_add 9 g)) rfl ?_
        refine m_iald (pc' := 41) ((9 + g)) xD_147 rfl (by first | rfl | assumption) (by first | assumption | omega) (by first | decide | assumption) (by first | decide | omega) (by first | rfl | assumption) rfl ?_
        rw [R1.1]
        refine y_ifle (pt := 92) (pf := 44) xD_147 rfl rfl rfl (fun h41 => ?_) (fun h41 => ?_)
        · skip
          first
          | exact next (fun q => absurd (l0.mp h41) (by omega)) I1 J1 _ _ _ S1 C1 F1
          | exact next (fun q => h49 (b2.mpr q.2)) I1 J1 _ _ _ S1 C1 F1
        · skip
          refine y_loc (pc' := 45) xD_147 rfl rfl rfl rfl ?_
          refine y_loc (pc' := 46) xD_147 rfl rfl rfl rfl ?_
          refine y_op (pc' := 47) xD_147 rfl rfl rfl rfl ?_
          refine y_ci (pc' := 48) (1) xD_147 rfl rfl rfl rfl ?_
          refine y_op (pc' := 49) xD_147 rfl rfl rfl rfl ?_
          refine y_ifne (pt := 92) (pf := 52) xD_147 rfl rfl rfl (fun h49 => ?_) (fun h49 => ?_)
          · skip
            first
            | exact next (fun q => absurd (l0.mp h41) (by omega)) I1 J1 _ _ _ S1 C1 F1
            | exact next (fun q => h49 (b2.mpr q.2)) I1 J1 _ _ _ S1 C1 F1
          · skip
            skip
            have f1 : 0 < (ar g).1 := Nat.lt_of_not_le (fun q => h41 (l0.mpr q))
            rw [eY ⟨f1, b2.mp h49⟩] at step
            obtain ⟨cc, ecc⟩ : ∃ cc, cc = ctS P nb g (ar g).1 (ar g) sr := ⟨_, rfl⟩
            have wcc := ctS_w (P := P) (nb := nb) (g := g) (ar g).1 (ar g) sr (wa g g24) f1 (Nat.le_refl _)
            rw [← ecc] at step wcc
            have r57 := RM_cp (t := 57) (wa g g24) R1
            obtain ⟨I2, eI2⟩ : ∃ I2, I2 = xu (xrow I1 262 (sl1 (I1 262) 57 (slM I1 (9 + g)))) 263 57 (I1 263 (9 + g)) := ⟨_, rfl⟩
            have X2 : ∀ x, x ≠ 262 → x ≠ 263 → I2 x = I1 x := fun x h1 h2 => by rw [eI2, xu_ne h2, xrow_ne h1]
            have s2 : SF (fun t => t ≠ 57) I1 I2 := by rw [eI2]; exact SF_cp
            rw [← eI2] at r57
            have hP2 : MPg I2 P nb := hP.fr (by rw [X2 261 (by decide) (by decide)]; exact F1.2.2.1 10 (by decide) (by decide)) (fun x a b => (X2 x (by omega) (by omega)).trans (F1.2.1 x (by omega) (by omega) (by omega) (by omega)))
            have ct := s_cut (S := S) (d := d + 1) (I := I2) (J := J1) (R := R) hR hP2 (wa g g24) f1 r57 g (by omega)
            rw [X2 261 (by decide) (by decide), C1, ← ecc] at ct
            refine y_loc (pc' := 53) xD_147 rfl rfl rfl rfl ?_
            refine y_ci (pc' := 55) (9) xD_147 rfl rfl rfl rfl ?_
            refine y_loc (pc' := 56) xD_147 rfl rfl rfl rfl ?_
            refine y_iadd (pc' := 57) xD_147 rfl ((show (9 : Int32) + nI g = nI (9 + g) from nI_add 9 g)) rfl ?_
            refine y_ci (pc' := 59) (57) xD_147 rfl rfl rfl rfl ?_
            refine y_callV xD_147 rfl rfl rfl rfl (by first | rfl | assumption) rfl rfl rfl rfl (s_mcopy (d := d + 7) hR (s := 9 + g) (t := 57) (by omega) (by decide) (by omega) rfl rfl) (fun v h' hq => ?_)
            obtain ⟨rfl, rfl⟩ := hq
            show XP S (d + 8) 147 62 [some (.ref 261), some (.int (nI g)), some (.int (sG P nb sf sn)), q3, q4] [] (hh (xu (xrow I1 262 (sl1 (I1 262) 57 (slM I1 (9 + g)))) 263 57 (I1 263 (9 + g))) J1 R) _
            rw [← eI2]
            refine y_loc (pc' := 63) xD_147 rfl rfl rfl rfl ?_
            refine y_ci (pc' := 65) (57) xD_147 rfl rfl rfl rfl ?_
            refine y_loc (pc' := 66) xD_147 rfl rfl rfl rfl ?_
            refine y_callV xD_147 rfl rfl rfl rfl (by first | rfl | assumption) rfl rfl rfl rfl (ct) (fun v h' hq => ?_)
            obtain ⟨rfl, I3, J3, rfl, r3, c3, s3, x3, f3, j3⟩ := hq
            have e12 : I3 261 12 = nI sn := (f3 12 (by decide)).trans S1.1
            have n24 := S1.2.1
            refine y_loc (pc' := 70) xD_147 rfl rfl rfl rfl ?_
            refine y_ci (pc' := 72) (57) xD_147 rfl rfl rfl rfl ?_
            refine y_ci (pc' := 74) (33) xD_147 rfl rfl rfl rfl ?_
            refine y_loc (pc' := 75) xD_147 rfl rfl rfl rfl ?_
            refine m_getI (pc' := 78) xD_147 rfl rfl rfl (by first | rfl | assumption) (e12) rfl ?_
            refine y_iadd (pc' := 79) xD_147 rfl ((show (33 : Int32) + nI sn = nI (33 + sn) from nI_add 33 sn)) rfl ?_
            refine y_callV xD_147 rfl rfl rfl rfl (by first | rfl | assumption) rfl rfl rfl rfl (s_mcopy (d := d + 7) hR (s := 57) (t := 33 + sn) (by decide) (by omega) (by omega) rfl rfl) (fun v h' hq => ?_)
            obtain ⟨rfl, rfl⟩ := hq
            have r4 := RM_cp (t := 33 + sn) wcc.1 r3
            have s4 : SF (fun t => t ≠ 33 + sn) I3 (xu (xrow I3 262 (sl1 (I3 262) (33 + sn) (slM I3 57))) 263 (33 + sn) (I3 263 57)) := SF_cp
            obtain ⟨I4, eI4⟩ : ∃ I4, I4 = xu (xrow I3 262 (sl1 (I3 262) (33 + sn) (slM I3 57))) 263 (33 + sn) (I3 263 57) := ⟨_, rfl⟩
            have X4 : ∀ x, x ≠ 262 → x ≠ 263 → I4 x = I3 x := fun x h1 h2 => by rw [eI4, xu_ne h2, xrow_ne h1]
            rw [← eI4] at r4 s4
            have e12' : I4 261 12 = nI sn := by rw [X4 261 (by decide) (by decide)]; exact e12
            show XP S (d + 8) 147 82 [some (.ref 261), some (.int (nI g)), some (.int (sG P nb sf sn)), q3, q4] [] (hh (xu (xrow I3 262 (sl1 (I3 262) (33 + sn) (slM I3 57))) 263 (33 + sn) (I3 263 57)) J3 R) _
            rw [← eI4]
            refine y_loc (pc' := 83) xD_147 rfl rfl rfl rfl ?_
            refine y_op (pc' := 84) xD_147 rfl rfl rfl rfl ?_
            refine m_getI (pc' := 87) xD_147 rfl rfl rfl (by first | rfl | assumption) (e12') rfl ?_
            refine y_ci (pc' := 88) (1) xD_147 rfl rfl rfl rfl ?_
            refine y_iadd (pc' := 89) xD_147 rfl (nI_1 sn) rfl ?_
            refine m_putI (pc' := 92) xD_147 rfl rfl (by first | rfl | assumption) rfl rfl rfl ?_
            refine y_inc (pc' := 95) (nI (g + 1)) xD_147 rfl rfl rfl (nI_1 (g)) rfl rfl ?_
            refine y_goto (pc' := 16) xD_147 rfl rfl ?_
            refine step (xu I4 261 12 (nI (sn + 1))) J3 _ _ _ ⟨xu_ii, by show sn + 1 ≤ 24; omega, fun j hj => ?_⟩ ?_ ⟨?_, fun x h1 h2 h3 h4 => ?_, fun j h1 h2 => ?_, fun x h1 h2 => (j3 x h1 h2).trans (F1.2.2.2 x h1 h2)⟩
            · have hj : j < sn + 1 := hj
              show WC (uc sf sn cc.1 j) ∧ RM _ (33 + j) (uc sf sn cc.1 j)
              unfold uc
              by_cases e : j = sn
              · rw [if_pos e, e]; exact ⟨wcc.1, r4.row (xu_ne (by decide)) (xu_ne (by decide))⟩
              · rw [if_neg e]
                obtain ⟨w, r⟩ := S1.2.2 j (by omega)
                exact ⟨w, (((r.sf w s2 (show 33 + j ≠ 57 by omega)).sf w s3 ⟨by omega, by omega⟩).sf w s4 (show 33 + j ≠ 33 + sn by omega)).row (xu_ne (by decide)) (xu_ne (by decide))⟩
            · show (if _ then _ else _) = _
              rw [if_neg (by decide), X4 261 (by decide) (by decide)]; exact c3
            · exact F1.1.tr ((s2.w (fun t (ht : t < 33) => show t ≠ 57 by omega)).tr ((s3.w (fun t (ht : t < 33) => ⟨by omega, by omega⟩)).tr ((s4.w (fun t (ht : t < 33) => show t ≠ 33 + sn by omega)).tr (SF.rfl' (xu_ne (by decide)) (xu_ne (by decide))))))
            · rw [xu_ne h1, X4 x h2 h3, x3 x h1 h2 h3 h4, X2 x h2 h3]; exact F1.2.1 x h1 h2 h3 h4
            · show (if _ then _ else _) = _
              rw [if_neg (fun q => h1 q.2), X4 261 (by decide) (by decide), f3 j h2]; exact F1.2.2.1 j h1 h2
  refine y_loc (pc' := 1) xD_147 rfl rfl rfl rfl ?_
  refine m_getZ (pc' := 4) xD_147 rfl rfl rfl (by first | rfl | assumption) (hst) rfl ?_
  refine y_ifne (pt := 9) (pf := 7) xD_147 rfl rfl rfl (fun h4 => ?_) (fun h4 => ?_)
  · skip
    refine y_loc (pc' := 10) xD_147 rfl rfl rfl rfl ?_
    refine y_ci (pc' := 11) (0) xD_147 rfl rfl rfl rfl ?_
    refine m_putI (pc' := 14) xD_147 rfl rfl (by first | rfl | assumption) rfl rfl rfl ?_
    refine y_ci (pc' := 15) (0) xD_147 rfl rfl rfl rfl ?_
    refine y_loc (pc' := 16) xD_147 rfl rfl rfl rfl ?_
    refine loop (2 * nb) 0 (by omega) _ J _ _ _ ⟨xu_ii, Nat.zero_le _, fun k hk => absurd hk (Nat.not_lt_zero _)⟩ ?_ ⟨SF.rfl' (xu_ne (by decide)) (xu_ne (by decide)), fun x h1 h2 h3 h4 => xu_ne h1, fun j h1 h2 => ?_, fun _ _ _ => rfl⟩
    · show (if _ then _ else _) = _
      rw [if_neg (by decide)]; rfl
    · show (if _ then _ else _) = _
      rw [if_neg (fun q => h1 q.2)]
  · skip
    exact absurd h4 (by decide)
end MH

