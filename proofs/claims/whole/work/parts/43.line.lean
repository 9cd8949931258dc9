/-! The class's Runner: a line, a call. -/
theorem cdC_eq {I I' : Nat → Nat → Int32} {A : Nat} (hA : A = 4 ∨ A = 10) (h : ∀ x, x < 16 → I' x = I x) : cdC I' A = cdC I A := by
  funext p q
  unfold cdC
  rw [h _ (by omega)]
theorem bnC_eq {I I' : Nat → Nat → Int32} {A : Nat} (hA : A = 4 ∨ A = 10) (h : ∀ x, x < 16 → I' x = I x) : bnC I' A = bnC I A := by
  funext p
  unfold bnC
  rw [h _ (by omega)]
theorem xu_rowI {I : Nat → Nat → Int32} {a i : Nat} {x : Int32} : xu I a i x = xrow I a (upd (I a) i x) := by
  rw [xu_row]
  rfl
theorem nI_5 {t : Nat} (h : t < 10) : (nI t = 5 ↔ t = 5) ∧ (nI t = 6 ↔ t = 6) ∧ (nI t = 0 ↔ t = 0) ∧ (nI t ≤ 4 ↔ t ≤ 4) ∧ (nI t ≤ 6 ↔ t ≤ 6) ∧ (nI t = 8 ↔ t = 8) ∧ (nI t = 9 ↔ t = 9) ∧ (nI t = 4 ↔ t = 4) :=
  ⟨nI_eq (b := 5) (by omega) (by omega), nI_eq (b := 6) (by omega) (by omega), nI_eq (b := 0) (by omega) (by omega), nI_leI (b := 4) (by omega) (by omega), nI_leI (b := 6) (by omega) (by omega), nI_eq (b := 8) (by omega) (by omega), nI_eq (b := 9) (by omega) (by omega), nI_eq (b := 4) (by omega) (by omega)⟩
section DL
variable {S : XS} {d A : Nat} {I : Nat → Nat → Int32} {J : Nat → Nat → Int64} {R : Nat → Nat → Option Nat}
/-- Runner.doLine -/
theorem s_doLine (hR : RF R) (hA : A = 4 ∨ A = 10) {n : Nat} (hn : I A 5 = nI n) (hn2 : n ≤ 10) (i : Nat) (hi : i < n) (hV : VL (cdC I A) i) (hbr : I (A + 5) i = -1 ∨ ∃ k, k < 12 ∧ I (A + 5) i = nI k) {x : Int32} (hx : x = nI i) :
    XP S (d + 2) 41 0 (xent [.ref 20, .ref A, .int x] 6) [] (hh I J R) (rI (nI (q_line UC (cdC I A) (bnC I A) n i (I 21) (J 22)).1) (hh (xrow I 21 (q_line UC (cdC I A) (bnC I A) n i (I 21) (J 22)).2.1) (xrow J 22 (q_line UC (cdC I A) (bnC I A) n i (I 21) (J 22)).2.2) R)) := by
  have hV0 := hV
  obtain ⟨hk0, hk1, hk2, hk3, hk4, hk5⟩ := kMeth hA
  obtain ⟨hr0, hr1, hr2, hr3, hr4⟩ := rMeth hR hA
  obtain ⟨⟨t, ht, hop⟩, hV3, hVa, hVb, hVc⟩ := hV
  have hop2 : I (A + 1) i = nI t := hop
  obtain ⟨n5, n6, n0, n4, n66, -⟩ := nI_5 ht
  have hi10 : i < 10 := by omega
  have a0 : A ≠ 21 := by rcases hA with rfl | rfl <;> decide
  have a1 : A + 1 ≠ 21 := by rcases hA with rfl | rfl <;> decide
  -- the tail of a line that is no branch
  have tail : ∀ (I' : Nat → Nat → Int32) (op : Value) (q4 q5 : Option Value), (∀ y, y ≠ 21 → I' y = I y) → ¬ t = 5 → ¬ t = 6 → XP S (d + 2) 41 81 [some (.ref 20), some (.ref A), some (.int x), some op, q4, q5] [] (hh I' J R) (rI (nI (q_lead (cdC I A) n i false)) (hh I' J R)) := by
    intro I' op q4 q5 hI h5 h6
    have hcd : cdC I' A = cdC I A := cdC_eq hA (fun y hy => hI y (by omega))
    have hnb : ¬ (I' (A + 1) i = 5 ∨ I' (A + 1) i = 6) := by
      rw [hI (A + 1) a1, hop2, n5, n6]
      omega
    refine y_loc (pc' := 82) xD_41 rfl rfl rfl rfl ?_
    refine y_loc (pc' := 83) xD_41 rfl rfl rfl rfl ?_
    refine y_loc (pc' := 84) xD_41 rfl rfl rfl rfl ?_
    refine y_loc (pc' := 85) xD_41 rfl rfl rfl rfl ?_
    refine y_callV xD_41 rfl rfl rfl rfl (by first | rfl | assumption) rfl rfl rfl rfl (s_isBranch hR hA i hi10 hx) (fun v h' hq => ?_)
    obtain ⟨rfl, rfl⟩ := hq
    refine y_ifeq (pt := 100) (pf := 91) xD_41 rfl rfl rfl (fun h88 => ?_) (fun h88 => ?_)
    · skip
      refine y_ci (pc' := 101) (0) xD_41 rfl rfl rfl rfl ?_
      refine y_callV xD_41 rfl rfl rfl rfl (by first | rfl | assumption) rfl rfl rfl rfl (s_placeAfter hR hA (by rw [hI A a0]; exact hn) hn2 i hi (by rw [hcd]; exact hV0) hx) (fun v h' hq => ?_)
      obtain ⟨rfl, rfl⟩ := hq
      refine y_retI xD_41 rfl rfl ?_
      exact rI_e (by rw [hcd]; rfl)
    · skip
      refine y_loc (pc' := 92) xD_41 rfl rfl rfl rfl ?_
      refine y_loc (pc' := 93) xD_41 rfl rfl rfl rfl ?_
      refine y_loc (pc' := 94) xD_41 rfl rfl rfl rfl ?_
      exact absurd (zB_n0.mp h88) hnb
  have hia : (cdC I A i 0 ≤ 6 ∨ cdC I A i 0 = 8) → ∃ a, a < 8 ∧ I (A + 2) i = nI a ∧ (cdC I A i 1).toNatClampNeg = a := fun q => by
    obtain ⟨a, ha, ea⟩ := hVa q
    exact ⟨a, ha, ea, by rw [ea, nI_cl (by omega)]⟩
  rcases (show t = 0 ∨ (1 ≤ t ∧ t ≤ 4) ∨ (t = 5 ∨ t = 6) ∨ 7 ≤ t by omega) with h0 | h14 | h56 | h7
  · obtain ⟨a, ha, ea, ca⟩ := hia (Or.inl (by rw [hop, n66]; omega))
    have hq : q_line UC (cdC I A) (bnC I A) n i (I 21) (J 22) = (q_lead (cdC I A) n i false, upd (I 21) a (I (A + 4) i), J 22) := by
      unfold q_line
      rw [if_pos (by rw [hop, n0]; exact h0), ca]
      rfl
    rw [hq, xrow_id]
    refine y_loc (pc' := 1) xD_41 rfl rfl rfl rfl ?_
    first | refine m_getR (pc' := 4) xD_41 rfl rfl rfl rfl (hR.1 _ _ _ rfl) rfl ?_ | refine m_getR (pc' := 4) xD_41 rfl rfl (by first | rfl | assumption) rfl (by assumption) rfl ?_
    refine y_loc (pc' := 5) xD_41 rfl rfl rfl rfl ?_
    refine m_iald (pc' := 6) (i) xD_41 rfl (by first | rfl | assumption) (by first | assumption | omega) (by decide) (by first | decide | omega) (by first | rfl | assumption) rfl ?_
    refine y_loc (pc' := 7) xD_41 rfl rfl rfl rfl ?_
    refine y_loc (pc' := 8) xD_41 rfl rfl rfl rfl ?_
    refine y_ifne (pt := 31) (pf := 11) xD_41 rfl rfl rfl (fun h8 => ?_) (fun h8 => ?_)
    · exact absurd h0 (fun q => h8 (by rw [hop2, n0]; exact q))
    · skip
      refine y_loc (pc' := 12) xD_41 rfl rfl rfl rfl ?_
      first | refine m_getR (pc' := 15) xD_41 rfl rfl rfl rfl (hR.1 _ _ _ rfl) rfl ?_ | refine m_getR (pc' := 15) xD_41 rfl rfl (by first | rfl | assumption) rfl (by assumption) rfl ?_
      refine y_loc (pc' := 16) xD_41 rfl rfl rfl rfl ?_
      first | refine m_getR (pc' := 19) xD_41 rfl rfl rfl rfl (hR.1 _ _ _ rfl) rfl ?_ | refine m_getR (pc' := 19) xD_41 rfl rfl (by first | rfl | assumption) rfl (by assumption) rfl ?_
      refine y_loc (pc' := 20) xD_41 rfl rfl rfl rfl ?_
      refine m_iald (pc' := 21) (i) xD_41 rfl (by first | rfl | assumption) (by first | assumption | omega) (by decide) (by first | decide | omega) (by first | rfl | assumption) rfl ?_
      refine y_loc (pc' := 22) xD_41 rfl rfl rfl rfl ?_
      first | refine m_getR (pc' := 25) xD_41 rfl rfl rfl rfl (hR.1 _ _ _ rfl) rfl ?_ | refine m_getR (pc' := 25) xD_41 rfl rfl (by first | rfl | assumption) rfl (by assumption) rfl ?_
      refine y_loc (pc' := 26) xD_41 rfl rfl rfl rfl ?_
      refine m_iald (pc' := 27) (i) xD_41 rfl (by first | rfl | assumption) (by first | assumption | omega) (by decide) (by first | decide | omega) (by first | rfl | assumption) rfl ?_
      skip
      refine m_iast (pc' := 28) (a) xD_41 rfl (by first | rfl | assumption) (by first | assumption | omega) (by decide) (by first | rfl | assumption) rfl ?_
      refine y_goto (pc' := 81) xD_41 rfl rfl ?_
      rw [xu_rowI]
      exact tail _ _ _ _ (fun y hy => xrow_ne hy) (by omega) (by omega)
  · obtain ⟨a, ha, ea, ca⟩ := hia (Or.inl (by rw [hop, n66]; omega))
    have h1 : 1 ≤ cdC I A i 0 := by rw [hop]; exact (nI_leI (a := 1) (by omega) (by omega)).mpr h14.1
    obtain ⟨b, hb, eb⟩ := hVb ⟨h1, by rw [hop, n66]; omega⟩
    obtain ⟨c, hc, ec⟩ := hVc ⟨h1, by rw [hop, n4]; omega⟩
    have eb2 : I (A + 3) i = nI b := eb
    have ec2 : I (A + 4) i = nI c := ec
    have hq : q_line UC (cdC I A) (bnC I A) n i (I 21) (J 22) = (q_lead (cdC I A) n i false, upd (I 21) a (q_calc (I (A + 1) i) (I 21 b) (I 21 c)), J 22) := by
      unfold q_line
      rw [if_neg (by rw [hop, n0]; omega), if_pos (by rw [hop, n4]; omega), ca, eb, ec, nI_cl (by omega), nI_cl (by omega)]
      rfl
    rw [hq, xrow_id]
    refine y_loc (pc' := 1) xD_41 rfl rfl rfl rfl ?_
    first | refine m_getR (pc' := 4) xD_41 rfl rfl rfl rfl (hR.1 _ _ _ rfl) rfl ?_ | refine m_getR (pc' := 4) xD_41 rfl rfl (by first | rfl | assumption) rfl (by assumption) rfl ?_
    refine y_loc (pc' := 5) xD_41 rfl rfl rfl rfl ?_
    refine m_iald (pc' := 6) (i) xD_41 rfl (by first | rfl | assumption) (by first | assumption | omega) (by decide) (by first | decide | omega) (by first | rfl | assumption) rfl ?_
    refine y_loc (pc' := 7) xD_41 rfl rfl rfl rfl ?_
    refine y_loc (pc' := 8) xD_41 rfl rfl rfl rfl ?_
    refine y_ifne (pt := 31) (pf := 11) xD_41 rfl rfl rfl (fun h8 => ?_) (fun h8 => ?_)
    · skip
      refine y_loc (pc' := 32) xD_41 rfl rfl rfl rfl ?_
      refine y_ci (pc' := 33) (4) xD_41 rfl rfl rfl rfl ?_
      refine y_icgt (pt := 81) (pf := 36) xD_41 rfl rfl rfl (fun h33 => ?_) (fun h33 => ?_)
      · exact absurd h33 (Int32.not_lt.mpr (by rw [hop2]; exact n4.mpr h14.2))
      · skip
        refine y_loc (pc' := 37) xD_41 rfl rfl rfl rfl ?_
        first | refine m_getR (pc' := 40) xD_41 rfl rfl rfl rfl (hR.1 _ _ _ rfl) rfl ?_ | refine m_getR (pc' := 40) xD_41 rfl rfl (by first | rfl | assumption) rfl (by assumption) rfl ?_
        refine y_loc (pc' := 41) xD_41 rfl rfl rfl rfl ?_
        first | refine m_getR (pc' := 44) xD_41 rfl rfl rfl rfl (hR.1 _ _ _ rfl) rfl ?_ | refine m_getR (pc' := 44) xD_41 rfl rfl (by first | rfl | assumption) rfl (by assumption) rfl ?_
        refine y_loc (pc' := 45) xD_41 rfl rfl rfl rfl ?_
        refine m_iald (pc' := 46) (i) xD_41 rfl (by first | rfl | assumption) (by first | assumption | omega) (by decide) (by first | decide | omega) (by first | rfl | assumption) rfl ?_
        skip
        refine m_iald (pc' := 47) (b) xD_41 rfl (by first | rfl | assumption) (by first | assumption | omega) (by decide) (by first | decide | omega) (by first | rfl | assumption) rfl ?_
        refine y_loc (pc' := 49) xD_41 rfl rfl rfl rfl ?_
        refine y_loc (pc' := 50) xD_41 rfl rfl rfl rfl ?_
        first | refine m_getR (pc' := 53) xD_41 rfl rfl rfl rfl (hR.1 _ _ _ rfl) rfl ?_ | refine m_getR (pc' := 53) xD_41 rfl rfl (by first | rfl | assumption) rfl (by assumption) rfl ?_
        refine y_loc (pc' := 54) xD_41 rfl rfl rfl rfl ?_
        first | refine m_getR (pc' := 57) xD_41 rfl rfl rfl rfl (hR.1 _ _ _ rfl) rfl ?_ | refine m_getR (pc' := 57) xD_41 rfl rfl (by first | rfl | assumption) rfl (by assumption) rfl ?_
        refine y_loc (pc' := 58) xD_41 rfl rfl rfl rfl ?_
        refine m_iald (pc' := 59) (i) xD_41 rfl (by first | rfl | assumption) (by first | assumption | omega) (by decide) (by first | decide | omega) (by first | rfl | assumption) rfl ?_
        skip
        refine m_iald (pc' := 60) (c) xD_41 rfl (by first | rfl | assumption) (by first | assumption | omega) (by decide) (by first | decide | omega) (by first | rfl | assumption) rfl ?_
        refine y_loc (pc' := 62) xD_41 rfl rfl rfl rfl ?_
        refine y_loc (pc' := 63) xD_41 rfl rfl rfl rfl ?_
        first | refine m_getR (pc' := 66) xD_41 rfl rfl rfl rfl (hR.1 _ _ _ rfl) rfl ?_ | refine m_getR (pc' := 66) xD_41 rfl rfl (by first | rfl | assumption) rfl (by assumption) rfl ?_
        refine y_loc (pc' := 67) xD_41 rfl rfl rfl rfl ?_
        first | refine m_getR (pc' := 70) xD_41 rfl rfl rfl rfl (hR.1 _ _ _ rfl) rfl ?_ | refine m_getR (pc' := 70) xD_41 rfl rfl (by first | rfl | assumption) rfl (by assumption) rfl ?_
        refine y_loc (pc' := 71) xD_41 rfl rfl rfl rfl ?_
        refine m_iald (pc' := 72) (i) xD_41 rfl (by first | rfl | assumption) (by first | assumption | omega) (by decide) (by first | decide | omega) (by first | rfl | assumption) rfl ?_
        refine y_loc (pc' := 73) xD_41 rfl rfl rfl rfl ?_
        refine y_loc (pc' := 75) xD_41 rfl rfl rfl rfl ?_
        refine y_loc (pc' := 77) xD_41 rfl rfl rfl rfl ?_
        refine y_callS xD_41 rfl rfl rfl rfl rfl rfl rfl rfl (s_calculate t (by omega) (by omega) hop2) (fun v h' hq => ?_)
        obtain ⟨rfl, rfl⟩ := hq
        skip
        refine m_iast (pc' := 81) (a) xD_41 rfl (by first | rfl | assumption) (by first | assumption | omega) (by decide) (by first | rfl | assumption) rfl ?_
        rw [xu_rowI]
        exact tail _ _ _ _ (fun y hy => xrow_ne hy) (by omega) (by omega)
    · exact absurd (show t = 0 from n0.mp (by rw [← hop2]; exact h8)) (by omega)
  · obtain ⟨a, ha, ea, ca⟩ := hia (Or.inl (by rw [hop, n66]; omega))
    have h1 : 1 ≤ cdC I A i 0 := by rw [hop]; exact (nI_leI (a := 1) (by omega) (by omega)).mpr (by omega)
    obtain ⟨b, hb, eb⟩ := hVb ⟨h1, by rw [hop, n66]; omega⟩
    have eb2 : I (A + 3) i = nI b := eb
    have hq : q_line UC (cdC I A) (bnC I A) n i (I 21) (J 22) = (q_lead (cdC I A) n i (decide (q_yes (decide (cdC I A i 0 = 5)) (I 21 a).toInt64 (I 21 b).toInt64 = 0)), I 21, q_u UC (bnC I A i) (q_no (decide (cdC I A i 0 = 5)) (I 21 a).toInt64 (I 21 b).toInt64) (q_yes (decide (cdC I A i 0 = 5)) (I 21 a).toInt64 (I 21 b).toInt64) (J 22)) := by
      unfold q_line
      rw [if_neg (by rw [hop, n0]; omega), if_neg (by rw [hop, n4]; omega), if_pos (by rw [hop, n66]; omega), ca, eb, nI_cl (by omega)]
    rw [hq, xrow_id]
    have hisb : I (A + 1) i = 5 ∨ I (A + 1) i = 6 := by rw [hop2, n5, n6]; exact h56
    refine y_loc (pc' := 1) xD_41 rfl rfl rfl rfl ?_
    first | refine m_getR (pc' := 4) xD_41 rfl rfl rfl rfl (hR.1 _ _ _ rfl) rfl ?_ | refine m_getR (pc' := 4) xD_41 rfl rfl (by first | rfl | assumption) rfl (by assumption) rfl ?_
    refine y_loc (pc' := 5) xD_41 rfl rfl rfl rfl ?_
    refine m_iald (pc' := 6) (i) xD_41 rfl (by first | rfl | assumption) (by first | assumption | omega) (by decide) (by first | decide | omega) (by first | rfl | assumption) rfl ?_
    refine y_loc (pc' := 7) xD_41 rfl rfl rfl rfl ?_
    refine y_loc (pc' := 8) xD_41 rfl rfl rfl rfl ?_
    refine y_ifne (pt := 31) (pf := 11) xD_41 rfl rfl rfl (fun h8 => ?_) (fun h8 => ?_)
    · skip
      refine y_loc (pc' := 32) xD_41 rfl rfl rfl rfl ?_
      refine y_ci (pc' := 33) (4) xD_41 rfl rfl rfl rfl ?_
      refine y_icgt (pt := 81) (pf := 36) xD_41 rfl rfl rfl (fun h33 => ?_) (fun h33 => ?_)
      · skip
        refine y_loc (pc' := 82) xD_41 rfl rfl rfl rfl ?_
        refine y_loc (pc' := 83) xD_41 rfl rfl rfl rfl ?_
        refine y_loc (pc' := 84) xD_41 rfl rfl rfl rfl ?_
        refine y_loc (pc' := 85) xD_41 rfl rfl rfl rfl ?_
        refine y_callV xD_41 rfl rfl rfl rfl (by first | rfl | assumption) rfl rfl rfl rfl (s_isBranch hR hA i hi10 hx) (fun v h' hq => ?_)
        obtain ⟨rfl, rfl⟩ := hq
        refine y_ifeq (pt := 100) (pf := 91) xD_41 rfl rfl rfl (fun h88 => ?_) (fun h88 => ?_)
        · skip
          exact absurd hisb (zB_0.mp h88)
        · skip
          refine y_loc (pc' := 92) xD_41 rfl rfl rfl rfl ?_
          refine y_loc (pc' := 93) xD_41 rfl rfl rfl rfl ?_
          refine y_loc (pc' := 94) xD_41 rfl rfl rfl rfl ?_
          refine y_callV xD_41 rfl rfl rfl rfl (by first | rfl | assumption) rfl rfl rfl rfl (s_decide hR hA i hi10 h56 hop ha hb ea eb hbr hx) (fun v h' hq => ?_)
          obtain ⟨rfl, rfl⟩ := hq
          refine y_goto (pc' := 101) xD_41 rfl rfl ?_
          refine y_callV xD_41 rfl rfl rfl rfl (by first | rfl | assumption) rfl rfl rfl rfl (s_placeAfter hR hA hn hn2 i hi hV0 hx) (fun v h' hq => ?_)
          obtain ⟨rfl, rfl⟩ := hq
          refine y_retI xD_41 rfl rfl ?_
          refine rI_e ?_
          congr 2
          rw [Bool.eq_iff_iff, decide_eq_true_eq, decide_eq_true_eq]
          exact zB_1
      · exact absurd (Int32.not_lt.mp h33) (by rw [hop2]; exact fun q => absurd (n4.mp q) (by omega))
    · exact absurd (show t = 0 from n0.mp (by rw [← hop2]; exact h8)) (by omega)
  · have hq : q_line UC (cdC I A) (bnC I A) n i (I 21) (J 22) = (q_lead (cdC I A) n i false, I 21, J 22) := by
      unfold q_line
      rw [if_neg (by rw [hop, n0]; omega), if_neg (by rw [hop, n4]; omega), if_neg (by rw [hop, n66]; omega)]
    rw [hq, xrow_id, xrow_id]
    refine y_loc (pc' := 1) xD_41 rfl rfl rfl rfl ?_
    first | refine m_getR (pc' := 4) xD_41 rfl rfl rfl rfl (hR.1 _ _ _ rfl) rfl ?_ | refine m_getR (pc' := 4) xD_41 rfl rfl (by first | rfl | assumption) rfl (by assumption) rfl ?_
    refine y_loc (pc' := 5) xD_41 rfl rfl rfl rfl ?_
    refine m_iald (pc' := 6) (i) xD_41 rfl (by first | rfl | assumption) (by first | assumption | omega) (by decide) (by first | decide | omega) (by first | rfl | assumption) rfl ?_
    refine y_loc (pc' := 7) xD_41 rfl rfl rfl rfl ?_
    refine y_loc (pc' := 8) xD_41 rfl rfl rfl rfl ?_
    refine y_ifne (pt := 31) (pf := 11) xD_41 rfl rfl rfl (fun h8 => ?_) (fun h8 => ?_)
    · skip
      refine y_loc (pc' := 32) xD_41 rfl rfl rfl rfl ?_
      refine y_ci (pc' := 33) (4) xD_41 rfl rfl rfl rfl ?_
      refine y_icgt (pt := 81) (pf := 36) xD_41 rfl rfl rfl (fun h33 => ?_) (fun h33 => ?_)
      · skip
        exact tail _ _ _ _ (fun y hy => rfl) (by omega) (by omega)
      · exact absurd (Int32.not_lt.mp h33) (by rw [hop2]; exact fun q => absurd (n4.mp q) (by omega))
    · exact absurd (show t = 0 from n0.mp (by rw [← hop2]; exact h8)) (by omega)
/-- Runner.callMethod, from its loop on -/
theorem s_call_loop (hR : RF R) (hA : A = 4 ∨ A = 10) {n : Nat} (hn : I A 5 = nI n) (hn2 : n ≤ 10) (hV : VC (cdC I A) n) (hbr : ∀ p, p < n → I (A + 5) p = -1 ∨ ∃ k, k < 12 ∧ I (A + 5) p = nI k) : ∀ (f p : Nat) (v : Nat → Int32) (N : Nat → Int64) (q4 : Option Value), f ≤ 40 → p ≤ n →
    XP S (d + 3) 40 4 [some (.ref 20), some (.ref A), some (.int (nI p)), some (.int (nI (40 - f))), q4] [] (hh (xrow I 21 v) (xrow J 22 N) R) (rJ (q_call UC (cdC I A) (bnC I A) n f p v N).1 (hh (xrow I 21 (q_call UC (cdC I A) (bnC I A) n f p v N).2.1) (xrow J 22 (q_call UC (cdC I A) (bnC I A) n f p v N).2.2) R)) := by
  obtain ⟨hk0, hk1, hk2, hk3, hk4, hk5⟩ := kMeth hA
  obtain ⟨hr0, hr1, hr2, hr3, hr4⟩ := rMeth hR hA
  have a0 : A ≠ 21 := by rcases hA with rfl | rfl <;> decide
  have a1 : A + 1 ≠ 21 := by rcases hA with rfl | rfl <;> decide
  have a2 : A + 2 ≠ 21 := by rcases hA with rfl | rfl <;> decide
  have a4 : A + 4 ≠ 21 := by rcases hA with rfl | rfl <;> decide
  have a5 : A + 5 ≠ 21 := by rcases hA with rfl | rfl <;> decide
  intro f
  induction f with
  | zero =>
    intro p v N q4 hf hp
    refine y_loc (pc' := 5) xD_40 rfl rfl rfl rfl ?_
    refine y_ci (pc' := 7) (40) xD_40 rfl rfl rfl rfl ?_
    refine y_icge (pt := 94) (pf := 10) xD_40 rfl rfl rfl (fun h7 => ?_) (fun h7 => ?_)
    · skip
      refine y_loc (pc' := 95) xD_40 rfl rfl rfl rfl ?_
      refine y_loc (pc' := 96) xD_40 rfl rfl rfl rfl ?_
      refine m_get (pc' := 99) xD_40 rfl rfl (by first | rfl | assumption) rfl rfl ?_
      refine y_icge (pt := 108) (pf := 102) xD_40 rfl rfl rfl (fun h99 => ?_) (fun h99 => ?_)
      · skip
        refine y_cj (pc' := 109) (0) xD_40 rfl rfl rfl rfl ?_
        refine y_retJ xD_40 rfl rfl ?_
        rw [xrow_ne a0, hn] at h99
        first | (rw [q_call_end (Nat.not_lt.mpr ((nI_leI (by omega) (by omega)).mp h99))]; exact rJ_e rfl) | (rw [q_call_0 (Nat.lt_of_not_le (fun q => h99 ((nI_leI (by omega) (by omega)).mpr q)))]; exact rJ_e rfl)
      · skip
        refine y_ldc (pc' := 105) xD_40 rfl rfl rfl rfl ?_
        refine y_goto (pc' := 109) xD_40 rfl rfl ?_
        refine y_retJ xD_40 rfl rfl ?_
        rw [xrow_ne a0, hn] at h99
        first | (rw [q_call_end (Nat.not_lt.mpr ((nI_leI (by omega) (by omega)).mp h99))]; exact rJ_e rfl) | (rw [q_call_0 (Nat.lt_of_not_le (fun q => h99 ((nI_leI (by omega) (by omega)).mpr q)))]; exact rJ_e rfl)
    · exact absurd (show (40 : Int32) ≤ nI (40 - 0) from by decide) h7
  | succ f ih =>
    intro p v N q4 hf hp
    have hcd : cdC (xrow I 21 v) A = cdC I A := cdC_eq hA (fun y hy => xrow_ne (by omega))
    have hbn : bnC (xrow I 21 v) A = bnC I A := bnC_eq hA (fun y hy => xrow_ne (by omega))
    have e1 : nI (40 - (f + 1)) + 1 = nI (40 - f) := by rw [nI_1]; congr 1; omega
    refine y_loc (pc' := 5) xD_40 rfl rfl rfl rfl ?_
    refine y_ci (pc' := 7) (40) xD_40 rfl rfl rfl rfl ?_
    refine y_icge (pt := 94) (pf := 10) xD_40 rfl rfl rfl (fun h7 => ?_) (fun h7 => ?_)
    · exact absurd h7 (nI_ge (b := 40) (by omega) (by omega))
    · skip
      refine y_loc (pc' := 11) xD_40 rfl rfl rfl rfl ?_
      refine y_loc (pc' := 12) xD_40 rfl rfl rfl rfl ?_
      refine m_get (pc' := 15) xD_40 rfl rfl (by first | rfl | assumption) rfl rfl ?_
      refine y_icge (pt := 94) (pf := 18) xD_40 rfl rfl rfl (fun h15 => ?_) (fun h15 => ?_)
      · skip
        have h15a : ¬ p < n := by
          rw [xrow_ne a0, hn] at h15
          exact Nat.not_lt.mpr ((nI_leI (by omega) (by omega)).mp h15)
        rw [q_call_end h15a]
        refine y_loc (pc' := 95) xD_40 rfl rfl rfl rfl ?_
        refine y_loc (pc' := 96) xD_40 rfl rfl rfl rfl ?_
        refine m_get (pc' := 99) xD_40 rfl rfl (by first | rfl | assumption) rfl rfl ?_
        refine y_icge (pt := 108) (pf := 102) xD_40 rfl rfl rfl (fun h99 => ?_) (fun h99 => ?_)
        · skip
          refine y_cj (pc' := 109) (0) xD_40 rfl rfl rfl rfl ?_
          refine y_retJ xD_40 rfl rfl ?_
          exact rJ_e rfl
        · skip
          exact absurd h15 h99
      · skip
        have hpn : p < n := by
          rw [xrow_ne a0, hn] at h15
          exact Nat.lt_of_not_le (fun q => h15 ((nI_leI (by omega) (by omega)).mpr q))
        have hp10 : p < 10 := by omega
        obtain ⟨⟨t, ht, hop⟩, hV3, hVa, hVb, hVc⟩ := hV p hpn
        have hop2 : xrow I 21 v (A + 1) p = cdC I A p 0 := by rw [xrow_ne a1]; rfl
        have next : ∀ (op : Value), ¬ cdC I A p 0 = 8 → ¬ cdC I A p 0 = 9 → ¬ (cdC I A p 0 = 4 ∧ v (cdC I A p 3).toNatClampNeg = 0) → XP S (d + 3) 40 81 [some (.ref 20), some (.ref A), some (.int (nI p)), some (.int (nI (40 - (f + 1)))), some op] [] (hh (xrow I 21 v) (xrow J 22 N) R) (rJ (q_call UC (cdC I A) (bnC I A) n (f + 1) p v N).1 (hh (xrow I 21 (q_call UC (cdC I A) (bnC I A) n (f + 1) p v N).2.1) (xrow J 22 (q_call UC (cdC I A) (bnC I A) n (f + 1) p v N).2.2) R)) := by
          intro op h8 h9 h4
          rw [q_call_n hpn h8 h9 h4]
          refine y_loc (pc' := 82) xD_40 rfl rfl rfl rfl ?_
          refine y_loc (pc' := 83) xD_40 rfl rfl rfl rfl ?_
          refine y_loc (pc' := 84) xD_40 rfl rfl rfl rfl ?_
          refine y_callV xD_40 rfl rfl rfl rfl (by first | rfl | assumption) rfl rfl rfl rfl (s_doLine (n := n) hR hA (by rw [xrow_ne a0]; exact hn) hn2 p hpn (by rw [hcd]; exact hV p hpn) (by rw [xrow_ne a5]; exact hbr p hpn) rfl) (fun v h' hq => ?_)
          obtain ⟨rfl, rfl⟩ := hq
          rw [hcd, hbn, xrow_at, xrow_at, xrow_row, xrow_row]
          refine y_loc (pc' := 88) xD_40 rfl rfl rfl rfl ?_
          refine y_inc (pc' := 91) (nI (40 - f)) xD_40 rfl rfl rfl e1 rfl rfl ?_
          refine y_goto (pc' := 4) xD_40 rfl rfl ?_
          exact ih _ _ _ _ (by omega) q_line_le
        refine y_loc (pc' := 19) xD_40 rfl rfl rfl rfl ?_
        first | refine m_getR (pc' := 22) xD_40 rfl rfl rfl rfl (hR.1 _ _ _ rfl) rfl ?_ | refine m_getR (pc' := 22) xD_40 rfl rfl (by first | rfl | assumption) rfl (by assumption) rfl ?_
        refine y_loc (pc' := 23) xD_40 rfl rfl rfl rfl ?_
        refine m_iald (pc' := 24) (p) xD_40 rfl (by first | rfl | assumption) (by first | assumption | omega) (by decide) (by first | decide | omega) (by first | rfl | assumption) rfl ?_
        refine y_loc (pc' := 26) xD_40 rfl rfl rfl rfl ?_
        refine y_loc (pc' := 28) xD_40 rfl rfl rfl rfl ?_
        refine y_ci (pc' := 30) (8) xD_40 rfl rfl rfl rfl ?_
        refine y_icne (pt := 46) (pf := 33) xD_40 rfl rfl rfl (fun h30 => ?_) (fun h30 => ?_)
        · skip
          refine y_loc (pc' := 48) xD_40 rfl rfl rfl rfl ?_
          refine y_ci (pc' := 50) (9) xD_40 rfl rfl rfl rfl ?_
          refine y_icne (pt := 57) (pf := 53) xD_40 rfl rfl rfl (fun h50 => ?_) (fun h50 => ?_)
          · skip
            refine y_loc (pc' := 59) xD_40 rfl rfl rfl rfl ?_
            refine y_ci (pc' := 60) (4) xD_40 rfl rfl rfl rfl ?_
            refine y_icne (pt := 81) (pf := 63) xD_40 rfl rfl rfl (fun h60 => ?_) (fun h60 => ?_)
            · skip
              first
              | exact next _ (fun q => h30 (hop2.trans q)) (fun q => h50 (hop2.trans q)) (fun q => h60 (hop2.trans q.1))
              | exact next _ (fun q => h30 (hop2.trans q)) (fun q => h50 (hop2.trans q)) (fun q => h74 (by rw [xrow_at]; have := q.2; rw [ec, nI_cl (by omega)] at this; exact this))
            · skip
              refine y_loc (pc' := 64) xD_40 rfl rfl rfl rfl ?_
              first | refine m_getR (pc' := 67) xD_40 rfl rfl rfl rfl (hR.1 _ _ _ rfl) rfl ?_ | refine m_getR (pc' := 67) xD_40 rfl rfl (by first | rfl | assumption) rfl (by assumption) rfl ?_
              refine y_loc (pc' := 68) xD_40 rfl rfl rfl rfl ?_
              first | refine m_getR (pc' := 71) xD_40 rfl rfl rfl rfl (hR.1 _ _ _ rfl) rfl ?_ | refine m_getR (pc' := 71) xD_40 rfl rfl (by first | rfl | assumption) rfl (by assumption) rfl ?_
              refine y_loc (pc' := 72) xD_40 rfl rfl rfl rfl ?_
              refine m_iald (pc' := 73) (p) xD_40 rfl (by first | rfl | assumption) (by first | assumption | omega) (by decide) (by first | decide | omega) (by first | rfl | assumption) rfl ?_
              obtain ⟨c, hc, ec⟩ := hVc (by rw [← hop2, h60]; exact ⟨by decide, by decide⟩)
              refine m_iald (pc' := 74) (c) xD_40 rfl (by first | rfl | assumption) (by first | assumption | omega) (by decide) (by first | decide | omega) (by rw [xrow_ne a4]; exact ec) rfl ?_
              refine y_ifne (pt := 81) (pf := 77) xD_40 rfl rfl rfl (fun h74 => ?_) (fun h74 => ?_)
              · skip
                first
                | exact next _ (fun q => h30 (hop2.trans q)) (fun q => h50 (hop2.trans q)) (fun q => h60 (hop2.trans q.1))
                | exact next _ (fun q => h30 (hop2.trans q)) (fun q => h50 (hop2.trans q)) (fun q => h74 (by rw [xrow_at]; have := q.2; rw [ec, nI_cl (by omega)] at this; exact this))
              · skip
                refine y_ldc (pc' := 80) xD_40 rfl rfl rfl rfl ?_
                rw [q_call_4 hpn (hop2.symm.trans h60) (by rw [ec, nI_cl (by omega)]; rw [xrow_at] at h74; exact h74)]
                refine y_retJ xD_40 rfl rfl ?_
                exact rJ_e rfl
          · skip
            refine y_ldc (pc' := 56) xD_40 rfl rfl rfl rfl ?_
            rw [q_call_9 hpn (hop2.symm.trans h50)]
            refine y_retJ xD_40 rfl rfl ?_
            exact rJ_e rfl
        · skip
          refine y_loc (pc' := 34) xD_40 rfl rfl rfl rfl ?_
          first | refine m_getR (pc' := 37) xD_40 rfl rfl rfl rfl (hR.1 _ _ _ rfl) rfl ?_ | refine m_getR (pc' := 37) xD_40 rfl rfl (by first | rfl | assumption) rfl (by assumption) rfl ?_
          refine y_loc (pc' := 38) xD_40 rfl rfl rfl rfl ?_
          first | refine m_getR (pc' := 41) xD_40 rfl rfl rfl rfl (hR.1 _ _ _ rfl) rfl ?_ | refine m_getR (pc' := 41) xD_40 rfl rfl (by first | rfl | assumption) rfl (by assumption) rfl ?_
          refine y_loc (pc' := 42) xD_40 rfl rfl rfl rfl ?_
          refine m_iald (pc' := 43) (p) xD_40 rfl (by first | rfl | assumption) (by first | assumption | omega) (by decide) (by first | decide | omega) (by first | rfl | assumption) rfl ?_
          obtain ⟨a, ha, ea⟩ := hVa (Or.inr (hop2.symm.trans h30))
          refine m_iald (pc' := 44) (a) xD_40 rfl (by first | rfl | assumption) (by first | assumption | omega) (by decide) (by first | decide | omega) (by rw [xrow_ne a2]; exact ea) rfl ?_
          refine y_op (pc' := 45) xD_40 rfl rfl rfl rfl ?_
          rw [q_call_8 hpn (hop2.symm.trans h30), ea, nI_cl (by omega), xrow_at]
          refine y_retJ xD_40 rfl rfl ?_
          exact rJ_e rfl
/-- Runner.callMethod -/
theorem s_callMethod (hR : RF R) (hA : A = 4 ∨ A = 10) {n : Nat} (hn : I A 5 = nI n) (hn2 : n ≤ 10) (hV : VC (cdC I A) n) (hbr : ∀ p, p < n → I (A + 5) p = -1 ∨ ∃ k, k < 12 ∧ I (A + 5) p = nI k) : XP S (d + 3) 40 0 (xent [.ref 20, .ref A] 5) [] (hh I J R) (rJ (q_call UC (cdC I A) (bnC I A) n 40 0 (I 21) (J 22)).1 (hh (xrow I 21 (q_call UC (cdC I A) (bnC I A) n 40 0 (I 21) (J 22)).2.1) (xrow J 22 (q_call UC (cdC I A) (bnC I A) n 40 0 (I 21) (J 22)).2.2) R)) := by
  have key := s_call_loop (S := S) (d := d) (J := J) hR hA hn hn2 hV hbr 40 0 (I 21) (J 22) none (Nat.le_refl _) (Nat.zero_le _)
  rw [xrow_id, xrow_id] at key
  refine y_ci (pc' := 1) (0) xD_40 rfl rfl rfl rfl ?_
  refine y_loc (pc' := 2) xD_40 rfl rfl rfl rfl ?_
  refine y_ci (pc' := 3) (0) xD_40 rfl rfl rfl rfl ?_
  refine y_loc (pc' := 4) xD_40 rfl rfl rfl rfl ?_
  exact key
end DL

