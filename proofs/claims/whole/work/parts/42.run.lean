/-! The class's Runner: a branch, a line, a call. -/
theorem xu_row {α : Type} {f : Nat → Nat → α} {a i : Nat} {v : α} : xu f a i v = xrow f a (fun j => if j = i then v else f a j) := by
  funext x y
  unfold xu xrow
  by_cases hx : x = a
  · subst hx
    by_cases hy : y = i <;> simp [hy]
  · simp [hx]
theorem xrow_row {α : Type} {f : Nat → Nat → α} {a : Nat} {g k : Nat → α} : xrow (xrow f a g) a k = xrow f a k := by
  funext x y
  unfold xrow
  split <;> rfl
theorem xrow_id {α : Type} {f : Nat → Nat → α} {a : Nat} : xrow f a (f a) = f := by
  funext x y
  unfold xrow
  split
  · rename_i h; rw [h]
  · rfl
def bnC (I : Nat → Nat → Int32) (A : Nat) : Nat → Option Nat := fun p => if I (A + 5) p = -1 then none else some (I (A + 5) p).toNatClampNeg
section RN
variable {S : XS} {d A : Nat} {I : Nat → Nat → Int32} {J : Nat → Nat → Int64} {R : Nat → Nat → Option Nat}
/-- Runner.decide -/
theorem s_decide (hR : RF R) (hA : A = 4 ∨ A = 10) (i : Nat) (hi : i < 10) {t a b : Nat} (ht : t = 5 ∨ t = 6) (hop : cdC I A i 0 = nI t) (ha : a < 8) (hb : b < 8) (ea : cdC I A i 1 = nI a) (eb : cdC I A i 2 = nI b) (hbr : I (A + 5) i = -1 ∨ ∃ k, k < 12 ∧ I (A + 5) i = nI k) {x : Int32} (hx : x = nI i) :
    XP S (d + 1) 43 0 (xent [.ref 20, .ref A, .int x] 12) [] (hh I J R) (rI (zB (decide (q_yes (decide (cdC I A i 0 = 5)) (I 21 a).toInt64 (I 21 b).toInt64 = 0))) (hh I (xrow J 22 (q_u UC (bnC I A i) (q_no (decide (cdC I A i 0 = 5)) (I 21 a).toInt64 (I 21 b).toInt64) (q_yes (decide (cdC I A i 0 = 5)) (I 21 a).toInt64 (I 21 b).toInt64) (J 22))) R)) := by
  obtain ⟨hk0, hk1, hk2, hk3, hk4, hk5⟩ := kMeth hA
  obtain ⟨hr0, hr1, hr2, hr3, hr4⟩ := rMeth hR hA
  have hop2 : I (A + 1) i = nI t := hop
  have ea2 : I (A + 2) i = nI a := ea
  have eb2 : I (A + 3) i = nI b := eb
  have fin : ∀ (no yes : Int64) (w u : Int64) (q : Option Value), q_no (decide (cdC I A i 0 = 5)) (I 21 a).toInt64 (I 21 b).toInt64 = no → q_yes (decide (cdC I A i 0 = 5)) (I 21 a).toInt64 (I 21 b).toInt64 = yes → XP S (d + 1) 43 99 [some (.ref 20), some (.ref A), some (.int x), some (.long w), none, some (.long u), none, some (.long no), none, some (.long yes), none, q] [] (hh I J R) (rI (zB (decide (q_yes (decide (cdC I A i 0 = 5)) (I 21 a).toInt64 (I 21 b).toInt64 = 0))) (hh I (xrow J 22 (q_u UC (bnC I A i) (q_no (decide (cdC I A i 0 = 5)) (I 21 a).toInt64 (I 21 b).toInt64) (q_yes (decide (cdC I A i 0 = 5)) (I 21 a).toInt64 (I 21 b).toInt64) (J 22))) R)) := by
    intro no yes w u q hno hyes
    rw [hno, hyes]
    have last : ∀ (J' : Nat → Nat → Int64) (z : Int32), J' = xrow J 22 (q_u UC (bnC I A i) no yes (J 22)) → XP S (d + 1) 43 163 [some (.ref 20), some (.ref A), some (.int x), some (.long w), none, some (.long u), none, some (.long no), none, some (.long yes), none, some (.int z)] [] (hh I J' R) (rI (zB (decide (yes = 0))) (hh I (xrow J 22 (q_u UC (bnC I A i) no yes (J 22))) R)) := by
      intro J' z hJ
      subst hJ
      refine y_loc (pc' := 165) xD_43 rfl rfl rfl rfl ?_
      refine y_cj (pc' := 166) (0) xD_43 rfl rfl rfl rfl ?_
      refine y_op (pc' := 167) xD_43 rfl rfl rfl rfl ?_
      refine y_ifne (pt := 174) (pf := 170) xD_43 rfl rfl rfl (fun h167 => ?_) (fun h167 => ?_)
      · skip
        refine y_ci (pc' := 175) (0) xD_43 rfl rfl rfl rfl ?_
        refine y_retI xD_43 rfl rfl ?_
        first | exact rI_t (lg_eq.mp h167) | exact rI_f (fun q => h167 (lg_eq.mpr q))
      · skip
        refine y_ci (pc' := 171) (1) xD_43 rfl rfl rfl rfl ?_
        refine y_goto (pc' := 175) xD_43 rfl rfl ?_
        refine y_retI xD_43 rfl rfl ?_
        first | exact rI_t (lg_eq.mp h167) | exact rI_f (fun q => h167 (lg_eq.mpr q))
    refine y_loc (pc' := 100) xD_43 rfl rfl rfl rfl ?_
    first | refine m_getR (pc' := 103) xD_43 rfl rfl rfl rfl (hR.1 _ _ _ rfl) rfl ?_ | refine m_getR (pc' := 103) xD_43 rfl rfl (by first | rfl | assumption) rfl (by assumption) rfl ?_
    refine y_loc (pc' := 104) xD_43 rfl rfl rfl rfl ?_
    refine m_iald (pc' := 105) (i) xD_43 rfl (by first | rfl | assumption) (by first | assumption | omega) (by decide) (by first | decide | omega) (by first | rfl | assumption) rfl ?_
    refine y_loc (pc' := 107) xD_43 rfl rfl rfl rfl ?_
    refine y_loc (pc' := 109) xD_43 rfl rfl rfl rfl ?_
    refine y_ci (pc' := 110) (-1) xD_43 rfl rfl rfl rfl ?_
    rcases hbr with hb1 | ⟨k, hk, hbk⟩
    · refine y_jmp (pc' := 163) xD_43 rfl (by rw [hb1]; rfl) ?_
      exact last _ _ (by unfold bnC; rw [if_pos hb1]; exact xrow_id.symm)
    · skip
      refine y_iceq (pt := 163) (pf := 113) xD_43 rfl rfl rfl (fun h110 => ?_) (fun h110 => ?_)
      · exfalso
        rw [hbk] at h110
        exact nI_m1 (by omega) h110
      · skip
        have e2 : (2 : Int32) * I (A + 5) i = nI (2 * k) := by rw [hbk]; exact pk_mul 2 k
        have e3 : (2 : Int32) * I (A + 5) i + 1 = nI (2 * k + 1) := by rw [e2]; exact nI_1 _
        refine y_loc (pc' := 114) xD_43 rfl rfl rfl rfl ?_
        first | refine m_getR (pc' := 117) xD_43 rfl rfl rfl rfl (hR.1 _ _ _ rfl) rfl ?_ | refine m_getR (pc' := 117) xD_43 rfl rfl (by first | rfl | assumption) rfl (by assumption) rfl ?_
        refine y_ci (pc' := 118) (2) xD_43 rfl rfl rfl rfl ?_
        refine y_loc (pc' := 120) xD_43 rfl rfl rfl rfl ?_
        refine y_op (pc' := 121) xD_43 rfl rfl rfl rfl ?_
        refine y_loc (pc' := 122) xD_43 rfl rfl rfl rfl ?_
        first | refine m_getR (pc' := 125) xD_43 rfl rfl rfl rfl (hR.1 _ _ _ rfl) rfl ?_ | refine m_getR (pc' := 125) xD_43 rfl rfl (by first | rfl | assumption) rfl (by assumption) rfl ?_
        refine y_ci (pc' := 126) (2) xD_43 rfl rfl rfl rfl ?_
        refine y_loc (pc' := 128) xD_43 rfl rfl rfl rfl ?_
        refine y_op (pc' := 129) xD_43 rfl rfl rfl rfl ?_
        refine m_jald (pc' := 130) (2 * k) xD_43 rfl (by first | rfl | assumption) (by first | assumption | omega) (by decide) (by first | rfl | assumption) rfl ?_
        refine y_loc (pc' := 132) xD_43 rfl rfl rfl rfl ?_
        refine y_callS xD_43 rfl rfl rfl rfl rfl rfl rfl rfl (s_minJ) (fun v h' hq => ?_)
        obtain ⟨rfl, rfl⟩ := hq
        skip
        refine m_jast (pc' := 136) (2 * k) xD_43 rfl (by first | rfl | assumption) (by first | assumption | omega) (by decide) (by first | rfl | assumption) rfl ?_
        refine y_loc (pc' := 137) xD_43 rfl rfl rfl rfl ?_
        first | refine m_getR (pc' := 140) xD_43 rfl rfl rfl rfl (hR.1 _ _ _ rfl) rfl ?_ | refine m_getR (pc' := 140) xD_43 rfl rfl (by first | rfl | assumption) rfl (by assumption) rfl ?_
        refine y_ci (pc' := 141) (2) xD_43 rfl rfl rfl rfl ?_
        refine y_loc (pc' := 143) xD_43 rfl rfl rfl rfl ?_
        refine y_op (pc' := 144) xD_43 rfl rfl rfl rfl ?_
        refine y_ci (pc' := 145) (1) xD_43 rfl rfl rfl rfl ?_
        refine y_op (pc' := 146) xD_43 rfl rfl rfl rfl ?_
        refine y_loc (pc' := 147) xD_43 rfl rfl rfl rfl ?_
        first | refine m_getR (pc' := 150) xD_43 rfl rfl rfl rfl (hR.1 _ _ _ rfl) rfl ?_ | refine m_getR (pc' := 150) xD_43 rfl rfl (by first | rfl | assumption) rfl (by assumption) rfl ?_
        refine y_ci (pc' := 151) (2) xD_43 rfl rfl rfl rfl ?_
        refine y_loc (pc' := 153) xD_43 rfl rfl rfl rfl ?_
        refine y_op (pc' := 154) xD_43 rfl rfl rfl rfl ?_
        refine y_ci (pc' := 155) (1) xD_43 rfl rfl rfl rfl ?_
        refine y_op (pc' := 156) xD_43 rfl rfl rfl rfl ?_
        refine m_jald (pc' := 157) (2 * k + 1) xD_43 rfl (by first | rfl | assumption) (by first | assumption | omega) (by decide) (by first | rfl | assumption) rfl ?_
        refine y_loc (pc' := 159) xD_43 rfl rfl rfl rfl ?_
        refine y_callS xD_43 rfl rfl rfl rfl rfl rfl rfl rfl (s_minJ) (fun v h' hq => ?_)
        obtain ⟨rfl, rfl⟩ := hq
        skip
        refine m_jast (pc' := 163) (2 * k + 1) xD_43 rfl (by first | rfl | assumption) (by first | assumption | omega) (by decide) (by first | rfl | assumption) rfl ?_
        refine last _ _ ?_
        unfold bnC
        rw [if_neg h110, hbk, nI_cl (by omega)]
        rw [xu_row, xu_row, xrow_row]
        congr 1
        funext j
        simp only [q_u, UC, xrow_at]
        by_cases hj1 : j = 2 * k + 1
        · simp [hj1]
        · by_cases hj2 : j = 2 * k
          · simp [hj2]
          · simp [hj1, hj2]
  have ex : x = nI i := hx
  refine y_loc (pc' := 1) xD_43 rfl rfl rfl rfl ?_
  first | refine m_getR (pc' := 4) xD_43 rfl rfl rfl rfl (hR.1 _ _ _ rfl) rfl ?_ | refine m_getR (pc' := 4) xD_43 rfl rfl (by first | rfl | assumption) rfl (by assumption) rfl ?_
  refine y_loc (pc' := 5) xD_43 rfl rfl rfl rfl ?_
  first | refine m_getR (pc' := 8) xD_43 rfl rfl rfl rfl (hR.1 _ _ _ rfl) rfl ?_ | refine m_getR (pc' := 8) xD_43 rfl rfl (by first | rfl | assumption) rfl (by assumption) rfl ?_
  refine y_loc (pc' := 9) xD_43 rfl rfl rfl rfl ?_
  refine m_iald (pc' := 10) (i) xD_43 rfl (by first | rfl | assumption) (by first | assumption | omega) (by decide) (by first | decide | omega) (by first | rfl | assumption) rfl ?_
  skip
  refine m_iald (pc' := 11) (a) xD_43 rfl (by first | rfl | assumption) (by first | assumption | omega) (by decide) (by first | decide | omega) (by first | rfl | assumption) rfl ?_
  refine y_op (pc' := 12) xD_43 rfl rfl rfl rfl ?_
  refine y_loc (pc' := 13) xD_43 rfl rfl rfl rfl ?_
  refine y_loc (pc' := 14) xD_43 rfl rfl rfl rfl ?_
  first | refine m_getR (pc' := 17) xD_43 rfl rfl rfl rfl (hR.1 _ _ _ rfl) rfl ?_ | refine m_getR (pc' := 17) xD_43 rfl rfl (by first | rfl | assumption) rfl (by assumption) rfl ?_
  refine y_loc (pc' := 18) xD_43 rfl rfl rfl rfl ?_
  first | refine m_getR (pc' := 21) xD_43 rfl rfl rfl rfl (hR.1 _ _ _ rfl) rfl ?_ | refine m_getR (pc' := 21) xD_43 rfl rfl (by first | rfl | assumption) rfl (by assumption) rfl ?_
  refine y_loc (pc' := 22) xD_43 rfl rfl rfl rfl ?_
  refine m_iald (pc' := 23) (i) xD_43 rfl (by first | rfl | assumption) (by first | assumption | omega) (by decide) (by first | decide | omega) (by first | rfl | assumption) rfl ?_
  skip
  refine m_iald (pc' := 24) (b) xD_43 rfl (by first | rfl | assumption) (by first | assumption | omega) (by decide) (by first | decide | omega) (by first | rfl | assumption) rfl ?_
  refine y_op (pc' := 25) xD_43 rfl rfl rfl rfl ?_
  refine y_loc (pc' := 27) xD_43 rfl rfl rfl rfl ?_
  refine y_loc (pc' := 28) xD_43 rfl rfl rfl rfl ?_
  first | refine m_getR (pc' := 31) xD_43 rfl rfl rfl rfl (hR.1 _ _ _ rfl) rfl ?_ | refine m_getR (pc' := 31) xD_43 rfl rfl (by first | rfl | assumption) rfl (by assumption) rfl ?_
  refine y_loc (pc' := 32) xD_43 rfl rfl rfl rfl ?_
  refine m_iald (pc' := 33) (i) xD_43 rfl (by first | rfl | assumption) (by first | assumption | omega) (by decide) (by first | decide | omega) (by first | rfl | assumption) rfl ?_
  refine y_ci (pc' := 34) (5) xD_43 rfl rfl rfl rfl ?_
  refine y_icne (pt := 63) (pf := 37) xD_43 rfl rfl rfl (fun h34 => ?_) (fun h34 => ?_)
  · skip
    refine y_loc (pc' := 64) xD_43 rfl rfl rfl rfl ?_
    refine y_loc (pc' := 66) xD_43 rfl rfl rfl rfl ?_
    refine y_op (pc' := 67) xD_43 rfl rfl rfl rfl ?_
    refine y_iflt (pt := 74) (pf := 70) xD_43 rfl rfl rfl (fun h67 => ?_) (fun h67 => ?_)
    · skip
      refine y_loc (pc' := 76) xD_43 rfl rfl rfl rfl ?_
      refine y_loc (pc' := 77) xD_43 rfl rfl rfl rfl ?_
      refine y_op (pc' := 78) xD_43 rfl rfl rfl rfl ?_
      refine y_loc (pc' := 80) xD_43 rfl rfl rfl rfl ?_
      refine y_loc (pc' := 81) xD_43 rfl rfl rfl rfl ?_
      refine y_loc (pc' := 83) xD_43 rfl rfl rfl rfl ?_
      refine y_op (pc' := 84) xD_43 rfl rfl rfl rfl ?_
      refine y_ifge (pt := 91) (pf := 87) xD_43 rfl rfl rfl (fun h84 => ?_) (fun h84 => ?_)
      · skip
        refine y_loc (pc' := 92) xD_43 rfl rfl rfl rfl ?_
        refine y_loc (pc' := 94) xD_43 rfl rfl rfl rfl ?_
        refine y_op (pc' := 95) xD_43 rfl rfl rfl rfl ?_
        refine y_cj (pc' := 96) (1) xD_43 rfl rfl rfl rfl ?_
        refine y_op (pc' := 97) xD_43 rfl rfl rfl rfl ?_
        refine y_loc (pc' := 99) xD_43 rfl rfl rfl rfl ?_
        first
        | exact fin _ _ _ _ _ (qn1 h34 (lg_eq.mp h41)) (qyeq h34)
        | exact fin _ _ _ _ _ (qn0 h34 (fun q => h41 (lg_eq.mpr q))) (qyeq h34)
        | exact fin _ _ _ _ _ (qnl h34 (lg_lt.mp h67)) (qyg h34 (Int64.not_lt.mpr ((lg_cmp_ge _ _).mp h84)))
        | exact fin _ _ _ _ _ (qnl h34 (lg_lt.mp h67)) (qyl h34 (Int64.not_le.mp (fun q => h84 ((lg_cmp_ge _ _).mpr q))))
        | exact fin _ _ _ _ _ (qng h34 (fun q => h67 (lg_lt.mpr q))) (qyg h34 (Int64.not_lt.mpr ((lg_cmp_ge _ _).mp h84)))
        | exact fin _ _ _ _ _ (qng h34 (fun q => h67 (lg_lt.mpr q))) (qyl h34 (Int64.not_le.mp (fun q => h84 ((lg_cmp_ge _ _).mpr q))))
      · skip
        refine y_cj (pc' := 88) (0) xD_43 rfl rfl rfl rfl ?_
        refine y_goto (pc' := 97) xD_43 rfl rfl ?_
        refine y_loc (pc' := 99) xD_43 rfl rfl rfl rfl ?_
        first
        | exact fin _ _ _ _ _ (qn1 h34 (lg_eq.mp h41)) (qyeq h34)
        | exact fin _ _ _ _ _ (qn0 h34 (fun q => h41 (lg_eq.mpr q))) (qyeq h34)
        | exact fin _ _ _ _ _ (qnl h34 (lg_lt.mp h67)) (qyg h34 (Int64.not_lt.mpr ((lg_cmp_ge _ _).mp h84)))
        | exact fin _ _ _ _ _ (qnl h34 (lg_lt.mp h67)) (qyl h34 (Int64.not_le.mp (fun q => h84 ((lg_cmp_ge _ _).mpr q))))
        | exact fin _ _ _ _ _ (qng h34 (fun q => h67 (lg_lt.mpr q))) (qyg h34 (Int64.not_lt.mpr ((lg_cmp_ge _ _).mp h84)))
        | exact fin _ _ _ _ _ (qng h34 (fun q => h67 (lg_lt.mpr q))) (qyl h34 (Int64.not_le.mp (fun q => h84 ((lg_cmp_ge _ _).mpr q))))
    · skip
      refine y_cj (pc' := 71) (0) xD_43 rfl rfl rfl rfl ?_
      refine y_goto (pc' := 78) xD_43 rfl rfl ?_
      refine y_loc (pc' := 80) xD_43 rfl rfl rfl rfl ?_
      refine y_loc (pc' := 81) xD_43 rfl rfl rfl rfl ?_
      refine y_loc (pc' := 83) xD_43 rfl rfl rfl rfl ?_
      refine y_op (pc' := 84) xD_43 rfl rfl rfl rfl ?_
      refine y_ifge (pt := 91) (pf := 87) xD_43 rfl rfl rfl (fun h84 => ?_) (fun h84 => ?_)
      · skip
        refine y_loc (pc' := 92) xD_43 rfl rfl rfl rfl ?_
        refine y_loc (pc' := 94) xD_43 rfl rfl rfl rfl ?_
        refine y_op (pc' := 95) xD_43 rfl rfl rfl rfl ?_
        refine y_cj (pc' := 96) (1) xD_43 rfl rfl rfl rfl ?_
        refine y_op (pc' := 97) xD_43 rfl rfl rfl rfl ?_
        refine y_loc (pc' := 99) xD_43 rfl rfl rfl rfl ?_
        first
        | exact fin _ _ _ _ _ (qn1 h34 (lg_eq.mp h41)) (qyeq h34)
        | exact fin _ _ _ _ _ (qn0 h34 (fun q => h41 (lg_eq.mpr q))) (qyeq h34)
        | exact fin _ _ _ _ _ (qnl h34 (lg_lt.mp h67)) (qyg h34 (Int64.not_lt.mpr ((lg_cmp_ge _ _).mp h84)))
        | exact fin _ _ _ _ _ (qnl h34 (lg_lt.mp h67)) (qyl h34 (Int64.not_le.mp (fun q => h84 ((lg_cmp_ge _ _).mpr q))))
        | exact fin _ _ _ _ _ (qng h34 (fun q => h67 (lg_lt.mpr q))) (qyg h34 (Int64.not_lt.mpr ((lg_cmp_ge _ _).mp h84)))
        | exact fin _ _ _ _ _ (qng h34 (fun q => h67 (lg_lt.mpr q))) (qyl h34 (Int64.not_le.mp (fun q => h84 ((lg_cmp_ge _ _).mpr q))))
      · skip
        refine y_cj (pc' := 88) (0) xD_43 rfl rfl rfl rfl ?_
        refine y_goto (pc' := 97) xD_43 rfl rfl ?_
        refine y_loc (pc' := 99) xD_43 rfl rfl rfl rfl ?_
        first
        | exact fin _ _ _ _ _ (qn1 h34 (lg_eq.mp h41)) (qyeq h34)
        | exact fin _ _ _ _ _ (qn0 h34 (fun q => h41 (lg_eq.mpr q))) (qyeq h34)
        | exact fin _ _ _ _ _ (qnl h34 (lg_lt.mp h67)) (qyg h34 (Int64.not_lt.mpr ((lg_cmp_ge _ _).mp h84)))
        | exact fin _ _ _ _ _ (qnl h34 (lg_lt.mp h67)) (qyl h34 (Int64.not_le.mp (fun q => h84 ((lg_cmp_ge _ _).mpr q))))
        | exact fin _ _ _ _ _ (qng h34 (fun q => h67 (lg_lt.mpr q))) (qyg h34 (Int64.not_lt.mpr ((lg_cmp_ge _ _).mp h84)))
        | exact fin _ _ _ _ _ (qng h34 (fun q => h67 (lg_lt.mpr q))) (qyl h34 (Int64.not_le.mp (fun q => h84 ((lg_cmp_ge _ _).mpr q))))
  · skip
    refine y_loc (pc' := 38) xD_43 rfl rfl rfl rfl ?_
    refine y_loc (pc' := 40) xD_43 rfl rfl rfl rfl ?_
    refine y_op (pc' := 41) xD_43 rfl rfl rfl rfl ?_
    refine y_ifne (pt := 48) (pf := 44) xD_43 rfl rfl rfl (fun h41 => ?_) (fun h41 => ?_)
    · skip
      refine y_cj (pc' := 49) (0) xD_43 rfl rfl rfl rfl ?_
      refine y_loc (pc' := 51) xD_43 rfl rfl rfl rfl ?_
      refine y_loc (pc' := 52) xD_43 rfl rfl rfl rfl ?_
      refine y_loc (pc' := 54) xD_43 rfl rfl rfl rfl ?_
      refine y_op (pc' := 55) xD_43 rfl rfl rfl rfl ?_
      refine y_callS xD_43 rfl rfl rfl rfl rfl rfl rfl rfl (s_absJ) (fun v h' hq => ?_)
      obtain ⟨rfl, rfl⟩ := hq
      refine y_loc (pc' := 60) xD_43 rfl rfl rfl rfl ?_
      refine y_goto (pc' := 99) xD_43 rfl rfl ?_
      first
      | exact fin _ _ _ _ _ (qn1 h34 (lg_eq.mp h41)) (qyeq h34)
      | exact fin _ _ _ _ _ (qn0 h34 (fun q => h41 (lg_eq.mpr q))) (qyeq h34)
      | exact fin _ _ _ _ _ (qnl h34 (lg_lt.mp h67)) (qyg h34 (Int64.not_lt.mpr ((lg_cmp_ge _ _).mp h84)))
      | exact fin _ _ _ _ _ (qnl h34 (lg_lt.mp h67)) (qyl h34 (Int64.not_le.mp (fun q => h84 ((lg_cmp_ge _ _).mpr q))))
      | exact fin _ _ _ _ _ (qng h34 (fun q => h67 (lg_lt.mpr q))) (qyg h34 (Int64.not_lt.mpr ((lg_cmp_ge _ _).mp h84)))
      | exact fin _ _ _ _ _ (qng h34 (fun q => h67 (lg_lt.mpr q))) (qyl h34 (Int64.not_le.mp (fun q => h84 ((lg_cmp_ge _ _).mpr q))))
    · skip
      refine y_cj (pc' := 45) (1) xD_43 rfl rfl rfl rfl ?_
      refine y_goto (pc' := 49) xD_43 rfl rfl ?_
      refine y_loc (pc' := 51) xD_43 rfl rfl rfl rfl ?_
      refine y_loc (pc' := 52) xD_43 rfl rfl rfl rfl ?_
      refine y_loc (pc' := 54) xD_43 rfl rfl rfl rfl ?_
      refine y_op (pc' := 55) xD_43 rfl rfl rfl rfl ?_
      refine y_callS xD_43 rfl rfl rfl rfl rfl rfl rfl rfl (s_absJ) (fun v h' hq => ?_)
      obtain ⟨rfl, rfl⟩ := hq
      refine y_loc (pc' := 60) xD_43 rfl rfl rfl rfl ?_
      refine y_goto (pc' := 99) xD_43 rfl rfl ?_
      first
      | exact fin _ _ _ _ _ (qn1 h34 (lg_eq.mp h41)) (qyeq h34)
      | exact fin _ _ _ _ _ (qn0 h34 (fun q => h41 (lg_eq.mpr q))) (qyeq h34)
      | exact fin _ _ _ _ _ (qnl h34 (lg_lt.mp h67)) (qyg h34 (Int64.not_lt.mpr ((lg_cmp_ge _ _).mp h84)))
      | exact fin _ _ _ _ _ (qnl h34 (lg_lt.mp h67)) (qyl h34 (Int64.not_le.mp (fun q => h84 ((lg_cmp_ge _ _).mpr q))))
      | exact fin _ _ _ _ _ (qng h34 (fun q => h67 (lg_lt.mpr q))) (qyg h34 (Int64.not_lt.mpr ((lg_cmp_ge _ _).mp h84)))
      | exact fin _ _ _ _ _ (qng h34 (fun q => h67 (lg_lt.mpr q))) (qyl h34 (Int64.not_le.mp (fun q => h84 ((lg_cmp_ge _ _).mpr q))))
end RN

