/-! Leaves of the class. -/
theorem kMeth {A : Nat} (h : A = 4 ∨ A = 10) : kq A = (3, 7) ∧ kq (A + 1) = (100, 10) ∧ kq (A + 2) = (100, 10) ∧ kq (A + 3) = (100, 10) ∧ kq (A + 4) = (100, 10) ∧ kq (A + 5) = (100, 10) := by
  rcases h with rfl | rfl <;> exact ⟨rfl, rfl, rfl, rfl, rfl, rfl⟩
theorem rMeth {A : Nat} {R : Nat → Nat → Option Nat} (hR : RF R) (h : A = 4 ∨ A = 10) : R A 0 = some (A + 1) ∧ R A 1 = some (A + 2) ∧ R A 2 = some (A + 3) ∧ R A 3 = some (A + 4) ∧ R A 4 = some (A + 5) := by
  rcases h with rfl | rfl <;> exact ⟨hR.1 _ _ _ rfl, hR.1 _ _ _ rfl, hR.1 _ _ _ rfl, hR.1 _ _ _ rfl, hR.1 _ _ _ rfl⟩
section LF
variable {S : XS} {d a A : Nat} {I : Nat → Nat → Int32} {J : Nat → Nat → Int64} {R : Nat → Nat → Option Nat} {h : XH}
/-- Case.part -/
theorem s_part (hR : RF R) (hc : isCase a) (j p : Nat) (hj : j < 6) (hp : p < 4) {x z : Int32} (hx : x = nI j) (hz : z = nI p) : XP S d 38 0 (xent [.ref a, .int x, .int z] 3) [] (hh I J R) (rI (I (a + 1) (4 * j + p)) (hh I J R)) := by
  have hk0 := (kCase hc).1
  have hk1 := (kCase hc).2.1
  have hr0 := (hR.2 a hc).1
  refine y_loc (pc' := 1) xD_38 rfl rfl rfl rfl ?_
  first | refine m_getR (pc' := 4) xD_38 rfl rfl rfl rfl (hR.1 _ _ _ rfl) rfl ?_ | refine m_getR (pc' := 4) xD_38 rfl rfl (by first | rfl | assumption) rfl (by assumption) rfl ?_
  refine y_loc (pc' := 5) xD_38 rfl rfl rfl rfl ?_
  refine y_op (pc' := 6) xD_38 rfl rfl rfl rfl ?_
  refine y_op (pc' := 7) xD_38 rfl rfl rfl rfl ?_
  refine y_loc (pc' := 8) xD_38 rfl rfl rfl rfl ?_
  refine y_op (pc' := 9) xD_38 rfl rfl rfl rfl ?_
  refine m_iald (pc' := 10) (4 * j + p) xD_38 rfl (by first | rfl | assumption) (by first | assumption | omega) (by decide) (by first | decide | omega) (by rw [hx, hz]; show nI j * nI 4 + nI p = _; rw [pk_mul, nI_add, Nat.mul_comm]) rfl ?_
  skip
  refine y_retI xD_38 rfl rfl ?_
  exact ⟨rfl, rfl⟩
/-- Case.hasStep -/
theorem s_hasStep (hc : isCase a) {x : Int32} : XP S d 91 0 (xent [.ref a, .int x] 2) [] (hh I J R) (rI (zB (decide (0 ≤ x ∧ x < I a 3))) (hh I J R)) := by
  have hk0 := (kCase hc).1
  refine y_loc (pc' := 1) xD_91 rfl rfl rfl rfl ?_
  refine y_iflt (pt := 16) (pf := 4) xD_91 rfl rfl rfl (fun h1 => ?_) (fun h1 => ?_)
  · skip
    refine y_op (pc' := 17) xD_91 rfl rfl rfl rfl ?_
    refine y_retZ xD_91 rfl rfl (by first | decide | assumption) ?_
    exact rI_f (fun q => absurd h1 (Int32.not_lt.mpr q.1))
  · skip
    refine y_loc (pc' := 5) xD_91 rfl rfl rfl rfl ?_
    refine y_loc (pc' := 6) xD_91 rfl rfl rfl rfl ?_
    refine m_get (pc' := 9) xD_91 rfl rfl (by first | rfl | assumption) rfl rfl ?_
    refine y_icge (pt := 16) (pf := 12) xD_91 rfl rfl rfl (fun h2 => ?_) (fun h2 => ?_)
    · skip
      refine y_op (pc' := 17) xD_91 rfl rfl rfl rfl ?_
      refine y_retZ xD_91 rfl rfl (by first | decide | assumption) ?_
      exact rI_f (fun q => absurd q.2 (Int32.not_lt.mpr h2))
    · skip
      refine y_op (pc' := 13) xD_91 rfl rfl rfl rfl ?_
      refine y_goto (pc' := 17) xD_91 rfl rfl ?_
      refine y_retZ xD_91 rfl rfl (by first | decide | assumption) ?_
      exact rI_t ⟨Int32.not_lt.mp h1, Int32.not_le.mp h2⟩
/-- BranchGoals.isMethod -/
theorem s_isMethod {x : Int32} : XP S d 11 0 (xent [.int x] 1) [] h (rI (zB (decide (0 ≤ x ∧ x < 2))) h) := by
  refine y_loc (pc' := 1) xD_11 rfl rfl rfl rfl ?_
  refine y_iflt (pt := 13) (pf := 4) xD_11 rfl rfl rfl (fun h1 => ?_) (fun h1 => ?_)
  · skip
    refine y_op (pc' := 14) xD_11 rfl rfl rfl rfl ?_
    refine y_retZ xD_11 rfl rfl (by first | decide | assumption) ?_
    exact rI_f (fun q => absurd h1 (Int32.not_lt.mpr q.1))
  · skip
    refine y_loc (pc' := 5) xD_11 rfl rfl rfl rfl ?_
    refine y_op (pc' := 6) xD_11 rfl rfl rfl rfl ?_
    refine y_icge (pt := 13) (pf := 9) xD_11 rfl rfl rfl (fun h2 => ?_) (fun h2 => ?_)
    · skip
      refine y_op (pc' := 14) xD_11 rfl rfl rfl rfl ?_
      refine y_retZ xD_11 rfl rfl (by first | decide | assumption) ?_
      exact rI_f (fun q => absurd q.2 (Int32.not_lt.mpr h2))
    · skip
      refine y_op (pc' := 10) xD_11 rfl rfl rfl rfl ?_
      refine y_goto (pc' := 14) xD_11 rfl rfl ?_
      refine y_retZ xD_11 rfl rfl (by first | decide | assumption) ?_
      exact rI_t ⟨Int32.not_lt.mp h1, Int32.not_le.mp h2⟩
theorem s_isVariable {x : Int32} : XP S d 14 0 (xent [.int x] 1) [] h (rI (zB (decide (0 ≤ x ∧ x < 8))) h) := by
  refine y_loc (pc' := 1) xD_14 rfl rfl rfl rfl ?_
  refine y_iflt (pt := 14) (pf := 4) xD_14 rfl rfl rfl (fun h1 => ?_) (fun h1 => ?_)
  · skip
    refine y_op (pc' := 15) xD_14 rfl rfl rfl rfl ?_
    refine y_retZ xD_14 rfl rfl (by first | decide | assumption) ?_
    exact rI_f (fun q => absurd h1 (Int32.not_lt.mpr q.1))
  · skip
    refine y_loc (pc' := 5) xD_14 rfl rfl rfl rfl ?_
    refine y_op (pc' := 7) xD_14 rfl rfl rfl rfl ?_
    refine y_icge (pt := 14) (pf := 10) xD_14 rfl rfl rfl (fun h2 => ?_) (fun h2 => ?_)
    · skip
      refine y_op (pc' := 15) xD_14 rfl rfl rfl rfl ?_
      refine y_retZ xD_14 rfl rfl (by first | decide | assumption) ?_
      exact rI_f (fun q => absurd q.2 (Int32.not_lt.mpr h2))
    · skip
      refine y_op (pc' := 11) xD_14 rfl rfl rfl rfl ?_
      refine y_goto (pc' := 15) xD_14 rfl rfl ?_
      refine y_retZ xD_14 rfl rfl (by first | decide | assumption) ?_
      exact rI_t ⟨Int32.not_lt.mp h1, Int32.not_le.mp h2⟩
theorem s_isTarget {x : Int32} : XP S d 15 0 (xent [.int x] 1) [] h (rI (zB (decide (0 ≤ x ∧ x ≤ 10))) h) := by
  refine y_loc (pc' := 1) xD_15 rfl rfl rfl rfl ?_
  refine y_iflt (pt := 14) (pf := 4) xD_15 rfl rfl rfl (fun h1 => ?_) (fun h1 => ?_)
  · skip
    refine y_op (pc' := 15) xD_15 rfl rfl rfl rfl ?_
    refine y_retZ xD_15 rfl rfl (by first | decide | assumption) ?_
    exact rI_f (fun q => absurd h1 (Int32.not_lt.mpr q.1))
  · skip
    refine y_loc (pc' := 5) xD_15 rfl rfl rfl rfl ?_
    refine y_op (pc' := 7) xD_15 rfl rfl rfl rfl ?_
    refine y_icgt (pt := 14) (pf := 10) xD_15 rfl rfl rfl (fun h2 => ?_) (fun h2 => ?_)
    · skip
      refine y_op (pc' := 15) xD_15 rfl rfl rfl rfl ?_
      refine y_retZ xD_15 rfl rfl (by first | decide | assumption) ?_
      exact rI_f (fun q => absurd q.2 (Int32.not_le.mpr h2))
    · skip
      refine y_op (pc' := 11) xD_15 rfl rfl rfl rfl ?_
      refine y_goto (pc' := 15) xD_15 rfl rfl ?_
      refine y_retZ xD_15 rfl rfl (by first | decide | assumption) ?_
      exact rI_t ⟨Int32.not_lt.mp h1, Int32.not_lt.mp h2⟩
theorem s_isField {x : Int32} : XP S d 68 0 (xent [.int x] 1) [] h (rI (zB (decide (4 ≤ x ∧ x < 8))) h) := by
  refine y_loc (pc' := 1) xD_68 rfl rfl rfl rfl ?_
  refine y_op (pc' := 2) xD_68 rfl rfl rfl rfl ?_
  refine y_iclt (pt := 15) (pf := 5) xD_68 rfl rfl rfl (fun h1 => ?_) (fun h1 => ?_)
  · skip
    refine y_op (pc' := 16) xD_68 rfl rfl rfl rfl ?_
    refine y_retZ xD_68 rfl rfl (by first | decide | assumption) ?_
    exact rI_f (fun q => absurd h1 (Int32.not_lt.mpr q.1))
  · skip
    refine y_loc (pc' := 6) xD_68 rfl rfl rfl rfl ?_
    refine y_op (pc' := 8) xD_68 rfl rfl rfl rfl ?_
    refine y_icge (pt := 15) (pf := 11) xD_68 rfl rfl rfl (fun h2 => ?_) (fun h2 => ?_)
    · skip
      refine y_op (pc' := 16) xD_68 rfl rfl rfl rfl ?_
      refine y_retZ xD_68 rfl rfl (by first | decide | assumption) ?_
      exact rI_f (fun q => absurd q.2 (Int32.not_lt.mpr h2))
    · skip
      refine y_op (pc' := 12) xD_68 rfl rfl rfl rfl ?_
      refine y_goto (pc' := 16) xD_68 rfl rfl ?_
      refine y_retZ xD_68 rfl rfl (by first | decide | assumption) ?_
      exact rI_t ⟨Int32.not_lt.mp h1, Int32.not_le.mp h2⟩
/-- bit g of a set of goals -/
def bitI (x g : Int32) : Int32 := (x >>> (g &&& 31)) &&& 1
theorem s_hasGoal {x g : Int32} : XP S d 49 0 (xent [.int x, .int g] 2) [] h (rI (zB (decide (¬ bitI x g = 0))) h) := by
  refine y_loc (pc' := 1) xD_49 rfl rfl rfl rfl ?_
  refine y_loc (pc' := 2) xD_49 rfl rfl rfl rfl ?_
  refine y_op (pc' := 3) xD_49 rfl rfl rfl rfl ?_
  refine y_op (pc' := 4) xD_49 rfl rfl rfl rfl ?_
  refine y_op (pc' := 5) xD_49 rfl rfl rfl rfl ?_
  refine y_ifeq (pt := 12) (pf := 8) xD_49 rfl rfl rfl (fun h1 => ?_) (fun h1 => ?_)
  · skip
    refine y_op (pc' := 13) xD_49 rfl rfl rfl rfl ?_
    refine y_retZ xD_49 rfl rfl (by first | decide | assumption) ?_
    exact rI_f (fun q => q h1)
  · skip
    refine y_op (pc' := 9) xD_49 rfl rfl rfl rfl ?_
    refine y_goto (pc' := 13) xD_49 rfl rfl ?_
    refine y_retZ xD_49 rfl rfl (by first | decide | assumption) ?_
    exact rI_t h1
theorem s_min {x z : Int32} : XP S d 24 0 (xent [.int x, .int z] 2) [] h (rI (if x ≤ z then x else z) h) := by
  refine y_loc (pc' := 1) xD_24 rfl rfl rfl rfl ?_
  refine y_loc (pc' := 2) xD_24 rfl rfl rfl rfl ?_
  refine y_icgt (pt := 9) (pf := 5) xD_24 rfl rfl rfl (fun h1 => ?_) (fun h1 => ?_)
  · skip
    refine y_loc (pc' := 10) xD_24 rfl rfl rfl rfl ?_
    refine y_retI xD_24 rfl rfl ?_
    exact ⟨by rw [if_neg (Int32.not_le.mpr h1)], rfl⟩
  · skip
    refine y_loc (pc' := 6) xD_24 rfl rfl rfl rfl ?_
    refine y_goto (pc' := 10) xD_24 rfl rfl ?_
    refine y_retI xD_24 rfl rfl ?_
    exact ⟨by rw [if_pos (Int32.not_lt.mp h1)], rfl⟩
theorem s_max {x z : Int32} : XP S d 61 0 (xent [.int x, .int z] 2) [] h (rI (if z ≤ x then x else z) h) := by
  refine y_loc (pc' := 1) xD_61 rfl rfl rfl rfl ?_
  refine y_loc (pc' := 2) xD_61 rfl rfl rfl rfl ?_
  refine y_iclt (pt := 9) (pf := 5) xD_61 rfl rfl rfl (fun h1 => ?_) (fun h1 => ?_)
  · skip
    refine y_loc (pc' := 10) xD_61 rfl rfl rfl rfl ?_
    refine y_retI xD_61 rfl rfl ?_
    exact ⟨by rw [if_neg (Int32.not_le.mpr h1)], rfl⟩
  · skip
    refine y_loc (pc' := 6) xD_61 rfl rfl rfl rfl ?_
    refine y_goto (pc' := 10) xD_61 rfl rfl ?_
    refine y_retI xD_61 rfl rfl ?_
    exact ⟨by rw [if_pos (Int32.not_lt.mp h1)], rfl⟩
/-- Method.isBranch -/
theorem s_isBranch (hR : RF R) (hA : A = 4 ∨ A = 10) (i : Nat) (hi : i < 10) {x : Int32} (hx : x = nI i) : XP S d 19 0 (xent [.ref A, .int x] 2) [] (hh I J R) (rI (zB (decide (I (A + 1) i = 5 ∨ I (A + 1) i = 6))) (hh I J R)) := by
  obtain ⟨hk0, hk1, -⟩ := kMeth hA
  have hr0 := (rMeth hR hA).1
  refine y_loc (pc' := 1) xD_19 rfl rfl rfl rfl ?_
  first | refine m_getR (pc' := 4) xD_19 rfl rfl rfl rfl (hR.1 _ _ _ rfl) rfl ?_ | refine m_getR (pc' := 4) xD_19 rfl rfl (by first | rfl | assumption) rfl (by assumption) rfl ?_
  refine y_loc (pc' := 5) xD_19 rfl rfl rfl rfl ?_
  refine m_iald (pc' := 6) (i) xD_19 rfl (by first | rfl | assumption) (by first | assumption | omega) (by decide) (by first | decide | omega) (by first | rfl | assumption) rfl ?_
  refine y_op (pc' := 7) xD_19 rfl rfl rfl rfl ?_
  refine y_iceq (pt := 21) (pf := 10) xD_19 rfl rfl rfl (fun h1 => ?_) (fun h1 => ?_)
  · skip
    refine y_op (pc' := 22) xD_19 rfl rfl rfl rfl ?_
    refine y_goto (pc' := 26) xD_19 rfl rfl ?_
    refine y_retZ xD_19 rfl rfl (by first | decide | assumption) ?_
    exact rI_t (Or.inl h1)
  · skip
    refine y_loc (pc' := 11) xD_19 rfl rfl rfl rfl ?_
    first | refine m_getR (pc' := 14) xD_19 rfl rfl rfl rfl (hR.1 _ _ _ rfl) rfl ?_ | refine m_getR (pc' := 14) xD_19 rfl rfl (by first | rfl | assumption) rfl (by assumption) rfl ?_
    refine y_loc (pc' := 15) xD_19 rfl rfl rfl rfl ?_
    refine m_iald (pc' := 16) (i) xD_19 rfl (by first | rfl | assumption) (by first | assumption | omega) (by decide) (by first | decide | omega) (by first | rfl | assumption) rfl ?_
    refine y_op (pc' := 18) xD_19 rfl rfl rfl rfl ?_
    refine y_icne (pt := 25) (pf := 21) xD_19 rfl rfl rfl (fun h2 => ?_) (fun h2 => ?_)
    · skip
      refine y_op (pc' := 26) xD_19 rfl rfl rfl rfl ?_
      refine y_retZ xD_19 rfl rfl (by first | decide | assumption) ?_
      exact rI_f (fun q => q.elim h1 h2)
    · skip
      refine y_op (pc' := 22) xD_19 rfl rfl rfl rfl ?_
      refine y_goto (pc' := 26) xD_19 rfl rfl ?_
      refine y_retZ xD_19 rfl rfl (by first | decide | assumption) ?_
      exact rI_t (Or.inr h2)
theorem s_goalCount : XP S d 46 0 (xent [.ref 2] 1) [] (hh I J R) (rI (2 * I 2 3) (hh I J R)) := by
  refine y_op (pc' := 1) xD_46 rfl rfl rfl rfl ?_
  refine y_loc (pc' := 2) xD_46 rfl rfl rfl rfl ?_
  refine m_get (pc' := 5) xD_46 rfl rfl (by first | rfl | assumption) rfl rfl ?_
  refine y_op (pc' := 6) xD_46 rfl rfl rfl rfl ?_
  refine y_retI xD_46 rfl rfl ?_
  exact ⟨rfl, rfl⟩
theorem s_calculate {o x z : Int32} : XP S d 42 0 (xent [.int o, .int x, .int z] 3) [] h (rI (if o = 1 then x + z else if o = 2 then x - z else if o = 3 then x * z else if z = 0 then 0 else x / z) h) := by
  sorry
end LF

