/-! Leaves of the class. -/
theorem kMeth {A : Nat} (h : A = 4 ∨ A = 10) : kq A = (3, 7) ∧ kq (A + 1) = (100, 10) ∧ kq (A + 2) = (100, 10) ∧ kq (A + 3) = (100, 10) ∧ kq (A + 4) = (100, 10) ∧ kq (A + 5) = (100, 10) := by
  rcases h with rfl | rfl <;> exact ⟨rfl, rfl, rfl, rfl, rfl, rfl⟩
theorem rMeth {A : Nat} {R : Nat → Nat → Option Nat} (hR : RF R) (h : A = 4 ∨ A = 10) : R A 0 = some (A + 1) ∧ R A 1 = some (A + 2) ∧ R A 2 = some (A + 3) ∧ R A 3 = some (A + 4) ∧ R A 4 = some (A + 5) := by
  rcases h with rfl | rfl <;> exact ⟨hR.1 _ _ _ rfl, hR.1 _ _ _ rfl, hR.1 _ _ _ rfl, hR.1 _ _ _ rfl, hR.1 _ _ _ rfl⟩
theorem lg_gt {x y : Int64} : 0 < lg_cmp x y ↔ y < x := by
  unfold lg_cmp
  by_cases h1 : x > y
  · simp [h1]
  · by_cases h2 : x = y
    · simp [h2]
    · simp [h1, h2]
theorem lg_eq {x y : Int64} : lg_cmp x y = 0 ↔ x = y := by
  unfold lg_cmp
  by_cases h1 : x > y
  · simp [h1]
    intro e
    subst e
    exact Int64.lt_irrefl h1
  · by_cases h2 : x = y
    · simp [h2]
    · simp [h1, h2]
theorem lg_lt {x y : Int64} : lg_cmp x y < 0 ↔ x < y := by
  rw [← Int32.not_le, lg_cmp_ge, Int64.not_le]
theorem nI_m1 {k : Nat} (hk : k < 2000) : ¬ nI k = -1 := fun e => by
  have h := nI_pos (n := k) (by omega)
  rw [e] at h
  exact h (by decide)
section LF
variable {S : XS} {d a A : Nat} {I : Nat → Nat → Int32} {J : Nat → Nat → Int64} {R : Nat → Nat → Option Nat} {h : XH}
/-- Case.part -/
theorem s_part (hR : RF R) (hc : isCase a) (j p : Nat) (hj : j < 6) (hp : p < 4) {x z : Int32} (hx : x = nI j) (hz : z = nI p) : XP S d 38 0 (xent [.ref a, .int x, .int z] 3) [] (hh I J R) (rI (I (a + 1) (4 * j + p)) (hh I J R)) := by
  have hk0 := (kCase hc).1
  have hk1 := (kCase hc).2.1
  have hr0 := (hR.2 a hc).1
  refine y_loc (pc' := 1) xD_38 rfl rfl rfl rfl ?_
  first | refine m_getR (pc' := 4) xD_38 rfl rfl rfl rfl (hR.1 _ _ _ rfl) rfl ?_ | refine m_getR (pc' := 4) xD_38 rfl rfl (by first | rfl | assumption) rfl (by assumption) rfl ?_
  refine y_loc (pc' := 5) xD_38 rfl rfl rfl rfl ?_
  refine y_ci (pc' := 6) (4) xD_38 rfl rfl rfl rfl ?_
  refine y_op (pc' := 7) xD_38 rfl rfl rfl rfl ?_
  refine y_loc (pc' := 8) xD_38 rfl rfl rfl rfl ?_
  refine y_op (pc' := 9) xD_38 rfl rfl rfl rfl ?_
  refine m_iald (pc' := 10) (4 * j + p) xD_38 rfl (by first | rfl | assumption) (by first | assumption | omega) (by decide) (by first | decide | omega) (by rw [hx, hz]; show nI j * nI 4 + nI p = _; rw [pk_mul, nI_add, Nat.mul_comm]) rfl ?_
  skip
  refine y_retI xD_38 rfl rfl ?_
  exact ⟨rfl, rfl⟩
/-- Case.hasStep -/
theorem s_hasStep (hc : isCase a) {x : Int32} : XP S d 91 0 (xent [.ref a, .int x] 2) [] (hh I J R) (rI (zB (decide (0 ≤ x ∧ x < I a 3))) (hh I J R)) := by
  have hk0 := (kCase hc).1
  refine y_loc (pc' := 1) xD_91 rfl rfl rfl rfl ?_
  refine y_iflt (pt := 16) (pf := 4) xD_91 rfl rfl rfl (fun h1 => ?_) (fun h1 => ?_)
  · skip
    refine y_ci (pc' := 17) (0) xD_91 rfl rfl rfl rfl ?_
    refine y_retZ xD_91 rfl rfl (by first | decide | assumption) ?_
    exact rI_f (fun q => absurd h1 (Int32.not_lt.mpr q.1))
  · skip
    refine y_loc (pc' := 5) xD_91 rfl rfl rfl rfl ?_
    refine y_loc (pc' := 6) xD_91 rfl rfl rfl rfl ?_
    refine m_get (pc' := 9) xD_91 rfl rfl (by first | rfl | assumption) rfl rfl ?_
    refine y_icge (pt := 16) (pf := 12) xD_91 rfl rfl rfl (fun h2 => ?_) (fun h2 => ?_)
    · skip
      refine y_ci (pc' := 17) (0) xD_91 rfl rfl rfl rfl ?_
      refine y_retZ xD_91 rfl rfl (by first | decide | assumption) ?_
      exact rI_f (fun q => absurd q.2 (Int32.not_lt.mpr h2))
    · skip
      refine y_ci (pc' := 13) (1) xD_91 rfl rfl rfl rfl ?_
      refine y_goto (pc' := 17) xD_91 rfl rfl ?_
      refine y_retZ xD_91 rfl rfl (by first | decide | assumption) ?_
      exact rI_t ⟨Int32.not_lt.mp h1, Int32.not_le.mp h2⟩
/-- BranchGoals.isMethod -/
theorem s_isMethod {x : Int32} : XP S d 11 0 (xent [.int x] 1) [] h (rI (zB (decide (0 ≤ x ∧ x < 2))) h) := by
  refine y_loc (pc' := 1) xD_11 rfl rfl rfl rfl ?_
  refine y_iflt (pt := 13) (pf := 4) xD_11 rfl rfl rfl (fun h1 => ?_) (fun h1 => ?_)
  · skip
    refine y_ci (pc' := 14) (0) xD_11 rfl rfl rfl rfl ?_
    refine y_retZ xD_11 rfl rfl (by first | decide | assumption) ?_
    exact rI_f (fun q => absurd h1 (Int32.not_lt.mpr q.1))
  · skip
    refine y_loc (pc' := 5) xD_11 rfl rfl rfl rfl ?_
    refine y_ci (pc' := 6) (2) xD_11 rfl rfl rfl rfl ?_
    refine y_icge (pt := 13) (pf := 9) xD_11 rfl rfl rfl (fun h2 => ?_) (fun h2 => ?_)
    · skip
      refine y_ci (pc' := 14) (0) xD_11 rfl rfl rfl rfl ?_
      refine y_retZ xD_11 rfl rfl (by first | decide | assumption) ?_
      exact rI_f (fun q => absurd q.2 (Int32.not_lt.mpr h2))
    · skip
      refine y_ci (pc' := 10) (1) xD_11 rfl rfl rfl rfl ?_
      refine y_goto (pc' := 14) xD_11 rfl rfl ?_
      refine y_retZ xD_11 rfl rfl (by first | decide | assumption) ?_
      exact rI_t ⟨Int32.not_lt.mp h1, Int32.not_le.mp h2⟩
theorem s_isVariable {x : Int32} : XP S d 14 0 (xent [.int x] 1) [] h (rI (zB (decide (0 ≤ x ∧ x < 8))) h) := by
  refine y_loc (pc' := 1) xD_14 rfl rfl rfl rfl ?_
  refine y_iflt (pt := 14) (pf := 4) xD_14 rfl rfl rfl (fun h1 => ?_) (fun h1 => ?_)
  · skip
    refine y_ci (pc' := 15) (0) xD_14 rfl rfl rfl rfl ?_
    refine y_retZ xD_14 rfl rfl (by first | decide | assumption) ?_
    exact rI_f (fun q => absurd h1 (Int32.not_lt.mpr q.1))
  · skip
    refine y_loc (pc' := 5) xD_14 rfl rfl rfl rfl ?_
    refine y_ci (pc' := 7) (8) xD_14 rfl rfl rfl rfl ?_
    refine y_icge (pt := 14) (pf := 10) xD_14 rfl rfl rfl (fun h2 => ?_) (fun h2 => ?_)
    · skip
      refine y_ci (pc' := 15) (0) xD_14 rfl rfl rfl rfl ?_
      refine y_retZ xD_14 rfl rfl (by first | decide | assumption) ?_
      exact rI_f (fun q => absurd q.2 (Int32.not_lt.mpr h2))
    · skip
      refine y_ci (pc' := 11) (1) xD_14 rfl rfl rfl rfl ?_
      refine y_goto (pc' := 15) xD_14 rfl rfl ?_
      refine y_retZ xD_14 rfl rfl (by first | decide | assumption) ?_
      exact rI_t ⟨Int32.not_lt.mp h1, Int32.not_le.mp h2⟩
theorem s_isTarget {x : Int32} : XP S d 15 0 (xent [.int x] 1) [] h (rI (zB (decide (0 ≤ x ∧ x ≤ 10))) h) := by
  refine y_loc (pc' := 1) xD_15 rfl rfl rfl rfl ?_
  refine y_iflt (pt := 14) (pf := 4) xD_15 rfl rfl rfl (fun h1 => ?_) (fun h1 => ?_)
  · skip
    refine y_ci (pc' := 15) (0) xD_15 rfl rfl rfl rfl ?_
    refine y_retZ xD_15 rfl rfl (by first | decide | assumption) ?_
    exact rI_f (fun q => absurd h1 (Int32.not_lt.mpr q.1))
  · skip
    refine y_loc (pc' := 5) xD_15 rfl rfl rfl rfl ?_
    refine y_ci (pc' := 7) (10) xD_15 rfl rfl rfl rfl ?_
    refine y_icgt (pt := 14) (pf := 10) xD_15 rfl rfl rfl (fun h2 => ?_) (fun h2 => ?_)
    · skip
      refine y_ci (pc' := 15) (0) xD_15 rfl rfl rfl rfl ?_
      refine y_retZ xD_15 rfl rfl (by first | decide | assumption) ?_
      exact rI_f (fun q => absurd q.2 (Int32.not_le.mpr h2))
    · skip
      refine y_ci (pc' := 11) (1) xD_15 rfl rfl rfl rfl ?_
      refine y_goto (pc' := 15) xD_15 rfl rfl ?_
      refine y_retZ xD_15 rfl rfl (by first | decide | assumption) ?_
      exact rI_t ⟨Int32.not_lt.mp h1, Int32.not_lt.mp h2⟩
theorem s_isField {x : Int32} : XP S d 68 0 (xent [.int x] 1) [] h (rI (zB (decide (4 ≤ x ∧ x < 8))) h) := by
  refine y_loc (pc' := 1) xD_68 rfl rfl rfl rfl ?_
  refine y_ci (pc' := 2) (4) xD_68 rfl rfl rfl rfl ?_
  refine y_iclt (pt := 15) (pf := 5) xD_68 rfl rfl rfl (fun h1 => ?_) (fun h1 => ?_)
  · skip
    refine y_ci (pc' := 16) (0) xD_68 rfl rfl rfl rfl ?_
    refine y_retZ xD_68 rfl rfl (by first | decide | assumption) ?_
    exact rI_f (fun q => absurd h1 (Int32.not_lt.mpr q.1))
  · skip
    refine y_loc (pc' := 6) xD_68 rfl rfl rfl rfl ?_
    refine y_ci (pc' := 8) (8) xD_68 rfl rfl rfl rfl ?_
    refine y_icge (pt := 15) (pf := 11) xD_68 rfl rfl rfl (fun h2 => ?_) (fun h2 => ?_)
    · skip
      refine y_ci (pc' := 16) (0) xD_68 rfl rfl rfl rfl ?_
      refine y_retZ xD_68 rfl rfl (by first | decide | assumption) ?_
      exact rI_f (fun q => absurd q.2 (Int32.not_lt.mpr h2))
    · skip
      refine y_ci (pc' := 12) (1) xD_68 rfl rfl rfl rfl ?_
      refine y_goto (pc' := 16) xD_68 rfl rfl ?_
      refine y_retZ xD_68 rfl rfl (by first | decide | assumption) ?_
      exact rI_t ⟨Int32.not_lt.mp h1, Int32.not_le.mp h2⟩
/-- bit g of a set of goals -/
def bitI (x g : Int32) : Int32 := (x >>> (g &&& 31)) &&& 1
theorem s_hasGoal {x g : Int32} : XP S d 49 0 (xent [.int x, .int g] 2) [] h (rI (zB (decide (¬ bitI x g = 0))) h) := by
  refine y_loc (pc' := 1) xD_49 rfl rfl rfl rfl ?_
  refine y_loc (pc' := 2) xD_49 rfl rfl rfl rfl ?_
  refine y_op (pc' := 3) xD_49 rfl rfl rfl rfl ?_
  refine y_ci (pc' := 4) (1) xD_49 rfl rfl rfl rfl ?_
  refine y_op (pc' := 5) xD_49 rfl rfl rfl rfl ?_
  refine y_ifeq (pt := 12) (pf := 8) xD_49 rfl rfl rfl (fun h1 => ?_) (fun h1 => ?_)
  · skip
    refine y_ci (pc' := 13) (0) xD_49 rfl rfl rfl rfl ?_
    refine y_retZ xD_49 rfl rfl (by first | decide | assumption) ?_
    exact rI_f (fun q => q h1)
  · skip
    refine y_ci (pc' := 9) (1) xD_49 rfl rfl rfl rfl ?_
    refine y_goto (pc' := 13) xD_49 rfl rfl ?_
    refine y_retZ xD_49 rfl rfl (by first | decide | assumption) ?_
    exact rI_t h1
theorem s_min {x z : Int32} : XP S d 24 0 (xent [.int x, .int z] 2) [] h (rI (if x ≤ z then x else z) h) := by
  refine y_loc (pc' := 1) xD_24 rfl rfl rfl rfl ?_
  refine y_loc (pc' := 2) xD_24 rfl rfl rfl rfl ?_
  refine y_icgt (pt := 9) (pf := 5) xD_24 rfl rfl rfl (fun h1 => ?_) (fun h1 => ?_)
  · skip
    refine y_loc (pc' := 10) xD_24 rfl rfl rfl rfl ?_
    refine y_retI xD_24 rfl rfl ?_
    exact ⟨by rw [if_neg (Int32.not_le.mpr h1)], rfl⟩
  · skip
    refine y_loc (pc' := 6) xD_24 rfl rfl rfl rfl ?_
    refine y_goto (pc' := 10) xD_24 rfl rfl ?_
    refine y_retI xD_24 rfl rfl ?_
    exact ⟨by rw [if_pos (Int32.not_lt.mp h1)], rfl⟩
theorem s_max {x z : Int32} : XP S d 61 0 (xent [.int x, .int z] 2) [] h (rI (if z ≤ x then x else z) h) := by
  refine y_loc (pc' := 1) xD_61 rfl rfl rfl rfl ?_
  refine y_loc (pc' := 2) xD_61 rfl rfl rfl rfl ?_
  refine y_iclt (pt := 9) (pf := 5) xD_61 rfl rfl rfl (fun h1 => ?_) (fun h1 => ?_)
  · skip
    refine y_loc (pc' := 10) xD_61 rfl rfl rfl rfl ?_
    refine y_retI xD_61 rfl rfl ?_
    exact ⟨by rw [if_neg (Int32.not_le.mpr h1)], rfl⟩
  · skip
    refine y_loc (pc' := 6) xD_61 rfl rfl rfl rfl ?_
    refine y_goto (pc' := 10) xD_61 rfl rfl ?_
    refine y_retI xD_61 rfl rfl ?_
    exact ⟨by rw [if_pos (Int32.not_lt.mp h1)], rfl⟩
/-- Method.isBranch -/
theorem s_isBranch (hR : RF R) (hA : A = 4 ∨ A = 10) (i : Nat) (hi : i < 10) {x : Int32} (hx : x = nI i) : XP S d 19 0 (xent [.ref A, .int x] 2) [] (hh I J R) (rI (zB (decide (I (A + 1) i = 5 ∨ I (A + 1) i = 6))) (hh I J R)) := by
  obtain ⟨hk0, hk1, -⟩ := kMeth hA
  have hr0 := (rMeth hR hA).1
  refine y_loc (pc' := 1) xD_19 rfl rfl rfl rfl ?_
  first | refine m_getR (pc' := 4) xD_19 rfl rfl rfl rfl (hR.1 _ _ _ rfl) rfl ?_ | refine m_getR (pc' := 4) xD_19 rfl rfl (by first | rfl | assumption) rfl (by assumption) rfl ?_
  refine y_loc (pc' := 5) xD_19 rfl rfl rfl rfl ?_
  refine m_iald (pc' := 6) (i) xD_19 rfl (by first | rfl | assumption) (by first | assumption | omega) (by decide) (by first | decide | omega) (by first | rfl | assumption) rfl ?_
  refine y_ci (pc' := 7) (5) xD_19 rfl rfl rfl rfl ?_
  refine y_iceq (pt := 21) (pf := 10) xD_19 rfl rfl rfl (fun h1 => ?_) (fun h1 => ?_)
  · skip
    refine y_ci (pc' := 22) (1) xD_19 rfl rfl rfl rfl ?_
    refine y_goto (pc' := 26) xD_19 rfl rfl ?_
    refine y_retZ xD_19 rfl rfl (by first | decide | assumption) ?_
    exact rI_t (Or.inl h1)
  · skip
    refine y_loc (pc' := 11) xD_19 rfl rfl rfl rfl ?_
    first | refine m_getR (pc' := 14) xD_19 rfl rfl rfl rfl (hR.1 _ _ _ rfl) rfl ?_ | refine m_getR (pc' := 14) xD_19 rfl rfl (by first | rfl | assumption) rfl (by assumption) rfl ?_
    refine y_loc (pc' := 15) xD_19 rfl rfl rfl rfl ?_
    refine m_iald (pc' := 16) (i) xD_19 rfl (by first | rfl | assumption) (by first | assumption | omega) (by decide) (by first | decide | omega) (by first | rfl | assumption) rfl ?_
    refine y_ci (pc' := 18) (6) xD_19 rfl rfl rfl rfl ?_
    refine y_icne (pt := 25) (pf := 21) xD_19 rfl rfl rfl (fun h2 => ?_) (fun h2 => ?_)
    · skip
      refine y_ci (pc' := 26) (0) xD_19 rfl rfl rfl rfl ?_
      refine y_retZ xD_19 rfl rfl (by first | decide | assumption) ?_
      exact rI_f (fun q => q.elim h1 h2)
    · skip
      refine y_ci (pc' := 22) (1) xD_19 rfl rfl rfl rfl ?_
      refine y_goto (pc' := 26) xD_19 rfl rfl ?_
      refine y_retZ xD_19 rfl rfl (by first | decide | assumption) ?_
      exact rI_t (Or.inr h2)
theorem s_goalCount : XP S d 46 0 (xent [.ref 2] 1) [] (hh I J R) (rI (2 * I 2 3) (hh I J R)) := by
  refine y_ci (pc' := 1) (2) xD_46 rfl rfl rfl rfl ?_
  refine y_loc (pc' := 2) xD_46 rfl rfl rfl rfl ?_
  refine m_get (pc' := 5) xD_46 rfl rfl (by first | rfl | assumption) rfl rfl ?_
  refine y_op (pc' := 6) xD_46 rfl rfl rfl rfl ?_
  refine y_retI xD_46 rfl rfl ?_
  exact ⟨rfl, rfl⟩
theorem s_calculate {o x z : Int32} (t : Nat) (ht : t < 5) (h0 : 0 < t) (ho : o = nI t) : XP S d 42 0 (xent [.int o, .int x, .int z] 3) [] h (rI (if o = 1 then x + z else if o = 2 then x - z else if o = 3 then x * z else if z = 0 then 0 else x / z) h) := by
  subst ho
  rcases (show t = 1 ∨ t = 2 ∨ t = 3 ∨ t = 4 by omega) with rfl | rfl | rfl | rfl
  · skip
    refine y_loc (pc' := 1) xD_42 rfl rfl rfl rfl ?_
    refine y_jmp (pc' := 28) xD_42 rfl (by rfl) ?_
    refine y_loc (pc' := 29) xD_42 rfl rfl rfl rfl ?_
    refine y_loc (pc' := 30) xD_42 rfl rfl rfl rfl ?_
    refine y_op (pc' := 31) xD_42 rfl rfl rfl rfl ?_
    refine y_retI xD_42 rfl rfl ?_
    exact rI_e rfl
  · skip
    refine y_loc (pc' := 1) xD_42 rfl rfl rfl rfl ?_
    refine y_jmp (pc' := 32) xD_42 rfl (by rfl) ?_
    refine y_loc (pc' := 33) xD_42 rfl rfl rfl rfl ?_
    refine y_loc (pc' := 34) xD_42 rfl rfl rfl rfl ?_
    refine y_op (pc' := 35) xD_42 rfl rfl rfl rfl ?_
    refine y_retI xD_42 rfl rfl ?_
    exact rI_e rfl
  · skip
    refine y_loc (pc' := 1) xD_42 rfl rfl rfl rfl ?_
    refine y_jmp (pc' := 36) xD_42 rfl (by rfl) ?_
    refine y_loc (pc' := 37) xD_42 rfl rfl rfl rfl ?_
    refine y_loc (pc' := 38) xD_42 rfl rfl rfl rfl ?_
    refine y_op (pc' := 39) xD_42 rfl rfl rfl rfl ?_
    refine y_retI xD_42 rfl rfl ?_
    exact rI_e rfl
  · skip
    refine y_loc (pc' := 1) xD_42 rfl rfl rfl rfl ?_
    refine y_jmp (pc' := 40) xD_42 rfl (by rfl) ?_
    refine y_loc (pc' := 41) xD_42 rfl rfl rfl rfl ?_
    refine y_ifne (pt := 48) (pf := 44) xD_42 rfl rfl rfl (fun h41 => ?_) (fun h41 => ?_)
    · skip
      refine y_loc (pc' := 49) xD_42 rfl rfl rfl rfl ?_
      refine y_loc (pc' := 50) xD_42 rfl rfl rfl rfl ?_
      refine y_op (pc' := 51) xD_42 rfl rfl (show (if z = 0 then none else some [Value.int (x / z)]) = some [Value.int (x / z)] from if_neg h41) rfl ?_
      refine y_retI xD_42 rfl rfl ?_
      refine rI_e ?_
      simp [h41]; try rfl
    · skip
      refine y_ci (pc' := 45) (0) xD_42 rfl rfl rfl rfl ?_
      refine y_goto (pc' := 51) xD_42 rfl rfl ?_
      refine y_retI xD_42 rfl rfl ?_
      refine rI_e ?_
      simp [h41]; try rfl
/-- Math.abs and Math.min of longs -/
theorem s_absJ {w : Int64} : XP S d 44 0 (xent [.long w] 2) [] h (rJ (if 0 ≤ w then w else -w) h) := by
  refine y_loc (pc' := 1) xD_44 rfl rfl rfl rfl ?_
  refine y_cj (pc' := 2) (0) xD_44 rfl rfl rfl rfl ?_
  refine y_op (pc' := 3) xD_44 rfl rfl rfl rfl ?_
  refine y_ifge (pt := 11) (pf := 6) xD_44 rfl rfl rfl (fun h3 => ?_) (fun h3 => ?_)
  · skip
    refine y_loc (pc' := 12) xD_44 rfl rfl rfl rfl ?_
    refine y_retJ xD_44 rfl rfl ?_
    refine rJ_e ?_
    first | rw [if_pos ((lg_cmp_ge w 0).mp h3)] | rw [if_neg (fun q => h3 ((lg_cmp_ge w 0).mpr q))]
  · skip
    refine y_loc (pc' := 7) xD_44 rfl rfl rfl rfl ?_
    refine y_op (pc' := 8) xD_44 rfl rfl rfl rfl ?_
    refine y_goto (pc' := 12) xD_44 rfl rfl ?_
    refine y_retJ xD_44 rfl rfl ?_
    refine rJ_e ?_
    first | rw [if_pos ((lg_cmp_ge w 0).mp h3)] | rw [if_neg (fun q => h3 ((lg_cmp_ge w 0).mpr q))]
theorem s_minJ {w u : Int64} : XP S d 45 0 (xent [.long w, .long u] 4) [] h (rJ (if w ≤ u then w else u) h) := by
  refine y_loc (pc' := 1) xD_45 rfl rfl rfl rfl ?_
  refine y_loc (pc' := 2) xD_45 rfl rfl rfl rfl ?_
  refine y_op (pc' := 3) xD_45 rfl rfl rfl rfl ?_
  refine y_ifgt (pt := 10) (pf := 6) xD_45 rfl rfl rfl (fun h3 => ?_) (fun h3 => ?_)
  · skip
    refine y_loc (pc' := 11) xD_45 rfl rfl rfl rfl ?_
    refine y_retJ xD_45 rfl rfl ?_
    refine rJ_e ?_
    first | rw [if_neg (fun q => absurd (lg_gt.mp h3) (Int64.not_lt.mpr q))] | rw [if_pos (Int64.not_lt.mp (fun q => h3 (lg_gt.mpr q)))]
  · skip
    refine y_loc (pc' := 7) xD_45 rfl rfl rfl rfl ?_
    refine y_goto (pc' := 11) xD_45 rfl rfl ?_
    refine y_retJ xD_45 rfl rfl ?_
    refine rJ_e ?_
    first | rw [if_neg (fun q => absurd (lg_gt.mp h3) (Int64.not_lt.mpr q))] | rw [if_pos (Int64.not_lt.mp (fun q => h3 (lg_gt.mpr q)))]
end LF

