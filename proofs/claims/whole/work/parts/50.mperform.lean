/-! The model's perform, whole. -/
theorem row_ext {α : Type} {f : Nat → Nat → α} {a k : Nat} {g g' : Nat → α} {x : α} (h : ∀ i, g' i = if i = k then x else g i) : xu (xrow f a g) a k x = xrow f a g' := by
  rw [xu_row, xrow_row, xrow_at]
  congr 1
  funext i
  exact (h i).symm
theorem if_or {α : Type} {P P' e : Prop} [Decidable P] [Decidable P'] [Decidable e] {x y : α} (h : P' ↔ e ∨ P) : (if P' then x else y) = if e then x else if P then x else y := by
  by_cases he : e
  · rw [if_pos he, if_pos (h.mpr (Or.inl he))]
  · rw [if_neg he]
    by_cases hp : P
    · rw [if_pos hp, if_pos (h.mpr (Or.inr hp))]
    · rw [if_neg hp, if_neg (fun q => (h.mp q).elim he hp)]
section MW
variable {S : XS} {d s nb : Nat} {I : Nat → Nat → Int32} {J : Nat → Nat → Int64} {R : Nat → Nat → Option Nat}
def v0M (I : Nat → Nat → Int32) : Nat → Int32 := fun i => if 4 ≤ i ∧ i < 8 then 0 else I 271 i
def n0M (J : Nat → Nat → Int64) : Nat → Int64 := fun i => if i < 24 then -1 else J 273 i
/-- what the model's perform leaves: variables, distances, results -/
def rnM (I : Nat → Nat → Int32) (J : Nat → Nat → Int64) (nb s n : Nat) : (Nat → Int32) × (Nat → Int64) × (Nat → Int64) × Bool := rsM I nb s (v0M I) (n0M J) (J 272) n
theorem s_mperform (hR : RF R) (hs : s < 67) (hP : PM I nb) {n : Nat} (hn : I 263 s = nI n) (hn6 : n ≤ 6) (hV : ∀ j, j < n → VS (slM I s) j) {xs : Int32} (e1 : xs = nI s) :
    XP S (d + 5) 124 0 (xent [.ref 261, .int xs] 6) [] (hh I J R) (rV (hh (xrow I 271 (rnM I J nb s n).1) (xrow (xrow J 273 (rnM I J nb s n).2.1) 272 (rnM I J nb s n).2.2.1) R)) := by
  have lp2 : ∀ (f k : Nat), k + f = 24 → XP S (d + 5) 124 23 [some (.ref 261), some (.int xs), some (.int (nI k)), none, none, none] [] (hh (xrow I 271 (v0M I)) (xrow J 273 (fun i => if i < k then -1 else J 273 i)) R) (rV (hh (xrow I 271 (rnM I J nb s n).1) (xrow (xrow J 273 (rnM I J nb s n).2.1) 272 (rnM I J nb s n).2.2.1) R)) := by
    intro f
    induction f with
    | zero =>
      intro k hk
      have hk : k = 24 := by omega
      subst hk
      have key := s_mperf_loop (S := S) (d := d) (J := J) hR hs hP hn hn6 hV (v0M I) (n0M J) (J 272) e1 n 0 none none (by omega)
      have e0 : rsM I nb s (v0M I) (n0M J) (J 272) 0 = (v0M I, n0M J, J 272, false) := rfl
      rw [e0] at key
      have e2 : xrow (xrow J 273 (n0M J)) 272 (J 272) = xrow J 273 (n0M J) := by
        funext y z
        unfold xrow
        by_cases h1 : y = 272
        · rw [if_pos h1, if_neg (by omega), h1]
        · rw [if_neg h1]
      rw [e2] at key
      refine y_loc (pc' := 24) xD_124 rfl rfl rfl rfl ?_
      refine y_ci (pc' := 26) (24) xD_124 rfl rfl rfl rfl ?_
      refine y_icge (pt := 44) (pf := 29) xD_124 rfl rfl rfl (fun h26 => ?_) (fun h26 => ?_)
      · skip
        refine y_ci (pc' := 45) (0) xD_124 rfl rfl rfl rfl ?_
        refine y_loc (pc' := 46) xD_124 rfl rfl rfl rfl ?_
        refine y_ci (pc' := 47) (0) xD_124 rfl rfl rfl rfl ?_
        refine y_loc (pc' := 48) xD_124 rfl rfl rfl rfl ?_
        exact key
      · exact absurd (show (24 : Int32) ≤ nI 24 from by decide) h26
    | succ f ih =>
      intro k hk
      have e5 : nI k + 1 = nI (k + 1) := nI_1 k
      refine y_loc (pc' := 24) xD_124 rfl rfl rfl rfl ?_
      refine y_ci (pc' := 26) (24) xD_124 rfl rfl rfl rfl ?_
      refine y_icge (pt := 44) (pf := 29) xD_124 rfl rfl rfl (fun h26 => ?_) (fun h26 => ?_)
      · skip
        exact absurd h26 (nI_ge (b := 24) (by omega) (by omega))
      · skip
        refine y_loc (pc' := 30) xD_124 rfl rfl rfl rfl ?_
        first | refine m_getR (pc' := 33) xD_124 rfl rfl rfl rfl (hR.1 _ _ _ rfl) rfl ?_ | refine m_getR (pc' := 33) xD_124 rfl rfl (by first | rfl | assumption) rfl (by assumption) rfl ?_
        refine y_loc (pc' := 34) xD_124 rfl rfl rfl rfl ?_
        refine y_ldc (pc' := 37) xD_124 rfl rfl rfl rfl ?_
        refine m_jast (pc' := 38) (k) xD_124 rfl (by first | rfl | assumption) (by first | assumption | omega) (by first | decide | assumption) (by first | rfl | assumption) rfl ?_
        rw [row_ext (g' := fun i => if i < k + 1 then -1 else J 273 i) (fun i => if_or (by omega))]
        refine y_inc (pc' := 41) (nI (k + 1)) xD_124 rfl rfl rfl e5 rfl rfl ?_
        refine y_goto (pc' := 23) xD_124 rfl rfl ?_
        exact ih (k + 1) (by omega)
  have lp1 : ∀ (f k : Nat), 4 ≤ k → k + f = 8 → XP S (d + 5) 124 2 [some (.ref 261), some (.int xs), some (.int (nI k)), none, none, none] [] (hh (xrow I 271 (fun i => if 4 ≤ i ∧ i < k then 0 else I 271 i)) J R) (rV (hh (xrow I 271 (rnM I J nb s n).1) (xrow (xrow J 273 (rnM I J nb s n).2.1) 272 (rnM I J nb s n).2.2.1) R)) := by
    intro f
    induction f with
    | zero =>
      intro k h4 hk
      have hk : k = 8 := by omega
      subst hk
      have key := lp2 24 0 (by omega)
      rw [show (fun i => if i < 0 then (-1 : Int64) else J 273 i) = J 273 from by funext i; rw [if_neg (by omega)], xrow_id] at key
      refine y_loc (pc' := 3) xD_124 rfl rfl rfl rfl ?_
      refine y_ci (pc' := 5) (8) xD_124 rfl rfl rfl rfl ?_
      refine y_icge (pt := 21) (pf := 8) xD_124 rfl rfl rfl (fun h5 => ?_) (fun h5 => ?_)
      · skip
        refine y_ci (pc' := 22) (0) xD_124 rfl rfl rfl rfl ?_
        refine y_loc (pc' := 23) xD_124 rfl rfl rfl rfl ?_
        exact key
      · exact absurd (show (8 : Int32) ≤ nI 8 from by decide) h5
    | succ f ih =>
      intro k h4 hk
      have e5 : nI k + 1 = nI (k + 1) := nI_1 k
      refine y_loc (pc' := 3) xD_124 rfl rfl rfl rfl ?_
      refine y_ci (pc' := 5) (8) xD_124 rfl rfl rfl rfl ?_
      refine y_icge (pt := 21) (pf := 8) xD_124 rfl rfl rfl (fun h5 => ?_) (fun h5 => ?_)
      · skip
        exact absurd h5 (nI_ge (b := 8) (by omega) (by omega))
      · skip
        refine y_loc (pc' := 9) xD_124 rfl rfl rfl rfl ?_
        first | refine m_getR (pc' := 12) xD_124 rfl rfl rfl rfl (hR.1 _ _ _ rfl) rfl ?_ | refine m_getR (pc' := 12) xD_124 rfl rfl (by first | rfl | assumption) rfl (by assumption) rfl ?_
        refine y_loc (pc' := 13) xD_124 rfl rfl rfl rfl ?_
        refine y_ci (pc' := 14) (0) xD_124 rfl rfl rfl rfl ?_
        refine m_iast (pc' := 15) (k) xD_124 rfl (by first | rfl | assumption) (by first | assumption | omega) (by first | decide | assumption) (by first | rfl | assumption) rfl ?_
        rw [row_ext (g' := fun i => if 4 ≤ i ∧ i < k + 1 then 0 else I 271 i) (fun i => if_or (by omega))]
        refine y_inc (pc' := 18) (nI (k + 1)) xD_124 rfl rfl rfl e5 rfl rfl ?_
        refine y_goto (pc' := 2) xD_124 rfl rfl ?_
        exact ih (k + 1) (by omega) (by omega)
  have key := lp1 4 4 (by omega) (by omega)
  rw [show (fun i => if 4 ≤ i ∧ i < 4 then (0 : Int32) else I 271 i) = I 271 from by funext i; rw [if_neg (by omega)], xrow_id] at key
  refine y_ci (pc' := 1) (4) xD_124 rfl rfl rfl rfl ?_
  refine y_loc (pc' := 2) xD_124 rfl rfl rfl rfl ?_
  exact key
end MW

