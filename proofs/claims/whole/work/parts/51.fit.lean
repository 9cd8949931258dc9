/-! The class's fitness. -/
def q_least (N : Nat → Int64) (gs : Int32) : Nat → Int64
  | 0 => 8589934592
  | k + 1 => if bitI gs (nI k) = 0 then q_least N gs k else if q_least N gs k ≤ N k then q_least N gs k else N k
def q_nb (nd : Nat → Int32) (gs : Int32) : Nat → Int32
  | 0 => 0
  | k + 1 => if (gs >>> ((2 * nI k) &&& 31)) &&& 3 = 0 then q_nb nd gs k else q_nb nd gs k ||| nd k
def q_fit (N : Nat → Int64) (nd : Nat → Int32) (nb : Nat) : Nat → Nat → Int32 → Int64
  | 0, _, _ => 549755813888
  | f + 1, lv, gs => if gs = 0 then 549755813888 else if q_least N gs (2 * nb) = 8589934592 then q_fit N nd nb f (lv + 1) (q_nb nd gs nb) else (nI lv).toInt64 * 8589934592 + q_least N gs (2 * nb)
section FT
variable {S : XS} {d nb : Nat} {I : Nat → Nat → Int32} {J : Nat → Nat → Int64} {R : Nat → Nat → Option Nat}
/-- Runner.leastNearest -/
theorem s_leastNearest (hR : RF R) {gs : Int32} (ng : Nat) (hng : ng ≤ 24) {xc : Int32} (e1 : xc = nI ng) : XP S (d + 1) 48 0 (xent [.ref 20, .int gs, .int xc] 6) [] (hh I J R) (rJ (q_least (J 22) gs ng) (hh I J R)) := by
  subst e1
  have loop : ∀ (f k : Nat), k + f = ng → XP S (d + 1) 48 7 [some (.ref 20), some (.int gs), some (.int (nI ng)), some (.long (q_least (J 22) gs k)), none, some (.int (nI k))] [] (hh I J R) (rJ (q_least (J 22) gs ng) (hh I J R)) := by
    intro f
    induction f with
    | zero =>
      intro k hk
      have hk : k = ng := by omega
      subst hk
      refine y_loc (pc' := 9) xD_48 rfl rfl rfl rfl ?_
      refine y_loc (pc' := 10) xD_48 rfl rfl rfl rfl ?_
      refine y_icge (pt := 40) (pf := 13) xD_48 rfl rfl rfl (fun h10 => ?_) (fun h10 => ?_)
      · skip
        refine y_loc (pc' := 41) xD_48 rfl rfl rfl rfl ?_
        refine y_retJ xD_48 rfl rfl ?_
        exact rJ_e rfl
      · skip
        exact absurd (Int32.le_refl _) h10
    | succ f ih =>
      intro k hk
      have e5 : nI k + 1 = nI (k + 1) := nI_1 k
      have step := ih (k + 1) (by omega)
      simp only [q_least] at step
      refine y_loc (pc' := 9) xD_48 rfl rfl rfl rfl ?_
      refine y_loc (pc' := 10) xD_48 rfl rfl rfl rfl ?_
      refine y_icge (pt := 40) (pf := 13) xD_48 rfl rfl rfl (fun h10 => ?_) (fun h10 => ?_)
      · skip
        exact absurd h10 (nI_ge (by omega) (by omega))
      · skip
        refine y_loc (pc' := 14) xD_48 rfl rfl rfl rfl ?_
        refine y_loc (pc' := 16) xD_48 rfl rfl rfl rfl ?_
        refine y_callS xD_48 rfl rfl rfl rfl rfl rfl rfl rfl (s_hasGoal) (fun v h' hq => ?_)
        obtain ⟨rfl, rfl⟩ := hq
        refine y_ifeq (pt := 34) (pf := 22) xD_48 rfl rfl rfl (fun h19 => ?_) (fun h19 => ?_)
        · skip
          refine y_inc (pc' := 37) (nI (k + 1)) xD_48 rfl rfl rfl e5 rfl rfl ?_
          refine y_goto (pc' := 7) xD_48 rfl rfl ?_
          first | (rw [if_pos (Decidable.not_not.mp (zB_0.mp h19))] at step; exact step) | (rw [if_neg (zB_n0.mp h19)] at step; exact step)
        · skip
          refine y_loc (pc' := 23) xD_48 rfl rfl rfl rfl ?_
          refine y_loc (pc' := 24) xD_48 rfl rfl rfl rfl ?_
          first | refine m_getR (pc' := 27) xD_48 rfl rfl rfl rfl (hR.1 _ _ _ rfl) rfl ?_ | refine m_getR (pc' := 27) xD_48 rfl rfl (by first | rfl | assumption) rfl (by assumption) rfl ?_
          refine y_loc (pc' := 29) xD_48 rfl rfl rfl rfl ?_
          refine m_jald (pc' := 30) (k) xD_48 rfl (by first | rfl | assumption) (by first | assumption | omega) (by first | decide | assumption) (by first | rfl | assumption) rfl ?_
          refine y_callS xD_48 rfl rfl rfl rfl rfl rfl rfl rfl (s_minJ) (fun v h' hq => ?_)
          obtain ⟨rfl, rfl⟩ := hq
          refine y_loc (pc' := 34) xD_48 rfl rfl rfl rfl ?_
          refine y_inc (pc' := 37) (nI (k + 1)) xD_48 rfl rfl rfl e5 rfl rfl ?_
          refine y_goto (pc' := 7) xD_48 rfl rfl ?_
          first | (rw [if_pos (Decidable.not_not.mp (zB_0.mp h19))] at step; exact step) | (rw [if_neg (zB_n0.mp h19)] at step; exact step)
  refine y_ldc (pc' := 3) xD_48 rfl rfl rfl rfl ?_
  refine y_loc (pc' := 4) xD_48 rfl rfl rfl rfl ?_
  refine y_ci (pc' := 5) (0) xD_48 rfl rfl rfl rfl ?_
  refine y_loc (pc' := 7) xD_48 rfl rfl rfl rfl ?_
  exact loop ng 0 (by omega)
/-- Program.goalsNeededBy -/
theorem s_goalsNeededBy (hR : RF R) {gs : Int32} (hnb : I 2 3 = nI nb) (hnb2 : nb ≤ 12) : XP S d 50 0 (xent [.ref 2, .int gs] 4) [] (hh I J R) (rI (q_nb (I 16) gs nb) (hh I J R)) := by
  have loop : ∀ (f k : Nat), k + f = nb → XP S d 50 4 [some (.ref 2), some (.int gs), some (.int (q_nb (I 16) gs k)), some (.int (nI k))] [] (hh I J R) (rI (q_nb (I 16) gs nb) (hh I J R)) := by
    intro f
    induction f with
    | zero =>
      intro k hk
      have hk : k = nb := by omega
      subst hk
      refine y_loc (pc' := 5) xD_50 rfl rfl rfl rfl ?_
      refine y_loc (pc' := 6) xD_50 rfl rfl rfl rfl ?_
      refine m_get (pc' := 9) xD_50 rfl rfl (by first | rfl | assumption) rfl rfl ?_
      refine y_icge (pt := 37) (pf := 12) xD_50 rfl rfl rfl (fun h9 => ?_) (fun h9 => ?_)
      · skip
        refine y_loc (pc' := 38) xD_50 rfl rfl rfl rfl ?_
        refine y_retI xD_50 rfl rfl ?_
        exact rI_e rfl
      · skip
        exact absurd (show I 2 3 ≤ nI k by rw [hnb]; exact Int32.le_refl _) h9
    | succ f ih =>
      intro k hk
      have e5 : nI k + 1 = nI (k + 1) := nI_1 k
      have step := ih (k + 1) (by omega)
      simp only [q_nb] at step
      refine y_loc (pc' := 5) xD_50 rfl rfl rfl rfl ?_
      refine y_loc (pc' := 6) xD_50 rfl rfl rfl rfl ?_
      refine m_get (pc' := 9) xD_50 rfl rfl (by first | rfl | assumption) rfl rfl ?_
      refine y_icge (pt := 37) (pf := 12) xD_50 rfl rfl rfl (fun h9 => ?_) (fun h9 => ?_)
      · skip
        exact absurd h9 (by rw [hnb]; exact nI_ge (by omega) (by omega))
      · skip
        refine y_loc (pc' := 13) xD_50 rfl rfl rfl rfl ?_
        refine y_ci (pc' := 14) (2) xD_50 rfl rfl rfl rfl ?_
        refine y_loc (pc' := 15) xD_50 rfl rfl rfl rfl ?_
        refine y_op (pc' := 16) xD_50 rfl rfl rfl rfl ?_
        refine y_op (pc' := 17) xD_50 rfl rfl rfl rfl ?_
        refine y_ci (pc' := 18) (3) xD_50 rfl rfl rfl rfl ?_
        refine y_op (pc' := 19) xD_50 rfl rfl rfl rfl ?_
        refine y_ifeq (pt := 31) (pf := 22) xD_50 rfl rfl rfl (fun h19 => ?_) (fun h19 => ?_)
        · skip
          refine y_inc (pc' := 34) (nI (k + 1)) xD_50 rfl rfl rfl e5 rfl rfl ?_
          refine y_goto (pc' := 4) xD_50 rfl rfl ?_
          first | (rw [if_pos h19] at step; exact step) | (rw [if_neg h19] at step; exact step)
        · skip
          refine y_loc (pc' := 23) xD_50 rfl rfl rfl rfl ?_
          refine y_loc (pc' := 24) xD_50 rfl rfl rfl rfl ?_
          first | refine m_getR (pc' := 27) xD_50 rfl rfl rfl rfl (hR.1 _ _ _ rfl) rfl ?_ | refine m_getR (pc' := 27) xD_50 rfl rfl (by first | rfl | assumption) rfl (by assumption) rfl ?_
          refine y_loc (pc' := 28) xD_50 rfl rfl rfl rfl ?_
          refine m_iald (pc' := 29) (k) xD_50 rfl (by first | rfl | assumption) (by first | assumption | omega) (by first | decide | assumption) (by first | decide | omega) (by first | rfl | assumption) rfl ?_
          refine y_op (pc' := 30) xD_50 rfl rfl rfl rfl ?_
          refine y_loc (pc' := 31) xD_50 rfl rfl rfl rfl ?_
          refine y_inc (pc' := 34) (nI (k + 1)) xD_50 rfl rfl rfl e5 rfl rfl ?_
          refine y_goto (pc' := 4) xD_50 rfl rfl ?_
          first | (rw [if_pos h19] at step; exact step) | (rw [if_neg h19] at step; exact step)
  refine y_ci (pc' := 1) (0) xD_50 rfl rfl rfl rfl ?_
  refine y_loc (pc' := 2) xD_50 rfl rfl rfl rfl ?_
  refine y_ci (pc' := 3) (0) xD_50 rfl rfl rfl rfl ?_
  refine y_loc (pc' := 4) xD_50 rfl rfl rfl rfl ?_
  exact loop nb 0 (by omega)
/-- Runner.fitnessFor -/
theorem s_fitnessFor (hR : RF R) {g : Int32} (hnb : I 2 3 = nI nb) (hnb2 : nb ≤ 12) : XP S (d + 2) 47 0 (xent [.ref 20, .int g, .ref 2] 7) [] (hh I J R) (rJ (q_fit (J 22) (I 16) nb 13 0 (1 <<< (g &&& 31))) (hh I J R)) := by
  have hgc : (2 : Int32) * I 2 3 = nI (2 * nb) := by rw [hnb]; exact pk_mul 2 nb
  have loop : ∀ (f lv : Nat) (gs : Int32) (q5 : Option Value), lv + f = 13 → XP S (d + 2) 47 7 [some (.ref 20), some (.int g), some (.ref 2), some (.int gs), some (.int (nI lv)), q5, none] [] (hh I J R) (rJ (q_fit (J 22) (I 16) nb f lv gs) (hh I J R)) := by
    intro f
    induction f with
    | zero =>
      intro lv gs q5 hlv
      refine y_loc (pc' := 9) xD_47 rfl rfl rfl rfl ?_
      refine y_ci (pc' := 11) (12) xD_47 rfl rfl rfl rfl ?_
      refine y_icgt (pt := 61) (pf := 14) xD_47 rfl rfl rfl (fun h11 => ?_) (fun h11 => ?_)
      · skip
        refine y_ldc (pc' := 64) xD_47 rfl rfl rfl rfl ?_
        refine y_retJ xD_47 rfl rfl ?_
        exact rJ_e rfl
      · exact absurd (show (12 : Int32) < nI lv by rw [show lv = 13 by omega]; decide) h11
    | succ f ih =>
      intro lv gs q5 hlv
      have e5 : nI lv + 1 = nI (lv + 1) := nI_1 lv
      refine y_loc (pc' := 9) xD_47 rfl rfl rfl rfl ?_
      refine y_ci (pc' := 11) (12) xD_47 rfl rfl rfl rfl ?_
      refine y_icgt (pt := 61) (pf := 14) xD_47 rfl rfl rfl (fun h11 => ?_) (fun h11 => ?_)
      · skip
        refine y_ldc (pc' := 64) xD_47 rfl rfl rfl rfl ?_
        first | exact absurd h11 (Int32.not_lt.mpr (nI_le (b := 12) (by omega) (by omega))) | (rw [show q_fit (J 22) (I 16) nb (f + 1) lv gs = 549755813888 by simp only [q_fit]; rw [if_pos h15]]; refine y_retJ xD_47 rfl rfl ?_; exact rJ_e rfl)
      · skip
        refine y_loc (pc' := 15) xD_47 rfl rfl rfl rfl ?_
        refine y_ifeq (pt := 61) (pf := 18) xD_47 rfl rfl rfl (fun h15 => ?_) (fun h15 => ?_)
        · skip
          refine y_ldc (pc' := 64) xD_47 rfl rfl rfl rfl ?_
          first | exact absurd h11 (Int32.not_lt.mpr (nI_le (b := 12) (by omega) (by omega))) | (rw [show q_fit (J 22) (I 16) nb (f + 1) lv gs = 549755813888 by simp only [q_fit]; rw [if_pos h15]]; refine y_retJ xD_47 rfl rfl ?_; exact rJ_e rfl)
        · skip
          refine y_loc (pc' := 19) xD_47 rfl rfl rfl rfl ?_
          refine y_loc (pc' := 20) xD_47 rfl rfl rfl rfl ?_
          refine y_loc (pc' := 21) xD_47 rfl rfl rfl rfl ?_
          refine y_callV xD_47 rfl rfl rfl rfl (by first | rfl | assumption) rfl rfl rfl rfl (s_goalCount) (fun v h' hq => ?_)
          obtain ⟨rfl, rfl⟩ := hq
          refine y_callV xD_47 rfl rfl rfl rfl (by first | rfl | assumption) rfl rfl rfl rfl (s_leastNearest hR (2 * nb) (by omega) hgc) (fun v h' hq => ?_)
          obtain ⟨rfl, rfl⟩ := hq
          refine y_loc (pc' := 29) xD_47 rfl rfl rfl rfl ?_
          refine y_loc (pc' := 31) xD_47 rfl rfl rfl rfl ?_
          refine y_ldc (pc' := 34) xD_47 rfl rfl rfl rfl ?_
          refine y_op (pc' := 35) xD_47 rfl rfl rfl rfl ?_
          refine y_ifeq (pt := 49) (pf := 38) xD_47 rfl rfl rfl (fun h35 => ?_) (fun h35 => ?_)
          · skip
            refine y_loc (pc' := 50) xD_47 rfl rfl rfl rfl ?_
            refine y_loc (pc' := 51) xD_47 rfl rfl rfl rfl ?_
            refine y_callV xD_47 rfl rfl rfl rfl (by first | rfl | assumption) rfl rfl rfl rfl (s_goalsNeededBy hR hnb hnb2) (fun v h' hq => ?_)
            obtain ⟨rfl, rfl⟩ := hq
            refine y_loc (pc' := 55) xD_47 rfl rfl rfl rfl ?_
            refine y_inc (pc' := 58) (nI (lv + 1)) xD_47 rfl rfl rfl e5 rfl rfl ?_
            refine y_goto (pc' := 7) xD_47 rfl rfl ?_
            (rw [show q_fit (J 22) (I 16) nb (f + 1) lv gs = q_fit (J 22) (I 16) nb f (lv + 1) (q_nb (I 16) gs nb) by simp only [q_fit]; rw [if_neg h15, if_pos (lg_eq.mp h35)]]; exact ih (lv + 1) _ _ (by omega))
          · skip
            refine y_loc (pc' := 40) xD_47 rfl rfl rfl rfl ?_
            refine y_op (pc' := 41) xD_47 rfl rfl rfl rfl ?_
            refine y_ldc (pc' := 44) xD_47 rfl rfl rfl rfl ?_
            refine y_op (pc' := 45) xD_47 rfl rfl rfl rfl ?_
            refine y_loc (pc' := 47) xD_47 rfl rfl rfl rfl ?_
            refine y_op (pc' := 48) xD_47 rfl rfl rfl rfl ?_
            rw [show q_fit (J 22) (I 16) nb (f + 1) lv gs = (nI lv).toInt64 * 8589934592 + q_least (J 22) gs (2 * nb) by simp only [q_fit]; rw [if_neg h15, if_neg (fun q => h35 (lg_eq.mpr q))]]
            refine y_retJ xD_47 rfl rfl ?_
            exact rJ_e rfl
  refine y_ci (pc' := 1) (1) xD_47 rfl rfl rfl rfl ?_
  refine y_loc (pc' := 2) xD_47 rfl rfl rfl rfl ?_
  refine y_op (pc' := 3) xD_47 rfl rfl rfl rfl ?_
  refine y_loc (pc' := 4) xD_47 rfl rfl rfl rfl ?_
  refine y_ci (pc' := 5) (0) xD_47 rfl rfl rfl rfl ?_
  refine y_loc (pc' := 7) xD_47 rfl rfl rfl rfl ?_
  exact loop 13 0 _ none (by omega)
end FT

