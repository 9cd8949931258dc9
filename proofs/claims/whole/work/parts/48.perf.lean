/-! The class's perform: the steps. -/
section PF
variable {S : XS} {d a : Nat} {I : Nat → Nat → Int32} {J : Nat → Nat → Int64} {R : Nat → Nat → Option Nat}
/-- the class's runs of a case's steps -/
def rsC (I : Nat → Nat → Int32) (a : Nat) (v : Nat → Int32) (N res : Nat → Int64) : Nat → (Nat → Int32) × (Nat → Int64) × (Nat → Int64) × Bool := q_rs UC (fun m => cdC I (4 + 6 * m)) (fun m => bnC I (4 + 6 * m)) (lnC I) (I (a + 1)) v N res
theorem q_do_eq {U : Nat → Int64 → Int64 → (Nat → Int64) → Nat → Int64} {cdf cdf' : Nat → Nat → Nat → Int32} {bnf bnf' : Nat → Nat → Option Nat} {ln ln' : Nat → Nat} {f : Nat → Int32} {j : Nat} {v : Nat → Int32} {N res : Nat → Int64} (hV : VS f j) (h : ∀ m, m < 2 → ln' m = ln m ∧ cdf' m = cdf m ∧ bnf' m = bnf m) : q_do U cdf' bnf' ln' f j v N res = q_do U cdf bnf ln f j v N res := by
  unfold q_do
  obtain ⟨⟨t, ht, h2, h3, hk⟩, -⟩ := hV
  by_cases hc : f (4 * j) < 2
  · rw [if_pos hc, if_pos hc]
    rw [hk] at hc ⊢
    have ht2 : t < 2 := (nI_ltI (b := 2) (by omega) (by omega)).mp hc
    rw [nI_cl (by omega)]
    obtain ⟨h1, h2, h3⟩ := h t ht2
    rw [h1, h2, h3]
  · rw [if_neg hc, if_neg hc]
theorem s_perf_loop (hR : RF R) (hc : isCase a) (hP : PC I) {n : Nat} (hn : I a 3 = nI n) (hn6 : n ≤ 6) (hV : ∀ j, j < n → VS (I (a + 1)) j) (v : Nat → Int32) (N res : Nat → Int64) {Q : Option Value → XH → Prop}
    (K : ∀ q : Option Value, XP S (d + 5) 34 97 [some (.ref 20), some (.ref a), some (.ref 2), q, some (.int (nI n))] [] (hh (xrow I 21 (rsC I a v N res n).1) (xrow (xrow J 22 (rsC I a v N res n).2.1) (a + 2) (rsC I a v N res n).2.2.1) R) Q) : ∀ (f j : Nat), j + f = n →
    XP S (d + 5) 34 33 [some (.ref 20), some (.ref a), some (.ref 2), some (.int (zB (rsC I a v N res j).2.2.2)), some (.int (nI j))] [] (hh (xrow I 21 (rsC I a v N res j).1) (xrow (xrow J 22 (rsC I a v N res j).2.1) (a + 2) (rsC I a v N res j).2.2.1) R) Q := by
  have ca := hc
  obtain ⟨hk0, hk1, hk2, hk3⟩ := kCase hc
  obtain ⟨hr0, hr1, hr2⟩ := hR.2 a hc
  have x0 : a ≠ 21 := by unfold isCase at ca; omega
  have x1 : a + 1 ≠ 21 := by unfold isCase at ca; omega
  have x2 : (22 : Nat) ≠ a + 2 := by unfold isCase at ca; omega
  have x3 : a + 2 ≠ 22 := by unfold isCase at ca; omega
  intro f
  induction f with
  | zero =>
    intro j hj
    have hj : j = n := by omega
    subst hj
    refine y_loc (pc' := 35) xD_34 rfl rfl rfl rfl ?_
    refine y_loc (pc' := 36) xD_34 rfl rfl rfl rfl ?_
    refine m_get (pc' := 39) xD_34 rfl rfl (by first | rfl | assumption) rfl rfl ?_
    refine y_icge (pt := 97) (pf := 42) xD_34 rfl rfl rfl (fun h39 => ?_) (fun h39 => ?_)
    · skip
      exact K _
    · exact absurd (show xrow I 21 _ a 3 ≤ nI j by rw [xrow_ne x0, hn]; exact Int32.le_refl _) h39
  | succ f ih =>
    intro j hj
    have hjn : j < n := by omega
    have hj6 : j < 6 := by omega
    have e1 : nI j + 1 = nI (j + 1) := nI_1 j
    obtain ⟨hP', hE⟩ := PC_eq (I' := xrow I 21 (rsC I a v N res j).1) (fun y hy => xrow_ne (by omega)) hP
    have stJ : ∀ (N' : Nat → Int64) (r' : Nat → Int64) (w : Int64), xu (xrow (xrow J 22 N') (a + 2) r') (a + 2) j w = xrow (xrow J 22 N') (a + 2) (vp_updL r' j w) := by
      intro N' r' w
      rw [xu_row, xrow_row, xrow_at]
      rfl
    have swap : ∀ (N' N'' : Nat → Int64) (r' : Nat → Int64), xrow (xrow (xrow J 22 N') (a + 2) r') 22 N'' = xrow (xrow J 22 N'') (a + 2) r' := by
      intro N' N'' r'
      funext y z
      unfold xrow
      by_cases h1 : y = 22
      · rw [if_pos h1, if_neg (by rw [h1]; exact x2), if_pos h1]
      · rw [if_neg h1]
        by_cases h2 : y = a + 2
        · rw [if_pos h2, if_pos h2]
        · rw [if_neg h2, if_neg h2, if_neg h1, if_neg h1]
    have hdo : q_do UC (fun m => cdC (xrow I 21 (rsC I a v N res j).1) (4 + 6 * m)) (fun m => bnC (xrow I 21 (rsC I a v N res j).1) (4 + 6 * m)) (lnC (xrow I 21 (rsC I a v N res j).1)) (I (a + 1)) j (rsC I a v N res j).1 (rsC I a v N res j).2.1 (rsC I a v N res j).2.2.1 = q_do UC (fun m => cdC I (4 + 6 * m)) (fun m => bnC I (4 + 6 * m)) (lnC I) (I (a + 1)) j (rsC I a v N res j).1 (rsC I a v N res j).2.1 (rsC I a v N res j).2.2.1 := q_do_eq (hV j hjn) hE
    have step := ih (j + 1) (by omega)
    cases hov : (rsC I a v N res j).2.2.2 with
    | true =>
      have hs : rsC I a v N res (j + 1) = ((rsC I a v N res j).1, (rsC I a v N res j).2.1, vp_updL (rsC I a v N res j).2.2.1 j 4294967296, true) := q_rs_t hov
      rw [hs] at step
      refine y_loc (pc' := 35) xD_34 rfl rfl rfl rfl ?_
      refine y_loc (pc' := 36) xD_34 rfl rfl rfl rfl ?_
      refine m_get (pc' := 39) xD_34 rfl rfl (by first | rfl | assumption) rfl rfl ?_
      refine y_icge (pt := 97) (pf := 42) xD_34 rfl rfl rfl (fun h39 => ?_) (fun h39 => ?_)
      · skip
        exact absurd h39 (by rw [xrow_ne x0, hn]; exact nI_ge hjn (by omega))
      · skip
        refine y_loc (pc' := 43) xD_34 rfl rfl rfl rfl ?_
        first | refine m_getR (pc' := 46) xD_34 rfl rfl rfl rfl (hR.1 _ _ _ rfl) rfl ?_ | refine m_getR (pc' := 46) xD_34 rfl rfl (by first | rfl | assumption) rfl (by assumption) rfl ?_
        refine y_loc (pc' := 48) xD_34 rfl rfl rfl rfl ?_
        refine y_loc (pc' := 49) xD_34 rfl rfl rfl rfl ?_
        refine y_ifeq (pt := 58) (pf := 52) xD_34 rfl rfl rfl (fun h49 => ?_) (fun h49 => ?_)
        · skip
          exact absurd h49 (by decide)
        · skip
          refine y_ldc (pc' := 55) xD_34 rfl rfl rfl rfl ?_
          refine y_goto (pc' := 66) xD_34 rfl rfl ?_
          refine m_jast (pc' := 67) (j) xD_34 rfl (by first | rfl | assumption) (by first | assumption | omega) (by first | decide | assumption) (by first | rfl | assumption) rfl ?_
          rw [stJ]
          refine y_loc (pc' := 68) xD_34 rfl rfl rfl rfl ?_
          refine y_ifne (pt := 85) (pf := 71) xD_34 rfl rfl rfl (fun h68 => ?_) (fun h68 => ?_)
          · skip
            refine y_ci (pc' := 86) (1) xD_34 rfl rfl rfl rfl ?_
            refine y_goto (pc' := 90) xD_34 rfl rfl ?_
            refine y_loc (pc' := 91) xD_34 rfl rfl rfl rfl ?_
            refine y_inc (pc' := 94) (nI (j + 1)) xD_34 rfl rfl rfl e1 rfl rfl ?_
            refine y_goto (pc' := 33) xD_34 rfl rfl ?_
            exact step
          · skip
            exact absurd h68 (by decide)
    | false =>
      have hs : rsC I a v N res (j + 1) = ((q_do UC (fun m => cdC I (4 + 6 * m)) (fun m => bnC I (4 + 6 * m)) (lnC I) (I (a + 1)) j (rsC I a v N res j).1 (rsC I a v N res j).2.1 (rsC I a v N res j).2.2.1).2.1, (q_do UC (fun m => cdC I (4 + 6 * m)) (fun m => bnC I (4 + 6 * m)) (lnC I) (I (a + 1)) j (rsC I a v N res j).1 (rsC I a v N res j).2.1 (rsC I a v N res j).2.2.1).2.2, vp_updL (rsC I a v N res j).2.2.1 j (q_do UC (fun m => cdC I (4 + 6 * m)) (fun m => bnC I (4 + 6 * m)) (lnC I) (I (a + 1)) j (rsC I a v N res j).1 (rsC I a v N res j).2.1 (rsC I a v N res j).2.2.1).1, decide ((q_do UC (fun m => cdC I (4 + 6 * m)) (fun m => bnC I (4 + 6 * m)) (lnC I) (I (a + 1)) j (rsC I a v N res j).1 (rsC I a v N res j).2.1 (rsC I a v N res j).2.2.1).1 = 4294967299)) := q_rs_f hov
      rw [hs] at step
      refine y_loc (pc' := 35) xD_34 rfl rfl rfl rfl ?_
      refine y_loc (pc' := 36) xD_34 rfl rfl rfl rfl ?_
      refine m_get (pc' := 39) xD_34 rfl rfl (by first | rfl | assumption) rfl rfl ?_
      refine y_icge (pt := 97) (pf := 42) xD_34 rfl rfl rfl (fun h39 => ?_) (fun h39 => ?_)
      · skip
        exact absurd h39 (by rw [xrow_ne x0, hn]; exact nI_ge hjn (by omega))
      · skip
        refine y_loc (pc' := 43) xD_34 rfl rfl rfl rfl ?_
        first | refine m_getR (pc' := 46) xD_34 rfl rfl rfl rfl (hR.1 _ _ _ rfl) rfl ?_ | refine m_getR (pc' := 46) xD_34 rfl rfl (by first | rfl | assumption) rfl (by assumption) rfl ?_
        refine y_loc (pc' := 48) xD_34 rfl rfl rfl rfl ?_
        refine y_loc (pc' := 49) xD_34 rfl rfl rfl rfl ?_
        refine y_ifeq (pt := 58) (pf := 52) xD_34 rfl rfl rfl (fun h49 => ?_) (fun h49 => ?_)
        · skip
          refine y_loc (pc' := 59) xD_34 rfl rfl rfl rfl ?_
          refine y_loc (pc' := 60) xD_34 rfl rfl rfl rfl ?_
          refine y_loc (pc' := 62) xD_34 rfl rfl rfl rfl ?_
          refine y_loc (pc' := 63) xD_34 rfl rfl rfl rfl ?_
          refine y_callV xD_34 rfl rfl rfl rfl (by first | rfl | assumption) rfl rfl rfl rfl (s_doStep hR hc hP' j hj6 (by rw [xrow_ne x1]; exact hV j hjn) rfl) (fun v h' hq => ?_)
          obtain ⟨rfl, rfl⟩ := hq
          rw [xrow_ne x1, xrow_at, xrow_ne x2, xrow_at, xrow_at, hdo, xrow_row, swap]
          refine m_jast (pc' := 67) (j) xD_34 rfl (by first | rfl | assumption) (by first | assumption | omega) (by first | decide | assumption) (by first | rfl | assumption) rfl ?_
          rw [stJ]
          refine y_loc (pc' := 68) xD_34 rfl rfl rfl rfl ?_
          refine y_ifne (pt := 85) (pf := 71) xD_34 rfl rfl rfl (fun h68 => ?_) (fun h68 => ?_)
          · skip
            refine y_ci (pc' := 86) (1) xD_34 rfl rfl rfl rfl ?_
            refine y_goto (pc' := 90) xD_34 rfl rfl ?_
            refine y_loc (pc' := 91) xD_34 rfl rfl rfl rfl ?_
            refine y_inc (pc' := 94) (nI (j + 1)) xD_34 rfl rfl rfl e1 rfl rfl ?_
            refine y_goto (pc' := 33) xD_34 rfl rfl ?_
            first | exact absurd rfl h68 | (rw [decide_eq_true (lg_eq.mp h82)] at step; exact step) | (rw [decide_eq_false (fun q => h82 (lg_eq.mpr q))] at step; exact step)
          · skip
            refine y_loc (pc' := 72) xD_34 rfl rfl rfl rfl ?_
            first | refine m_getR (pc' := 75) xD_34 rfl rfl rfl rfl (hR.1 _ _ _ rfl) rfl ?_ | refine m_getR (pc' := 75) xD_34 rfl rfl (by first | rfl | assumption) rfl (by assumption) rfl ?_
            refine y_loc (pc' := 77) xD_34 rfl rfl rfl rfl ?_
            refine m_jald (pc' := 78) (j) xD_34 rfl (by first | rfl | assumption) (by first | assumption | omega) (by first | decide | assumption) (by first | rfl | assumption) rfl ?_
            rw [xrow_at, pk_uLs]
            refine y_ldc (pc' := 81) xD_34 rfl rfl rfl rfl ?_
            refine y_op (pc' := 82) xD_34 rfl rfl rfl rfl ?_
            refine y_ifne (pt := 89) (pf := 85) xD_34 rfl rfl rfl (fun h82 => ?_) (fun h82 => ?_)
            · skip
              refine y_ci (pc' := 90) (0) xD_34 rfl rfl rfl rfl ?_
              refine y_loc (pc' := 91) xD_34 rfl rfl rfl rfl ?_
              refine y_inc (pc' := 94) (nI (j + 1)) xD_34 rfl rfl rfl e1 rfl rfl ?_
              refine y_goto (pc' := 33) xD_34 rfl rfl ?_
              first | exact absurd rfl h68 | (rw [decide_eq_true (lg_eq.mp h82)] at step; exact step) | (rw [decide_eq_false (fun q => h82 (lg_eq.mpr q))] at step; exact step)
            · skip
              refine y_ci (pc' := 86) (1) xD_34 rfl rfl rfl rfl ?_
              refine y_goto (pc' := 90) xD_34 rfl rfl ?_
              refine y_loc (pc' := 91) xD_34 rfl rfl rfl rfl ?_
              refine y_inc (pc' := 94) (nI (j + 1)) xD_34 rfl rfl rfl e1 rfl rfl ?_
              refine y_goto (pc' := 33) xD_34 rfl rfl ?_
              first | exact absurd rfl h68 | (rw [decide_eq_true (lg_eq.mp h82)] at step; exact step) | (rw [decide_eq_false (fun q => h82 (lg_eq.mpr q))] at step; exact step)
        · skip
          exact absurd (show zB false = 0 from rfl) h49
end PF

