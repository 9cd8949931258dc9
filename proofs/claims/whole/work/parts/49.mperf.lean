/-! The model's perform. -/
/-- a result: an int, or at least 2 to the 32 -/
def RV (w : Int64) : Prop := (∃ x : Int32, w = x.toInt64) ∨ 4294967296 ≤ w
theorem q_val_eq {w : Int64} (h : RV w) : (if 4294967296 ≤ w then 0 else w.toInt32) = q_val w := by
  unfold q_val
  rcases h with ⟨x, rfl⟩ | h
  · have h1 : ¬ (4294967296 : Int64) ≤ x.toInt64 := by
      rw [Int64.le_iff_toInt_le, Int32.toInt_toInt64]
      have := x.toInt_lt
      show ¬ (4294967296 : Int) ≤ _
      omega
    rw [if_neg h1, Int32.toInt32_toInt64, if_pos rfl]
  · rw [if_pos h, if_neg]
    intro e
    rw [e, Int64.le_iff_toInt_le, Int32.toInt_toInt64] at h
    have := (w.toInt32).toInt_lt
    have h : (4294967296 : Int) ≤ w.toInt32.toInt := h
    omega
theorem q_call_RV {U : Nat → Int64 → Int64 → (Nat → Int64) → Nat → Int64} {cd : Nat → Nat → Int32} {bn : Nat → Option Nat} {n : Nat} : ∀ (f p : Nat) (v : Nat → Int32) (N : Nat → Int64), RV (q_call U cd bn n f p v N).1
  | 0, p, v, N => by
    by_cases hp : p < n
    · rw [q_call_0 hp]; exact Or.inr (show (4294967296 : Int64) ≤ 4294967299 by decide)
    · rw [q_call_end hp]; exact Or.inl ⟨0, rfl⟩
  | f + 1, p, v, N => by
    by_cases hp : p < n
    · by_cases h8 : cd p 0 = 8
      · rw [q_call_8 hp h8]; exact Or.inl ⟨_, rfl⟩
      · by_cases h9 : cd p 0 = 9
        · rw [q_call_9 hp h9]; exact Or.inr (show (4294967296 : Int64) ≤ 4294967298 by decide)
        · by_cases h4 : cd p 0 = 4 ∧ v (cd p 3).toNatClampNeg = 0
          · rw [q_call_4 hp h4.1 h4.2]; exact Or.inr (show (4294967296 : Int64) ≤ 4294967297 by decide)
          · rw [q_call_n hp h8 h9 h4]; exact q_call_RV f _ _ _
    · rw [q_call_end hp]; exact Or.inl ⟨0, rfl⟩
section QV
variable {U : Nat → Int64 → Int64 → (Nat → Int64) → Nat → Int64} {cdf : Nat → Nat → Nat → Int32} {bnf : Nat → Nat → Option Nat} {ln : Nat → Nat} {f : Nat → Int32} {v : Nat → Int32} {N res : Nat → Int64}
theorem q_rs_RV : ∀ (j i : Nat), i < j → RV ((q_rs U cdf bnf ln f v N res j).2.2.1 i)
  | 0, i, h => absurd h (by omega)
  | j + 1, i, h => by
    cases ho : (q_rs U cdf bnf ln f v N res j).2.2.2 with
    | true =>
      rw [q_rs_t ho]
      by_cases hi : i = j
      · subst hi; show RV (vp_updL _ i _ i); rw [pk_uLs]; exact Or.inr (by decide)
      · show RV (vp_updL _ j _ i); rw [pk_uLn hi]; exact q_rs_RV j i (by omega)
    | false =>
      rw [q_rs_f ho]
      by_cases hi : i = j
      · subst hi
        show RV (vp_updL _ i _ i)
        rw [pk_uLs]
        unfold q_do
        split
        · exact q_call_RV _ _ _ _
        · exact Or.inl ⟨0, rfl⟩
      · show RV (vp_updL _ j _ i); rw [pk_uLn hi]; exact q_rs_RV j i (by omega)
end QV
def lnM (I : Nat → Nat → Int32) (m : Nat) : Nat := (I 265 m).toNatClampNeg
def PM (I : Nat → Nat → Int32) (nb : Nat) : Prop := I 261 10 = nI nb ∧ nb ≤ 12 ∧ ∀ m, m < 2 → I 265 m = nI (lnM I m) ∧ lnM I m ≤ 10 ∧ VC (cdM I m) (lnM I m)
def slM (I : Nat → Nat → Int32) (s : Nat) : Nat → Int32 := fun q => I 262 (24 * s + q)
def rsM (I : Nat → Nat → Int32) (nb s : Nat) (v : Nat → Int32) (N res : Nat → Int64) : Nat → (Nat → Int32) × (Nat → Int64) × (Nat → Int64) × Bool := q_rs UM (cdM I) (fun m => bnM I m nb) (lnM I) (slM I s) v N res
section MP
variable {S : XS} {d s nb : Nat} {I : Nat → Nat → Int32} {J : Nat → Nat → Int64} {R : Nat → Nat → Option Nat}
theorem s_mpart (hR : RF R) (hs : s < 67) (j q : Nat) (hj : j < 6) (hq : q < 4) {xs xj xq : Int32} (e1 : xs = nI s) (e2 : xj = nI j) (e3 : xq = nI q) : XP S d 125 0 (xent [.ref 261, .int xs, .int xj, .int xq] 4) [] (hh I J R) (rI (slM I s (4 * j + q)) (hh I J R)) := by
  refine y_loc (pc' := 1) xD_125 rfl rfl rfl rfl ?_
  first | refine m_getR (pc' := 4) xD_125 rfl rfl rfl rfl (hR.1 _ _ _ rfl) rfl ?_ | refine m_getR (pc' := 4) xD_125 rfl rfl (by first | rfl | assumption) rfl (by assumption) rfl ?_
  refine y_loc (pc' := 5) xD_125 rfl rfl rfl rfl ?_
  refine y_ci (pc' := 7) (24) xD_125 rfl rfl rfl rfl ?_
  refine y_op (pc' := 8) xD_125 rfl rfl rfl rfl ?_
  refine y_loc (pc' := 9) xD_125 rfl rfl rfl rfl ?_
  refine y_ci (pc' := 10) (4) xD_125 rfl rfl rfl rfl ?_
  refine y_op (pc' := 11) xD_125 rfl rfl rfl rfl ?_
  refine y_op (pc' := 12) xD_125 rfl rfl rfl rfl ?_
  refine y_loc (pc' := 13) xD_125 rfl rfl rfl rfl ?_
  refine y_op (pc' := 14) xD_125 rfl rfl rfl rfl ?_
  refine m_iald (pc' := 15) (24 * s + (4 * j + q)) xD_125 rfl (by first | rfl | assumption) (by first | assumption | omega) (by first | decide | assumption) (by first | decide | omega) (by rw [e1, e2, e3]; show nI s * nI 24 + nI j * nI 4 + nI q = _; rw [pk_mul, pk_mul, nI_add, nI_add]; congr 1; omega) rfl ?_
  refine y_retI xD_125 rfl rfl ?_
  exact rI_e rfl
theorem s_value (hR : RF R) (j : Nat) (hj : j < 6) (hv : RV (J 272 j)) {xj : Int32} (e1 : xj = nI j) : XP S d 126 0 (xent [.ref 261, .int xj] 2) [] (hh I J R) (rI (q_val (J 272 j)) (hh I J R)) := by
  rw [← q_val_eq hv]
  refine y_loc (pc' := 1) xD_126 rfl rfl rfl rfl ?_
  first | refine m_getR (pc' := 4) xD_126 rfl rfl rfl rfl (hR.1 _ _ _ rfl) rfl ?_ | refine m_getR (pc' := 4) xD_126 rfl rfl (by first | rfl | assumption) rfl (by assumption) rfl ?_
  refine y_loc (pc' := 5) xD_126 rfl rfl rfl rfl ?_
  refine m_jald (pc' := 6) (j) xD_126 rfl (by first | rfl | assumption) (by first | assumption | omega) (by first | decide | assumption) (by first | rfl | assumption) rfl ?_
  refine y_ldc (pc' := 9) xD_126 rfl rfl rfl rfl ?_
  refine y_op (pc' := 10) xD_126 rfl rfl rfl rfl ?_
  refine y_iflt (pt := 17) (pf := 13) xD_126 rfl rfl rfl (fun h10 => ?_) (fun h10 => ?_)
  · skip
    refine y_loc (pc' := 18) xD_126 rfl rfl rfl rfl ?_
    first | refine m_getR (pc' := 21) xD_126 rfl rfl rfl rfl (hR.1 _ _ _ rfl) rfl ?_ | refine m_getR (pc' := 21) xD_126 rfl rfl (by first | rfl | assumption) rfl (by assumption) rfl ?_
    refine y_loc (pc' := 22) xD_126 rfl rfl rfl rfl ?_
    refine m_jald (pc' := 23) (j) xD_126 rfl (by first | rfl | assumption) (by first | assumption | omega) (by first | decide | assumption) (by first | rfl | assumption) rfl ?_
    refine y_op (pc' := 24) xD_126 rfl rfl rfl rfl ?_
    refine y_retI xD_126 rfl rfl ?_
    refine rI_e ?_
    first | rw [if_neg (Int64.not_le.mpr (lg_lt.mp h10))] | rw [if_pos (Int64.not_lt.mp (fun q => h10 (lg_lt.mpr q)))]
  · skip
    refine y_ci (pc' := 14) (0) xD_126 rfl rfl rfl rfl ?_
    refine y_goto (pc' := 24) xD_126 rfl rfl ?_
    refine y_retI xD_126 rfl rfl ?_
    refine rI_e ?_
    first | rw [if_neg (Int64.not_le.mpr (lg_lt.mp h10))] | rw [if_pos (Int64.not_lt.mp (fun q => h10 (lg_lt.mpr q)))]
theorem s_mperf_loop (hR : RF R) (hs : s < 67) (hP : PM I nb) {n : Nat} (hn : I 263 s = nI n) (hn6 : n ≤ 6) (hV : ∀ j, j < n → VS (slM I s) j) (v : Nat → Int32) (N res : Nat → Int64) {xs : Int32} (e1 : xs = nI s) : ∀ (f j : Nat) (q4 q5 : Option Value), j + f = n →
    XP S (d + 5) 124 48 [some (.ref 261), some (.int xs), some (.int (zB (rsM I nb s v N res j).2.2.2)), some (.int (nI j)), q4, q5] [] (hh (xrow I 271 (rsM I nb s v N res j).1) (xrow (xrow J 273 (rsM I nb s v N res j).2.1) 272 (rsM I nb s v N res j).2.2.1) R) (rV (hh (xrow I 271 (rsM I nb s v N res n).1) (xrow (xrow J 273 (rsM I nb s v N res n).2.1) 272 (rsM I nb s v N res n).2.2.1) R)) := by
  obtain ⟨hnb, hnb2, hPm⟩ := hP
  have b3 : ∀ w : Nat → Int32, xrow I 271 w 263 = I 263 := fun w => xrow_ne (by decide)
  have sl : ∀ w : Nat → Int32, slM (xrow I 271 w) s = slM I s := fun w => by
    funext q
    unfold slM
    rw [xrow_ne (by decide)]
  intro f
  induction f with
  | zero =>
    intro j q4 q5 hj
    have hj : j = n := by omega
    subst hj
    refine y_loc (pc' := 49) xD_124 rfl rfl rfl rfl ?_
    refine y_loc (pc' := 50) xD_124 rfl rfl rfl rfl ?_
    first | refine m_getR (pc' := 53) xD_124 rfl rfl rfl rfl (hR.1 _ _ _ rfl) rfl ?_ | refine m_getR (pc' := 53) xD_124 rfl rfl (by first | rfl | assumption) rfl (by assumption) rfl ?_
    refine y_loc (pc' := 54) xD_124 rfl rfl rfl rfl ?_
    refine m_iald (pc' := 55) (s) xD_124 rfl (by first | rfl | assumption) (by first | assumption | omega) (by first | decide | assumption) (by first | decide | omega) (by first | rfl | assumption) rfl ?_
    skip
    refine y_icge (pt := 215) (pf := 58) xD_124 rfl rfl rfl (fun h55 => ?_) (fun h55 => ?_)
    · skip
      refine y_retV xD_124 rfl rfl ?_
      exact ⟨rfl, rfl⟩
    · exact absurd (show xrow I 271 _ 263 s ≤ nI j by rw [b3, hn]; exact Int32.le_refl _) h55
  | succ f ih =>
    intro j q4 q5 hj
    have hjn : j < n := by omega
    have hj6 : j < 6 := by omega
    have e5 : nI j + 1 = nI (j + 1) := nI_1 j
    have stJ : ∀ (N' : Nat → Int64) (r' : Nat → Int64) (w : Int64), xu (xrow (xrow J 273 N') 272 r') 272 j w = xrow (xrow J 273 N') 272 (vp_updL r' j w) := by
      intro N' r' w
      rw [xu_row, xrow_row, xrow_at]
      rfl
    have swap : ∀ (N' N'' : Nat → Int64) (r' : Nat → Int64), xrow (xrow (xrow J 273 N') 272 r') 273 N'' = xrow (xrow J 273 N'') 272 r' := by
      intro N' N'' r'
      funext y z
      unfold xrow
      by_cases h1 : y = 273
      · rw [if_pos h1, if_neg (by omega), if_pos h1]
      · rw [if_neg h1]
        by_cases h2 : y = 272
        · rw [if_pos h2, if_pos h2]
        · rw [if_neg h2, if_neg h2, if_neg h1, if_neg h1]
    have upd2 : ∀ (r' : Nat → Int64) (x w : Int64), vp_updL (vp_updL r' j x) j w = vp_updL r' j w := by
      intro r' x w
      funext i
      unfold vp_updL
      split <;> rfl
    obtain ⟨⟨t, ht, ht2, ht3, hkd⟩, hrf⟩ := hV j hjn
    have step := fun q4 q5 => ih (j + 1) q4 q5 (by omega)
    cases hov : (rsM I nb s v N res j).2.2.2 with
    | true =>
      have hss : rsM I nb s v N res (j + 1) = ((rsM I nb s v N res j).1, (rsM I nb s v N res j).2.1, vp_updL (rsM I nb s v N res j).2.2.1 j 4294967296, true) := q_rs_t hov
      rw [hss] at step
      refine y_loc (pc' := 49) xD_124 rfl rfl rfl rfl ?_
      refine y_loc (pc' := 50) xD_124 rfl rfl rfl rfl ?_
      first | refine m_getR (pc' := 53) xD_124 rfl rfl rfl rfl (hR.1 _ _ _ rfl) rfl ?_ | refine m_getR (pc' := 53) xD_124 rfl rfl (by first | rfl | assumption) rfl (by assumption) rfl ?_
      refine y_loc (pc' := 54) xD_124 rfl rfl rfl rfl ?_
      refine m_iald (pc' := 55) (s) xD_124 rfl (by first | rfl | assumption) (by first | assumption | omega) (by first | decide | assumption) (by first | decide | omega) (by first | rfl | assumption) rfl ?_
      refine y_icge (pt := 215) (pf := 58) xD_124 rfl rfl rfl (fun h55 => ?_) (fun h55 => ?_)
      · skip
        exact absurd h55 (by rw [b3, hn]; exact nI_ge hjn (by omega))
      · skip
        refine y_loc (pc' := 59) xD_124 rfl rfl rfl rfl ?_
        refine y_loc (pc' := 60) xD_124 rfl rfl rfl rfl ?_
        refine y_loc (pc' := 61) xD_124 rfl rfl rfl rfl ?_
        refine y_ci (pc' := 62) (0) xD_124 rfl rfl rfl rfl ?_
        refine y_callV xD_124 rfl rfl rfl rfl (by first | rfl | assumption) rfl rfl rfl rfl (s_mpart hR hs j 0 hj6 (by decide) e1 rfl rfl) (fun v h' hq => ?_)
        obtain ⟨rfl, rfl⟩ := hq
        refine y_loc (pc' := 67) xD_124 rfl rfl rfl rfl ?_
        refine y_loc (pc' := 68) xD_124 rfl rfl rfl rfl ?_
        first | refine m_getR (pc' := 71) xD_124 rfl rfl rfl rfl (hR.1 _ _ _ rfl) rfl ?_ | refine m_getR (pc' := 71) xD_124 rfl rfl (by first | rfl | assumption) rfl (by assumption) rfl ?_
        refine y_loc (pc' := 72) xD_124 rfl rfl rfl rfl ?_
        refine y_loc (pc' := 73) xD_124 rfl rfl rfl rfl ?_
        refine y_ifeq (pt := 82) (pf := 76) xD_124 rfl rfl rfl (fun h73 => ?_) (fun h73 => ?_)
        · skip
          exact absurd h73 (by decide)
        · skip
          refine y_ldc (pc' := 79) xD_124 rfl rfl rfl rfl ?_
          refine y_goto (pc' := 83) xD_124 rfl rfl ?_
          refine m_jast (pc' := 84) (j) xD_124 rfl (by first | rfl | assumption) (by first | assumption | omega) (by first | decide | assumption) (by first | rfl | assumption) rfl ?_
          rw [stJ]
          refine y_loc (pc' := 85) xD_124 rfl rfl rfl rfl ?_
          refine y_ifne (pt := 111) (pf := 88) xD_124 rfl rfl rfl (fun h85 => ?_) (fun h85 => ?_)
          · skip
            refine y_loc (pc' := 112) xD_124 rfl rfl rfl rfl ?_
            refine y_ifne (pt := 209) (pf := 115) xD_124 rfl rfl rfl (fun h112 => ?_) (fun h112 => ?_)
            · skip
              refine y_inc (pc' := 212) (nI (j + 1)) xD_124 rfl rfl rfl e5 rfl rfl ?_
              refine y_goto (pc' := 48) xD_124 rfl rfl ?_
              exact step _ _
            · skip
              exact absurd h112 (by decide)
          · skip
            exact absurd h85 (by decide)
    | false =>
      have hss : rsM I nb s v N res (j + 1) = ((q_do UM (cdM I) (fun m => bnM I m nb) (lnM I) (slM I s) j (rsM I nb s v N res j).1 (rsM I nb s v N res j).2.1 (rsM I nb s v N res j).2.2.1).2.1, (q_do UM (cdM I) (fun m => bnM I m nb) (lnM I) (slM I s) j (rsM I nb s v N res j).1 (rsM I nb s v N res j).2.1 (rsM I nb s v N res j).2.2.1).2.2, vp_updL (rsM I nb s v N res j).2.2.1 j (q_do UM (cdM I) (fun m => bnM I m nb) (lnM I) (slM I s) j (rsM I nb s v N res j).1 (rsM I nb s v N res j).2.1 (rsM I nb s v N res j).2.2.1).1, decide ((q_do UM (cdM I) (fun m => bnM I m nb) (lnM I) (slM I s) j (rsM I nb s v N res j).1 (rsM I nb s v N res j).2.1 (rsM I nb s v N res j).2.2.1).1 = 4294967299)) := q_rs_f hov
      rw [hss] at step
      have hRV : ∀ i, i < j → RV ((rsM I nb s v N res j).2.2.1 i) := fun i hi => q_rs_RV j i hi
      generalize (rsM I nb s v N res j).1 = v1 at *
      generalize (rsM I nb s v N res j).2.1 = N1 at *
      generalize (rsM I nb s v N res j).2.2.1 = r1 at *
      by_cases hlt : t < 2
      · have hlt2 : slM I s (4 * j) < 2 := by rw [hkd]; exact nI_lt (b := 2) hlt (by omega)
        have hq : q_do UM (cdM I) (fun m => bnM I m nb) (lnM I) (slM I s) j v1 N1 r1 = q_call UM (cdM I t) (bnM I t nb) (lnM I t) 40 0 (q_arg (slM I s) j v1 r1) N1 := by
          unfold q_do
          rw [if_pos hlt2, hkd, nI_cl (by omega)]
        rw [hq] at step
        obtain ⟨p1, p2, p3⟩ := hPm t hlt
        have fin : ∀ (y' : Int32) (q5 : Option Value), y' = (if slM I s (4 * j + 3) = -1 then slM I s (4 * j + 2) else q_val (r1 (slM I s (4 * j + 3)).toNatClampNeg)) → XP S (d + 5) 124 164 [some (.ref 261), some (.int xs), some (.int (zB false)), some (.int (nI j)), some (.int (slM I s (4 * j + 0))), q5] [] (hh (xrow I 271 (upd (upd v1 0 (slM I s (4 * j + 1))) 1 y')) (xrow (xrow J 273 N1) 272 (vp_updL r1 j 0)) R) (rV (hh (xrow I 271 (rsM I nb s v N res n).1) (xrow (xrow J 273 (rsM I nb s v N res n).2.1) 272 (rsM I nb s v N res n).2.2.1) R)) := by
          intro y' q5 hy
          have harg : upd (upd (upd (upd v1 0 (slM I s (4 * j + 1))) 1 y') 2 0) 3 0 = q_arg (slM I s) j v1 r1 := by rw [hy]; rfl
          have hcd : cdM (xrow I 271 (q_arg (slM I s) j v1 r1)) t = cdM I t := cdM_eq (xrow_ne (by decide))
          have hbn : bnM (xrow I 271 (q_arg (slM I s) j v1 r1)) t nb = bnM I t nb := bnM_eq (xrow_ne (by decide)) (xrow_ne (by decide))
          have hN1 : xrow (xrow J 273 N1) 272 (vp_updL r1 j 0) 273 = N1 := by rw [xrow_ne (by decide), xrow_at]
          refine y_loc (pc' := 165) xD_124 rfl rfl rfl rfl ?_
          first | refine m_getR (pc' := 168) xD_124 rfl rfl rfl rfl (hR.1 _ _ _ rfl) rfl ?_ | refine m_getR (pc' := 168) xD_124 rfl rfl (by first | rfl | assumption) rfl (by assumption) rfl ?_
          refine y_ci (pc' := 169) (2) xD_124 rfl rfl rfl rfl ?_
          refine y_ci (pc' := 170) (0) xD_124 rfl rfl rfl rfl ?_
          refine m_iast (pc' := 171) (2) xD_124 rfl (by first | rfl | assumption) (by first | assumption | omega) (by first | decide | assumption) (by first | rfl | assumption) rfl ?_
          rw [xu_rowI, xrow_row, xrow_at]
          refine y_loc (pc' := 172) xD_124 rfl rfl rfl rfl ?_
          first | refine m_getR (pc' := 175) xD_124 rfl rfl rfl rfl (hR.1 _ _ _ rfl) rfl ?_ | refine m_getR (pc' := 175) xD_124 rfl rfl (by first | rfl | assumption) rfl (by assumption) rfl ?_
          refine y_ci (pc' := 176) (3) xD_124 rfl rfl rfl rfl ?_
          refine y_ci (pc' := 177) (0) xD_124 rfl rfl rfl rfl ?_
          refine m_iast (pc' := 178) (3) xD_124 rfl (by first | rfl | assumption) (by first | assumption | omega) (by first | decide | assumption) (by first | rfl | assumption) rfl ?_
          rw [xu_rowI, xrow_row, xrow_at, harg]
          refine y_loc (pc' := 179) xD_124 rfl rfl rfl rfl ?_
          first | refine m_getR (pc' := 182) xD_124 rfl rfl rfl rfl (hR.1 _ _ _ rfl) rfl ?_ | refine m_getR (pc' := 182) xD_124 rfl rfl (by first | rfl | assumption) rfl (by assumption) rfl ?_
          refine y_loc (pc' := 183) xD_124 rfl rfl rfl rfl ?_
          refine y_loc (pc' := 184) xD_124 rfl rfl rfl rfl ?_
          refine y_loc (pc' := 186) xD_124 rfl rfl rfl rfl ?_
          refine y_callV xD_124 rfl rfl rfl rfl (by first | rfl | assumption) rfl rfl rfl rfl (s_mcall (n := lnM I t) (nb := nb) hR hlt (by rw [xrow_ne (by decide)]; exact p1) p2 (by rw [hcd]; exact p3) (by rw [xrow_ne (by decide)]; exact hnb) hnb2 hkd) (fun v h' hq => ?_)
          obtain ⟨rfl, rfl⟩ := hq
          rw [hcd, hbn, xrow_at, hN1, xrow_row, swap]
          generalize q_call UM (cdM I t) (bnM I t nb) (lnM I t) 40 0 (q_arg (slM I s) j v1 r1) N1 = qr at *
          skip
          refine m_jast (pc' := 190) (j) xD_124 rfl (by first | rfl | assumption) (by first | assumption | omega) (by first | decide | assumption) (by first | rfl | assumption) rfl ?_
          rw [stJ, upd2]
          refine y_loc (pc' := 191) xD_124 rfl rfl rfl rfl ?_
          first | refine m_getR (pc' := 194) xD_124 rfl rfl rfl rfl (hR.1 _ _ _ rfl) rfl ?_ | refine m_getR (pc' := 194) xD_124 rfl rfl (by first | rfl | assumption) rfl (by assumption) rfl ?_
          refine y_loc (pc' := 195) xD_124 rfl rfl rfl rfl ?_
          refine m_jald (pc' := 196) (j) xD_124 rfl (by first | rfl | assumption) (by first | assumption | omega) (by first | decide | assumption) (by first | rfl | assumption) rfl ?_
          rw [xrow_at, pk_uLs]
          refine y_ldc (pc' := 199) xD_124 rfl rfl rfl rfl ?_
          refine y_op (pc' := 200) xD_124 rfl rfl rfl rfl ?_
          refine y_ifne (pt := 207) (pf := 203) xD_124 rfl rfl rfl (fun h200 => ?_) (fun h200 => ?_)
          · skip
            refine y_ci (pc' := 208) (0) xD_124 rfl rfl rfl rfl ?_
            refine y_loc (pc' := 209) xD_124 rfl rfl rfl rfl ?_
            refine y_inc (pc' := 212) (nI (j + 1)) xD_124 rfl rfl rfl e5 rfl rfl ?_
            refine y_goto (pc' := 48) xD_124 rfl rfl ?_
            first | (rw [decide_eq_true (lg_eq.mp h200)] at step; exact step _ _) | (rw [decide_eq_false (fun q => h200 (lg_eq.mpr q))] at step; exact step _ _)
          · skip
            refine y_ci (pc' := 204) (1) xD_124 rfl rfl rfl rfl ?_
            refine y_goto (pc' := 208) xD_124 rfl rfl ?_
            refine y_loc (pc' := 209) xD_124 rfl rfl rfl rfl ?_
            refine y_inc (pc' := 212) (nI (j + 1)) xD_124 rfl rfl rfl e5 rfl rfl ?_
            refine y_goto (pc' := 48) xD_124 rfl rfl ?_
            first | (rw [decide_eq_true (lg_eq.mp h200)] at step; exact step _ _) | (rw [decide_eq_false (fun q => h200 (lg_eq.mpr q))] at step; exact step _ _)
        refine y_loc (pc' := 49) xD_124 rfl rfl rfl rfl ?_
        refine y_loc (pc' := 50) xD_124 rfl rfl rfl rfl ?_
        first | refine m_getR (pc' := 53) xD_124 rfl rfl rfl rfl (hR.1 _ _ _ rfl) rfl ?_ | refine m_getR (pc' := 53) xD_124 rfl rfl (by first | rfl | assumption) rfl (by assumption) rfl ?_
        refine y_loc (pc' := 54) xD_124 rfl rfl rfl rfl ?_
        refine m_iald (pc' := 55) (s) xD_124 rfl (by first | rfl | assumption) (by first | assumption | omega) (by first | decide | assumption) (by first | decide | omega) (by first | rfl | assumption) rfl ?_
        refine y_icge (pt := 215) (pf := 58) xD_124 rfl rfl rfl (fun h55 => ?_) (fun h55 => ?_)
        · skip
          exact absurd h55 (by rw [b3, hn]; exact nI_ge hjn (by omega))
        · skip
          refine y_loc (pc' := 59) xD_124 rfl rfl rfl rfl ?_
          refine y_loc (pc' := 60) xD_124 rfl rfl rfl rfl ?_
          refine y_loc (pc' := 61) xD_124 rfl rfl rfl rfl ?_
          refine y_ci (pc' := 62) (0) xD_124 rfl rfl rfl rfl ?_
          refine y_callV xD_124 rfl rfl rfl rfl (by first | rfl | assumption) rfl rfl rfl rfl (s_mpart hR hs j 0 hj6 (by decide) e1 rfl rfl) (fun v h' hq => ?_)
          obtain ⟨rfl, rfl⟩ := hq
          rw [sl]
          refine y_loc (pc' := 67) xD_124 rfl rfl rfl rfl ?_
          refine y_loc (pc' := 68) xD_124 rfl rfl rfl rfl ?_
          first | refine m_getR (pc' := 71) xD_124 rfl rfl rfl rfl (hR.1 _ _ _ rfl) rfl ?_ | refine m_getR (pc' := 71) xD_124 rfl rfl (by first | rfl | assumption) rfl (by assumption) rfl ?_
          refine y_loc (pc' := 72) xD_124 rfl rfl rfl rfl ?_
          refine y_loc (pc' := 73) xD_124 rfl rfl rfl rfl ?_
          refine y_ifeq (pt := 82) (pf := 76) xD_124 rfl rfl rfl (fun h73 => ?_) (fun h73 => ?_)
          · skip
            refine y_cj (pc' := 83) (0) xD_124 rfl rfl rfl rfl ?_
            refine m_jast (pc' := 84) (j) xD_124 rfl (by first | rfl | assumption) (by first | assumption | omega) (by first | decide | assumption) (by first | rfl | assumption) rfl ?_
            rw [stJ]
            refine y_loc (pc' := 85) xD_124 rfl rfl rfl rfl ?_
            refine y_ifne (pt := 111) (pf := 88) xD_124 rfl rfl rfl (fun h85 => ?_) (fun h85 => ?_)
            · skip
              refine y_loc (pc' := 112) xD_124 rfl rfl rfl rfl ?_
              refine y_ifne (pt := 209) (pf := 115) xD_124 rfl rfl rfl (fun h112 => ?_) (fun h112 => ?_)
              · skip
                first | exact absurd (show zB false = 0 from rfl) h112 | exact absurd (show zB false = 0 from rfl) h85
              · skip
                refine y_loc (pc' := 116) xD_124 rfl rfl rfl rfl ?_
                refine y_loc (pc' := 117) xD_124 rfl rfl rfl rfl ?_
                refine y_loc (pc' := 118) xD_124 rfl rfl rfl rfl ?_
                refine y_ci (pc' := 119) (3) xD_124 rfl rfl rfl rfl ?_
                refine y_callV xD_124 rfl rfl rfl rfl (by first | rfl | assumption) rfl rfl rfl rfl (s_mpart hR hs j 3 hj6 (by decide) e1 rfl rfl) (fun v h' hq => ?_)
                obtain ⟨rfl, rfl⟩ := hq
                rw [sl]
                refine y_loc (pc' := 124) xD_124 rfl rfl rfl rfl ?_
                refine y_loc (pc' := 125) xD_124 rfl rfl rfl rfl ?_
                first | refine m_getR (pc' := 128) xD_124 rfl rfl rfl rfl (hR.1 _ _ _ rfl) rfl ?_ | refine m_getR (pc' := 128) xD_124 rfl rfl (by first | rfl | assumption) rfl (by assumption) rfl ?_
                refine y_ci (pc' := 129) (0) xD_124 rfl rfl rfl rfl ?_
                refine y_loc (pc' := 130) xD_124 rfl rfl rfl rfl ?_
                refine y_loc (pc' := 131) xD_124 rfl rfl rfl rfl ?_
                refine y_loc (pc' := 132) xD_124 rfl rfl rfl rfl ?_
                refine y_ci (pc' := 133) (1) xD_124 rfl rfl rfl rfl ?_
                refine y_callV xD_124 rfl rfl rfl rfl (by first | rfl | assumption) rfl rfl rfl rfl (s_mpart hR hs j 1 hj6 (by decide) e1 rfl rfl) (fun v h' hq => ?_)
                obtain ⟨rfl, rfl⟩ := hq
                rw [sl]
                refine m_iast (pc' := 137) (0) xD_124 rfl (by first | rfl | assumption) (by first | assumption | omega) (by first | decide | assumption) (by first | rfl | assumption) rfl ?_
                rw [xu_rowI, xrow_row, xrow_at]
                refine y_loc (pc' := 138) xD_124 rfl rfl rfl rfl ?_
                first | refine m_getR (pc' := 141) xD_124 rfl rfl rfl rfl (hR.1 _ _ _ rfl) rfl ?_ | refine m_getR (pc' := 141) xD_124 rfl rfl (by first | rfl | assumption) rfl (by assumption) rfl ?_
                refine y_ci (pc' := 142) (1) xD_124 rfl rfl rfl rfl ?_
                refine y_loc (pc' := 144) xD_124 rfl rfl rfl rfl ?_
                refine y_ifge (pt := 157) (pf := 147) xD_124 rfl rfl rfl (fun h144 => ?_) (fun h144 => ?_)
                · skip
                  refine y_loc (pc' := 158) xD_124 rfl rfl rfl rfl ?_
                  refine y_loc (pc' := 160) xD_124 rfl rfl rfl rfl ?_
                  obtain ⟨r, hr, er⟩ := (hrf hlt2).resolve_left (fun q => absurd h144 (by rw [q]; decide))
                  refine y_callV xD_124 rfl rfl rfl rfl (by first | rfl | assumption) rfl rfl rfl rfl (s_value hR r (by omega) (by rw [xrow_at, pk_uLn (by omega)]; exact hRV r hr) er) (fun v h' hq => ?_)
                  obtain ⟨rfl, rfl⟩ := hq
                  rw [xrow_at, pk_uLn (by omega)]
                  refine m_iast (pc' := 164) (1) xD_124 rfl (by first | rfl | assumption) (by first | assumption | omega) (by first | decide | assumption) (by first | rfl | assumption) rfl ?_
                  rw [xu_rowI, xrow_row, xrow_at]
                  first
                  | exact fin _ _ (by rw [if_neg (fun q => absurd h144 (by rw [q]; decide)), er, nI_cl (by omega)])
                  | exact fin _ _ (by rw [if_pos ((hrf hlt2).resolve_right (fun ⟨r, hr, er⟩ => h144 (by rw [er]; exact nI_pos' (by omega))))])
                · skip
                  refine y_loc (pc' := 148) xD_124 rfl rfl rfl rfl ?_
                  refine y_loc (pc' := 149) xD_124 rfl rfl rfl rfl ?_
                  refine y_loc (pc' := 150) xD_124 rfl rfl rfl rfl ?_
                  refine y_ci (pc' := 151) (2) xD_124 rfl rfl rfl rfl ?_
                  refine y_callV xD_124 rfl rfl rfl rfl (by first | rfl | assumption) rfl rfl rfl rfl (s_mpart hR hs j 2 hj6 (by decide) e1 rfl rfl) (fun v h' hq => ?_)
                  obtain ⟨rfl, rfl⟩ := hq
                  rw [sl]
                  refine y_goto (pc' := 163) xD_124 rfl rfl ?_
                  refine m_iast (pc' := 164) (1) xD_124 rfl (by first | rfl | assumption) (by first | assumption | omega) (by first | decide | assumption) (by first | rfl | assumption) rfl ?_
                  rw [xu_rowI, xrow_row, xrow_at]
                  first
                  | exact fin _ _ (by rw [if_neg (fun q => absurd h144 (by rw [q]; decide)), er, nI_cl (by omega)])
                  | exact fin _ _ (by rw [if_pos ((hrf hlt2).resolve_right (fun ⟨r, hr, er⟩ => h144 (by rw [er]; exact nI_pos' (by omega))))])
            · skip
              refine y_loc (pc' := 90) xD_124 rfl rfl rfl rfl ?_
              refine y_ci (pc' := 91) (4) xD_124 rfl rfl rfl rfl ?_
              refine y_iclt (pt := 111) (pf := 94) xD_124 rfl rfl rfl (fun h91 => ?_) (fun h91 => ?_)
              · skip
                refine y_loc (pc' := 112) xD_124 rfl rfl rfl rfl ?_
                refine y_ifne (pt := 209) (pf := 115) xD_124 rfl rfl rfl (fun h112 => ?_) (fun h112 => ?_)
                · skip
                  first | exact absurd (show zB false = 0 from rfl) h112 | exact absurd (show zB false = 0 from rfl) h85
                · skip
                  refine y_loc (pc' := 116) xD_124 rfl rfl rfl rfl ?_
                  refine y_loc (pc' := 117) xD_124 rfl rfl rfl rfl ?_
                  refine y_loc (pc' := 118) xD_124 rfl rfl rfl rfl ?_
                  refine y_ci (pc' := 119) (3) xD_124 rfl rfl rfl rfl ?_
                  refine y_callV xD_124 rfl rfl rfl rfl (by first | rfl | assumption) rfl rfl rfl rfl (s_mpart hR hs j 3 hj6 (by decide) e1 rfl rfl) (fun v h' hq => ?_)
                  obtain ⟨rfl, rfl⟩ := hq
                  rw [sl]
                  refine y_loc (pc' := 124) xD_124 rfl rfl rfl rfl ?_
                  refine y_loc (pc' := 125) xD_124 rfl rfl rfl rfl ?_
                  first | refine m_getR (pc' := 128) xD_124 rfl rfl rfl rfl (hR.1 _ _ _ rfl) rfl ?_ | refine m_getR (pc' := 128) xD_124 rfl rfl (by first | rfl | assumption) rfl (by assumption) rfl ?_
                  refine y_ci (pc' := 129) (0) xD_124 rfl rfl rfl rfl ?_
                  refine y_loc (pc' := 130) xD_124 rfl rfl rfl rfl ?_
                  refine y_loc (pc' := 131) xD_124 rfl rfl rfl rfl ?_
                  refine y_loc (pc' := 132) xD_124 rfl rfl rfl rfl ?_
                  refine y_ci (pc' := 133) (1) xD_124 rfl rfl rfl rfl ?_
                  refine y_callV xD_124 rfl rfl rfl rfl (by first | rfl | assumption) rfl rfl rfl rfl (s_mpart hR hs j 1 hj6 (by decide) e1 rfl rfl) (fun v h' hq => ?_)
                  obtain ⟨rfl, rfl⟩ := hq
                  rw [sl]
                  refine m_iast (pc' := 137) (0) xD_124 rfl (by first | rfl | assumption) (by first | assumption | omega) (by first | decide | assumption) (by first | rfl | assumption) rfl ?_
                  rw [xu_rowI, xrow_row, xrow_at]
                  refine y_loc (pc' := 138) xD_124 rfl rfl rfl rfl ?_
                  first | refine m_getR (pc' := 141) xD_124 rfl rfl rfl rfl (hR.1 _ _ _ rfl) rfl ?_ | refine m_getR (pc' := 141) xD_124 rfl rfl (by first | rfl | assumption) rfl (by assumption) rfl ?_
                  refine y_ci (pc' := 142) (1) xD_124 rfl rfl rfl rfl ?_
                  refine y_loc (pc' := 144) xD_124 rfl rfl rfl rfl ?_
                  refine y_ifge (pt := 157) (pf := 147) xD_124 rfl rfl rfl (fun h144 => ?_) (fun h144 => ?_)
                  · skip
                    refine y_loc (pc' := 158) xD_124 rfl rfl rfl rfl ?_
                    refine y_loc (pc' := 160) xD_124 rfl rfl rfl rfl ?_
                    obtain ⟨r, hr, er⟩ := (hrf hlt2).resolve_left (fun q => absurd h144 (by rw [q]; decide))
                    refine y_callV xD_124 rfl rfl rfl rfl (by first | rfl | assumption) rfl rfl rfl rfl (s_value hR r (by omega) (by rw [xrow_at, pk_uLn (by omega)]; exact hRV r hr) er) (fun v h' hq => ?_)
                    obtain ⟨rfl, rfl⟩ := hq
                    rw [xrow_at, pk_uLn (by omega)]
                    refine m_iast (pc' := 164) (1) xD_124 rfl (by first | rfl | assumption) (by first | assumption | omega) (by first | decide | assumption) (by first | rfl | assumption) rfl ?_
                    rw [xu_rowI, xrow_row, xrow_at]
                    first
                    | exact fin _ _ (by rw [if_neg (fun q => absurd h144 (by rw [q]; decide)), er, nI_cl (by omega)])
                    | exact fin _ _ (by rw [if_pos ((hrf hlt2).resolve_right (fun ⟨r, hr, er⟩ => h144 (by rw [er]; exact nI_pos' (by omega))))])
                  · skip
                    refine y_loc (pc' := 148) xD_124 rfl rfl rfl rfl ?_
                    refine y_loc (pc' := 149) xD_124 rfl rfl rfl rfl ?_
                    refine y_loc (pc' := 150) xD_124 rfl rfl rfl rfl ?_
                    refine y_ci (pc' := 151) (2) xD_124 rfl rfl rfl rfl ?_
                    refine y_callV xD_124 rfl rfl rfl rfl (by first | rfl | assumption) rfl rfl rfl rfl (s_mpart hR hs j 2 hj6 (by decide) e1 rfl rfl) (fun v h' hq => ?_)
                    obtain ⟨rfl, rfl⟩ := hq
                    rw [sl]
                    refine y_goto (pc' := 163) xD_124 rfl rfl ?_
                    refine m_iast (pc' := 164) (1) xD_124 rfl (by first | rfl | assumption) (by first | assumption | omega) (by first | decide | assumption) (by first | rfl | assumption) rfl ?_
                    rw [xu_rowI, xrow_row, xrow_at]
                    first
                    | exact fin _ _ (by rw [if_neg (fun q => absurd h144 (by rw [q]; decide)), er, nI_cl (by omega)])
                    | exact fin _ _ (by rw [if_pos ((hrf hlt2).resolve_right (fun ⟨r, hr, er⟩ => h144 (by rw [er]; exact nI_pos' (by omega))))])
              · skip
                exact absurd (show slM I s (4 * j + 0) < 4 by rw [show slM I s (4 * j + 0) = nI t from hkd]; exact nI_lt (b := 4) (by omega) (by omega)) h91
          · skip
            exact absurd (show zB false = 0 from rfl) h73
      · have hlt2 : ¬ slM I s (4 * j) < 2 := by rw [hkd]; exact nI_nlt (b := 2) (by omega) (by omega)
        have hq : q_do UM (cdM I) (fun m => bnM I m nb) (lnM I) (slM I s) j v1 N1 r1 = (0, upd v1 t (slM I s (4 * j + 1)), N1) := by
          unfold q_do
          rw [if_neg hlt2, hkd, nI_cl (by omega)]
        rw [hq] at step
        refine y_loc (pc' := 49) xD_124 rfl rfl rfl rfl ?_
        refine y_loc (pc' := 50) xD_124 rfl rfl rfl rfl ?_
        first | refine m_getR (pc' := 53) xD_124 rfl rfl rfl rfl (hR.1 _ _ _ rfl) rfl ?_ | refine m_getR (pc' := 53) xD_124 rfl rfl (by first | rfl | assumption) rfl (by assumption) rfl ?_
        refine y_loc (pc' := 54) xD_124 rfl rfl rfl rfl ?_
        refine m_iald (pc' := 55) (s) xD_124 rfl (by first | rfl | assumption) (by first | assumption | omega) (by first | decide | assumption) (by first | decide | omega) (by first | rfl | assumption) rfl ?_
        refine y_icge (pt := 215) (pf := 58) xD_124 rfl rfl rfl (fun h55 => ?_) (fun h55 => ?_)
        · skip
          exact absurd h55 (by rw [b3, hn]; exact nI_ge hjn (by omega))
        · skip
          refine y_loc (pc' := 59) xD_124 rfl rfl rfl rfl ?_
          refine y_loc (pc' := 60) xD_124 rfl rfl rfl rfl ?_
          refine y_loc (pc' := 61) xD_124 rfl rfl rfl rfl ?_
          refine y_ci (pc' := 62) (0) xD_124 rfl rfl rfl rfl ?_
          refine y_callV xD_124 rfl rfl rfl rfl (by first | rfl | assumption) rfl rfl rfl rfl (s_mpart hR hs j 0 hj6 (by decide) e1 rfl rfl) (fun v h' hq => ?_)
          obtain ⟨rfl, rfl⟩ := hq
          rw [sl]
          refine y_loc (pc' := 67) xD_124 rfl rfl rfl rfl ?_
          refine y_loc (pc' := 68) xD_124 rfl rfl rfl rfl ?_
          first | refine m_getR (pc' := 71) xD_124 rfl rfl rfl rfl (hR.1 _ _ _ rfl) rfl ?_ | refine m_getR (pc' := 71) xD_124 rfl rfl (by first | rfl | assumption) rfl (by assumption) rfl ?_
          refine y_loc (pc' := 72) xD_124 rfl rfl rfl rfl ?_
          refine y_loc (pc' := 73) xD_124 rfl rfl rfl rfl ?_
          refine y_ifeq (pt := 82) (pf := 76) xD_124 rfl rfl rfl (fun h73 => ?_) (fun h73 => ?_)
          · skip
            refine y_cj (pc' := 83) (0) xD_124 rfl rfl rfl rfl ?_
            refine m_jast (pc' := 84) (j) xD_124 rfl (by first | rfl | assumption) (by first | assumption | omega) (by first | decide | assumption) (by first | rfl | assumption) rfl ?_
            rw [stJ]
            refine y_loc (pc' := 85) xD_124 rfl rfl rfl rfl ?_
            refine y_ifne (pt := 111) (pf := 88) xD_124 rfl rfl rfl (fun h85 => ?_) (fun h85 => ?_)
            · skip
              first | exact absurd (show zB false = 0 from rfl) h85 | exact absurd h91 (by rw [show slM I s (4 * j + 0) = nI t from hkd]; exact nI_nlt (b := 4) (by omega) (by omega))
            · skip
              refine y_loc (pc' := 90) xD_124 rfl rfl rfl rfl ?_
              refine y_ci (pc' := 91) (4) xD_124 rfl rfl rfl rfl ?_
              refine y_iclt (pt := 111) (pf := 94) xD_124 rfl rfl rfl (fun h91 => ?_) (fun h91 => ?_)
              · skip
                first | exact absurd (show zB false = 0 from rfl) h85 | exact absurd h91 (by rw [show slM I s (4 * j + 0) = nI t from hkd]; exact nI_nlt (b := 4) (by omega) (by omega))
              · skip
                refine y_loc (pc' := 95) xD_124 rfl rfl rfl rfl ?_
                first | refine m_getR (pc' := 98) xD_124 rfl rfl rfl rfl (hR.1 _ _ _ rfl) rfl ?_ | refine m_getR (pc' := 98) xD_124 rfl rfl (by first | rfl | assumption) rfl (by assumption) rfl ?_
                refine y_loc (pc' := 100) xD_124 rfl rfl rfl rfl ?_
                refine y_loc (pc' := 101) xD_124 rfl rfl rfl rfl ?_
                refine y_loc (pc' := 102) xD_124 rfl rfl rfl rfl ?_
                refine y_loc (pc' := 103) xD_124 rfl rfl rfl rfl ?_
                refine y_ci (pc' := 104) (1) xD_124 rfl rfl rfl rfl ?_
                refine y_callV xD_124 rfl rfl rfl rfl (by first | rfl | assumption) rfl rfl rfl rfl (s_mpart hR hs j 1 hj6 (by decide) e1 rfl rfl) (fun v h' hq => ?_)
                obtain ⟨rfl, rfl⟩ := hq
                rw [sl]
                refine m_iast (pc' := 108) (t) xD_124 rfl (by first | rfl | assumption) (by first | assumption | omega) (by first | decide | assumption) hkd rfl ?_
                rw [xu_rowI, xrow_row, xrow_at]
                refine y_goto (pc' := 209) xD_124 rfl rfl ?_
                refine y_inc (pc' := 212) (nI (j + 1)) xD_124 rfl rfl rfl e5 rfl rfl ?_
                refine y_goto (pc' := 48) xD_124 rfl rfl ?_
                exact step _ _
          · skip
            exact absurd (show zB false = 0 from rfl) h73
end MP

