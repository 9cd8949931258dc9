/-! Two cases joined. -/
def jnO (f e : Nat → Int32) (s t j q : Nat) : Int32 :=
  if j < s then f (4 * j + q) else if q < 2 then e (4 * (j - s + t) + q) else if q = 2 then e (4 * (j - s + t) + 2) else if e (4 * (j - s + t) + 3) < nI t then -1 else e (4 * (j - s + t) + 3) - nI t + nI s
section JN
variable {S : XS} {d a b o : Nat} {I : Nat → Nat → Int32} {J : Nat → Nat → Int64} {R : Nat → Nat → Option Nat}
/-- Case.join -/
theorem s_join (hR : RF R) (ha : isCase a) (hb : isCase b) (ho : isCase o) (hab : a ≠ b) (hao : a ≠ o) (n s t : Nat) (hs : s < 6) (ht : t < n) (hn : I o 3 = nI n) (hn6 : n ≤ 6) {xs xt : Int32} (e0 : xs = nI s) (e1 : xt = nI t) {k : Nat} (hk : k = if s + n - t ≤ 6 then s + n - t else 6) :
    XP S (d + 1) 72 0 (xent [.ref a, .ref b, .int xs, .ref o, .int xt] 7) [] (hh I J R) (fun v h' => v = none ∧ ∃ g, (∀ i q, i < k → q < 4 → g (4 * i + q) = jnO (I (b + 1)) (I (o + 1)) s t i q) ∧ h' = hh (xrow (xu I a 3 (nI k)) (a + 1) g) J R) := by
  subst e0; subst e1
  have ka := (kCase ha).1
  have ka1 := (kCase ha).2.1
  have ra := (hR.2 a ha).1
  have kb := (kCase hb).1
  have kb1 := (kCase hb).2.1
  have rb := (hR.2 b hb).1
  have ko := (kCase ho).1
  have ko1 := (kCase ho).2.1
  have ro := (hR.2 o ho).1
  have hk6 : k ≤ 6 ∧ s ≤ k ∧ k + t ≤ s + n := by rw [hk]; split <;> omega
  have cab := case_1 ha hb
  have cao := case_1 ha ho
  have loop : ∀ (f j : Nat) (g : Nat → Int32) (q6 : Option Value), j + f = k → s ≤ j → (∀ i q, i < k → q < 4 → g (4 * i + q) = if i < j then jnO (I (b + 1)) (I (o + 1)) s t i q else I (o + 1) (4 * (i - s + t) + q)) →
      XP S (d + 1) 72 63 [some (.ref a), some (.ref b), some (.int (nI s)), some (.ref o), some (.int (nI t)), some (.int (nI j)), q6] [] (hh (xrow (xu I a 3 (nI k)) (a + 1) g) J R) (fun v h' => v = none ∧ ∃ g, (∀ i q, i < k → q < 4 → g (4 * i + q) = jnO (I (b + 1)) (I (o + 1)) s t i q) ∧ h' = hh (xrow (xu I a 3 (nI k)) (a + 1) g) J R) := by
    intro f
    induction f with
    | zero =>
      intro j g q6 hj hsj hg
      have hj : j = k := by omega
      subst hj
      have ea : xrow (xu I a 3 (nI j)) (a + 1) g a 3 = nI j := by rw [xrow_ne (by omega), xu_ii]
      refine y_loc (pc' := 65) xD_72 rfl rfl rfl rfl ?_
      refine y_loc (pc' := 66) xD_72 rfl rfl rfl rfl ?_
      refine m_getI (pc' := 69) xD_72 rfl rfl rfl (by first | rfl | assumption) (ea) rfl ?_
      refine y_icge (pt := 116) (pf := 72) xD_72 rfl rfl rfl (fun h69 => ?_) (fun h69 => ?_)
      · skip
        refine y_retV xD_72 rfl rfl ?_
        exact ⟨rfl, g, fun i q hi hq => by rw [hg i q hi hq, if_pos hi], rfl⟩
      · exact absurd (Int32.le_refl _) h69
    | succ f ih =>
      intro j g q6 hj hsj hg
      have ea : xrow (xu I a 3 (nI k)) (a + 1) g a 3 = nI k := by rw [xrow_ne (by omega), xu_ii]
      have e5 : nI j + 1 = nI (j + 1) := nI_1 j
      have hr : g (4 * j + 3) = I (o + 1) (4 * (j - s + t) + 3) := by rw [hg j 3 (by omega) (by decide), if_neg (by omega)]
      have ix : nI j * 4 + 3 = nI (4 * j + 3) := by show nI j * nI 4 + nI 3 = _; rw [pk_mul, nI_add, Nat.mul_comm]
      have up : ∀ v : Int32, v = jnO (I (b + 1)) (I (o + 1)) s t j 3 → ∀ i q, i < k → q < 4 → upd g (4 * j + 3) v (4 * i + q) = if i < j + 1 then jnO (I (b + 1)) (I (o + 1)) s t i q else I (o + 1) (4 * (i - s + t) + q) := by
        intro v hv i q hi hq
        rw [upd4 (by decide) hq]
        by_cases h : i = j ∧ q = 3
        · rw [if_pos h, if_pos (by omega), h.1, h.2]; exact hv
        · rw [if_neg h, hg i q hi hq]
          by_cases h1 : i < j
          · rw [if_pos h1, if_pos (by omega)]
          · rw [if_neg h1]
            by_cases h2 : i = j
            · subst h2
              rw [if_pos (by omega)]
              unfold jnO
              rw [if_neg (by omega)]
              by_cases h3 : q < 2
              · rw [if_pos h3]
              · rw [if_neg h3, if_pos (by omega), show q = 2 by omega]
            · rw [if_neg (by omega)]
      have t3 : jnO (I (b + 1)) (I (o + 1)) s t j 3 = if I (o + 1) (4 * (j - s + t) + 3) < nI t then -1 else I (o + 1) (4 * (j - s + t) + 3) - nI t + nI s := by
        unfold jnO
        rw [if_neg (by omega), if_neg (by decide), if_neg (by decide)]
      refine y_loc (pc' := 65) xD_72 rfl rfl rfl rfl ?_
      refine y_loc (pc' := 66) xD_72 rfl rfl rfl rfl ?_
      refine m_getI (pc' := 69) xD_72 rfl rfl rfl (by first | rfl | assumption) (ea) rfl ?_
      refine y_icge (pt := 116) (pf := 72) xD_72 rfl rfl rfl (fun h69 => ?_) (fun h69 => ?_)
      · exact absurd h69 (nI_ge (by omega) (by omega))
      · skip
        refine y_loc (pc' := 73) xD_72 rfl rfl rfl rfl ?_
        refine y_loc (pc' := 75) xD_72 rfl rfl rfl rfl ?_
        refine y_ci (pc' := 76) (3) xD_72 rfl rfl rfl rfl ?_
        refine y_callV xD_72 rfl rfl rfl rfl (by first | rfl | assumption) rfl rfl rfl rfl (s_part hR ha j 3 (by omega) (by decide) rfl rfl) (fun v h' hq => ?_)
        obtain ⟨rfl, rfl⟩ := hq
        rw [xrow_at, hr]
        refine y_loc (pc' := 81) xD_72 rfl rfl rfl rfl ?_
        refine y_loc (pc' := 82) xD_72 rfl rfl rfl rfl ?_
        first | refine m_getR (pc' := 85) xD_72 rfl rfl rfl rfl (hR.1 _ _ _ rfl) rfl ?_ | refine m_getR (pc' := 85) xD_72 rfl rfl (by first | rfl | assumption) rfl (by assumption) rfl ?_
        refine y_loc (pc' := 87) xD_72 rfl rfl rfl rfl ?_
        refine y_ci (pc' := 88) (4) xD_72 rfl rfl rfl rfl ?_
        refine y_op (pc' := 89) xD_72 rfl rfl rfl rfl ?_
        refine y_ci (pc' := 90) (3) xD_72 rfl rfl rfl rfl ?_
        refine y_op (pc' := 91) xD_72 rfl rfl rfl rfl ?_
        refine y_loc (pc' := 93) xD_72 rfl rfl rfl rfl ?_
        refine y_loc (pc' := 95) xD_72 rfl rfl rfl rfl ?_
        refine y_icge (pt := 102) (pf := 98) xD_72 rfl rfl rfl (fun h95 => ?_) (fun h95 => ?_)
        · skip
          refine y_loc (pc' := 104) xD_72 rfl rfl rfl rfl ?_
          refine y_loc (pc' := 106) xD_72 rfl rfl rfl rfl ?_
          refine y_op (pc' := 107) xD_72 rfl rfl rfl rfl ?_
          refine y_loc (pc' := 108) xD_72 rfl rfl rfl rfl ?_
          refine y_op (pc' := 109) xD_72 rfl rfl rfl rfl ?_
          refine m_iast (pc' := 110) (4 * j + 3) xD_72 rfl (by first | rfl | assumption) (by first | assumption | omega) (by first | decide | assumption) ix rfl ?_
          rw [xu_rowI, xrow_row, xrow_at]
          refine y_inc (pc' := 113) (nI (j + 1)) xD_72 rfl rfl rfl e5 rfl rfl ?_
          refine y_goto (pc' := 63) xD_72 rfl rfl ?_
          first
            | exact ih (j + 1) _ _ (by omega) (by omega) (up _ (by rw [t3, if_neg (Int32.not_lt.mpr h95)]))
            | exact ih (j + 1) _ _ (by omega) (by omega) (up _ (by rw [t3, if_pos (Int32.not_le.mp h95)]))
          skip
        · skip
          refine y_ci (pc' := 99) (-1) xD_72 rfl rfl rfl rfl ?_
          refine y_goto (pc' := 109) xD_72 rfl rfl ?_
          refine m_iast (pc' := 110) (4 * j + 3) xD_72 rfl (by first | rfl | assumption) (by first | assumption | omega) (by first | decide | assumption) ix rfl ?_
          rw [xu_rowI, xrow_row, xrow_at]
          refine y_inc (pc' := 113) (nI (j + 1)) xD_72 rfl rfl rfl e5 rfl rfl ?_
          refine y_goto (pc' := 63) xD_72 rfl rfl ?_
          first
            | exact ih (j + 1) _ _ (by omega) (by omega) (up _ (by rw [t3, if_neg (Int32.not_lt.mpr h95)]))
            | exact ih (j + 1) _ _ (by omega) (by omega) (up _ (by rw [t3, if_pos (Int32.not_le.mp h95)]))
          skip
  have en : (if nI (s + n - t) ≤ nI 6 then nI (s + n - t) else nI 6) = nI k := by
    rw [hk]
    by_cases h : s + n - t ≤ 6
    · rw [if_pos h, if_pos ((nI_leI (by omega) (by omega)).mpr h)]
    · rw [if_neg h, if_neg (fun q => h ((nI_leI (by omega) (by omega)).mp q))]
  refine y_loc (pc' := 1) xD_72 rfl rfl rfl rfl ?_
  first | refine m_getR (pc' := 4) xD_72 rfl rfl rfl rfl (hR.1 _ _ _ rfl) rfl ?_ | refine m_getR (pc' := 4) xD_72 rfl rfl (by first | rfl | assumption) rfl (by assumption) rfl ?_
  refine y_ci (pc' := 5) (0) xD_72 rfl rfl rfl rfl ?_
  refine y_loc (pc' := 6) xD_72 rfl rfl rfl rfl ?_
  first | refine m_getR (pc' := 9) xD_72 rfl rfl rfl rfl (hR.1 _ _ _ rfl) rfl ?_ | refine m_getR (pc' := 9) xD_72 rfl rfl (by first | rfl | assumption) rfl (by assumption) rfl ?_
  refine y_ci (pc' := 10) (0) xD_72 rfl rfl rfl rfl ?_
  refine y_loc (pc' := 11) xD_72 rfl rfl rfl rfl ?_
  refine y_ci (pc' := 12) (4) xD_72 rfl rfl rfl rfl ?_
  refine y_op (pc' := 13) xD_72 rfl rfl rfl rfl ?_
  refine m_cpyI (pc' := 16) 0 0 (4 * s) xD_72 rfl rfl rfl rfl kb1 ka1 (by omega) (by omega) (by decide) (by decide) rfl rfl (by show nI s * nI 4 = _; rw [pk_mul, Nat.mul_comm]) rfl ?_
  refine y_loc (pc' := 17) xD_72 rfl rfl rfl rfl ?_
  refine y_loc (pc' := 18) xD_72 rfl rfl rfl rfl ?_
  refine y_loc (pc' := 19) xD_72 rfl rfl rfl rfl ?_
  refine m_getI (pc' := 22) xD_72 rfl rfl rfl (by first | rfl | assumption) ((show xrow I (a + 1) _ o 3 = nI n by rw [xrow_ne cao.1, hn])) rfl ?_
  refine y_iadd (pc' := 23) xD_72 rfl (nI_add s n) rfl ?_
  refine y_loc (pc' := 25) xD_72 rfl rfl rfl rfl ?_
  refine y_isub (pc' := 26) xD_72 rfl ((pk_sub (a := s + n) (b := t) (by omega))) rfl ?_
  refine y_ci (pc' := 28) (6) xD_72 rfl rfl rfl rfl ?_
  refine y_callS xD_72 rfl rfl rfl rfl rfl rfl rfl rfl (s_min) (fun v h' hq => ?_)
  obtain ⟨rfl, rfl⟩ := hq
  rw [show (6 : Int32) = nI 6 from rfl, en]
  refine m_putI (pc' := 34) xD_72 rfl rfl (by first | rfl | assumption) rfl rfl rfl ?_
  rw [xu_row_c (show a ≠ a + 1 by omega)]
  refine y_loc (pc' := 35) xD_72 rfl rfl rfl rfl ?_
  first | refine m_getR (pc' := 38) xD_72 rfl rfl rfl rfl (hR.1 _ _ _ rfl) rfl ?_ | refine m_getR (pc' := 38) xD_72 rfl rfl (by first | rfl | assumption) rfl (by assumption) rfl ?_
  refine y_loc (pc' := 40) xD_72 rfl rfl rfl rfl ?_
  refine y_ci (pc' := 41) (4) xD_72 rfl rfl rfl rfl ?_
  refine y_op (pc' := 42) xD_72 rfl rfl rfl rfl ?_
  refine y_loc (pc' := 43) xD_72 rfl rfl rfl rfl ?_
  first | refine m_getR (pc' := 46) xD_72 rfl rfl rfl rfl (hR.1 _ _ _ rfl) rfl ?_ | refine m_getR (pc' := 46) xD_72 rfl rfl (by first | rfl | assumption) rfl (by assumption) rfl ?_
  refine y_loc (pc' := 47) xD_72 rfl rfl rfl rfl ?_
  refine y_ci (pc' := 48) (4) xD_72 rfl rfl rfl rfl ?_
  refine y_op (pc' := 49) xD_72 rfl rfl rfl rfl ?_
  refine y_loc (pc' := 50) xD_72 rfl rfl rfl rfl ?_
  refine m_getI (pc' := 53) xD_72 rfl rfl rfl (by first | rfl | assumption) ((show xrow (xu I a 3 (nI k)) (a + 1) _ a 3 = nI k by rw [xrow_ne (by omega), xu_ii])) rfl ?_
  refine y_loc (pc' := 54) xD_72 rfl rfl rfl rfl ?_
  refine y_op (pc' := 55) xD_72 rfl rfl rfl rfl ?_
  refine y_ci (pc' := 56) (4) xD_72 rfl rfl rfl rfl ?_
  refine y_op (pc' := 57) xD_72 rfl rfl rfl rfl ?_
  refine m_cpyI (pc' := 60) (4 * t) (4 * s) (4 * (k - s)) xD_72 rfl rfl rfl rfl ko1 ka1 (by omega) (by omega) (by decide) (by decide) (by show nI t * nI 4 = _; rw [pk_mul, Nat.mul_comm]) (by show nI s * nI 4 = _; rw [pk_mul, Nat.mul_comm]) (by show (nI k - nI s) * nI 4 = _; rw [pk_sub hk6.2.1, pk_mul, Nat.mul_comm]) rfl ?_
  rw [xrow_row]
  refine y_loc (pc' := 61) xD_72 rfl rfl rfl rfl ?_
  refine y_loc (pc' := 63) xD_72 rfl rfl rfl rfl ?_
  have coa := (case_1 ho ha).1
  have eo : xu I a 3 (nI k) (o + 1) = I (o + 1) := by funext y; unfold xu; rw [if_neg (by omega)]
  rw [xrow_at, xrow_ne (show o + 1 ≠ a + 1 by omega), eo]
  refine loop (k - s) s _ _ (by omega) (Nat.le_refl _) (fun i q hi hq => ?_)
  by_cases h : i < s
  · rw [if_pos h, pk_cpy_out (by omega), cpy_lt (by omega)]
    unfold jnO
    rw [if_pos h]
  · rw [if_neg h, pk_cpy_in (by omega) (by omega)]
    congr 1
    omega
end JN

