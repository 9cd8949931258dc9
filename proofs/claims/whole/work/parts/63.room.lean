/-! Room made for a step. -/
theorem xu_row_c {α : Type} {f : Nat → Nat → α} {x y i : Nat} {g : Nat → α} {v : α} (h : x ≠ y) : xu (xrow f y g) x i v = xrow (xu f x i v) y g := by
  funext b j
  unfold xu xrow
  by_cases h1 : b = y
  · rw [if_pos h1, if_neg (fun q => h (by rw [← q.1, h1])), if_pos h1]
  · rw [if_neg h1, if_neg h1]
def mkR (f : Nat → Int32) (p j q : Nat) : Int32 :=
  if j < p then f (4 * j + q) else if q < 3 then f (4 * (j - 1) + q) else if f (4 * (j - 1) + 3) < nI p then f (4 * (j - 1) + 3) else f (4 * (j - 1) + 3) + 1
section MR
variable {S : XS} {d a s : Nat} {I : Nat → Nat → Int32} {J : Nat → Nat → Int64} {R : Nat → Nat → Option Nat}
/-- Case.makeRoom -/
theorem s_makeRoom (hR : RF R) (hc : isCase a) (n p : Nat) (hn : I a 3 = nI n) (hn6 : n < 6) (hp : p ≤ n) {xp : Int32} (e1 : xp = nI p) :
    XP S (d + 1) 74 0 (xent [.ref a, .int xp] 3) [] (hh I J R) (fun v h' => v = none ∧ ∃ g, (∀ i q, i < n + 1 → i ≠ p → q < 4 → g (4 * i + q) = mkR (I (a + 1)) p i q) ∧ h' = hh (xrow (xu I a 3 (nI (n + 1))) (a + 1) g) J R) := by
  subst e1
  have ka := (kCase hc).1
  have ka1 := (kCase hc).2.1
  have ra := (hR.2 a hc).1
  have loop : ∀ (f k : Nat) (g : Nat → Int32), k + f = n + 1 → p < k → (∀ i q, i < n + 1 → i ≠ p → q < 4 → g (4 * i + q) = if i < k then mkR (I (a + 1)) p i q else I (a + 1) (4 * (i - 1) + q)) →
      XP S (d + 1) 74 41 [some (.ref a), some (.int (nI p)), some (.int (nI k))] [] (hh (xrow (xu I a 3 (nI (n + 1))) (a + 1) g) J R) (fun v h' => v = none ∧ ∃ g, (∀ i q, i < n + 1 → i ≠ p → q < 4 → g (4 * i + q) = mkR (I (a + 1)) p i q) ∧ h' = hh (xrow (xu I a 3 (nI (n + 1))) (a + 1) g) J R) := by
    intro f
    induction f with
    | zero =>
      intro k g hk hpk hg
      have hk : k = n + 1 := by omega
      subst hk
      have ea : xrow (xu I a 3 (nI (n + 1))) (a + 1) g a 3 = nI (n + 1) := by rw [xrow_ne (by omega), xu_ii]
      refine y_loc (pc' := 42) xD_74 rfl rfl rfl rfl ?_
      refine y_loc (pc' := 43) xD_74 rfl rfl rfl rfl ?_
      refine m_getI (pc' := 46) xD_74 rfl rfl rfl (by first | rfl | assumption) (ea) rfl ?_
      refine y_icge (pt := 79) (pf := 49) xD_74 rfl rfl rfl (fun h46 => ?_) (fun h46 => ?_)
      · skip
        refine y_retV xD_74 rfl rfl ?_
        exact ⟨rfl, g, fun i q hi hip hq => by rw [hg i q hi hip hq, if_pos hi], rfl⟩
      · exact absurd (Int32.le_refl _) h46
    | succ f ih =>
      intro k g hk hpk hg
      have ea : xrow (xu I a 3 (nI (n + 1))) (a + 1) g a 3 = nI (n + 1) := by rw [xrow_ne (by omega), xu_ii]
      have e5 : nI k + 1 = nI (k + 1) := nI_1 k
      have hr : g (4 * k + 3) = I (a + 1) (4 * (k - 1) + 3) := by rw [hg k 3 (by omega) (by omega) (by decide), if_neg (by omega)]
      have ix : nI k * 4 + 3 = nI (4 * k + 3) := by show nI k * nI 4 + nI 3 = _; rw [pk_mul, nI_add, Nat.mul_comm]
      have up : ∀ v : Int32, v = mkR (I (a + 1)) p k 3 → ∀ i q, i < n + 1 → i ≠ p → q < 4 → upd g (4 * k + 3) v (4 * i + q) = if i < k + 1 then mkR (I (a + 1)) p i q else I (a + 1) (4 * (i - 1) + q) := by
        intro v hv i q hi hip hq
        rw [upd4 (by decide) hq]
        by_cases h : i = k ∧ q = 3
        · rw [if_pos h, if_pos (by omega), h.1, h.2]; exact hv
        · rw [if_neg h, hg i q hi hip hq]
          by_cases h1 : i < k
          · rw [if_pos h1, if_pos (by omega)]
          · rw [if_neg h1]
            by_cases h2 : i = k
            · subst h2
              rw [if_pos (by omega)]
              unfold mkR
              rw [if_neg (by omega), if_pos (by omega)]
            · rw [if_neg (by omega)]
      have nu : g = upd g (4 * k + 3) (g (4 * k + 3)) := by
        funext i
        by_cases h : i = 4 * k + 3
        · subst h; rw [pk_us]
        · rw [pk_un h]
      have t3 : mkR (I (a + 1)) p k 3 = if I (a + 1) (4 * (k - 1) + 3) < nI p then I (a + 1) (4 * (k - 1) + 3) else I (a + 1) (4 * (k - 1) + 3) + 1 := by
        unfold mkR
        rw [if_neg (by omega), if_neg (by decide)]
      refine y_loc (pc' := 42) xD_74 rfl rfl rfl rfl ?_
      refine y_loc (pc' := 43) xD_74 rfl rfl rfl rfl ?_
      refine m_getI (pc' := 46) xD_74 rfl rfl rfl (by first | rfl | assumption) (ea) rfl ?_
      refine y_icge (pt := 79) (pf := 49) xD_74 rfl rfl rfl (fun h46 => ?_) (fun h46 => ?_)
      · exact absurd h46 (nI_ge (by omega) (by omega))
      · skip
        refine y_loc (pc' := 50) xD_74 rfl rfl rfl rfl ?_
        refine y_loc (pc' := 51) xD_74 rfl rfl rfl rfl ?_
        refine y_ci (pc' := 52) (3) xD_74 rfl rfl rfl rfl ?_
        refine y_callV xD_74 rfl rfl rfl rfl (by first | rfl | assumption) rfl rfl rfl rfl (s_part hR hc k 3 (by omega) (by decide) rfl rfl) (fun v h' hq => ?_)
        obtain ⟨rfl, rfl⟩ := hq
        rw [xrow_at, hr]
        refine y_loc (pc' := 56) xD_74 rfl rfl rfl rfl ?_
        refine y_iclt (pt := 73) (pf := 59) xD_74 rfl rfl rfl (fun h56 => ?_) (fun h56 => ?_)
        · skip
          refine y_inc (pc' := 76) (nI (k + 1)) xD_74 rfl rfl rfl e5 rfl rfl ?_
          refine y_goto (pc' := 41) xD_74 rfl rfl ?_
          first
            | exact ih (k + 1) _ (by omega) (by omega) (up _ (by rw [t3, if_neg h56]))
            | exact ih (k + 1) g (by omega) (by omega) (by rw [nu]; exact up _ (by rw [t3, if_pos h56, hr]))
          skip
        · skip
          refine y_loc (pc' := 60) xD_74 rfl rfl rfl rfl ?_
          first | refine m_getR (pc' := 63) xD_74 rfl rfl rfl rfl (hR.1 _ _ _ rfl) rfl ?_ | refine m_getR (pc' := 63) xD_74 rfl rfl (by first | rfl | assumption) rfl (by assumption) rfl ?_
          refine y_loc (pc' := 64) xD_74 rfl rfl rfl rfl ?_
          refine y_ci (pc' := 65) (4) xD_74 rfl rfl rfl rfl ?_
          refine y_op (pc' := 66) xD_74 rfl rfl rfl rfl ?_
          refine y_ci (pc' := 67) (3) xD_74 rfl rfl rfl rfl ?_
          refine y_op (pc' := 68) xD_74 rfl rfl rfl rfl ?_
          refine y_op (pc' := 69) xD_74 rfl rfl rfl rfl ?_
          refine m_iald (pc' := 70) (4 * k + 3) xD_74 rfl (by first | rfl | assumption) (by first | assumption | omega) (by first | decide | assumption) (by first | decide | omega) ix rfl ?_
          rw [xrow_at, hr]
          refine y_ci (pc' := 71) (1) xD_74 rfl rfl rfl rfl ?_
          refine y_op (pc' := 72) xD_74 rfl rfl rfl rfl ?_
          refine m_iast (pc' := 73) (4 * k + 3) xD_74 rfl (by first | rfl | assumption) (by first | assumption | omega) (by first | decide | assumption) ix rfl ?_
          rw [xu_rowI, xrow_row, xrow_at]
          refine y_inc (pc' := 76) (nI (k + 1)) xD_74 rfl rfl rfl e5 rfl rfl ?_
          refine y_goto (pc' := 41) xD_74 rfl rfl ?_
          first
            | exact ih (k + 1) _ (by omega) (by omega) (up _ (by rw [t3, if_neg h56]))
            | exact ih (k + 1) g (by omega) (by omega) (by rw [nu]; exact up _ (by rw [t3, if_pos h56, hr]))
          skip
  refine y_loc (pc' := 1) xD_74 rfl rfl rfl rfl ?_
  first | refine m_getR (pc' := 4) xD_74 rfl rfl rfl rfl (hR.1 _ _ _ rfl) rfl ?_ | refine m_getR (pc' := 4) xD_74 rfl rfl (by first | rfl | assumption) rfl (by assumption) rfl ?_
  refine y_loc (pc' := 5) xD_74 rfl rfl rfl rfl ?_
  refine y_ci (pc' := 6) (4) xD_74 rfl rfl rfl rfl ?_
  refine y_op (pc' := 7) xD_74 rfl rfl rfl rfl ?_
  refine y_loc (pc' := 8) xD_74 rfl rfl rfl rfl ?_
  first | refine m_getR (pc' := 11) xD_74 rfl rfl rfl rfl (hR.1 _ _ _ rfl) rfl ?_ | refine m_getR (pc' := 11) xD_74 rfl rfl (by first | rfl | assumption) rfl (by assumption) rfl ?_
  refine y_loc (pc' := 12) xD_74 rfl rfl rfl rfl ?_
  refine y_ci (pc' := 13) (1) xD_74 rfl rfl rfl rfl ?_
  refine y_op (pc' := 14) xD_74 rfl rfl rfl rfl ?_
  refine y_ci (pc' := 15) (4) xD_74 rfl rfl rfl rfl ?_
  refine y_op (pc' := 16) xD_74 rfl rfl rfl rfl ?_
  refine y_loc (pc' := 17) xD_74 rfl rfl rfl rfl ?_
  refine m_get (pc' := 20) xD_74 rfl rfl (by first | rfl | assumption) rfl rfl ?_
  refine y_loc (pc' := 21) xD_74 rfl rfl rfl rfl ?_
  refine y_op (pc' := 22) xD_74 rfl rfl rfl rfl ?_
  refine y_ci (pc' := 23) (4) xD_74 rfl rfl rfl rfl ?_
  refine y_op (pc' := 24) xD_74 rfl rfl rfl rfl ?_
  refine m_cpyI (pc' := 27) (4 * p) (4 * (p + 1)) (4 * (n - p)) xD_74 rfl rfl rfl rfl ka1 ka1 (by omega) (by omega) (by decide) (by decide) (by show nI p * nI 4 = _; rw [pk_mul, Nat.mul_comm]) (by show (nI p + nI 1) * nI 4 = _; rw [nI_add, pk_mul, Nat.mul_comm]) (by show (I a 3 - nI p) * nI 4 = _; rw [hn, pk_sub hp, pk_mul, Nat.mul_comm]) rfl ?_
  refine y_loc (pc' := 28) xD_74 rfl rfl rfl rfl ?_
  refine y_op (pc' := 29) xD_74 rfl rfl rfl rfl ?_
  refine m_getI (pc' := 32) xD_74 rfl rfl rfl (by first | rfl | assumption) ((show xrow I (a + 1) _ a 3 = nI n by rw [xrow_ne (by omega), hn])) rfl ?_
  refine y_ci (pc' := 33) (1) xD_74 rfl rfl rfl rfl ?_
  refine y_iadd (pc' := 34) xD_74 rfl (nI_1 n) rfl ?_
  refine m_putI (pc' := 37) xD_74 rfl rfl (by first | rfl | assumption) rfl rfl rfl ?_
  rw [xu_row_c (show a ≠ a + 1 by omega)]
  refine y_loc (pc' := 38) xD_74 rfl rfl rfl rfl ?_
  refine y_ci (pc' := 39) (1) xD_74 rfl rfl rfl rfl ?_
  refine y_iadd (pc' := 40) xD_74 rfl (nI_1 p) rfl ?_
  refine y_loc (pc' := 41) xD_74 rfl rfl rfl rfl ?_
  refine loop (n - p) (p + 1) _ (by omega) (by omega) (fun i q hi hip hq => ?_)
  by_cases h : i < p
  · rw [if_pos (by omega), pk_cpy_out (by omega)]
    unfold mkR
    rw [if_pos h]
  · rw [if_neg (by omega), pk_cpy_in (by omega) (by omega)]
    congr 1
    omega
/-- the model's makeRoom -/
theorem s_mmakeRoom (hR : RF R) (hs : s < 67) (n p : Nat) (hn : I 263 s = nI n) (hn6 : n < 6) (hp : p ≤ n) (hV : ∀ j, j < n → VT (slM I s) j) {xs xp : Int32} (e0 : xs = nI s) (e1 : xp = nI p) :
    XP S (d + 1) 144 0 (xent [.ref 261, .int xs, .int xp] 6) [] (hh I J R) (fun v h' => v = none ∧ ∃ g, (∀ i q, i < n + 1 → i ≠ p → q < 4 → g (4 * i + q) = mkR (slM I s) p i q) ∧ h' = hh (xu (xrow I 262 (sl1 (I 262) s g)) 263 s (nI (n + 1))) J R) := by
  subst e1
  have hdc : ∀ p, p < 7 → nI p - 1 < nI p := by decide
  have loop : ∀ (f k : Nat) (g : Nat → Int32) (xj : Int32) (q4 q5 : Option Value), k = p + f → k ≤ n → xj = nI k - 1 → (∀ i q, i < n + 1 → q < 4 → (k < i → g (4 * i + q) = mkR (slM I s) p i q) ∧ (i < k → g (4 * i + q) = slM I s (4 * i + q))) →
      XP S (d + 1) 144 9 [some (.ref 261), some (.int xs), some (.int (nI p)), some (.int xj), q4, q5] [] (hh (xrow I 262 (sl1 (I 262) s g)) J R) (fun v h' => v = none ∧ ∃ g, (∀ i q, i < n + 1 → i ≠ p → q < 4 → g (4 * i + q) = mkR (slM I s) p i q) ∧ h' = hh (xu (xrow I 262 (sl1 (I 262) s g)) 263 s (nI (n + 1))) J R) := by
    intro f
    induction f with
    | zero =>
      intro k g xj q4 q5 hk hkn hj hg
      have hk : k = p := by omega
      subst hk
      have ea : xrow I 262 (sl1 (I 262) s g) 263 s = nI n := by rw [xrow_ne (by decide), hn]
      refine y_loc (pc' := 10) xD_144 rfl rfl rfl rfl ?_
      refine y_loc (pc' := 11) xD_144 rfl rfl rfl rfl ?_
      refine y_iclt (pt := 85) (pf := 14) xD_144 rfl rfl rfl (fun h11 => ?_) (fun h11 => ?_)
      · skip
        refine y_loc (pc' := 86) xD_144 rfl rfl rfl rfl ?_
        first | refine m_getR (pc' := 89) xD_144 rfl rfl rfl rfl (hR.1 _ _ _ rfl) rfl ?_ | refine m_getR (pc' := 89) xD_144 rfl rfl (by first | rfl | assumption) rfl (by assumption) rfl ?_
        refine y_loc (pc' := 90) xD_144 rfl rfl rfl rfl ?_
        refine y_op (pc' := 91) xD_144 rfl rfl rfl rfl ?_
        refine m_iald (pc' := 92) (s) xD_144 rfl (by first | rfl | assumption) (by first | assumption | omega) (by first | decide | assumption) (by first | decide | omega) (by first | rfl | assumption) rfl ?_
        rw [ea]
        refine y_ci (pc' := 93) (1) xD_144 rfl rfl rfl rfl ?_
        refine y_iadd (pc' := 94) xD_144 rfl (nI_1 n) rfl ?_
        refine m_iast (pc' := 95) (s) xD_144 rfl (by first | rfl | assumption) (by first | assumption | omega) (by first | decide | assumption) (by first | rfl | assumption) rfl ?_
        refine y_retV xD_144 rfl rfl ?_
        refine ⟨rfl, g, fun i q hi hip hq => ?_, rfl⟩
        by_cases h : i < k
        · rw [(hg i q hi hq).2 h]
          unfold mkR
          rw [if_pos h]
        · exact (hg i q hi hq).1 (by omega)
      · exact absurd (by rw [hj]; exact hdc k (by omega)) h11
    | succ f ih =>
      intro k g xj q4 q5 hk hkn hj hg
      obtain ⟨m, rfl⟩ : ∃ m, k = m + 1 := ⟨p + f, by omega⟩
      have hj : xj = nI m := by rw [hj]; exact pk_sub (a := m + 1) (b := 1) (by omega)
      subst hj
      have m6 : m < 6 := by omega
      have e6 : nI m + (-1) = nI m - 1 := by rw [Int32.sub_eq_add_neg]
      have r3 := (hg m 3 (by omega) (by decide)).2 (by omega)
      have r2 := (hg m 2 (by omega) (by decide)).2 (by omega)
      have r1 := (hg m 1 (by omega) (by decide)).2 (by omega)
      have r0 := (hg m 0 (by omega) (by decide)).2 (by omega)
      have hy : ∀ z : Int32, (z = slM I s (4 * m + 3) ∨ z = slM I s (4 * m + 3) + 1 ∧ ¬ slM I s (4 * m + 3) < nI p) → (if z < 0 then slM I s (4 * m + 2) else 0) = slM I s (4 * m + 2) := fun z hz => by
        rcases (hV m (by omega)).2 with e | ⟨r, _, _, e⟩
        · rcases hz with hz | ⟨_, hz⟩
          · rw [hz, e, if_pos (by decide)]
          · rw [e] at hz
            have h0 := Int32.not_lt.mp hz
            exact absurd (Int32.lt_of_le_of_lt h0 (by decide)) (nI_pos (by omega))
        · rw [e, ite_self]
      have fin : ∀ (r : Int32), r = mkR (slM I s) p (m + 1) 3 → (if r < 0 then g (4 * m + 2) else 0) = slM I s (4 * m + 2) → ∀ i q, i < n + 1 → q < 4 → (m < i → w2 (w4 g (4 * (m + 1)) (g (4 * m + 0)) (g (4 * m + 1)) 0 (-1)) (4 * (m + 1)) (if r < 0 then g (4 * m + 2) else 0) r (4 * i + q) = mkR (slM I s) p i q) ∧ (i < m → w2 (w4 g (4 * (m + 1)) (g (4 * m + 0)) (g (4 * m + 1)) 0 (-1)) (4 * (m + 1)) (if r < 0 then g (4 * m + 2) else 0) r (4 * i + q) = slM I s (4 * i + q)) := by
        intro r h3 h2 i q hi hq
        rw [w2_w4, w4_pt hq, r0, r1, h2]
        refine ⟨fun h => ?_, fun h => ?_⟩
        · by_cases hik : i = m + 1
          · rw [if_pos hik, hik]
            by_cases q0 : q = 0
            · rw [if_pos q0, q0]; unfold mkR; rw [if_neg (by omega), if_pos (by decide)]; rfl
            · by_cases q1 : q = 1
              · rw [if_neg q0, if_pos q1, q1]; unfold mkR; rw [if_neg (by omega), if_pos (by decide)]; rfl
              · by_cases q2 : q = 2
                · rw [if_neg q0, if_neg q1, if_pos q2, q2]; unfold mkR; rw [if_neg (by omega), if_pos (by decide)]; rfl
                · rw [if_neg q0, if_neg q1, if_neg q2, show q = 3 by omega]; exact h3
          · rw [if_neg hik]; exact (hg i q hi hq).1 (by omega)
        · rw [if_neg (by omega)]; exact (hg i q hi hq).2 (by omega)
      have t3 : mkR (slM I s) p (m + 1) 3 = if slM I s (4 * m + 3) < nI p then slM I s (4 * m + 3) else slM I s (4 * m + 3) + 1 := by
        unfold mkR
        rw [if_neg (by omega), if_neg (by decide)]
        rfl
      refine y_loc (pc' := 10) xD_144 rfl rfl rfl rfl ?_
      refine y_loc (pc' := 11) xD_144 rfl rfl rfl rfl ?_
      refine y_iclt (pt := 85) (pf := 14) xD_144 rfl rfl rfl (fun h11 => ?_) (fun h11 => ?_)
      · exact absurd h11 (Int32.not_lt.mpr ((nI_leI (by omega) (by omega)).mpr (by omega)))
      · skip
        refine y_loc (pc' := 15) xD_144 rfl rfl rfl rfl ?_
        refine y_loc (pc' := 16) xD_144 rfl rfl rfl rfl ?_
        refine y_loc (pc' := 17) xD_144 rfl rfl rfl rfl ?_
        refine y_ci (pc' := 18) (3) xD_144 rfl rfl rfl rfl ?_
        refine y_callV xD_144 rfl rfl rfl rfl (by first | rfl | assumption) rfl rfl rfl rfl (s_spart hR hs g m 3 m6 (by decide) e0 rfl rfl) (fun v h' hq => ?_)
        obtain ⟨rfl, rfl⟩ := hq
        refine y_loc (pc' := 23) xD_144 rfl rfl rfl rfl ?_
        refine y_loc (pc' := 24) xD_144 rfl rfl rfl rfl ?_
        refine y_loc (pc' := 25) xD_144 rfl rfl rfl rfl ?_
        refine y_loc (pc' := 26) xD_144 rfl rfl rfl rfl ?_
        refine y_ci (pc' := 27) (2) xD_144 rfl rfl rfl rfl ?_
        refine y_callV xD_144 rfl rfl rfl rfl (by first | rfl | assumption) rfl rfl rfl rfl (s_spart hR hs g m 2 m6 (by decide) e0 rfl rfl) (fun v h' hq => ?_)
        obtain ⟨rfl, rfl⟩ := hq
        refine y_loc (pc' := 32) xD_144 rfl rfl rfl rfl ?_
        refine y_loc (pc' := 33) xD_144 rfl rfl rfl rfl ?_
        refine y_loc (pc' := 34) xD_144 rfl rfl rfl rfl ?_
        refine y_loc (pc' := 35) xD_144 rfl rfl rfl rfl ?_
        refine y_ci (pc' := 36) (1) xD_144 rfl rfl rfl rfl ?_
        refine y_iadd (pc' := 37) xD_144 rfl (nI_1 m) rfl ?_
        refine y_loc (pc' := 38) xD_144 rfl rfl rfl rfl ?_
        refine y_loc (pc' := 39) xD_144 rfl rfl rfl rfl ?_
        refine y_loc (pc' := 40) xD_144 rfl rfl rfl rfl ?_
        refine y_ci (pc' := 41) (0) xD_144 rfl rfl rfl rfl ?_
        refine y_callV xD_144 rfl rfl rfl rfl (by first | rfl | assumption) rfl rfl rfl rfl (s_spart hR hs g m 0 m6 (by decide) e0 rfl rfl) (fun v h' hq => ?_)
        obtain ⟨rfl, rfl⟩ := hq
        refine y_loc (pc' := 45) xD_144 rfl rfl rfl rfl ?_
        refine y_loc (pc' := 46) xD_144 rfl rfl rfl rfl ?_
        refine y_loc (pc' := 47) xD_144 rfl rfl rfl rfl ?_
        refine y_ci (pc' := 48) (1) xD_144 rfl rfl rfl rfl ?_
        refine y_callV xD_144 rfl rfl rfl rfl (by first | rfl | assumption) rfl rfl rfl rfl (s_spart hR hs g m 1 m6 (by decide) e0 rfl rfl) (fun v h' hq => ?_)
        obtain ⟨rfl, rfl⟩ := hq
        skip
        refine y_callV xD_144 rfl rfl rfl rfl (by first | rfl | assumption) rfl rfl rfl rfl (s_swrite hR hs g (m + 1) (by omega) e0 rfl) (fun v h' hq => ?_)
        obtain ⟨rfl, rfl⟩ := hq
        refine y_loc (pc' := 55) xD_144 rfl rfl rfl rfl ?_
        refine y_loc (pc' := 56) xD_144 rfl rfl rfl rfl ?_
        refine y_loc (pc' := 57) xD_144 rfl rfl rfl rfl ?_
        refine y_ci (pc' := 58) (1) xD_144 rfl rfl rfl rfl ?_
        refine y_iadd (pc' := 59) xD_144 rfl (nI_1 m) rfl ?_
        refine y_loc (pc' := 61) xD_144 rfl rfl rfl rfl ?_
        refine y_loc (pc' := 63) xD_144 rfl rfl rfl rfl ?_
        refine y_loc (pc' := 64) xD_144 rfl rfl rfl rfl ?_
        refine y_iclt (pt := 74) (pf := 67) xD_144 rfl rfl rfl (fun h64 => ?_) (fun h64 => ?_)
        · skip
          refine y_loc (pc' := 76) xD_144 rfl rfl rfl rfl ?_
          refine y_callV xD_144 rfl rfl rfl rfl (by first | rfl | assumption) rfl rfl rfl rfl (s_ssecond hR hs _ (m + 1) (by omega) e0 rfl) (fun v h' hq => ?_)
          obtain ⟨rfl, rfl⟩ := hq
          refine y_inc (pc' := 82) (nI m - 1) xD_144 rfl rfl rfl e6 rfl rfl ?_
          refine y_goto (pc' := 9) xD_144 rfl rfl ?_
          rw [r3] at h64
          first
            | exact ih m _ _ _ _ (by omega) (by omega) rfl (fin _ (by rw [t3, if_neg h64, r3]) (by rw [r2, r3]; exact hy _ (Or.inr ⟨rfl, h64⟩)))
            | exact ih m _ _ _ _ (by omega) (by omega) rfl (fin _ (by rw [t3, if_pos h64, r3]) (by rw [r2, r3]; exact hy _ (Or.inl rfl)))
          skip
        · skip
          refine y_loc (pc' := 69) xD_144 rfl rfl rfl rfl ?_
          refine y_ci (pc' := 70) (1) xD_144 rfl rfl rfl rfl ?_
          refine y_op (pc' := 71) xD_144 rfl rfl rfl rfl ?_
          refine y_goto (pc' := 76) xD_144 rfl rfl ?_
          refine y_callV xD_144 rfl rfl rfl rfl (by first | rfl | assumption) rfl rfl rfl rfl (s_ssecond hR hs _ (m + 1) (by omega) e0 rfl) (fun v h' hq => ?_)
          obtain ⟨rfl, rfl⟩ := hq
          refine y_inc (pc' := 82) (nI m - 1) xD_144 rfl rfl rfl e6 rfl rfl ?_
          refine y_goto (pc' := 9) xD_144 rfl rfl ?_
          rw [r3] at h64
          first
            | exact ih m _ _ _ _ (by omega) (by omega) rfl (fin _ (by rw [t3, if_neg h64, r3]) (by rw [r2, r3]; exact hy _ (Or.inr ⟨rfl, h64⟩)))
            | exact ih m _ _ _ _ (by omega) (by omega) rfl (fin _ (by rw [t3, if_pos h64, r3]) (by rw [r2, r3]; exact hy _ (Or.inl rfl)))
          skip
  refine y_loc (pc' := 1) xD_144 rfl rfl rfl rfl ?_
  first | refine m_getR (pc' := 4) xD_144 rfl rfl rfl rfl (hR.1 _ _ _ rfl) rfl ?_ | refine m_getR (pc' := 4) xD_144 rfl rfl (by first | rfl | assumption) rfl (by assumption) rfl ?_
  refine y_loc (pc' := 5) xD_144 rfl rfl rfl rfl ?_
  refine m_iald (pc' := 6) (s) xD_144 rfl (by first | rfl | assumption) (by first | assumption | omega) (by first | decide | assumption) (by first | decide | omega) (by first | rfl | assumption) rfl ?_
  rw [hn]
  refine y_ci (pc' := 7) (1) xD_144 rfl rfl rfl rfl ?_
  refine y_op (pc' := 8) xD_144 rfl rfl rfl rfl ?_
  refine y_loc (pc' := 9) xD_144 rfl rfl rfl rfl ?_
  have e : xrow I 262 (sl1 (I 262) s (slM I s)) = I := by
    refine Eq.trans ?_ (xrow_id (f := I) (a := 262))
    congr 1
    funext i
    unfold sl1 slM
    by_cases h : i / 24 = s
    · rw [if_pos h]; congr 1; omega
    · rw [if_neg h]
  have key := loop (n - p) n (slM I s) (nI n - 1) none none (by omega) (Nat.le_refl _) rfl (fun i q hi hq => ⟨fun h => by omega, fun _ => rfl⟩)
  rw [e] at key
  exact key
end MR

