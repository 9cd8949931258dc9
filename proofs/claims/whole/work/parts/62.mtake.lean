/-! A step taken out of a slot. -/
section MT
variable {S : XS} {d s : Nat} {I : Nat → Nat → Int32} {J : Nat → Nat → Int64} {R : Nat → Nat → Option Nat}
theorem sl1_pt {I : Nat → Nat → Int32} {g : Nat → Int32} {s : Nat} : slM (xrow I 262 (sl1 (I 262) s g)) s = fun q => sl1 (I 262) s g (24 * s + q) := by
  unfold slM; rw [xrow_at]
/-- write, on a slot's row -/
theorem s_swrite (hR : RF R) (hs : s < 67) (g : Nat → Int32) (j : Nat) (hj : j < 6) {xs xj k x : Int32} (e0 : xs = nI s) (e1 : xj = nI j) : XP S d 105 0 (xent [.ref 261, .int xs, .int xj, .int k, .int x] 6) [] (hh (xrow I 262 (sl1 (I 262) s g)) J R) (rV (hh (xrow I 262 (sl1 (I 262) s (w4 g (4 * j) k x 0 (-1)))) J R)) := by
  have := s_mwrite (S := S) (d := d) (I := xrow I 262 (sl1 (I 262) s g)) (J := J) hR hs j hj (k := k) (x := x) e0 e1
  have e : sl1 (I 262) s (w4 (fun q => sl1 (I 262) s g (24 * s + q)) (4 * j) k x 0 (-1)) = sl1 (I 262) s (w4 g (4 * j) k x 0 (-1)) := sl1_ext (fun q hq => by
    have hm : q % 4 < 4 := by omega
    rw [show q = 4 * (q / 4) + q % 4 by omega, w4_pt hm, w4_pt hm, sl1_at (by omega)])
  rw [xrow_row, xrow_at, w4_sl1 hj, sl1_sl1, e] at this
  exact this
theorem s_ssecond (hR : RF R) (hs : s < 67) (g : Nat → Int32) (j : Nat) (hj : j < 6) {xs xj y r : Int32} (e0 : xs = nI s) (e1 : xj = nI j) : XP S d 106 0 (xent [.ref 261, .int xs, .int xj, .int y, .int r] 5) [] (hh (xrow I 262 (sl1 (I 262) s g)) J R) (rV (hh (xrow I 262 (sl1 (I 262) s (w2 g (4 * j) (if r < 0 then y else 0) r))) J R)) := by
  have := s_msecond (S := S) (d := d) (I := xrow I 262 (sl1 (I 262) s g)) (J := J) hR hs j hj (y := y) (r := r) e0 e1
  have e : sl1 (I 262) s (w2 (fun q => sl1 (I 262) s g (24 * s + q)) (4 * j) (if r < 0 then y else 0) r) = sl1 (I 262) s (w2 g (4 * j) (if r < 0 then y else 0) r) := sl1_ext (fun q hq => by
    have hm : q % 4 < 4 := by omega
    unfold w2
    rw [show q = 4 * (q / 4) + q % 4 by omega, upd4 (p := 3) (by decide) hm, upd4 (p := 2) (by decide) hm, upd4 (p := 3) (by decide) hm, upd4 (p := 2) (by decide) hm, sl1_at (by omega)])
  rw [xrow_row, xrow_at, w2_sl1 hj, sl1_sl1, e] at this
  exact this
theorem s_spart (hR : RF R) (hs : s < 67) (g : Nat → Int32) (j q : Nat) (hj : j < 6) (hq : q < 4) {xs xj xq : Int32} (e1 : xs = nI s) (e2 : xj = nI j) (e3 : xq = nI q) : XP S d 125 0 (xent [.ref 261, .int xs, .int xj, .int xq] 4) [] (hh (xrow I 262 (sl1 (I 262) s g)) J R) (rI (g (4 * j + q)) (hh (xrow I 262 (sl1 (I 262) s g)) J R)) := by
  have := s_mpart (S := S) (d := d) (I := xrow I 262 (sl1 (I 262) s g)) (J := J) hR hs j q hj hq e1 e2 e3
  rw [slM_row (by omega)] at this
  exact this
/-- the model's takeOut -/
theorem s_mtakeOut (hR : RF R) (hs : s < 67) (n p : Nat) (hn : I 263 s = nI (n + 1)) (hn6 : n + 1 ≤ 6) (hp : p ≤ n) (hV : ∀ j, j < n + 1 → VT (slM I s) j) {xs xp : Int32} (e0 : xs = nI s) (e1 : xp = nI p) :
    XP S (d + 1) 145 0 (xent [.ref 261, .int xs, .int xp] 6) [] (hh I J R) (fun v h' => v = none ∧ ∃ g, (∀ i q, i < n → q < 4 → g (4 * i + q) = tkO (slM I s) p i q) ∧ h' = hh (xu (xrow I 262 (sl1 (I 262) s g)) 263 s (nI n)) J R) := by
  subst e1
  have loop : ∀ (f k : Nat) (g : Nat → Int32) (q4 q5 : Option Value), k + f = n + 1 → p < k → (∀ i q, i < n + 1 → q < 4 → (i + 1 < k → g (4 * i + q) = tkO (slM I s) p i q) ∧ (k ≤ i → g (4 * i + q) = slM I s (4 * i + q))) →
      XP S (d + 1) 145 4 [some (.ref 261), some (.int xs), some (.int (nI p)), some (.int (nI k)), q4, q5] [] (hh (xrow I 262 (sl1 (I 262) s g)) J R) (fun v h' => v = none ∧ ∃ g, (∀ i q, i < n → q < 4 → g (4 * i + q) = tkO (slM I s) p i q) ∧ h' = hh (xu (xrow I 262 (sl1 (I 262) s g)) 263 s (nI n)) J R) := by
    intro f
    induction f with
    | zero =>
      intro k g q4 q5 hk hpk hg
      have hk : k = n + 1 := by omega
      subst hk
      have ea : xrow I 262 (sl1 (I 262) s g) 263 s = nI (n + 1) := by rw [xrow_ne (by decide), hn]
      have en : nI (n + 1) - 1 = nI n := pk_sub (a := n + 1) (b := 1) (by omega)
      refine y_loc (pc' := 5) xD_145 rfl rfl rfl rfl ?_
      refine y_loc (pc' := 6) xD_145 rfl rfl rfl rfl ?_
      first | refine m_getR (pc' := 9) xD_145 rfl rfl rfl rfl (hR.1 _ _ _ rfl) rfl ?_ | refine m_getR (pc' := 9) xD_145 rfl rfl (by first | rfl | assumption) rfl (by assumption) rfl ?_
      refine y_loc (pc' := 10) xD_145 rfl rfl rfl rfl ?_
      refine m_iald (pc' := 11) (s) xD_145 rfl (by first | rfl | assumption) (by first | assumption | omega) (by first | decide | assumption) (by first | decide | omega) (by first | rfl | assumption) rfl ?_
      rw [ea]
      refine y_icge (pt := 105) (pf := 14) xD_145 rfl rfl rfl (fun h11 => ?_) (fun h11 => ?_)
      · skip
        refine y_loc (pc' := 106) xD_145 rfl rfl rfl rfl ?_
        first | refine m_getR (pc' := 109) xD_145 rfl rfl rfl rfl (hR.1 _ _ _ rfl) rfl ?_ | refine m_getR (pc' := 109) xD_145 rfl rfl (by first | rfl | assumption) rfl (by assumption) rfl ?_
        refine y_loc (pc' := 110) xD_145 rfl rfl rfl rfl ?_
        refine y_op (pc' := 111) xD_145 rfl rfl rfl rfl ?_
        refine m_iald (pc' := 112) (s) xD_145 rfl (by first | rfl | assumption) (by first | assumption | omega) (by first | decide | assumption) (by first | decide | omega) (by first | rfl | assumption) rfl ?_
        rw [ea]
        refine y_ci (pc' := 113) (1) xD_145 rfl rfl rfl rfl ?_
        refine y_isub (pc' := 114) xD_145 rfl (en) rfl ?_
        refine m_iast (pc' := 115) (s) xD_145 rfl (by first | rfl | assumption) (by first | assumption | omega) (by first | decide | assumption) (by first | rfl | assumption) rfl ?_
        refine y_retV xD_145 rfl rfl ?_
        exact ⟨rfl, g, fun i q hi hq => (hg i q (by omega) hq).1 (by omega), rfl⟩
      · exact absurd (Int32.le_refl _) h11
    | succ f ih =>
      intro k g q4 q5 hk hpk hg
      have ea : xrow I 262 (sl1 (I 262) s g) 263 s = nI (n + 1) := by rw [xrow_ne (by decide), hn]
      have e5 : nI k + 1 = nI (k + 1) := nI_1 k
      have k6 : k < 6 := by omega
      have km : nI k - 1 = nI (k - 1) := pk_sub (b := 1) (by omega)
      have r3 := (hg k 3 (by omega) (by decide)).2 (Nat.le_refl _)
      have r2 := (hg k 2 (by omega) (by decide)).2 (Nat.le_refl _)
      have r1 := (hg k 1 (by omega) (by decide)).2 (Nat.le_refl _)
      have r0 := (hg k 0 (by omega) (by decide)).2 (Nat.le_refl _)
      have hy : ¬ slM I s (4 * k + 3) < 0 → slM I s (4 * k + 2) = 0 := fun h => by
        rcases (hV k (by omega)).2 with e | ⟨r, _, _, e⟩
        · rw [e] at h; exact absurd (by decide) h
        · exact e
      have y1 : nI p < slM I s (4 * k + 3) → (if slM I s (4 * k + 3) - 1 < 0 then slM I s (4 * k + 2) else 0) = slM I s (4 * k + 2) := fun h => by
        rw [hy (fun q => absurd (Int32.lt_trans h q) (nI_pos (by omega))), ite_self]
      have y2 : (if slM I s (4 * k + 3) < 0 then slM I s (4 * k + 2) else 0) = slM I s (4 * k + 2) := by
        by_cases hz : slM I s (4 * k + 3) < 0
        · rw [if_pos hz]
        · rw [if_neg hz, hy hz]
      have fin : ∀ (y r : Int32), r = tkO (slM I s) p (k - 1) 3 → (if r < 0 then y else 0) = tkO (slM I s) p (k - 1) 2 → ∀ i q, i < n + 1 → q < 4 → (i + 1 < k + 1 → w2 (w4 g (4 * (k - 1)) (g (4 * k + 0)) (g (4 * k + 1)) 0 (-1)) (4 * (k - 1)) (if r < 0 then y else 0) r (4 * i + q) = tkO (slM I s) p i q) ∧ (k + 1 ≤ i → w2 (w4 g (4 * (k - 1)) (g (4 * k + 0)) (g (4 * k + 1)) 0 (-1)) (4 * (k - 1)) (if r < 0 then y else 0) r (4 * i + q) = slM I s (4 * i + q)) := by
        intro y r h3 h2 i q hi hq
        rw [w2_w4, w4_pt hq, r0, r1]
        refine ⟨fun h => ?_, fun h => ?_⟩
        · by_cases hik : i = k - 1
          · rw [if_pos hik, hik]
            by_cases q0 : q = 0
            · rw [if_pos q0, q0]; unfold tkO; rw [if_neg (by omega), if_pos (by decide), show k - 1 + 1 = k by omega]
            · by_cases q1 : q = 1
              · rw [if_neg q0, if_pos q1, q1]; unfold tkO; rw [if_neg (by omega), if_pos (by decide), show k - 1 + 1 = k by omega]
              · by_cases q2 : q = 2
                · rw [if_neg q0, if_neg q1, if_pos q2, q2]; exact h2
                · rw [if_neg q0, if_neg q1, if_neg q2, show q = 3 by omega]; exact h3
          · rw [if_neg hik]; exact (hg i q hi hq).1 (by omega)
        · rw [if_neg (by omega)]; exact (hg i q hi hq).2 (by omega)
      have t3 : tkO (slM I s) p (k - 1) 3 = if slM I s (4 * k + 3) = nI p then -1 else if nI p < slM I s (4 * k + 3) then slM I s (4 * k + 3) - 1 else slM I s (4 * k + 3) := by
        unfold tkO
        rw [if_neg (by omega), if_neg (by decide), if_neg (by decide), show k - 1 + 1 = k by omega]
      have t2 : tkO (slM I s) p (k - 1) 2 = if slM I s (4 * k + 3) = nI p then 0 else slM I s (4 * k + 2) := by
        unfold tkO
        rw [if_neg (by omega), if_neg (by decide), if_pos rfl, show k - 1 + 1 = k by omega]
      refine y_loc (pc' := 5) xD_145 rfl rfl rfl rfl ?_
      refine y_loc (pc' := 6) xD_145 rfl rfl rfl rfl ?_
      first | refine m_getR (pc' := 9) xD_145 rfl rfl rfl rfl (hR.1 _ _ _ rfl) rfl ?_ | refine m_getR (pc' := 9) xD_145 rfl rfl (by first | rfl | assumption) rfl (by assumption) rfl ?_
      refine y_loc (pc' := 10) xD_145 rfl rfl rfl rfl ?_
      refine m_iald (pc' := 11) (s) xD_145 rfl (by first | rfl | assumption) (by first | assumption | omega) (by first | decide | assumption) (by first | decide | omega) (by first | rfl | assumption) rfl ?_
      rw [ea]
      refine y_icge (pt := 105) (pf := 14) xD_145 rfl rfl rfl (fun h11 => ?_) (fun h11 => ?_)
      · exact absurd h11 (nI_ge (by omega) (by omega))
      · skip
        refine y_loc (pc' := 15) xD_145 rfl rfl rfl rfl ?_
        refine y_loc (pc' := 16) xD_145 rfl rfl rfl rfl ?_
        refine y_loc (pc' := 17) xD_145 rfl rfl rfl rfl ?_
        refine y_ci (pc' := 18) (3) xD_145 rfl rfl rfl rfl ?_
        refine y_callV xD_145 rfl rfl rfl rfl (by first | rfl | assumption) rfl rfl rfl rfl (s_spart hR hs g k 3 k6 (by decide) e0 rfl rfl) (fun v h' hq => ?_)
        obtain ⟨rfl, rfl⟩ := hq
        refine y_loc (pc' := 23) xD_145 rfl rfl rfl rfl ?_
        refine y_loc (pc' := 24) xD_145 rfl rfl rfl rfl ?_
        refine y_loc (pc' := 25) xD_145 rfl rfl rfl rfl ?_
        refine y_loc (pc' := 26) xD_145 rfl rfl rfl rfl ?_
        refine y_ci (pc' := 27) (2) xD_145 rfl rfl rfl rfl ?_
        refine y_callV xD_145 rfl rfl rfl rfl (by first | rfl | assumption) rfl rfl rfl rfl (s_spart hR hs g k 2 k6 (by decide) e0 rfl rfl) (fun v h' hq => ?_)
        obtain ⟨rfl, rfl⟩ := hq
        refine y_loc (pc' := 32) xD_145 rfl rfl rfl rfl ?_
        refine y_loc (pc' := 33) xD_145 rfl rfl rfl rfl ?_
        refine y_loc (pc' := 34) xD_145 rfl rfl rfl rfl ?_
        refine y_loc (pc' := 35) xD_145 rfl rfl rfl rfl ?_
        refine y_ci (pc' := 36) (1) xD_145 rfl rfl rfl rfl ?_
        refine y_isub (pc' := 37) xD_145 rfl (km) rfl ?_
        refine y_loc (pc' := 38) xD_145 rfl rfl rfl rfl ?_
        refine y_loc (pc' := 39) xD_145 rfl rfl rfl rfl ?_
        refine y_loc (pc' := 40) xD_145 rfl rfl rfl rfl ?_
        refine y_ci (pc' := 41) (0) xD_145 rfl rfl rfl rfl ?_
        refine y_callV xD_145 rfl rfl rfl rfl (by first | rfl | assumption) rfl rfl rfl rfl (s_spart hR hs g k 0 k6 (by decide) e0 rfl rfl) (fun v h' hq => ?_)
        obtain ⟨rfl, rfl⟩ := hq
        refine y_loc (pc' := 45) xD_145 rfl rfl rfl rfl ?_
        refine y_loc (pc' := 46) xD_145 rfl rfl rfl rfl ?_
        refine y_loc (pc' := 47) xD_145 rfl rfl rfl rfl ?_
        refine y_ci (pc' := 48) (1) xD_145 rfl rfl rfl rfl ?_
        refine y_callV xD_145 rfl rfl rfl rfl (by first | rfl | assumption) rfl rfl rfl rfl (s_spart hR hs g k 1 k6 (by decide) e0 rfl rfl) (fun v h' hq => ?_)
        obtain ⟨rfl, rfl⟩ := hq
        skip
        refine y_callV xD_145 rfl rfl rfl rfl (by first | rfl | assumption) rfl rfl rfl rfl (s_swrite hR hs g (k - 1) (by omega) e0 rfl) (fun v h' hq => ?_)
        obtain ⟨rfl, rfl⟩ := hq
        refine y_loc (pc' := 55) xD_145 rfl rfl rfl rfl ?_
        refine y_loc (pc' := 56) xD_145 rfl rfl rfl rfl ?_
        refine y_loc (pc' := 57) xD_145 rfl rfl rfl rfl ?_
        refine y_ci (pc' := 58) (1) xD_145 rfl rfl rfl rfl ?_
        refine y_isub (pc' := 59) xD_145 rfl (km) rfl ?_
        refine y_loc (pc' := 61) xD_145 rfl rfl rfl rfl ?_
        refine y_loc (pc' := 62) xD_145 rfl rfl rfl rfl ?_
        refine y_icne (pt := 69) (pf := 65) xD_145 rfl rfl rfl (fun h62 => ?_) (fun h62 => ?_)
        · skip
          refine y_loc (pc' := 71) xD_145 rfl rfl rfl rfl ?_
          refine y_loc (pc' := 73) xD_145 rfl rfl rfl rfl ?_
          refine y_loc (pc' := 74) xD_145 rfl rfl rfl rfl ?_
          refine y_icne (pt := 81) (pf := 77) xD_145 rfl rfl rfl (fun h74 => ?_) (fun h74 => ?_)
          · skip
            refine y_loc (pc' := 83) xD_145 rfl rfl rfl rfl ?_
            refine y_loc (pc' := 84) xD_145 rfl rfl rfl rfl ?_
            refine y_icle (pt := 94) (pf := 87) xD_145 rfl rfl rfl (fun h84 => ?_) (fun h84 => ?_)
            · skip
              refine y_loc (pc' := 96) xD_145 rfl rfl rfl rfl ?_
              refine y_callV xD_145 rfl rfl rfl rfl (by first | rfl | assumption) rfl rfl rfl rfl (s_ssecond hR hs _ (k - 1) (by omega) e0 rfl) (fun v h' hq => ?_)
              obtain ⟨rfl, rfl⟩ := hq
              refine y_inc (pc' := 102) (nI (k + 1)) xD_145 rfl rfl rfl e5 rfl rfl ?_
              refine y_goto (pc' := 4) xD_145 rfl rfl ?_
              rw [r3] at h62
              first
                | exact absurd h74 h62
                | exact absurd h62 h74
                | (rw [r3] at h74; exact absurd h74 h62)
                | (rw [r3] at h74; exact absurd h62 h74)
                | exact ih (k + 1) _ _ _ (by omega) (by omega) (fin _ _ (by rw [t3, if_pos h62]) (by rw [t2, if_pos h62]; rfl))
                | (rw [r3] at h84; exact ih (k + 1) _ _ _ (by omega) (by omega) (fin _ _ (by rw [t3, if_neg h62, if_pos (Int32.not_le.mp h84), r3]) (by rw [t2, if_neg h62, r2, r3]; exact y1 (Int32.not_le.mp h84))))
                | (rw [r3] at h84; exact ih (k + 1) _ _ _ (by omega) (by omega) (fin _ _ (by rw [t3, if_neg h62, if_neg (Int32.not_lt.mpr h84), r3]) (by rw [t2, if_neg h62, r2, r3]; exact y2)))
              skip
            · skip
              refine y_loc (pc' := 89) xD_145 rfl rfl rfl rfl ?_
              refine y_ci (pc' := 90) (1) xD_145 rfl rfl rfl rfl ?_
              refine y_op (pc' := 91) xD_145 rfl rfl rfl rfl ?_
              refine y_goto (pc' := 96) xD_145 rfl rfl ?_
              refine y_callV xD_145 rfl rfl rfl rfl (by first | rfl | assumption) rfl rfl rfl rfl (s_ssecond hR hs _ (k - 1) (by omega) e0 rfl) (fun v h' hq => ?_)
              obtain ⟨rfl, rfl⟩ := hq
              refine y_inc (pc' := 102) (nI (k + 1)) xD_145 rfl rfl rfl e5 rfl rfl ?_
              refine y_goto (pc' := 4) xD_145 rfl rfl ?_
              rw [r3] at h62
              first
                | exact absurd h74 h62
                | exact absurd h62 h74
                | (rw [r3] at h74; exact absurd h74 h62)
                | (rw [r3] at h74; exact absurd h62 h74)
                | exact ih (k + 1) _ _ _ (by omega) (by omega) (fin _ _ (by rw [t3, if_pos h62]) (by rw [t2, if_pos h62]; rfl))
                | (rw [r3] at h84; exact ih (k + 1) _ _ _ (by omega) (by omega) (fin _ _ (by rw [t3, if_neg h62, if_pos (Int32.not_le.mp h84), r3]) (by rw [t2, if_neg h62, r2, r3]; exact y1 (Int32.not_le.mp h84))))
                | (rw [r3] at h84; exact ih (k + 1) _ _ _ (by omega) (by omega) (fin _ _ (by rw [t3, if_neg h62, if_neg (Int32.not_lt.mpr h84), r3]) (by rw [t2, if_neg h62, r2, r3]; exact y2)))
              skip
          · skip
            refine y_ci (pc' := 78) (-1) xD_145 rfl rfl rfl rfl ?_
            refine y_goto (pc' := 96) xD_145 rfl rfl ?_
            refine y_callV xD_145 rfl rfl rfl rfl (by first | rfl | assumption) rfl rfl rfl rfl (s_ssecond hR hs _ (k - 1) (by omega) e0 rfl) (fun v h' hq => ?_)
            obtain ⟨rfl, rfl⟩ := hq
            refine y_inc (pc' := 102) (nI (k + 1)) xD_145 rfl rfl rfl e5 rfl rfl ?_
            refine y_goto (pc' := 4) xD_145 rfl rfl ?_
            rw [r3] at h62
            first
              | exact absurd h74 h62
              | exact absurd h62 h74
              | (rw [r3] at h74; exact absurd h74 h62)
              | (rw [r3] at h74; exact absurd h62 h74)
              | exact ih (k + 1) _ _ _ (by omega) (by omega) (fin _ _ (by rw [t3, if_pos h62]) (by rw [t2, if_pos h62]; rfl))
              | (rw [r3] at h84; exact ih (k + 1) _ _ _ (by omega) (by omega) (fin _ _ (by rw [t3, if_neg h62, if_pos (Int32.not_le.mp h84), r3]) (by rw [t2, if_neg h62, r2, r3]; exact y1 (Int32.not_le.mp h84))))
              | (rw [r3] at h84; exact ih (k + 1) _ _ _ (by omega) (by omega) (fin _ _ (by rw [t3, if_neg h62, if_neg (Int32.not_lt.mpr h84), r3]) (by rw [t2, if_neg h62, r2, r3]; exact y2)))
            skip
        · skip
          refine y_ci (pc' := 66) (0) xD_145 rfl rfl rfl rfl ?_
          refine y_goto (pc' := 71) xD_145 rfl rfl ?_
          refine y_loc (pc' := 73) xD_145 rfl rfl rfl rfl ?_
          refine y_loc (pc' := 74) xD_145 rfl rfl rfl rfl ?_
          refine y_icne (pt := 81) (pf := 77) xD_145 rfl rfl rfl (fun h74 => ?_) (fun h74 => ?_)
          · skip
            refine y_loc (pc' := 83) xD_145 rfl rfl rfl rfl ?_
            refine y_loc (pc' := 84) xD_145 rfl rfl rfl rfl ?_
            refine y_icle (pt := 94) (pf := 87) xD_145 rfl rfl rfl (fun h84 => ?_) (fun h84 => ?_)
            · skip
              refine y_loc (pc' := 96) xD_145 rfl rfl rfl rfl ?_
              refine y_callV xD_145 rfl rfl rfl rfl (by first | rfl | assumption) rfl rfl rfl rfl (s_ssecond hR hs _ (k - 1) (by omega) e0 rfl) (fun v h' hq => ?_)
              obtain ⟨rfl, rfl⟩ := hq
              refine y_inc (pc' := 102) (nI (k + 1)) xD_145 rfl rfl rfl e5 rfl rfl ?_
              refine y_goto (pc' := 4) xD_145 rfl rfl ?_
              rw [r3] at h62
              first
                | exact absurd h74 h62
                | exact absurd h62 h74
                | (rw [r3] at h74; exact absurd h74 h62)
                | (rw [r3] at h74; exact absurd h62 h74)
                | exact ih (k + 1) _ _ _ (by omega) (by omega) (fin _ _ (by rw [t3, if_pos h62]) (by rw [t2, if_pos h62]; rfl))
                | (rw [r3] at h84; exact ih (k + 1) _ _ _ (by omega) (by omega) (fin _ _ (by rw [t3, if_neg h62, if_pos (Int32.not_le.mp h84), r3]) (by rw [t2, if_neg h62, r2, r3]; exact y1 (Int32.not_le.mp h84))))
                | (rw [r3] at h84; exact ih (k + 1) _ _ _ (by omega) (by omega) (fin _ _ (by rw [t3, if_neg h62, if_neg (Int32.not_lt.mpr h84), r3]) (by rw [t2, if_neg h62, r2, r3]; exact y2)))
              skip
            · skip
              refine y_loc (pc' := 89) xD_145 rfl rfl rfl rfl ?_
              refine y_ci (pc' := 90) (1) xD_145 rfl rfl rfl rfl ?_
              refine y_op (pc' := 91) xD_145 rfl rfl rfl rfl ?_
              refine y_goto (pc' := 96) xD_145 rfl rfl ?_
              refine y_callV xD_145 rfl rfl rfl rfl (by first | rfl | assumption) rfl rfl rfl rfl (s_ssecond hR hs _ (k - 1) (by omega) e0 rfl) (fun v h' hq => ?_)
              obtain ⟨rfl, rfl⟩ := hq
              refine y_inc (pc' := 102) (nI (k + 1)) xD_145 rfl rfl rfl e5 rfl rfl ?_
              refine y_goto (pc' := 4) xD_145 rfl rfl ?_
              rw [r3] at h62
              first
                | exact absurd h74 h62
                | exact absurd h62 h74
                | (rw [r3] at h74; exact absurd h74 h62)
                | (rw [r3] at h74; exact absurd h62 h74)
                | exact ih (k + 1) _ _ _ (by omega) (by omega) (fin _ _ (by rw [t3, if_pos h62]) (by rw [t2, if_pos h62]; rfl))
                | (rw [r3] at h84; exact ih (k + 1) _ _ _ (by omega) (by omega) (fin _ _ (by rw [t3, if_neg h62, if_pos (Int32.not_le.mp h84), r3]) (by rw [t2, if_neg h62, r2, r3]; exact y1 (Int32.not_le.mp h84))))
                | (rw [r3] at h84; exact ih (k + 1) _ _ _ (by omega) (by omega) (fin _ _ (by rw [t3, if_neg h62, if_neg (Int32.not_lt.mpr h84), r3]) (by rw [t2, if_neg h62, r2, r3]; exact y2)))
              skip
          · skip
            refine y_ci (pc' := 78) (-1) xD_145 rfl rfl rfl rfl ?_
            refine y_goto (pc' := 96) xD_145 rfl rfl ?_
            refine y_callV xD_145 rfl rfl rfl rfl (by first | rfl | assumption) rfl rfl rfl rfl (s_ssecond hR hs _ (k - 1) (by omega) e0 rfl) (fun v h' hq => ?_)
            obtain ⟨rfl, rfl⟩ := hq
            refine y_inc (pc' := 102) (nI (k + 1)) xD_145 rfl rfl rfl e5 rfl rfl ?_
            refine y_goto (pc' := 4) xD_145 rfl rfl ?_
            rw [r3] at h62
            first
              | exact absurd h74 h62
              | exact absurd h62 h74
              | (rw [r3] at h74; exact absurd h74 h62)
              | (rw [r3] at h74; exact absurd h62 h74)
              | exact ih (k + 1) _ _ _ (by omega) (by omega) (fin _ _ (by rw [t3, if_pos h62]) (by rw [t2, if_pos h62]; rfl))
              | (rw [r3] at h84; exact ih (k + 1) _ _ _ (by omega) (by omega) (fin _ _ (by rw [t3, if_neg h62, if_pos (Int32.not_le.mp h84), r3]) (by rw [t2, if_neg h62, r2, r3]; exact y1 (Int32.not_le.mp h84))))
              | (rw [r3] at h84; exact ih (k + 1) _ _ _ (by omega) (by omega) (fin _ _ (by rw [t3, if_neg h62, if_neg (Int32.not_lt.mpr h84), r3]) (by rw [t2, if_neg h62, r2, r3]; exact y2)))
            skip
  refine y_loc (pc' := 1) xD_145 rfl rfl rfl rfl ?_
  refine y_ci (pc' := 2) (1) xD_145 rfl rfl rfl rfl ?_
  refine y_iadd (pc' := 3) xD_145 rfl (nI_1 p) rfl ?_
  refine y_loc (pc' := 4) xD_145 rfl rfl rfl rfl ?_
  have e : xrow I 262 (sl1 (I 262) s (slM I s)) = I := by
    refine Eq.trans ?_ (xrow_id (f := I) (a := 262))
    congr 1
    funext i
    unfold sl1 slM
    by_cases h : i / 24 = s
    · rw [if_pos h]; congr 1; omega
    · rw [if_neg h]
  have key := loop (n - p) (p + 1) (slM I s) none none (by omega) (by omega) (fun i q hi hq => ⟨fun h => by unfold tkO; rw [if_pos (by omega)], fun _ => rfl⟩)
  rw [e] at key
  exact key
end MT

