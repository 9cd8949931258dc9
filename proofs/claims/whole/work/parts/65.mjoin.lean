/-! Two slots joined. -/
section MJ
variable {S : XS} {d fr0 to : Nat} {I : Nat → Nat → Int32} {J : Nat → Nat → Int64} {R : Nat → Nat → Option Nat}
theorem s_fpart (hR : RF R) (hf : fr0 < 67) (hne : fr0 ≠ to) (g : Nat → Int32) (j q : Nat) (hj : j < 6) (hq : q < 4) {xs xj xq : Int32} (e1 : xs = nI fr0) (e2 : xj = nI j) (e3 : xq = nI q) : XP S d 125 0 (xent [.ref 261, .int xs, .int xj, .int xq] 4) [] (hh (xrow I 262 (sl1 (I 262) to g)) J R) (rI (slM I fr0 (4 * j + q)) (hh (xrow I 262 (sl1 (I 262) to g)) J R)) := by
  have := s_mpart (S := S) (d := d) (I := xrow I 262 (sl1 (I 262) to g)) (J := J) hR hf j q hj hq e1 e2 e3
  have e : slM (xrow I 262 (sl1 (I 262) to g)) fr0 (4 * j + q) = slM I fr0 (4 * j + q) := by
    unfold slM
    rw [xrow_at]
    exact sl1_ne (by omega) hne
  rw [e] at this
  exact this
/-- the model's move -/
theorem s_move (hR : RF R) (hf : fr0 < 67) (ht : to < 67) (hne : fr0 ≠ to) (g : Nat → Int32) (j i : Nat) (hj : j < 6) (hi : i < 6) (hV : VT (slM I fr0) j) {x1 x2 x3 x4 least bye : Int32} (e1 : x1 = nI fr0) (e2 : x2 = nI j) (e3 : x3 = nI to) (e4 : x4 = nI i) :
    XP S (d + 1) 142 0 (xent [.ref 261, .int x1, .int x2, .int x3, .int x4, .int least, .int bye] 10) [] (hh (xrow I 262 (sl1 (I 262) to g)) J R) (rV (hh (xrow I 262 (sl1 (I 262) to (w4 g (4 * i) (slM I fr0 (4 * j)) (slM I fr0 (4 * j + 1)) (slM I fr0 (4 * j + 2)) (if slM I fr0 (4 * j + 3) < 0 ∨ slM I fr0 (4 * j + 3) < least then -1 else slM I fr0 (4 * j + 3) + bye)))) J R)) := by
  have hy : ¬ slM I fr0 (4 * j + 3) < 0 → slM I fr0 (4 * j + 2) = 0 := fun h => by
    rcases hV.2 with e | ⟨r, _, _, e⟩
    · rw [e] at h; exact absurd (by decide) h
    · exact e
  refine y_loc (pc' := 1) xD_142 rfl rfl rfl rfl ?_
  refine y_loc (pc' := 2) xD_142 rfl rfl rfl rfl ?_
  refine y_loc (pc' := 3) xD_142 rfl rfl rfl rfl ?_
  refine y_ci (pc' := 4) (2) xD_142 rfl rfl rfl rfl ?_
  refine y_callV xD_142 rfl rfl rfl rfl (by first | rfl | assumption) rfl rfl rfl rfl (s_fpart hR hf hne g j 2 hj (by decide) e1 e2 rfl) (fun v h' hq => ?_)
  obtain ⟨rfl, rfl⟩ := hq
  refine y_loc (pc' := 9) xD_142 rfl rfl rfl rfl ?_
  refine y_loc (pc' := 10) xD_142 rfl rfl rfl rfl ?_
  refine y_loc (pc' := 11) xD_142 rfl rfl rfl rfl ?_
  refine y_loc (pc' := 12) xD_142 rfl rfl rfl rfl ?_
  refine y_ci (pc' := 13) (3) xD_142 rfl rfl rfl rfl ?_
  refine y_callV xD_142 rfl rfl rfl rfl (by first | rfl | assumption) rfl rfl rfl rfl (s_fpart hR hf hne g j 3 hj (by decide) e1 e2 rfl) (fun v h' hq => ?_)
  obtain ⟨rfl, rfl⟩ := hq
  refine y_loc (pc' := 18) xD_142 rfl rfl rfl rfl ?_
  refine y_loc (pc' := 20) xD_142 rfl rfl rfl rfl ?_
  refine y_iflt (pt := 34) (pf := 23) xD_142 rfl rfl rfl (fun h20 => ?_) (fun h20 => ?_)
  · skip
    refine y_ci (pc' := 35) (0) xD_142 rfl rfl rfl rfl ?_
    refine y_loc (pc' := 37) xD_142 rfl rfl rfl rfl ?_
    refine y_loc (pc' := 38) xD_142 rfl rfl rfl rfl ?_
    refine y_loc (pc' := 39) xD_142 rfl rfl rfl rfl ?_
    refine y_loc (pc' := 41) xD_142 rfl rfl rfl rfl ?_
    refine y_loc (pc' := 42) xD_142 rfl rfl rfl rfl ?_
    refine y_loc (pc' := 43) xD_142 rfl rfl rfl rfl ?_
    refine y_loc (pc' := 44) xD_142 rfl rfl rfl rfl ?_
    refine y_ci (pc' := 45) (0) xD_142 rfl rfl rfl rfl ?_
    refine y_callV xD_142 rfl rfl rfl rfl (by first | rfl | assumption) rfl rfl rfl rfl (s_fpart hR hf hne g j 0 hj (by decide) e1 e2 rfl) (fun v h' hq => ?_)
    obtain ⟨rfl, rfl⟩ := hq
    refine y_loc (pc' := 49) xD_142 rfl rfl rfl rfl ?_
    refine y_loc (pc' := 50) xD_142 rfl rfl rfl rfl ?_
    refine y_loc (pc' := 51) xD_142 rfl rfl rfl rfl ?_
    refine y_ci (pc' := 52) (1) xD_142 rfl rfl rfl rfl ?_
    refine y_callV xD_142 rfl rfl rfl rfl (by first | rfl | assumption) rfl rfl rfl rfl (s_fpart hR hf hne g j 1 hj (by decide) e1 e2 rfl) (fun v h' hq => ?_)
    obtain ⟨rfl, rfl⟩ := hq
    refine y_callV xD_142 rfl rfl rfl rfl (by first | rfl | assumption) rfl rfl rfl rfl (s_swrite hR ht g i hi e3 e4) (fun v h' hq => ?_)
    obtain ⟨rfl, rfl⟩ := hq
    refine y_loc (pc' := 59) xD_142 rfl rfl rfl rfl ?_
    refine y_loc (pc' := 60) xD_142 rfl rfl rfl rfl ?_
    refine y_loc (pc' := 62) xD_142 rfl rfl rfl rfl ?_
    refine y_loc (pc' := 64) xD_142 rfl rfl rfl rfl ?_
    refine y_ifeq (pt := 71) (pf := 67) xD_142 rfl rfl rfl (fun h64 => ?_) (fun h64 => ?_)
    · skip
      first
      | exact absurd h64 (by decide)
      | (refine y_loc (pc' := 73) xD_142 rfl rfl rfl rfl ?_
         refine y_loc (pc' := 75) xD_142 rfl rfl rfl rfl ?_
         refine y_ifne (pt := 83) (pf := 78) xD_142 rfl rfl rfl (fun h75 => absurd rfl h75) (fun h75 => ?_)
         refine y_loc (pc' := 80) xD_142 rfl rfl rfl rfl ?_
         refine y_ifge (pt := 87) (pf := 83) xD_142 rfl rfl rfl (fun h80 => ?_) (fun h80 => ?_)
         · refine y_loc (pc' := 89) xD_142 rfl rfl rfl rfl ?_
           refine y_loc (pc' := 91) xD_142 rfl rfl rfl rfl ?_
           refine y_op (pc' := 92) xD_142 rfl rfl rfl rfl ?_
           refine y_callV xD_142 rfl rfl rfl rfl rfl rfl rfl rfl rfl (s_ssecond hR ht _ i hi e3 e4) (fun v h' hq => ?_)
           obtain ⟨rfl, rfl⟩ := hq
           refine y_retV xD_142 rfl rfl ?_
           refine ⟨rfl, ?_⟩
           first
             | exact absurd h80 (Int32.not_le.mpr h20)
             | (rw [w2_w4, if_neg (show ¬ (slM I fr0 (4 * j + 3) < 0 ∨ slM I fr0 (4 * j + 3) < least) from fun q => q.elim h20 (fun r => absurd h27 (Int32.not_le.mpr r))), hy h20, ite_self]; rfl)
         · refine y_ci (pc' := 84) (-1) xD_142 rfl rfl rfl rfl ?_
           refine y_goto (pc' := 92) xD_142 rfl rfl ?_
           refine y_callV xD_142 rfl rfl rfl rfl rfl rfl rfl rfl rfl (s_ssecond hR ht _ i hi e3 e4) (fun v h' hq => ?_)
           obtain ⟨rfl, rfl⟩ := hq
           refine y_retV xD_142 rfl rfl ?_
           refine ⟨rfl, ?_⟩
           rw [w2_w4, if_pos (Or.inl (Int32.not_le.mp h80)), if_pos (by decide)]
           rfl)
    · skip
      first
      | exact absurd (show (0 : Int32) = 0 from rfl) h64
      | (refine y_ci (pc' := 68) (0) xD_142 rfl rfl rfl rfl ?_
         refine y_goto (pc' := 73) xD_142 rfl rfl ?_
         refine y_loc (pc' := 75) xD_142 rfl rfl rfl rfl ?_
         refine y_ifne (pt := 83) (pf := 78) xD_142 rfl rfl rfl (fun h75 => ?_) (fun h75 => absurd h75 (by decide))
         refine y_ci (pc' := 84) (-1) xD_142 rfl rfl rfl rfl ?_
         refine y_goto (pc' := 92) xD_142 rfl rfl ?_
         refine y_callV xD_142 rfl rfl rfl rfl rfl rfl rfl rfl rfl (s_ssecond hR ht _ i hi e3 e4) (fun v h' hq => ?_)
         obtain ⟨rfl, rfl⟩ := hq
         refine y_retV xD_142 rfl rfl ?_
         refine ⟨rfl, ?_⟩
         rw [w2_w4, if_pos (Or.inr (Int32.not_le.mp h27)), if_pos (by decide), hy h20]
         rfl)
  · skip
    refine y_loc (pc' := 25) xD_142 rfl rfl rfl rfl ?_
    refine y_loc (pc' := 27) xD_142 rfl rfl rfl rfl ?_
    refine y_icge (pt := 34) (pf := 30) xD_142 rfl rfl rfl (fun h27 => ?_) (fun h27 => ?_)
    · skip
      refine y_ci (pc' := 35) (0) xD_142 rfl rfl rfl rfl ?_
      refine y_loc (pc' := 37) xD_142 rfl rfl rfl rfl ?_
      refine y_loc (pc' := 38) xD_142 rfl rfl rfl rfl ?_
      refine y_loc (pc' := 39) xD_142 rfl rfl rfl rfl ?_
      refine y_loc (pc' := 41) xD_142 rfl rfl rfl rfl ?_
      refine y_loc (pc' := 42) xD_142 rfl rfl rfl rfl ?_
      refine y_loc (pc' := 43) xD_142 rfl rfl rfl rfl ?_
      refine y_loc (pc' := 44) xD_142 rfl rfl rfl rfl ?_
      refine y_ci (pc' := 45) (0) xD_142 rfl rfl rfl rfl ?_
      refine y_callV xD_142 rfl rfl rfl rfl (by first | rfl | assumption) rfl rfl rfl rfl (s_fpart hR hf hne g j 0 hj (by decide) e1 e2 rfl) (fun v h' hq => ?_)
      obtain ⟨rfl, rfl⟩ := hq
      refine y_loc (pc' := 49) xD_142 rfl rfl rfl rfl ?_
      refine y_loc (pc' := 50) xD_142 rfl rfl rfl rfl ?_
      refine y_loc (pc' := 51) xD_142 rfl rfl rfl rfl ?_
      refine y_ci (pc' := 52) (1) xD_142 rfl rfl rfl rfl ?_
      refine y_callV xD_142 rfl rfl rfl rfl (by first | rfl | assumption) rfl rfl rfl rfl (s_fpart hR hf hne g j 1 hj (by decide) e1 e2 rfl) (fun v h' hq => ?_)
      obtain ⟨rfl, rfl⟩ := hq
      refine y_callV xD_142 rfl rfl rfl rfl (by first | rfl | assumption) rfl rfl rfl rfl (s_swrite hR ht g i hi e3 e4) (fun v h' hq => ?_)
      obtain ⟨rfl, rfl⟩ := hq
      refine y_loc (pc' := 59) xD_142 rfl rfl rfl rfl ?_
      refine y_loc (pc' := 60) xD_142 rfl rfl rfl rfl ?_
      refine y_loc (pc' := 62) xD_142 rfl rfl rfl rfl ?_
      refine y_loc (pc' := 64) xD_142 rfl rfl rfl rfl ?_
      refine y_ifeq (pt := 71) (pf := 67) xD_142 rfl rfl rfl (fun h64 => ?_) (fun h64 => ?_)
      · skip
        first
        | exact absurd h64 (by decide)
        | (refine y_loc (pc' := 73) xD_142 rfl rfl rfl rfl ?_
           refine y_loc (pc' := 75) xD_142 rfl rfl rfl rfl ?_
           refine y_ifne (pt := 83) (pf := 78) xD_142 rfl rfl rfl (fun h75 => absurd rfl h75) (fun h75 => ?_)
           refine y_loc (pc' := 80) xD_142 rfl rfl rfl rfl ?_
           refine y_ifge (pt := 87) (pf := 83) xD_142 rfl rfl rfl (fun h80 => ?_) (fun h80 => ?_)
           · refine y_loc (pc' := 89) xD_142 rfl rfl rfl rfl ?_
             refine y_loc (pc' := 91) xD_142 rfl rfl rfl rfl ?_
             refine y_op (pc' := 92) xD_142 rfl rfl rfl rfl ?_
             refine y_callV xD_142 rfl rfl rfl rfl rfl rfl rfl rfl rfl (s_ssecond hR ht _ i hi e3 e4) (fun v h' hq => ?_)
             obtain ⟨rfl, rfl⟩ := hq
             refine y_retV xD_142 rfl rfl ?_
             refine ⟨rfl, ?_⟩
             first
               | exact absurd h80 (Int32.not_le.mpr h20)
               | (rw [w2_w4, if_neg (show ¬ (slM I fr0 (4 * j + 3) < 0 ∨ slM I fr0 (4 * j + 3) < least) from fun q => q.elim h20 (fun r => absurd h27 (Int32.not_le.mpr r))), hy h20, ite_self]; rfl)
           · refine y_ci (pc' := 84) (-1) xD_142 rfl rfl rfl rfl ?_
             refine y_goto (pc' := 92) xD_142 rfl rfl ?_
             refine y_callV xD_142 rfl rfl rfl rfl rfl rfl rfl rfl rfl (s_ssecond hR ht _ i hi e3 e4) (fun v h' hq => ?_)
             obtain ⟨rfl, rfl⟩ := hq
             refine y_retV xD_142 rfl rfl ?_
             refine ⟨rfl, ?_⟩
             rw [w2_w4, if_pos (Or.inl (Int32.not_le.mp h80)), if_pos (by decide)]
             rfl)
      · skip
        first
        | exact absurd (show (0 : Int32) = 0 from rfl) h64
        | (refine y_ci (pc' := 68) (0) xD_142 rfl rfl rfl rfl ?_
           refine y_goto (pc' := 73) xD_142 rfl rfl ?_
           refine y_loc (pc' := 75) xD_142 rfl rfl rfl rfl ?_
           refine y_ifne (pt := 83) (pf := 78) xD_142 rfl rfl rfl (fun h75 => ?_) (fun h75 => absurd h75 (by decide))
           refine y_ci (pc' := 84) (-1) xD_142 rfl rfl rfl rfl ?_
           refine y_goto (pc' := 92) xD_142 rfl rfl ?_
           refine y_callV xD_142 rfl rfl rfl rfl rfl rfl rfl rfl rfl (s_ssecond hR ht _ i hi e3 e4) (fun v h' hq => ?_)
           obtain ⟨rfl, rfl⟩ := hq
           refine y_retV xD_142 rfl rfl ?_
           refine ⟨rfl, ?_⟩
           rw [w2_w4, if_pos (Or.inr (Int32.not_le.mp h27)), if_pos (by decide), hy h20]
           rfl)
    · skip
      refine y_ci (pc' := 31) (1) xD_142 rfl rfl rfl rfl ?_
      refine y_goto (pc' := 35) xD_142 rfl rfl ?_
      refine y_loc (pc' := 37) xD_142 rfl rfl rfl rfl ?_
      refine y_loc (pc' := 38) xD_142 rfl rfl rfl rfl ?_
      refine y_loc (pc' := 39) xD_142 rfl rfl rfl rfl ?_
      refine y_loc (pc' := 41) xD_142 rfl rfl rfl rfl ?_
      refine y_loc (pc' := 42) xD_142 rfl rfl rfl rfl ?_
      refine y_loc (pc' := 43) xD_142 rfl rfl rfl rfl ?_
      refine y_loc (pc' := 44) xD_142 rfl rfl rfl rfl ?_
      refine y_ci (pc' := 45) (0) xD_142 rfl rfl rfl rfl ?_
      refine y_callV xD_142 rfl rfl rfl rfl (by first | rfl | assumption) rfl rfl rfl rfl (s_fpart hR hf hne g j 0 hj (by decide) e1 e2 rfl) (fun v h' hq => ?_)
      obtain ⟨rfl, rfl⟩ := hq
      refine y_loc (pc' := 49) xD_142 rfl rfl rfl rfl ?_
      refine y_loc (pc' := 50) xD_142 rfl rfl rfl rfl ?_
      refine y_loc (pc' := 51) xD_142 rfl rfl rfl rfl ?_
      refine y_ci (pc' := 52) (1) xD_142 rfl rfl rfl rfl ?_
      refine y_callV xD_142 rfl rfl rfl rfl (by first | rfl | assumption) rfl rfl rfl rfl (s_fpart hR hf hne g j 1 hj (by decide) e1 e2 rfl) (fun v h' hq => ?_)
      obtain ⟨rfl, rfl⟩ := hq
      refine y_callV xD_142 rfl rfl rfl rfl (by first | rfl | assumption) rfl rfl rfl rfl (s_swrite hR ht g i hi e3 e4) (fun v h' hq => ?_)
      obtain ⟨rfl, rfl⟩ := hq
      refine y_loc (pc' := 59) xD_142 rfl rfl rfl rfl ?_
      refine y_loc (pc' := 60) xD_142 rfl rfl rfl rfl ?_
      refine y_loc (pc' := 62) xD_142 rfl rfl rfl rfl ?_
      refine y_loc (pc' := 64) xD_142 rfl rfl rfl rfl ?_
      refine y_ifeq (pt := 71) (pf := 67) xD_142 rfl rfl rfl (fun h64 => ?_) (fun h64 => ?_)
      · skip
        first
        | exact absurd h64 (by decide)
        | (refine y_loc (pc' := 73) xD_142 rfl rfl rfl rfl ?_
           refine y_loc (pc' := 75) xD_142 rfl rfl rfl rfl ?_
           refine y_ifne (pt := 83) (pf := 78) xD_142 rfl rfl rfl (fun h75 => absurd rfl h75) (fun h75 => ?_)
           refine y_loc (pc' := 80) xD_142 rfl rfl rfl rfl ?_
           refine y_ifge (pt := 87) (pf := 83) xD_142 rfl rfl rfl (fun h80 => ?_) (fun h80 => ?_)
           · refine y_loc (pc' := 89) xD_142 rfl rfl rfl rfl ?_
             refine y_loc (pc' := 91) xD_142 rfl rfl rfl rfl ?_
             refine y_op (pc' := 92) xD_142 rfl rfl rfl rfl ?_
             refine y_callV xD_142 rfl rfl rfl rfl rfl rfl rfl rfl rfl (s_ssecond hR ht _ i hi e3 e4) (fun v h' hq => ?_)
             obtain ⟨rfl, rfl⟩ := hq
             refine y_retV xD_142 rfl rfl ?_
             refine ⟨rfl, ?_⟩
             first
               | exact absurd h80 (Int32.not_le.mpr h20)
               | (rw [w2_w4, if_neg (show ¬ (slM I fr0 (4 * j + 3) < 0 ∨ slM I fr0 (4 * j + 3) < least) from fun q => q.elim h20 (fun r => absurd h27 (Int32.not_le.mpr r))), hy h20, ite_self]; rfl)
           · refine y_ci (pc' := 84) (-1) xD_142 rfl rfl rfl rfl ?_
             refine y_goto (pc' := 92) xD_142 rfl rfl ?_
             refine y_callV xD_142 rfl rfl rfl rfl rfl rfl rfl rfl rfl (s_ssecond hR ht _ i hi e3 e4) (fun v h' hq => ?_)
             obtain ⟨rfl, rfl⟩ := hq
             refine y_retV xD_142 rfl rfl ?_
             refine ⟨rfl, ?_⟩
             rw [w2_w4, if_pos (Or.inl (Int32.not_le.mp h80)), if_pos (by decide)]
             rfl)
      · skip
        first
        | exact absurd (show (0 : Int32) = 0 from rfl) h64
        | (refine y_ci (pc' := 68) (0) xD_142 rfl rfl rfl rfl ?_
           refine y_goto (pc' := 73) xD_142 rfl rfl ?_
           refine y_loc (pc' := 75) xD_142 rfl rfl rfl rfl ?_
           refine y_ifne (pt := 83) (pf := 78) xD_142 rfl rfl rfl (fun h75 => ?_) (fun h75 => absurd h75 (by decide))
           refine y_ci (pc' := 84) (-1) xD_142 rfl rfl rfl rfl ?_
           refine y_goto (pc' := 92) xD_142 rfl rfl ?_
           refine y_callV xD_142 rfl rfl rfl rfl rfl rfl rfl rfl rfl (s_ssecond hR ht _ i hi e3 e4) (fun v h' hq => ?_)
           obtain ⟨rfl, rfl⟩ := hq
           refine y_retV xD_142 rfl rfl ?_
           refine ⟨rfl, ?_⟩
           rw [w2_w4, if_pos (Or.inr (Int32.not_le.mp h27)), if_pos (by decide), hy h20]
           rfl)
/-- the model's join -/
theorem s_mjoin (hR : RF R) {p q0 : Nat} (hp : p < 67) (hq0 : q0 < 67) (ht : to < 67) (hpt : p ≠ to) (hqt : q0 ≠ to) (np n s t : Nat) (hs : s < np) (hnp : np ≤ 6) (htn : t < n) (hn : I 263 q0 = nI n) (hn6 : n ≤ 6) (hV : ∀ j, j < np → VT (slM I p) j) (hW : ∀ j, j < n → VT (slM I q0) j) {x1 x2 x3 x4 x5 : Int32} (e1 : x1 = nI to) (e2 : x2 = nI p) (e3 : x3 = nI s) (e4 : x4 = nI q0) (e5 : x5 = nI t) {k : Nat} (hk : k = if s + n - t ≤ 6 then s + n - t else 6) :
    XP S (d + 2) 141 0 (xent [.ref 261, .int x1, .int x2, .int x3, .int x4, .int x5] 8) [] (hh I J R) (fun v h' => v = none ∧ ∃ g, (∀ i q, i < k → q < 4 → g (4 * i + q) = jnO (slM I p) (slM I q0) s t i q) ∧ h' = hh (xu (xrow I 262 (sl1 (I 262) to g)) 263 to (nI k)) J R) := by
  subst e3; subst e5
  have hk6 : k ≤ 6 ∧ s ≤ k ∧ k + t ≤ s + n ∧ (k = 6 ∨ k + t = s + n) := by rw [hk]; split <;> omega
  have b3 : ∀ g : Nat → Int32, xrow I 262 (sl1 (I 262) to g) 263 q0 = nI n := fun g => by rw [xrow_ne (by decide), hn]
  have loop2 : ∀ (f i : Nat) (g : Nat → Int32), i + f = k → s ≤ i → (∀ i' q, i' < i → q < 4 → g (4 * i' + q) = jnO (slM I p) (slM I q0) s t i' q) →
      XP S (d + 2) 141 34 [some (.ref 261), some (.int x1), some (.int x2), some (.int (nI s)), some (.int x4), some (.int (nI t)), some (.int (nI i)), some (.int (nI (i - s + t)))] [] (hh (xrow I 262 (sl1 (I 262) to g)) J R) (fun v h' => v = none ∧ ∃ g, (∀ i q, i < k → q < 4 → g (4 * i + q) = jnO (slM I p) (slM I q0) s t i q) ∧ h' = hh (xu (xrow I 262 (sl1 (I 262) to g)) 263 to (nI k)) J R) := by
    intro f
    induction f with
    | zero =>
      intro i g hi hsi hg
      have hi : i = k := by omega
      subst hi
      refine y_loc (pc' := 36) xD_141 rfl rfl rfl rfl ?_
      refine y_loc (pc' := 37) xD_141 rfl rfl rfl rfl ?_
      first | refine m_getR (pc' := 40) xD_141 rfl rfl rfl rfl (hR.1 _ _ _ rfl) rfl ?_ | refine m_getR (pc' := 40) xD_141 rfl rfl (by first | rfl | assumption) rfl (by assumption) rfl ?_
      refine y_loc (pc' := 42) xD_141 rfl rfl rfl rfl ?_
      refine m_iald (pc' := 43) (q0) xD_141 rfl (by first | rfl | assumption) (by first | assumption | omega) (by first | decide | assumption) (by first | decide | omega) (by first | rfl | assumption) rfl ?_
      rw [b3]
      refine y_icge (pt := 79) (pf := 46) xD_141 rfl rfl rfl (fun h43 => ?_) (fun h43 => ?_)
      · skip
        refine y_loc (pc' := 80) xD_141 rfl rfl rfl rfl ?_
        first | refine m_getR (pc' := 83) xD_141 rfl rfl rfl rfl (hR.1 _ _ _ rfl) rfl ?_ | refine m_getR (pc' := 83) xD_141 rfl rfl (by first | rfl | assumption) rfl (by assumption) rfl ?_
        refine y_loc (pc' := 84) xD_141 rfl rfl rfl rfl ?_
        refine y_loc (pc' := 86) xD_141 rfl rfl rfl rfl ?_
        refine m_iast (pc' := 87) (to) xD_141 rfl (by first | rfl | assumption) (by first | assumption | omega) (by first | decide | assumption) (by first | rfl | assumption) rfl ?_
        refine y_retV xD_141 rfl rfl ?_
        exact ⟨rfl, g, hg, rfl⟩
      · skip
        refine y_loc (pc' := 48) xD_141 rfl rfl rfl rfl ?_
        refine y_ci (pc' := 50) (6) xD_141 rfl rfl rfl rfl ?_
        refine y_icge (pt := 79) (pf := 53) xD_141 rfl rfl rfl (fun h50 => ?_) (fun h50 => ?_)
        · skip
          refine y_loc (pc' := 80) xD_141 rfl rfl rfl rfl ?_
          first | refine m_getR (pc' := 83) xD_141 rfl rfl rfl rfl (hR.1 _ _ _ rfl) rfl ?_ | refine m_getR (pc' := 83) xD_141 rfl rfl (by first | rfl | assumption) rfl (by assumption) rfl ?_
          refine y_loc (pc' := 84) xD_141 rfl rfl rfl rfl ?_
          refine y_loc (pc' := 86) xD_141 rfl rfl rfl rfl ?_
          refine m_iast (pc' := 87) (to) xD_141 rfl (by first | rfl | assumption) (by first | assumption | omega) (by first | decide | assumption) (by first | rfl | assumption) rfl ?_
          refine y_retV xD_141 rfl rfl ?_
          exact ⟨rfl, g, hg, rfl⟩
        · skip
          exact (hk6.2.2.2.elim (fun h => absurd (show (6 : Int32) ≤ nI i by rw [h]; decide) h50) (fun h => absurd ((nI_leI (by omega) (by omega)).mpr (by omega)) h43))
    | succ f ih =>
      intro i g hi hsi hg
      have a5 : nI i + 1 = nI (i + 1) := nI_1 i
      have a6 : nI (i - s + t) + 1 = nI (i + 1 - s + t) := by rw [nI_1]; congr 1; omega
      have up : ∀ w : Int32, w = jnO (slM I p) (slM I q0) s t i 3 → ∀ i' q, i' < i + 1 → q < 4 → w4 g (4 * i) (slM I q0 (4 * (i - s + t))) (slM I q0 (4 * (i - s + t) + 1)) (slM I q0 (4 * (i - s + t) + 2)) w (4 * i' + q) = jnO (slM I p) (slM I q0) s t i' q := by
        intro w hw i' q hi' hq
        rw [w4_pt hq]
        by_cases h : i' = i
        · subst h
          rw [if_pos rfl]
          by_cases q0' : q = 0
          · rw [if_pos q0', q0']; unfold jnO; rw [if_neg (by omega), if_pos (by decide)]; rfl
          · by_cases q1 : q = 1
            · rw [if_neg q0', if_pos q1, q1]; unfold jnO; rw [if_neg (by omega), if_pos (by decide)]
            · by_cases q2 : q = 2
              · rw [if_neg q0', if_neg q1, if_pos q2, q2]; unfold jnO; rw [if_neg (by omega), if_neg (by decide), if_pos rfl]
              · rw [if_neg q0', if_neg q1, if_neg q2, show q = 3 by omega]; exact hw
        · rw [if_neg h]; exact hg i' q (by omega) hq
      have t3 : (if slM I q0 (4 * (i - s + t) + 3) < 0 ∨ slM I q0 (4 * (i - s + t) + 3) < nI t then -1 else slM I q0 (4 * (i - s + t) + 3) + (nI s - nI t)) = jnO (slM I p) (slM I q0) s t i 3 := by
        unfold jnO
        rw [if_neg (show ¬ i < s by omega), if_neg (show ¬ (3 : Nat) < 2 by decide), if_neg (show ¬ (3 : Nat) = 2 by decide)]
        by_cases h : slM I q0 (4 * (i - s + t) + 3) < nI t
        · rw [if_pos (Or.inr h), if_pos h]
        · have h0 : ¬ slM I q0 (4 * (i - s + t) + 3) < 0 := fun q => h (Int32.lt_of_lt_of_le q (Int32.not_lt.mp (nI_pos (by omega))))
          rw [if_neg (show ¬ (slM I q0 (4 * (i - s + t) + 3) < 0 ∨ slM I q0 (4 * (i - s + t) + 3) < nI t) from fun q => q.elim h0 h), if_neg h, Int32.sub_eq_add_neg, Int32.sub_eq_add_neg, Int32.add_assoc, Int32.add_comm (nI s)]
      refine y_loc (pc' := 36) xD_141 rfl rfl rfl rfl ?_
      refine y_loc (pc' := 37) xD_141 rfl rfl rfl rfl ?_
      first | refine m_getR (pc' := 40) xD_141 rfl rfl rfl rfl (hR.1 _ _ _ rfl) rfl ?_ | refine m_getR (pc' := 40) xD_141 rfl rfl (by first | rfl | assumption) rfl (by assumption) rfl ?_
      refine y_loc (pc' := 42) xD_141 rfl rfl rfl rfl ?_
      refine m_iald (pc' := 43) (q0) xD_141 rfl (by first | rfl | assumption) (by first | assumption | omega) (by first | decide | assumption) (by first | decide | omega) (by first | rfl | assumption) rfl ?_
      rw [b3]
      refine y_icge (pt := 79) (pf := 46) xD_141 rfl rfl rfl (fun h43 => ?_) (fun h43 => ?_)
      · skip
        first | exact absurd h50 (nI_ge (b := 6) (by omega) (by decide)) | exact absurd h43 (nI_ge (by omega) (by omega))
      · skip
        refine y_loc (pc' := 48) xD_141 rfl rfl rfl rfl ?_
        refine y_ci (pc' := 50) (6) xD_141 rfl rfl rfl rfl ?_
        refine y_icge (pt := 79) (pf := 53) xD_141 rfl rfl rfl (fun h50 => ?_) (fun h50 => ?_)
        · skip
          first | exact absurd h50 (nI_ge (b := 6) (by omega) (by decide)) | exact absurd h43 (nI_ge (by omega) (by omega))
        · skip
          refine y_loc (pc' := 54) xD_141 rfl rfl rfl rfl ?_
          refine y_loc (pc' := 56) xD_141 rfl rfl rfl rfl ?_
          refine y_loc (pc' := 58) xD_141 rfl rfl rfl rfl ?_
          refine y_loc (pc' := 59) xD_141 rfl rfl rfl rfl ?_
          refine y_loc (pc' := 61) xD_141 rfl rfl rfl rfl ?_
          refine y_loc (pc' := 63) xD_141 rfl rfl rfl rfl ?_
          refine y_loc (pc' := 64) xD_141 rfl rfl rfl rfl ?_
          refine y_loc (pc' := 66) xD_141 rfl rfl rfl rfl ?_
          refine y_op (pc' := 67) xD_141 rfl rfl rfl rfl ?_
          refine y_callV xD_141 rfl rfl rfl rfl (by first | rfl | assumption) rfl rfl rfl rfl (s_move (d := d) hR hq0 ht hqt g (i - s + t) i (by omega) (by omega) (hW _ (by omega)) e4 rfl e1 rfl) (fun v h' hq => ?_)
          obtain ⟨rfl, rfl⟩ := hq
          refine y_inc (pc' := 73) (nI (i + 1)) xD_141 rfl rfl rfl a5 rfl rfl ?_
          refine y_inc (pc' := 76) (nI (i + 1 - s + t)) xD_141 rfl rfl rfl a6 rfl rfl ?_
          refine y_goto (pc' := 34) xD_141 rfl rfl ?_
          exact ih (i + 1) _ (by omega) (by omega) (up _ t3)
          skip
  have loop1 : ∀ (f i : Nat) (g : Nat → Int32), i + f = s → (∀ i' q, i' < i → q < 4 → g (4 * i' + q) = jnO (slM I p) (slM I q0) s t i' q) →
      XP S (d + 2) 141 3 [some (.ref 261), some (.int x1), some (.int x2), some (.int (nI s)), some (.int x4), some (.int (nI t)), some (.int (nI i)), none] [] (hh (xrow I 262 (sl1 (I 262) to g)) J R) (fun v h' => v = none ∧ ∃ g, (∀ i q, i < k → q < 4 → g (4 * i + q) = jnO (slM I p) (slM I q0) s t i q) ∧ h' = hh (xu (xrow I 262 (sl1 (I 262) to g)) 263 to (nI k)) J R) := by
    intro f
    induction f with
    | zero =>
      intro i g hi hg
      have hi : i = s := by omega
      subst hi
      refine y_loc (pc' := 5) xD_141 rfl rfl rfl rfl ?_
      refine y_loc (pc' := 6) xD_141 rfl rfl rfl rfl ?_
      refine y_icge (pt := 27) (pf := 9) xD_141 rfl rfl rfl (fun h6 => ?_) (fun h6 => ?_)
      · skip
        refine y_loc (pc' := 28) xD_141 rfl rfl rfl rfl ?_
        refine y_loc (pc' := 30) xD_141 rfl rfl rfl rfl ?_
        refine y_loc (pc' := 32) xD_141 rfl rfl rfl rfl ?_
        refine y_loc (pc' := 34) xD_141 rfl rfl rfl rfl ?_
        have := loop2 (k - i) i g (by omega) (Nat.le_refl _) hg
        rw [show i - i + t = t by omega] at this
        exact this
      · exact absurd (Int32.le_refl _) h6
    | succ f ih =>
      intro i g hi hg
      have a5 : nI i + 1 = nI (i + 1) := nI_1 i
      have h3 : (if slM I p (4 * i + 3) < 0 ∨ slM I p (4 * i + 3) < 0 then -1 else slM I p (4 * i + 3) + 0) = slM I p (4 * i + 3) := by
        rcases (hV i (by omega)).2 with e | ⟨r, _, e, _⟩
        · rw [e]; decide
        · rw [if_neg (by rw [e]; exact fun q => q.elim (nI_pos (by omega)) (nI_pos (by omega))), Int32.add_zero]
      refine y_loc (pc' := 5) xD_141 rfl rfl rfl rfl ?_
      refine y_loc (pc' := 6) xD_141 rfl rfl rfl rfl ?_
      refine y_icge (pt := 27) (pf := 9) xD_141 rfl rfl rfl (fun h6 => ?_) (fun h6 => ?_)
      · skip
        exact absurd h6 (nI_ge (by omega) (by omega))
      · skip
        refine y_loc (pc' := 10) xD_141 rfl rfl rfl rfl ?_
        refine y_loc (pc' := 11) xD_141 rfl rfl rfl rfl ?_
        refine y_loc (pc' := 13) xD_141 rfl rfl rfl rfl ?_
        refine y_loc (pc' := 14) xD_141 rfl rfl rfl rfl ?_
        refine y_loc (pc' := 16) xD_141 rfl rfl rfl rfl ?_
        refine y_ci (pc' := 17) (0) xD_141 rfl rfl rfl rfl ?_
        refine y_ci (pc' := 18) (0) xD_141 rfl rfl rfl rfl ?_
        refine y_callV xD_141 rfl rfl rfl rfl (by first | rfl | assumption) rfl rfl rfl rfl (s_move (d := d) hR hp ht hpt g i i (by omega) (by omega) (hV _ (by omega)) e2 rfl e1 rfl) (fun v h' hq => ?_)
        obtain ⟨rfl, rfl⟩ := hq
        refine y_inc (pc' := 24) (nI (i + 1)) xD_141 rfl rfl rfl a5 rfl rfl ?_
        refine y_goto (pc' := 3) xD_141 rfl rfl ?_
        refine ih (i + 1) _ (by omega) (fun i' q hi' hq => ?_)
        rw [h3, w4_pt hq]
        have hjn : jnO (slM I p) (slM I q0) s t i' q = slM I p (4 * i' + q) := by unfold jnO; rw [if_pos (by omega)]
        by_cases h : i' = i
        · rw [if_pos h, hjn, h]
          by_cases q0' : q = 0
          · rw [if_pos q0', q0']; rfl
          · by_cases q1 : q = 1
            · rw [if_neg q0', if_pos q1, q1]
            · by_cases q2 : q = 2
              · rw [if_neg q0', if_neg q1, if_pos q2, q2]
              · rw [if_neg q0', if_neg q1, if_neg q2, show q = 3 by omega]
        · rw [if_neg h]; exact hg i' q (by omega) hq
        skip
  refine y_ci (pc' := 1) (0) xD_141 rfl rfl rfl rfl ?_
  refine y_loc (pc' := 3) xD_141 rfl rfl rfl rfl ?_
  have e : xrow I 262 (sl1 (I 262) to (slM I to)) = I := by
    refine Eq.trans ?_ (xrow_id (f := I) (a := 262))
    congr 1
    funext i
    unfold sl1 slM
    by_cases h : i / 24 = to
    · rw [if_pos h]; congr 1; omega
    · rw [if_neg h]
  have key := loop1 s 0 (slM I to) (by omega) (fun i' q hi' _ => by omega)
  rw [e] at key
  exact key
end MJ

