/-! A slot changed. -/
theorem isS_c {I I' : Nat → Nat → Int32} (h4 : I' 264 = I 264) (h5 : I' 265 = I 265) : isS I' = isS I := by
  funext q
  unfold isS lnM cdM
  rw [h4, h5]
theorem scnt_c {I I' : Nat → Nat → Int32} (h4 : I' 264 = I 264) (h5 : I' 265 = I 265) : ∀ n, scnt I' n = scnt I n
  | 0 => rfl
  | n + 1 => by
    simp only [scnt]
    rw [isS_c h4 h5, scnt_c h4 h5 n]
theorem PL_c {I I' : Nat → Nat → Int32} (h5 : I' 265 = I 265) (h : PL I) : PL I' := by
  intro m hm
  have := h m hm
  unfold lnM at this ⊢
  rw [h5]
  exact this
section MC
variable {S : XS} {d s : Nat} {I : Nat → Nat → Int32} {J : Nat → Nat → Int64} {R : Nat → Nat → Option Nat}
theorem s_mchange (hR : RF R) (hs : s < 67) (hL : PL I) (cc : Nat) (hcc : cc = scnt I 20) (con : Nat → Int32) (hcon : ∀ q, q < 20 → isS I q → con (scnt I q) = cdM I (q / 10) (q % 10) 3) (n : Nat) (hn : I 263 s = nI n) (hn0 : 0 < n) (hn6 : n ≤ 6) (hV : ∀ j, j < n → VT (slM I s) j) {xs : Int32} (e0 : xs = nI s) :
    XP S (d + 4) 143 0 (xent [.ref 261, .int xs] 8) [] (hh I J R) (fun v h' => v = none ∧ ∃ g, (∀ i q, i < chN n (J 261 14) → q < 4 → g (4 * i + q) = chG cc con (slM I s) n (J 261 14) i q) ∧ h' = hh (xu (xrow I 262 (sl1 (I 262) s g)) 263 s (nI (chN n (J 261 14)))) (xu J 261 14 (chB (slM I s) n (J 261 14))) R) := by
  have h3 := dv_lt (dn (J 261 14)) (n := 3) (by decide)
  have hp := dv_lt (dn (dn (J 261 14))) (n := n) hn0
  have hp1 := dv_lt (dn (dn (J 261 14))) (n := n + 1) (by omega)
  have e : xrow I 262 (sl1 (I 262) s (slM I s)) = I := by
    refine Eq.trans ?_ (xrow_id (f := I) (a := 262))
    congr 1
    funext i
    unfold sl1 slM
    by_cases h : i / 24 = s
    · rw [if_pos h]; congr 1; omega
    · rw [if_neg h]
  have same : xu (xrow I 262 (sl1 (I 262) s (slM I s))) 263 s (nI n) = I := by rw [e, xu_same hn]
  refine y_loc (pc' := 1) xD_143 rfl rfl rfl rfl ?_
  refine y_ci (pc' := 2) (3) xD_143 rfl rfl rfl rfl ?_
  refine y_callV xD_143 rfl rfl rfl rfl (by first | rfl | assumption) rfl rfl rfl rfl (s_mdraw 3 (by decide) (by decide) rfl) (fun v h' hq => ?_)
  obtain ⟨rfl, rfl⟩ := hq
  refine y_loc (pc' := 6) xD_143 rfl rfl rfl rfl ?_
  refine y_loc (pc' := 7) xD_143 rfl rfl rfl rfl ?_
  first | refine m_getR (pc' := 10) xD_143 rfl rfl rfl rfl (hR.1 _ _ _ rfl) rfl ?_ | refine m_getR (pc' := 10) xD_143 rfl rfl (by first | rfl | assumption) rfl (by assumption) rfl ?_
  refine y_loc (pc' := 11) xD_143 rfl rfl rfl rfl ?_
  refine m_iald (pc' := 12) (s) xD_143 rfl (by first | rfl | assumption) (by first | assumption | omega) (by first | decide | assumption) (by first | decide | omega) (by first | rfl | assumption) rfl ?_
  rw [hn]
  refine y_loc (pc' := 13) xD_143 rfl rfl rfl rfl ?_
  refine y_loc (pc' := 14) xD_143 rfl rfl rfl rfl ?_
  refine y_ifne (pt := 49) (pf := 17) xD_143 rfl rfl rfl (fun h14 => ?_) (fun h14 => ?_)
  · skip
    have u0 : ¬ dv (dn (J 261 14)) 3 = 0 := fun q => h14 ((nI_z (by omega)).mpr q)
    refine y_loc (pc' := 50) xD_143 rfl rfl rfl rfl ?_
    refine y_ci (pc' := 51) (1) xD_143 rfl rfl rfl rfl ?_
    refine y_icne (pt := 76) (pf := 54) xD_143 rfl rfl rfl (fun h51 => ?_) (fun h51 => ?_)
    · skip
      have u1 : ¬ dv (dn (J 261 14)) 3 = 1 := fun q => h51 (by rw [q]; rfl)
      sorry
    · skip
      have u1 : dv (dn (J 261 14)) 3 = 1 := (nI_eq (b := 1) (by omega) (by decide)).mp h51
      refine y_loc (pc' := 55) xD_143 rfl rfl rfl rfl ?_
      refine y_ci (pc' := 56) (1) xD_143 rfl rfl rfl rfl ?_
      refine y_icle (pt := 76) (pf := 59) xD_143 rfl rfl rfl (fun h56 => ?_) (fun h56 => ?_)
      · skip
        have n1 : ¬ 1 < n := Nat.not_lt.mpr ((nI_leI (b := 1) (by omega) (by decide)).mp h56)
        refine y_loc (pc' := 77) xD_143 rfl rfl rfl rfl ?_
        refine y_ci (pc' := 78) (2) xD_143 rfl rfl rfl rfl ?_
        refine y_icne (pt := 191) (pf := 81) xD_143 rfl rfl rfl (fun h78 => ?_) (fun h78 => ?_)
        · skip
          refine y_retV xD_143 rfl rfl ?_
          refine ⟨rfl, slM I s, fun i q _ hq => ?_, ?_⟩
          · unfold chG
            rw [if_neg u0, if_pos u1, if_neg n1]
          · unfold chB chN
            rw [if_neg u0, if_pos u1, if_neg n1, if_neg u0, if_pos u1, if_neg n1, same]
        · exact absurd (h51.symm.trans h78) (by decide)
      · skip
        have n1 : 1 < n := Nat.lt_of_not_le (fun q => h56 ((nI_leI (b := 1) (by omega) (by decide)).mpr q))
        obtain ⟨m, rfl⟩ : ∃ m, n = m + 1 := ⟨n - 1, by omega⟩
        refine y_loc (pc' := 60) xD_143 rfl rfl rfl rfl ?_
        refine y_loc (pc' := 61) xD_143 rfl rfl rfl rfl ?_
        refine y_callV xD_143 rfl rfl rfl rfl (by first | rfl | assumption) rfl rfl rfl rfl (s_mdraw (m + 1) hn0 (by omega) rfl) (fun v h' hq => ?_)
        obtain ⟨rfl, rfl⟩ := hq
        rw [xu_ii, xu_xu]
        refine y_loc (pc' := 66) xD_143 rfl rfl rfl rfl ?_
        refine y_loc (pc' := 67) xD_143 rfl rfl rfl rfl ?_
        refine y_loc (pc' := 68) xD_143 rfl rfl rfl rfl ?_
        refine y_loc (pc' := 70) xD_143 rfl rfl rfl rfl ?_
        refine y_callV xD_143 rfl rfl rfl rfl rfl rfl rfl rfl rfl (s_mtakeOut (d := d + 2) hR hs m _ hn hn6 (Nat.le_of_lt_succ hp) hV e0 rfl) (fun v h' hq => ?_)
        obtain ⟨rfl, g, hg, rfl⟩ := hq
        refine y_goto (pc' := 191) xD_143 rfl rfl ?_
        refine y_retV xD_143 rfl rfl ?_
        refine ⟨rfl, g, fun i q hi hq => ?_, ?_⟩
        · unfold chN at hi
          rw [if_neg u0, if_pos u1, if_pos n1] at hi
          unfold chG
          rw [if_neg u0, if_pos u1, if_pos n1]
          exact hg i q (by omega) hq
        · unfold chB chN
          rw [if_neg u0, if_pos u1, if_pos n1, if_neg u0, if_pos u1, if_pos n1]
          rfl
  · skip
    have u0 : dv (dn (J 261 14)) 3 = 0 := (nI_z (by omega)).mp h14
    refine y_loc (pc' := 18) xD_143 rfl rfl rfl rfl ?_
    refine y_ci (pc' := 20) (6) xD_143 rfl rfl rfl rfl ?_
    refine y_icge (pt := 49) (pf := 23) xD_143 rfl rfl rfl (fun h20 => ?_) (fun h20 => ?_)
    · skip
      have n6 : ¬ n < 6 := Nat.not_lt.mpr ((nI_leI (a := 6) (by decide) (by omega)).mp h20)
      refine y_loc (pc' := 50) xD_143 rfl rfl rfl rfl ?_
      refine y_ci (pc' := 51) (1) xD_143 rfl rfl rfl rfl ?_
      refine y_icne (pt := 76) (pf := 54) xD_143 rfl rfl rfl (fun h51 => ?_) (fun h51 => ?_)
      · skip
        refine y_loc (pc' := 77) xD_143 rfl rfl rfl rfl ?_
        refine y_ci (pc' := 78) (2) xD_143 rfl rfl rfl rfl ?_
        refine y_icne (pt := 191) (pf := 81) xD_143 rfl rfl rfl (fun h78 => ?_) (fun h78 => ?_)
        · skip
          refine y_retV xD_143 rfl rfl ?_
          refine ⟨rfl, slM I s, fun i q _ hq => ?_, ?_⟩
          · unfold chG
            rw [if_pos u0, if_neg n6]
          · unfold chB chN
            rw [if_pos u0, if_neg n6, if_pos u0, if_neg n6, same]
        · exact absurd (h14.symm.trans h78) (by decide)
      · exact absurd (h14.symm.trans h51) (by decide)
    · skip
      have n6 : n < 6 := Nat.lt_of_not_le (fun q => h20 ((nI_leI (a := 6) (by decide) (by omega)).mpr q))
      refine y_loc (pc' := 24) xD_143 rfl rfl rfl rfl ?_
      refine y_loc (pc' := 25) xD_143 rfl rfl rfl rfl ?_
      refine y_ci (pc' := 26) (1) xD_143 rfl rfl rfl rfl ?_
      refine y_iadd (pc' := 27) xD_143 rfl (nI_1 n) rfl ?_
      refine y_callV xD_143 rfl rfl rfl rfl (by first | rfl | assumption) rfl rfl rfl rfl (s_mdraw (n + 1) (by omega) (by omega) rfl) (fun v h' hq => ?_)
      obtain ⟨rfl, rfl⟩ := hq
      rw [xu_ii, xu_xu]
      refine y_loc (pc' := 32) xD_143 rfl rfl rfl rfl ?_
      refine y_loc (pc' := 33) xD_143 rfl rfl rfl rfl ?_
      refine y_loc (pc' := 34) xD_143 rfl rfl rfl rfl ?_
      refine y_loc (pc' := 36) xD_143 rfl rfl rfl rfl ?_
      refine y_callV xD_143 rfl rfl rfl rfl rfl rfl rfl rfl rfl (s_mmakeRoom (d := d + 2) hR hs n _ hn n6 (Nat.le_of_lt_succ hp1) hV e0 rfl) (fun v h' hq => ?_)
      obtain ⟨rfl, g, hg, rfl⟩ := hq
      refine y_loc (pc' := 40) xD_143 rfl rfl rfl rfl ?_
      refine y_loc (pc' := 41) xD_143 rfl rfl rfl rfl ?_
      refine y_loc (pc' := 43) xD_143 rfl rfl rfl rfl ?_
      have c4 : xu (xrow I 262 (sl1 (I 262) s g)) 263 s (nI (n + 1)) 264 = I 264 := by funext y; unfold xu; rw [if_neg (fun q => absurd q.1 (by decide)), xrow_ne (by decide)]
      have c5 : xu (xrow I 262 (sl1 (I 262) s g)) 263 s (nI (n + 1)) 265 = I 265 := by funext y; unfold xu; rw [if_neg (fun q => absurd q.1 (by decide)), xrow_ne (by decide)]
      have c2 : xu (xrow I 262 (sl1 (I 262) s g)) 263 s (nI (n + 1)) 262 = sl1 (I 262) s g := by funext y; unfold xu; rw [if_neg (fun q => absurd q.1 (by decide)), xrow_at]
      refine y_callV xD_143 rfl rfl rfl rfl rfl rfl rfl rfl rfl (s_mdrawStep (d := d) hR hs (PL_c c5 hL) cc (by rw [scnt_c c4 c5]; exact hcc) con (fun q hq hS => by rw [scnt_c c4 c5]; unfold cdM; rw [c4]; exact hcon q hq (by rw [isS_c c4 c5] at hS; exact hS)) _ (Nat.lt_of_lt_of_le hp1 (by omega)) e0 rfl) (fun v h' hq => ?_)
      obtain ⟨rfl, rfl⟩ := hq
      rw [c2, xu_ii, xu_xu, w4_sl1 (Nat.lt_of_lt_of_le hp1 (by omega)), sl1_sl1]
      refine y_goto (pc' := 191) xD_143 rfl rfl ?_
      refine y_retV xD_143 rfl rfl ?_
      refine ⟨rfl, w4 (fun q => sl1 (I 262) s g (24 * s + q)) (4 * (dv (dn (dn (J 261 14))) (n + 1))) (dK (dn (dn (J 261 14)))) (dX cc con (dn (dn (J 261 14)))) (dY cc con (dv (dn (dn (J 261 14))) (n + 1)) (dn (dn (J 261 14)))) (dF (dv (dn (dn (J 261 14))) (n + 1)) (dn (dn (J 261 14)))), fun i q hi hq => ?_, ?_⟩
      · unfold chN at hi
        rw [if_pos u0, if_pos n6] at hi
        unfold chG st4
        rw [if_pos u0, if_pos n6, w4_pt hq]
        by_cases h : i = (dv (dn (dn (J 261 14))) (n + 1))
        · rw [if_pos h, if_pos h]
        · rw [if_neg h, if_neg h, sl1_at (by omega)]
          exact hg i q hi h hq
      · unfold chB chN
        rw [if_pos u0, if_pos n6, if_pos u0, if_pos n6, ← xu_row_c (show (263 : Nat) ≠ 262 by decide), xrow_row]
end MC

