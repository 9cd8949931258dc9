/-! Steps and cases drawn. -/
theorem w2_w4 {f : Nat → Int32} {b : Nat} {k x y r y' r' : Int32} : w2 (w4 f b k x y r) b y' r' = w4 f b k x y' r' := by
  funext j
  unfold w2 w4
  by_cases h3 : j = b + 3
  · subst h3; rw [pk_us, pk_us]
  · rw [pk_un h3, pk_un h3]
    by_cases h2 : j = b + 2
    · subst h2; rw [pk_us, pk_us]
    · rw [pk_un h2, pk_un h2, pk_un h3, pk_un h2]
section MS
variable {S : XS} {d a s : Nat} {I : Nat → Nat → Int32} {J : Nat → Nat → Int64} {R : Nat → Nat → Option Nat}
theorem s_mdrawStep (hR : RF R) (hs : s < 67) (hL : PL I) (cc : Nat) (hcc : cc = scnt I 20) (con : Nat → Int32) (hcon : ∀ q, q < 20 → isS I q → con (scnt I q) = cdM I (q / 10) (q % 10) 3) (i : Nat) (hi : i < 6) {xs xi : Int32} (e0 : xs = nI s) (e1 : xi = nI i) : XP S (d + 3) 119 0 (xent [.ref 261, .int xs, .int xi] 7) [] (hh I J R) (rV (hh (xrow I 262 (w4 (I 262) (24 * s + 4 * i) (dK (J 261 14)) (dX cc con (J 261 14)) (dY cc con i (J 261 14)) (dF i (J 261 14)))) (xu J 261 14 (dS i (J 261 14))) R)) := by
  have h5 := dv_lt (dn (J 261 14)) (n := 5) (by decide)
  have h2 := dv_lt (dn (dn (dn (dn (J 261 14))))) (n := i + 2) (by omega)
  have e44 : ∀ t : Nat, (4 : Int32) + nI t = nI (4 + t) := fun t => by show nI 4 + nI t = _; rw [nI_add]
  have ek : nI (dv (dn (J 261 14)) 5) / 2 = nI (dv (dn (J 261 14)) 5 / 2) := pk_div (d := 2) (by omega) (by decide) (by decide)
  have hlt : ¬ xi ≤ nI (dv (dn (dn (dn (dn (J 261 14))))) (i + 2)) → dv (dn (dn (dn (dn (J 261 14))))) (i + 2) < i := fun h => Nat.lt_of_not_le (fun q => h (by rw [e1]; exact (nI_leI (by omega) (by omega)).mpr q))
  have hge : xi ≤ nI (dv (dn (dn (dn (dn (J 261 14))))) (i + 2)) → ¬ dv (dn (dn (dn (dn (J 261 14))))) (i + 2) < i := fun h => Nat.not_lt.mpr ((nI_leI (by omega) (by omega)).mp (by rw [← e1]; exact h))
  refine y_loc (pc' := 1) xD_119 rfl rfl rfl rfl ?_
  refine y_ci (pc' := 2) (5) xD_119 rfl rfl rfl rfl ?_
  refine y_callV xD_119 rfl rfl rfl rfl (by first | rfl | assumption) rfl rfl rfl rfl (s_mdraw 5 (by decide) (by decide) rfl) (fun v h' hq => ?_)
  obtain ⟨rfl, rfl⟩ := hq
  refine y_loc (pc' := 6) xD_119 rfl rfl rfl rfl ?_
  refine y_loc (pc' := 7) xD_119 rfl rfl rfl rfl ?_
  refine y_ci (pc' := 8) (4) xD_119 rfl rfl rfl rfl ?_
  refine y_icne (pt := 37) (pf := 11) xD_119 rfl rfl rfl (fun h8 => ?_) (fun h8 => ?_)
  · skip
    refine y_loc (pc' := 38) xD_119 rfl rfl rfl rfl ?_
    have hq : ¬ dv (dn (J 261 14)) 5 = 4 := fun q => h8 (by rw [q]; rfl)
    refine y_callV xD_119 rfl rfl rfl rfl (by first | rfl | assumption) rfl rfl rfl rfl (s_mdrawNumber (d := d) hR hL cc hcc con hcon) (fun v h' hq => ?_)
    obtain ⟨rfl, rfl⟩ := hq
    rw [xu_ii, xu_xu]
    refine y_loc (pc' := 43) xD_119 rfl rfl rfl rfl ?_
    refine y_loc (pc' := 44) xD_119 rfl rfl rfl rfl ?_
    refine y_loc (pc' := 45) xD_119 rfl rfl rfl rfl ?_
    refine y_ci (pc' := 46) (2) xD_119 rfl rfl rfl rfl ?_
    refine y_op (pc' := 47) xD_119 rfl rfl rfl rfl ?_
    refine y_callV xD_119 rfl rfl rfl rfl (by first | rfl | assumption) rfl rfl rfl rfl (s_mdraw (i + 2) (by omega) (by omega) (by rw [e1]; exact nI_add i 2)) (fun v h' hq => ?_)
    obtain ⟨rfl, rfl⟩ := hq
    rw [xu_ii, xu_xu]
    refine y_loc (pc' := 52) xD_119 rfl rfl rfl rfl ?_
    refine y_loc (pc' := 54) xD_119 rfl rfl rfl rfl ?_
    refine y_loc (pc' := 55) xD_119 rfl rfl rfl rfl ?_
    refine y_icge (pt := 62) (pf := 58) xD_119 rfl rfl rfl (fun h55 => ?_) (fun h55 => ?_)
    · skip
      refine y_loc (pc' := 63) xD_119 rfl rfl rfl rfl ?_
      refine y_callV xD_119 rfl rfl rfl rfl (by first | rfl | assumption) rfl rfl rfl rfl (s_mdrawNumber (d := d) hR hL cc hcc con hcon) (fun v h' hq => ?_)
      obtain ⟨rfl, rfl⟩ := hq
      rw [xu_ii, xu_xu]
      refine y_loc (pc' := 68) xD_119 rfl rfl rfl rfl ?_
      refine y_loc (pc' := 69) xD_119 rfl rfl rfl rfl ?_
      refine y_loc (pc' := 70) xD_119 rfl rfl rfl rfl ?_
      refine y_loc (pc' := 71) xD_119 rfl rfl rfl rfl ?_
      refine y_loc (pc' := 72) xD_119 rfl rfl rfl rfl ?_
      refine y_ci (pc' := 73) (2) xD_119 rfl rfl rfl rfl ?_
      refine y_op (pc' := 74) xD_119 rfl rfl (show (if (2 : Int32) = 0 then none else some _) = some _ from if_neg (by decide)) rfl ?_
      refine y_loc (pc' := 76) xD_119 rfl rfl rfl rfl ?_
      refine y_callV xD_119 rfl rfl rfl rfl (by first | rfl | assumption) rfl rfl rfl rfl (s_mwrite hR hs i hi e0 e1) (fun v h' hq => ?_)
      obtain ⟨rfl, rfl⟩ := hq
      refine y_loc (pc' := 80) xD_119 rfl rfl rfl rfl ?_
      refine y_loc (pc' := 81) xD_119 rfl rfl rfl rfl ?_
      refine y_loc (pc' := 82) xD_119 rfl rfl rfl rfl ?_
      refine y_loc (pc' := 84) xD_119 rfl rfl rfl rfl ?_
      refine y_loc (pc' := 86) xD_119 rfl rfl rfl rfl ?_
      refine y_loc (pc' := 87) xD_119 rfl rfl rfl rfl ?_
      refine y_icge (pt := 95) (pf := 90) xD_119 rfl rfl rfl (fun h87 => ?_) (fun h87 => ?_)
      · skip
        first
        | exact absurd h87 h55
        | (refine y_ci (pc' := 96) (-1) xD_119 rfl rfl rfl rfl ?_
           refine y_callV xD_119 rfl rfl rfl rfl rfl rfl rfl rfl rfl (s_msecond hR hs i hi e0 e1) (fun v h' hq' => ?_)
           obtain ⟨rfl, rfl⟩ := hq'
           refine y_retV xD_119 rfl rfl ?_
           refine ⟨rfl, ?_⟩
           rw [xrow_row, xrow_at, w2_w4]
           unfold dK dX dY dF dS
           simp only [if_neg hq, if_neg (hge h55), if_pos (show (-1 : Int32) < 0 by decide)]
           rw [← ek])
      · skip
        refine y_loc (pc' := 92) xD_119 rfl rfl rfl rfl ?_
        refine y_goto (pc' := 96) xD_119 rfl rfl ?_
        refine y_callV xD_119 rfl rfl rfl rfl (by first | rfl | assumption) rfl rfl rfl rfl (s_msecond hR hs i hi e0 e1) (fun v h' hq => ?_)
        obtain ⟨rfl, rfl⟩ := hq
        refine y_retV xD_119 rfl rfl ?_
        first
          | exact absurd h55 h87
          | exact absurd h87 h55
          | (refine ⟨rfl, ?_⟩
             rw [xrow_row, xrow_at, w2_w4]
             unfold dK dX dY dF dS
             simp only [if_neg hq, if_pos (hlt h55), ite_self]
             rw [← ek])
    · skip
      refine y_ci (pc' := 59) (0) xD_119 rfl rfl rfl rfl ?_
      refine y_goto (pc' := 66) xD_119 rfl rfl ?_
      refine y_loc (pc' := 68) xD_119 rfl rfl rfl rfl ?_
      refine y_loc (pc' := 69) xD_119 rfl rfl rfl rfl ?_
      refine y_loc (pc' := 70) xD_119 rfl rfl rfl rfl ?_
      refine y_loc (pc' := 71) xD_119 rfl rfl rfl rfl ?_
      refine y_loc (pc' := 72) xD_119 rfl rfl rfl rfl ?_
      refine y_ci (pc' := 73) (2) xD_119 rfl rfl rfl rfl ?_
      refine y_op (pc' := 74) xD_119 rfl rfl (show (if (2 : Int32) = 0 then none else some _) = some _ from if_neg (by decide)) rfl ?_
      refine y_loc (pc' := 76) xD_119 rfl rfl rfl rfl ?_
      refine y_callV xD_119 rfl rfl rfl rfl (by first | rfl | assumption) rfl rfl rfl rfl (s_mwrite hR hs i hi e0 e1) (fun v h' hq => ?_)
      obtain ⟨rfl, rfl⟩ := hq
      refine y_loc (pc' := 80) xD_119 rfl rfl rfl rfl ?_
      refine y_loc (pc' := 81) xD_119 rfl rfl rfl rfl ?_
      refine y_loc (pc' := 82) xD_119 rfl rfl rfl rfl ?_
      refine y_loc (pc' := 84) xD_119 rfl rfl rfl rfl ?_
      refine y_loc (pc' := 86) xD_119 rfl rfl rfl rfl ?_
      refine y_loc (pc' := 87) xD_119 rfl rfl rfl rfl ?_
      refine y_icge (pt := 95) (pf := 90) xD_119 rfl rfl rfl (fun h87 => ?_) (fun h87 => ?_)
      · skip
        first
        | exact absurd h87 h55
        | (refine y_ci (pc' := 96) (-1) xD_119 rfl rfl rfl rfl ?_
           refine y_callV xD_119 rfl rfl rfl rfl rfl rfl rfl rfl rfl (s_msecond hR hs i hi e0 e1) (fun v h' hq' => ?_)
           obtain ⟨rfl, rfl⟩ := hq'
           refine y_retV xD_119 rfl rfl ?_
           refine ⟨rfl, ?_⟩
           rw [xrow_row, xrow_at, w2_w4]
           unfold dK dX dY dF dS
           simp only [if_neg hq, if_neg (hge h55), if_pos (show (-1 : Int32) < 0 by decide)]
           rw [← ek])
      · skip
        refine y_loc (pc' := 92) xD_119 rfl rfl rfl rfl ?_
        refine y_goto (pc' := 96) xD_119 rfl rfl ?_
        refine y_callV xD_119 rfl rfl rfl rfl (by first | rfl | assumption) rfl rfl rfl rfl (s_msecond hR hs i hi e0 e1) (fun v h' hq => ?_)
        obtain ⟨rfl, rfl⟩ := hq
        refine y_retV xD_119 rfl rfl ?_
        first
          | exact absurd h55 h87
          | exact absurd h87 h55
          | (refine ⟨rfl, ?_⟩
             rw [xrow_row, xrow_at, w2_w4]
             unfold dK dX dY dF dS
             simp only [if_neg hq, if_pos (hlt h55), ite_self]
             rw [← ek])
  · skip
    refine y_ci (pc' := 12) (4) xD_119 rfl rfl rfl rfl ?_
    refine y_loc (pc' := 13) xD_119 rfl rfl rfl rfl ?_
    refine y_ci (pc' := 14) (4) xD_119 rfl rfl rfl rfl ?_
    have hq : dv (dn (J 261 14)) 5 = 4 := (nI_eq (b := 4) (by omega) (by decide)).mp h8
    refine y_callV xD_119 rfl rfl rfl rfl (by first | rfl | assumption) rfl rfl rfl rfl (s_mdraw 4 (by decide) (by decide) rfl) (fun v h' hq => ?_)
    obtain ⟨rfl, rfl⟩ := hq
    rw [xu_ii, xu_xu]
    refine y_op (pc' := 18) xD_119 rfl rfl rfl rfl ?_
    refine y_loc (pc' := 20) xD_119 rfl rfl rfl rfl ?_
    refine y_loc (pc' := 21) xD_119 rfl rfl rfl rfl ?_
    refine y_callV xD_119 rfl rfl rfl rfl (by first | rfl | assumption) rfl rfl rfl rfl (s_mdrawNumber (d := d) hR hL cc hcc con hcon) (fun v h' hq => ?_)
    obtain ⟨rfl, rfl⟩ := hq
    rw [xu_ii, xu_xu]
    refine y_loc (pc' := 26) xD_119 rfl rfl rfl rfl ?_
    refine y_loc (pc' := 27) xD_119 rfl rfl rfl rfl ?_
    refine y_loc (pc' := 28) xD_119 rfl rfl rfl rfl ?_
    refine y_loc (pc' := 29) xD_119 rfl rfl rfl rfl ?_
    refine y_loc (pc' := 31) xD_119 rfl rfl rfl rfl ?_
    refine y_loc (pc' := 33) xD_119 rfl rfl rfl rfl ?_
    refine y_callV xD_119 rfl rfl rfl rfl (by first | rfl | assumption) rfl rfl rfl rfl (s_mwrite hR hs i hi e0 e1) (fun v h' hq => ?_)
    obtain ⟨rfl, rfl⟩ := hq
    refine y_retV xD_119 rfl rfl ?_
    refine ⟨rfl, ?_⟩
    unfold dK dX dY dF dS
    simp only [if_pos hq]
    rw [← e44]
end MS

