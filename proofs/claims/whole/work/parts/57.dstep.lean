/-! The drawing of numbers and steps, in the class. -/
def dnum (b : Int64) (cc : Nat) (con : Nat → Int32) : Int32 := if dv (dn b) 4 = 0 ∨ cc = 0 then nI (dv (dn (dn b)) 21) - 10 else con (dv (dn (dn b)) cc) + nI (dv (dn b) 4) - 2
theorem nI_z {n : Nat} (h : n < 2000) : nI n = 0 ↔ n = 0 := nI_eq (b := 0) (by omega) (by decide)
theorem xu_ii {α : Type} {f : Nat → Nat → α} {a i : Nat} {v : α} : xu f a i v a i = v := by unfold xu; rw [if_pos ⟨rfl, rfl⟩]
def dK (b : Int64) : Int32 := if dv (dn b) 5 = 4 then nI (4 + dv (dn (dn b)) 4) else nI (dv (dn b) 5 / 2)
def dX (cc : Nat) (con : Nat → Int32) (b : Int64) : Int32 := if dv (dn b) 5 = 4 then dnum (dn (dn b)) cc con else dnum (dn b) cc con
def dY (cc : Nat) (con : Nat → Int32) (i : Nat) (b : Int64) : Int32 := if dv (dn b) 5 = 4 then 0 else if dv (dn (dn (dn (dn b)))) (i + 2) < i then 0 else dnum (dn (dn (dn (dn b)))) cc con
def dF (i : Nat) (b : Int64) : Int32 := if dv (dn b) 5 = 4 then -1 else if dv (dn (dn (dn (dn b)))) (i + 2) < i then nI (dv (dn (dn (dn (dn b)))) (i + 2)) else -1
def dS (i : Nat) (b : Int64) : Int64 := if dv (dn b) 5 = 4 then dn (dn (dn (dn b))) else if dv (dn (dn (dn (dn b)))) (i + 2) < i then dn (dn (dn (dn b))) else dn (dn (dn (dn (dn (dn b)))))
section DN
variable {S : XS} {d a s : Nat} {I : Nat → Nat → Int32} {J : Nat → Nat → Int64} {R : Nat → Nat → Option Nat}
/-- Draws.drawNumber -/
theorem s_drawNumber (hR : RF R) (cc : Nat) (hcc : I 18 1 = nI cc) (hcc2 : cc ≤ 20) : XP S (d + 1) 31 0 (xent [.ref 18] 2) [] (hh I J R) (rI (dnum (J 18 2) cc (I 19)) (hh I (xu J 18 2 (dn (dn (J 18 2)))) R)) := by
  refine y_loc (pc' := 1) xD_31 rfl rfl rfl rfl ?_
  refine y_ci (pc' := 2) (4) xD_31 rfl rfl rfl rfl ?_
  refine y_callV xD_31 rfl rfl rfl rfl (by first | rfl | assumption) rfl rfl rfl rfl (s_draw 4 (by decide) (by decide) rfl) (fun v h' hq => ?_)
  obtain ⟨rfl, rfl⟩ := hq
  refine y_loc (pc' := 6) xD_31 rfl rfl rfl rfl ?_
  refine y_loc (pc' := 7) xD_31 rfl rfl rfl rfl ?_
  refine y_ifeq (pt := 17) (pf := 10) xD_31 rfl rfl rfl (fun h7 => ?_) (fun h7 => ?_)
  · skip
    refine y_loc (pc' := 18) xD_31 rfl rfl rfl rfl ?_
    refine y_ci (pc' := 20) (21) xD_31 rfl rfl rfl rfl ?_
    refine y_callV xD_31 rfl rfl rfl rfl (by first | rfl | assumption) rfl rfl rfl rfl (s_draw 21 (by decide) (by decide) rfl) (fun v h' hq => ?_)
    obtain ⟨rfl, rfl⟩ := hq
    rw [xu_ii, xu_xu]
    refine y_ci (pc' := 25) (10) xD_31 rfl rfl rfl rfl ?_
    refine y_op (pc' := 26) xD_31 rfl rfl rfl rfl ?_
    refine y_retI xD_31 rfl rfl ?_
    refine rI_e ?_
    show nI (dv (dn (dn (J 18 2))) 21) - 10 = _
    unfold dnum
    first | rw [if_pos (Or.inl ((nI_z (Nat.lt_trans (dv_lt _ (by decide)) (by decide))).mp h7))] | rw [if_pos (Or.inr ((nI_z (by omega)).mp (hcc.symm.trans h14)))]
  · skip
    refine y_loc (pc' := 11) xD_31 rfl rfl rfl rfl ?_
    refine m_get (pc' := 14) xD_31 rfl rfl (by first | rfl | assumption) rfl rfl ?_
    refine y_ifne (pt := 27) (pf := 17) xD_31 rfl rfl rfl (fun h14 => ?_) (fun h14 => ?_)
    · skip
      refine y_loc (pc' := 28) xD_31 rfl rfl rfl rfl ?_
      first | refine m_getR (pc' := 31) xD_31 rfl rfl rfl rfl (hR.1 _ _ _ rfl) rfl ?_ | refine m_getR (pc' := 31) xD_31 rfl rfl (by first | rfl | assumption) rfl (by assumption) rfl ?_
      refine y_loc (pc' := 32) xD_31 rfl rfl rfl rfl ?_
      refine y_loc (pc' := 33) xD_31 rfl rfl rfl rfl ?_
      refine m_get (pc' := 36) xD_31 rfl rfl (by first | rfl | assumption) rfl rfl ?_
      have hc : 0 < cc := Nat.pos_of_ne_zero (fun q => h14 (by rw [hcc, q]; rfl))
      refine y_callV xD_31 rfl rfl rfl rfl (by first | rfl | assumption) rfl rfl rfl rfl (s_draw cc hc (by omega) hcc) (fun v h' hq => ?_)
      obtain ⟨rfl, rfl⟩ := hq
      rw [xu_ii, xu_xu]
      have hd := dv_lt (dn (dn (J 18 2))) hc
      refine m_iald (pc' := 40) (dv (dn (dn (J 18 2))) cc) xD_31 rfl (by first | rfl | assumption) (by first | assumption | omega) (by first | decide | assumption) (by first | decide | omega) (by first | rfl | assumption) rfl ?_
      refine y_loc (pc' := 41) xD_31 rfl rfl rfl rfl ?_
      refine y_op (pc' := 42) xD_31 rfl rfl rfl rfl ?_
      refine y_ci (pc' := 43) (2) xD_31 rfl rfl rfl rfl ?_
      refine y_op (pc' := 44) xD_31 rfl rfl rfl rfl ?_
      refine y_retI xD_31 rfl rfl ?_
      refine rI_e ?_
      show I 19 (dv (dn (dn (J 18 2))) cc) + nI (dv (dn (J 18 2)) 4) - 2 = _
      unfold dnum
      rw [if_neg (fun q => q.elim (fun e => h7 ((nI_z (Nat.lt_trans (dv_lt _ (by decide)) (by decide))).mpr e)) (fun e => h14 (hcc.trans ((nI_z (by omega)).mpr e))))]
    · skip
      refine y_loc (pc' := 18) xD_31 rfl rfl rfl rfl ?_
      refine y_ci (pc' := 20) (21) xD_31 rfl rfl rfl rfl ?_
      refine y_callV xD_31 rfl rfl rfl rfl (by first | rfl | assumption) rfl rfl rfl rfl (s_draw 21 (by decide) (by decide) rfl) (fun v h' hq => ?_)
      obtain ⟨rfl, rfl⟩ := hq
      rw [xu_ii, xu_xu]
      refine y_ci (pc' := 25) (10) xD_31 rfl rfl rfl rfl ?_
      refine y_op (pc' := 26) xD_31 rfl rfl rfl rfl ?_
      refine y_retI xD_31 rfl rfl ?_
      refine rI_e ?_
      show nI (dv (dn (dn (J 18 2))) 21) - 10 = _
      unfold dnum
      first | rw [if_pos (Or.inl ((nI_z (Nat.lt_trans (dv_lt _ (by decide)) (by decide))).mp h7))] | rw [if_pos (Or.inr ((nI_z (by omega)).mp (hcc.symm.trans h14)))]
/-- Draws.drawStep -/
theorem s_drawStep (hR : RF R) (hca : isCase a) (cc : Nat) (hcc : I 18 1 = nI cc) (hcc2 : cc ≤ 20) (i : Nat) (hi : i < 6) {xi : Int32} (e1 : xi = nI i) : XP S (d + 2) 30 0 (xent [.ref 18, .ref a, .int xi] 6) [] (hh I J R) (rV (hh (xrow I (a + 1) (w4 (I (a + 1)) (4 * i) (dK (J 18 2)) (dX cc (I 19) (J 18 2)) (dY cc (I 19) i (J 18 2)) (dF i (J 18 2)))) (xu J 18 2 (dS i (J 18 2))) R)) := by
  have hk0 := (kCase hca).1
  have h5 := dv_lt (dn (J 18 2)) (n := 5) (by decide)
  have h2 := dv_lt (dn (dn (dn (dn (J 18 2))))) (n := i + 2) (by omega)
  have e44 : ∀ t : Nat, (4 : Int32) + nI t = nI (4 + t) := fun t => by show nI 4 + nI t = _; rw [nI_add]
  have ek : nI (dv (dn (J 18 2)) 5) / 2 = nI (dv (dn (J 18 2)) 5 / 2) := pk_div (d := 2) (by omega) (by decide) (by decide)
  refine y_loc (pc' := 1) xD_30 rfl rfl rfl rfl ?_
  refine y_ci (pc' := 2) (5) xD_30 rfl rfl rfl rfl ?_
  refine y_callV xD_30 rfl rfl rfl rfl (by first | rfl | assumption) rfl rfl rfl rfl (s_draw 5 (by decide) (by decide) rfl) (fun v h' hq => ?_)
  obtain ⟨rfl, rfl⟩ := hq
  refine y_loc (pc' := 6) xD_30 rfl rfl rfl rfl ?_
  refine y_loc (pc' := 7) xD_30 rfl rfl rfl rfl ?_
  refine y_ci (pc' := 8) (4) xD_30 rfl rfl rfl rfl ?_
  refine y_icne (pt := 34) (pf := 11) xD_30 rfl rfl rfl (fun h8 => ?_) (fun h8 => ?_)
  · skip
    refine y_loc (pc' := 35) xD_30 rfl rfl rfl rfl ?_
    have hq : ¬ dv (dn (J 18 2)) 5 = 4 := fun q => h8 (by rw [q]; rfl)
    refine y_callV xD_30 rfl rfl rfl rfl (by first | rfl | assumption) rfl rfl rfl rfl (s_drawNumber (d := d) hR cc hcc hcc2) (fun v h' hq => ?_)
    obtain ⟨rfl, rfl⟩ := hq
    rw [xu_ii, xu_xu]
    refine y_loc (pc' := 40) xD_30 rfl rfl rfl rfl ?_
    refine y_loc (pc' := 41) xD_30 rfl rfl rfl rfl ?_
    refine y_loc (pc' := 42) xD_30 rfl rfl rfl rfl ?_
    refine y_ci (pc' := 43) (2) xD_30 rfl rfl rfl rfl ?_
    refine y_op (pc' := 44) xD_30 rfl rfl rfl rfl ?_
    refine y_callV xD_30 rfl rfl rfl rfl (by first | rfl | assumption) rfl rfl rfl rfl (s_draw (i + 2) (by omega) (by omega) (by rw [e1]; exact nI_add i 2)) (fun v h' hq => ?_)
    obtain ⟨rfl, rfl⟩ := hq
    rw [xu_ii, xu_xu]
    refine y_loc (pc' := 49) xD_30 rfl rfl rfl rfl ?_
    refine y_loc (pc' := 51) xD_30 rfl rfl rfl rfl ?_
    refine y_loc (pc' := 52) xD_30 rfl rfl rfl rfl ?_
    refine y_icge (pt := 71) (pf := 55) xD_30 rfl rfl rfl (fun h52 => ?_) (fun h52 => ?_)
    · skip
      refine y_loc (pc' := 72) xD_30 rfl rfl rfl rfl ?_
      refine y_loc (pc' := 73) xD_30 rfl rfl rfl rfl ?_
      refine y_loc (pc' := 74) xD_30 rfl rfl rfl rfl ?_
      refine y_ci (pc' := 75) (2) xD_30 rfl rfl rfl rfl ?_
      refine y_op (pc' := 76) xD_30 rfl rfl (show (if (2 : Int32) = 0 then none else some _) = some _ from if_neg (by decide)) rfl ?_
      refine y_loc (pc' := 78) xD_30 rfl rfl rfl rfl ?_
      refine y_loc (pc' := 79) xD_30 rfl rfl rfl rfl ?_
      refine y_callV xD_30 rfl rfl rfl rfl (by first | rfl | assumption) rfl rfl rfl rfl (s_drawNumber (d := d) hR cc hcc hcc2) (fun v h' hq => ?_)
      obtain ⟨rfl, rfl⟩ := hq
      rw [xu_ii, xu_xu]
      refine y_ci (pc' := 83) (-1) xD_30 rfl rfl rfl rfl ?_
      refine y_callV xD_30 rfl rfl rfl rfl (by first | rfl | assumption) rfl rfl rfl rfl (s_write hR hca i hi e1) (fun v h' hq => ?_)
      obtain ⟨rfl, rfl⟩ := hq
      refine y_retV xD_30 rfl rfl ?_
      refine ⟨rfl, ?_⟩
      unfold dK dX dY dF dS
      simp only [if_neg hq]
      rw [← ek]
      rw [e1] at h52
      first | (rw [if_pos (Nat.lt_of_not_le (fun q => h52 ((nI_leI (by omega) (by omega)).mpr q))), if_pos (Nat.lt_of_not_le (fun q => h52 ((nI_leI (by omega) (by omega)).mpr q))), if_pos (Nat.lt_of_not_le (fun q => h52 ((nI_leI (by omega) (by omega)).mpr q)))]) | (rw [if_neg (Nat.not_lt.mpr ((nI_leI (by omega) (by omega)).mp h52)), if_neg (Nat.not_lt.mpr ((nI_leI (by omega) (by omega)).mp h52)), if_neg (Nat.not_lt.mpr ((nI_leI (by omega) (by omega)).mp h52))])
    · skip
      refine y_loc (pc' := 56) xD_30 rfl rfl rfl rfl ?_
      refine y_loc (pc' := 57) xD_30 rfl rfl rfl rfl ?_
      refine y_loc (pc' := 58) xD_30 rfl rfl rfl rfl ?_
      refine y_ci (pc' := 59) (2) xD_30 rfl rfl rfl rfl ?_
      refine y_op (pc' := 60) xD_30 rfl rfl (show (if (2 : Int32) = 0 then none else some _) = some _ from if_neg (by decide)) rfl ?_
      refine y_loc (pc' := 62) xD_30 rfl rfl rfl rfl ?_
      refine y_ci (pc' := 63) (0) xD_30 rfl rfl rfl rfl ?_
      refine y_loc (pc' := 65) xD_30 rfl rfl rfl rfl ?_
      refine y_callV xD_30 rfl rfl rfl rfl (by first | rfl | assumption) rfl rfl rfl rfl (s_write hR hca i hi e1) (fun v h' hq => ?_)
      obtain ⟨rfl, rfl⟩ := hq
      refine y_goto (pc' := 86) xD_30 rfl rfl ?_
      refine y_retV xD_30 rfl rfl ?_
      refine ⟨rfl, ?_⟩
      unfold dK dX dY dF dS
      simp only [if_neg hq]
      rw [← ek]
      rw [e1] at h52
      first | (rw [if_pos (Nat.lt_of_not_le (fun q => h52 ((nI_leI (by omega) (by omega)).mpr q))), if_pos (Nat.lt_of_not_le (fun q => h52 ((nI_leI (by omega) (by omega)).mpr q))), if_pos (Nat.lt_of_not_le (fun q => h52 ((nI_leI (by omega) (by omega)).mpr q)))]) | (rw [if_neg (Nat.not_lt.mpr ((nI_leI (by omega) (by omega)).mp h52)), if_neg (Nat.not_lt.mpr ((nI_leI (by omega) (by omega)).mp h52)), if_neg (Nat.not_lt.mpr ((nI_leI (by omega) (by omega)).mp h52))])
  · skip
    refine y_ci (pc' := 12) (4) xD_30 rfl rfl rfl rfl ?_
    refine y_loc (pc' := 13) xD_30 rfl rfl rfl rfl ?_
    refine y_ci (pc' := 14) (4) xD_30 rfl rfl rfl rfl ?_
    have hq : dv (dn (J 18 2)) 5 = 4 := (nI_eq (b := 4) (by omega) (by decide)).mp h8
    refine y_callV xD_30 rfl rfl rfl rfl (by first | rfl | assumption) rfl rfl rfl rfl (s_draw 4 (by decide) (by decide) rfl) (fun v h' hq => ?_)
    obtain ⟨rfl, rfl⟩ := hq
    rw [xu_ii, xu_xu]
    refine y_op (pc' := 18) xD_30 rfl rfl rfl rfl ?_
    refine y_loc (pc' := 20) xD_30 rfl rfl rfl rfl ?_
    refine y_loc (pc' := 21) xD_30 rfl rfl rfl rfl ?_
    refine y_loc (pc' := 22) xD_30 rfl rfl rfl rfl ?_
    refine y_loc (pc' := 24) xD_30 rfl rfl rfl rfl ?_
    refine y_loc (pc' := 25) xD_30 rfl rfl rfl rfl ?_
    refine y_callV xD_30 rfl rfl rfl rfl (by first | rfl | assumption) rfl rfl rfl rfl (s_drawNumber (d := d) hR cc hcc hcc2) (fun v h' hq => ?_)
    obtain ⟨rfl, rfl⟩ := hq
    rw [xu_ii, xu_xu]
    refine y_ci (pc' := 29) (0) xD_30 rfl rfl rfl rfl ?_
    refine y_ci (pc' := 30) (-1) xD_30 rfl rfl rfl rfl ?_
    refine y_callV xD_30 rfl rfl rfl rfl (by first | rfl | assumption) rfl rfl rfl rfl (s_write hR hca i hi e1) (fun v h' hq => ?_)
    obtain ⟨rfl, rfl⟩ := hq
    refine y_retV xD_30 rfl rfl ?_
    refine ⟨rfl, ?_⟩
    unfold dK dX dY dF dS
    simp only [if_pos hq]
    rw [← e44]
end DN

