/-! One step changed. -/
def csB (f : Nat → Int32) (p : Nat) (b : Int64) : Int64 := if dv (dn b) 3 = 0 then dn (dn (dn b)) else if dv (dn b) 3 = 1 then dn (dn b) else if f (4 * p) < 2 then dn (dn (dn b)) else dn b
def csG (cc : Nat) (con f : Nat → Int32) (p : Nat) (b : Int64) (i q : Nat) : Int32 :=
  if dv (dn b) 3 = 0 then (if i = p ∧ q = 1 then dnum (dn b) cc con else f (4 * i + q))
  else if dv (dn b) 3 = 1 then (if i = p ∧ q = 1 then f (4 * p + 1) + (nI (dv (dn (dn b)) 9) - 4) else f (4 * i + q))
  else if f (4 * p) < 2 then (if i = p ∧ q = 2 then dnum (dn b) cc con else if i = p ∧ q = 3 then -1 else f (4 * i + q)) else f (4 * i + q)
section CS
variable {S : XS} {d a s : Nat} {I : Nat → Nat → Int32} {J : Nat → Nat → Int64} {R : Nat → Nat → Option Nat}
theorem s_changeStep (hR : RF R) (hc : isCase a) (cc : Nat) (hcc : I 18 1 = nI cc) (hcc2 : cc ≤ 20) (p : Nat) (hp : p < 6) (hV : VT (I (a + 1)) p) {xp : Int32} (e1 : xp = nI p) :
    XP S (d + 2) 76 0 (xent [.ref 18, .ref a, .int xp] 5) [] (hh I J R) (fun v h' => v = none ∧ ∃ g, (∀ i q, q < 4 → g (4 * i + q) = csG cc (I 19) (I (a + 1)) p (J 18 2) i q) ∧ h' = hh (xrow I (a + 1) g) (xu J 18 2 (csB (I (a + 1)) p (J 18 2))) R) := by
  subst e1
  have ka := (kCase hc).1
  have ka1 := (kCase hc).2.1
  have ra := (hR.2 a hc).1
  have h3 := dv_lt (dn (J 18 2)) (n := 3) (by decide)
  have i0 : nI p * 4 = nI (4 * p) := by show nI p * nI 4 = _; rw [pk_mul, Nat.mul_comm]
  have ix : ∀ q : Nat, nI (4 * p) + nI q = nI (4 * p + q) := fun q => nI_add _ _
  have hne : (18 : Nat) ≠ a + 1 := by unfold isCase at hc; omega
  have hne2 : (19 : Nat) ≠ a + 1 := by unfold isCase at hc; omega
  have kp : 0 ≤ I (a + 1) (4 * p) := by
    obtain ⟨t, ht, _, _, e⟩ := hV.1
    rw [e]
    exact Int32.not_lt.mp (nI_pos (by omega))
  have fin0 : dv (dn (J 18 2)) 3 = 0 → ∀ i q, q < 4 → upd (I (a + 1)) (4 * p + 1) (dnum (dn (J 18 2)) cc (I 19)) (4 * i + q) = csG cc (I 19) (I (a + 1)) p (J 18 2) i q := fun u0 i q hq => by
    unfold csG
    rw [upd4 (p := 1) (by decide) hq, if_pos u0]
  have fin1 : ¬ dv (dn (J 18 2)) 3 = 0 → dv (dn (J 18 2)) 3 = 1 → ∀ i q, q < 4 → upd (I (a + 1)) (4 * p + 1) (I (a + 1) (4 * p + 1) + (nI (dv (dn (dn (J 18 2))) 9) - 4)) (4 * i + q) = csG cc (I 19) (I (a + 1)) p (J 18 2) i q := fun u0 u1 i q hq => by
    unfold csG
    rw [upd4 (p := 1) (by decide) hq, if_neg u0, if_pos u1]
  have fin2 : ¬ dv (dn (J 18 2)) 3 = 0 → ¬ dv (dn (J 18 2)) 3 = 1 → I (a + 1) (4 * p) < 2 → ∀ i q, q < 4 → upd (upd (I (a + 1)) (4 * p + 3) (-1)) (4 * p + 2) (dnum (dn (J 18 2)) cc (I 19)) (4 * i + q) = csG cc (I 19) (I (a + 1)) p (J 18 2) i q := fun u0 u1 u2 i q hq => by
    unfold csG
    rw [upd4 (p := 2) (by decide) hq, upd4 (p := 3) (by decide) hq, if_neg u0, if_neg u1, if_pos u2]
  refine y_loc (pc' := 1) xD_76 rfl rfl rfl rfl ?_
  refine y_ci (pc' := 2) (3) xD_76 rfl rfl rfl rfl ?_
  refine y_callV xD_76 rfl rfl rfl rfl (by first | rfl | assumption) rfl rfl rfl rfl (s_draw 3 (by decide) (by decide) rfl) (fun v h' hq => ?_)
  obtain ⟨rfl, rfl⟩ := hq
  refine y_loc (pc' := 6) xD_76 rfl rfl rfl rfl ?_
  refine y_loc (pc' := 7) xD_76 rfl rfl rfl rfl ?_
  refine y_ci (pc' := 8) (4) xD_76 rfl rfl rfl rfl ?_
  refine y_imul (pc' := 9) xD_76 rfl (i0) rfl ?_
  refine y_loc (pc' := 11) xD_76 rfl rfl rfl rfl ?_
  refine y_loc (pc' := 12) xD_76 rfl rfl rfl rfl ?_
  refine y_ifne (pt := 31) (pf := 15) xD_76 rfl rfl rfl (fun h12 => ?_) (fun h12 => ?_)
  · skip
    refine y_loc (pc' := 32) xD_76 rfl rfl rfl rfl ?_
    refine y_ci (pc' := 33) (1) xD_76 rfl rfl rfl rfl ?_
    refine y_icne (pt := 59) (pf := 36) xD_76 rfl rfl rfl (fun h33 => ?_) (fun h33 => ?_)
    · skip
      refine y_loc (pc' := 60) xD_76 rfl rfl rfl rfl ?_
      first | refine m_getR (pc' := 63) xD_76 rfl rfl rfl rfl (hR.1 _ _ _ rfl) rfl ?_ | refine m_getR (pc' := 63) xD_76 rfl rfl (by first | rfl | assumption) rfl (by assumption) rfl ?_
      refine y_loc (pc' := 65) xD_76 rfl rfl rfl rfl ?_
      refine y_ci (pc' := 66) (0) xD_76 rfl rfl rfl rfl ?_
      refine y_op (pc' := 67) xD_76 rfl rfl rfl rfl ?_
      refine m_iald (pc' := 68) (4 * p) xD_76 rfl (by first | rfl | assumption) (by first | assumption | omega) (by first | decide | assumption) (by first | decide | omega) (ix 0) rfl ?_
      refine y_callS xD_76 rfl rfl rfl rfl rfl rfl rfl rfl (s_isMethod) (fun v h' hq => ?_)
      obtain ⟨rfl, rfl⟩ := hq
      refine y_ifeq (pt := 97) (pf := 74) xD_76 rfl rfl rfl (fun h71 => ?_) (fun h71 => ?_)
      · skip
        refine y_retV xD_76 rfl rfl ?_
        first
          | (have u0 : dv (dn (J 18 2)) 3 = 0 := (nI_z (by omega)).mp h12
             refine ⟨rfl, upd (I (a + 1)) (4 * p + 1) (dnum (dn (J 18 2)) cc (I 19)), fun i q hq => ?_, ?_⟩
             · exact fin0 u0 i q hq
             · unfold csB
               rw [if_pos u0])
          | (have u0 : ¬ dv (dn (J 18 2)) 3 = 0 := fun q => h12 ((nI_z (by omega)).mpr q)
             have u1 : dv (dn (J 18 2)) 3 = 1 := (nI_eq (b := 1) (by omega) (by decide)).mp h33
             refine ⟨rfl, upd (I (a + 1)) (4 * p + 1) (I (a + 1) (4 * p + 1) + (nI (dv (dn (dn (J 18 2))) 9) - 4)), fun i q hq => ?_, ?_⟩
             · exact fin1 u0 u1 i q hq
             · unfold csB
               rw [if_neg u0, if_pos u1])
          | (have u0 : ¬ dv (dn (J 18 2)) 3 = 0 := fun q => h12 ((nI_z (by omega)).mpr q)
             have u1 : ¬ dv (dn (J 18 2)) 3 = 1 := fun q => h33 (by rw [q]; rfl)
             have u2 := (zB_n0.mp h71).2
             refine ⟨rfl, upd (upd (I (a + 1)) (4 * p + 3) (-1)) (4 * p + 2) (dnum (dn (J 18 2)) cc (I 19)), fun i q hq => ?_, ?_⟩
             · exact fin2 u0 u1 u2 i q hq
             · unfold csB
               rw [if_neg u0, if_neg u1, if_pos u2])
          | (have u0 : ¬ dv (dn (J 18 2)) 3 = 0 := fun q => h12 ((nI_z (by omega)).mpr q)
             have u1 : ¬ dv (dn (J 18 2)) 3 = 1 := fun q => h33 (by rw [q]; rfl)
             have u2 : ¬ I (a + 1) (4 * p) < 2 := fun q => zB_0.mp h71 ⟨kp, q⟩
             refine ⟨rfl, I (a + 1), fun i q hq => ?_, ?_⟩
             · unfold csG
               rw [if_neg u0, if_neg u1, if_neg u2]
             · unfold csB
               rw [if_neg u0, if_neg u1, if_neg u2, xrow_id])
      · skip
        refine y_loc (pc' := 75) xD_76 rfl rfl rfl rfl ?_
        first | refine m_getR (pc' := 78) xD_76 rfl rfl rfl rfl (hR.1 _ _ _ rfl) rfl ?_ | refine m_getR (pc' := 78) xD_76 rfl rfl (by first | rfl | assumption) rfl (by assumption) rfl ?_
        refine y_loc (pc' := 80) xD_76 rfl rfl rfl rfl ?_
        refine y_ci (pc' := 81) (3) xD_76 rfl rfl rfl rfl ?_
        refine y_op (pc' := 82) xD_76 rfl rfl rfl rfl ?_
        refine y_ci (pc' := 83) (-1) xD_76 rfl rfl rfl rfl ?_
        refine m_iast (pc' := 84) (4 * p + 3) xD_76 rfl (by first | rfl | assumption) (by first | assumption | omega) (by first | decide | assumption) (ix 3) rfl ?_
        rw [xu_rowI]
        refine y_loc (pc' := 85) xD_76 rfl rfl rfl rfl ?_
        first | refine m_getR (pc' := 88) xD_76 rfl rfl rfl rfl (hR.1 _ _ _ rfl) rfl ?_ | refine m_getR (pc' := 88) xD_76 rfl rfl (by first | rfl | assumption) rfl (by assumption) rfl ?_
        refine y_loc (pc' := 90) xD_76 rfl rfl rfl rfl ?_
        refine y_ci (pc' := 91) (2) xD_76 rfl rfl rfl rfl ?_
        refine y_op (pc' := 92) xD_76 rfl rfl rfl rfl ?_
        refine y_loc (pc' := 93) xD_76 rfl rfl rfl rfl ?_
        refine y_callV xD_76 rfl rfl rfl rfl (by first | rfl | assumption) rfl rfl rfl rfl (s_drawNumber (d := d) hR cc (by rw [xrow_ne hne]; exact hcc) hcc2) (fun v h' hq => ?_)
        obtain ⟨rfl, rfl⟩ := hq
        rw [xu_ii, xu_xu, xrow_ne hne2]
        refine m_iast (pc' := 97) (4 * p + 2) xD_76 rfl (by first | rfl | assumption) (by first | assumption | omega) (by first | decide | assumption) (ix 2) rfl ?_
        rw [xu_rowI, xrow_row, xrow_at]
        refine y_retV xD_76 rfl rfl ?_
        first
          | (have u0 : dv (dn (J 18 2)) 3 = 0 := (nI_z (by omega)).mp h12
             refine ⟨rfl, upd (I (a + 1)) (4 * p + 1) (dnum (dn (J 18 2)) cc (I 19)), fun i q hq => ?_, ?_⟩
             · exact fin0 u0 i q hq
             · unfold csB
               rw [if_pos u0])
          | (have u0 : ¬ dv (dn (J 18 2)) 3 = 0 := fun q => h12 ((nI_z (by omega)).mpr q)
             have u1 : dv (dn (J 18 2)) 3 = 1 := (nI_eq (b := 1) (by omega) (by decide)).mp h33
             refine ⟨rfl, upd (I (a + 1)) (4 * p + 1) (I (a + 1) (4 * p + 1) + (nI (dv (dn (dn (J 18 2))) 9) - 4)), fun i q hq => ?_, ?_⟩
             · exact fin1 u0 u1 i q hq
             · unfold csB
               rw [if_neg u0, if_pos u1])
          | (have u0 : ¬ dv (dn (J 18 2)) 3 = 0 := fun q => h12 ((nI_z (by omega)).mpr q)
             have u1 : ¬ dv (dn (J 18 2)) 3 = 1 := fun q => h33 (by rw [q]; rfl)
             have u2 := (zB_n0.mp h71).2
             refine ⟨rfl, upd (upd (I (a + 1)) (4 * p + 3) (-1)) (4 * p + 2) (dnum (dn (J 18 2)) cc (I 19)), fun i q hq => ?_, ?_⟩
             · exact fin2 u0 u1 u2 i q hq
             · unfold csB
               rw [if_neg u0, if_neg u1, if_pos u2])
          | (have u0 : ¬ dv (dn (J 18 2)) 3 = 0 := fun q => h12 ((nI_z (by omega)).mpr q)
             have u1 : ¬ dv (dn (J 18 2)) 3 = 1 := fun q => h33 (by rw [q]; rfl)
             have u2 : ¬ I (a + 1) (4 * p) < 2 := fun q => zB_0.mp h71 ⟨kp, q⟩
             refine ⟨rfl, I (a + 1), fun i q hq => ?_, ?_⟩
             · unfold csG
               rw [if_neg u0, if_neg u1, if_neg u2]
             · unfold csB
               rw [if_neg u0, if_neg u1, if_neg u2, xrow_id])
    · skip
      refine y_loc (pc' := 37) xD_76 rfl rfl rfl rfl ?_
      first | refine m_getR (pc' := 40) xD_76 rfl rfl rfl rfl (hR.1 _ _ _ rfl) rfl ?_ | refine m_getR (pc' := 40) xD_76 rfl rfl (by first | rfl | assumption) rfl (by assumption) rfl ?_
      refine y_loc (pc' := 42) xD_76 rfl rfl rfl rfl ?_
      refine y_ci (pc' := 43) (1) xD_76 rfl rfl rfl rfl ?_
      refine y_op (pc' := 44) xD_76 rfl rfl rfl rfl ?_
      refine y_op (pc' := 45) xD_76 rfl rfl rfl rfl ?_
      refine m_iald (pc' := 46) (4 * p + 1) xD_76 rfl (by first | rfl | assumption) (by first | assumption | omega) (by first | decide | assumption) (by first | decide | omega) (ix 1) rfl ?_
      refine y_loc (pc' := 47) xD_76 rfl rfl rfl rfl ?_
      refine y_ci (pc' := 49) (9) xD_76 rfl rfl rfl rfl ?_
      refine y_callV xD_76 rfl rfl rfl rfl (by first | rfl | assumption) rfl rfl rfl rfl (s_draw 9 (by decide) (by decide) rfl) (fun v h' hq => ?_)
      obtain ⟨rfl, rfl⟩ := hq
      rw [xu_ii, xu_xu]
      refine y_ci (pc' := 53) (4) xD_76 rfl rfl rfl rfl ?_
      refine y_op (pc' := 54) xD_76 rfl rfl rfl rfl ?_
      refine y_op (pc' := 55) xD_76 rfl rfl rfl rfl ?_
      refine m_iast (pc' := 56) (4 * p + 1) xD_76 rfl (by first | rfl | assumption) (by first | assumption | omega) (by first | decide | assumption) (ix 1) rfl ?_
      rw [xu_rowI]
      refine y_goto (pc' := 97) xD_76 rfl rfl ?_
      refine y_retV xD_76 rfl rfl ?_
      first
        | (have u0 : dv (dn (J 18 2)) 3 = 0 := (nI_z (by omega)).mp h12
           refine ⟨rfl, upd (I (a + 1)) (4 * p + 1) (dnum (dn (J 18 2)) cc (I 19)), fun i q hq => ?_, ?_⟩
           · exact fin0 u0 i q hq
           · unfold csB
             rw [if_pos u0])
        | (have u0 : ¬ dv (dn (J 18 2)) 3 = 0 := fun q => h12 ((nI_z (by omega)).mpr q)
           have u1 : dv (dn (J 18 2)) 3 = 1 := (nI_eq (b := 1) (by omega) (by decide)).mp h33
           refine ⟨rfl, upd (I (a + 1)) (4 * p + 1) (I (a + 1) (4 * p + 1) + (nI (dv (dn (dn (J 18 2))) 9) - 4)), fun i q hq => ?_, ?_⟩
           · exact fin1 u0 u1 i q hq
           · unfold csB
             rw [if_neg u0, if_pos u1])
        | (have u0 : ¬ dv (dn (J 18 2)) 3 = 0 := fun q => h12 ((nI_z (by omega)).mpr q)
           have u1 : ¬ dv (dn (J 18 2)) 3 = 1 := fun q => h33 (by rw [q]; rfl)
           have u2 := (zB_n0.mp h71).2
           refine ⟨rfl, upd (upd (I (a + 1)) (4 * p + 3) (-1)) (4 * p + 2) (dnum (dn (J 18 2)) cc (I 19)), fun i q hq => ?_, ?_⟩
           · exact fin2 u0 u1 u2 i q hq
           · unfold csB
             rw [if_neg u0, if_neg u1, if_pos u2])
        | (have u0 : ¬ dv (dn (J 18 2)) 3 = 0 := fun q => h12 ((nI_z (by omega)).mpr q)
           have u1 : ¬ dv (dn (J 18 2)) 3 = 1 := fun q => h33 (by rw [q]; rfl)
           have u2 : ¬ I (a + 1) (4 * p) < 2 := fun q => zB_0.mp h71 ⟨kp, q⟩
           refine ⟨rfl, I (a + 1), fun i q hq => ?_, ?_⟩
           · unfold csG
             rw [if_neg u0, if_neg u1, if_neg u2]
           · unfold csB
             rw [if_neg u0, if_neg u1, if_neg u2, xrow_id])
  · skip
    refine y_loc (pc' := 16) xD_76 rfl rfl rfl rfl ?_
    first | refine m_getR (pc' := 19) xD_76 rfl rfl rfl rfl (hR.1 _ _ _ rfl) rfl ?_ | refine m_getR (pc' := 19) xD_76 rfl rfl (by first | rfl | assumption) rfl (by assumption) rfl ?_
    refine y_loc (pc' := 21) xD_76 rfl rfl rfl rfl ?_
    refine y_ci (pc' := 22) (1) xD_76 rfl rfl rfl rfl ?_
    refine y_op (pc' := 23) xD_76 rfl rfl rfl rfl ?_
    refine y_loc (pc' := 24) xD_76 rfl rfl rfl rfl ?_
    refine y_callV xD_76 rfl rfl rfl rfl (by first | rfl | assumption) rfl rfl rfl rfl (s_drawNumber (d := d) hR cc hcc hcc2) (fun v h' hq => ?_)
    obtain ⟨rfl, rfl⟩ := hq
    rw [xu_ii, xu_xu]
    refine m_iast (pc' := 28) (4 * p + 1) xD_76 rfl (by first | rfl | assumption) (by first | assumption | omega) (by first | decide | assumption) (ix 1) rfl ?_
    rw [xu_rowI]
    refine y_goto (pc' := 97) xD_76 rfl rfl ?_
    refine y_retV xD_76 rfl rfl ?_
    first
      | (have u0 : dv (dn (J 18 2)) 3 = 0 := (nI_z (by omega)).mp h12
         refine ⟨rfl, upd (I (a + 1)) (4 * p + 1) (dnum (dn (J 18 2)) cc (I 19)), fun i q hq => ?_, ?_⟩
         · exact fin0 u0 i q hq
         · unfold csB
           rw [if_pos u0])
      | (have u0 : ¬ dv (dn (J 18 2)) 3 = 0 := fun q => h12 ((nI_z (by omega)).mpr q)
         have u1 : dv (dn (J 18 2)) 3 = 1 := (nI_eq (b := 1) (by omega) (by decide)).mp h33
         refine ⟨rfl, upd (I (a + 1)) (4 * p + 1) (I (a + 1) (4 * p + 1) + (nI (dv (dn (dn (J 18 2))) 9) - 4)), fun i q hq => ?_, ?_⟩
         · exact fin1 u0 u1 i q hq
         · unfold csB
           rw [if_neg u0, if_pos u1])
      | (have u0 : ¬ dv (dn (J 18 2)) 3 = 0 := fun q => h12 ((nI_z (by omega)).mpr q)
         have u1 : ¬ dv (dn (J 18 2)) 3 = 1 := fun q => h33 (by rw [q]; rfl)
         have u2 := (zB_n0.mp h71).2
         refine ⟨rfl, upd (upd (I (a + 1)) (4 * p + 3) (-1)) (4 * p + 2) (dnum (dn (J 18 2)) cc (I 19)), fun i q hq => ?_, ?_⟩
         · exact fin2 u0 u1 u2 i q hq
         · unfold csB
           rw [if_neg u0, if_neg u1, if_pos u2])
      | (have u0 : ¬ dv (dn (J 18 2)) 3 = 0 := fun q => h12 ((nI_z (by omega)).mpr q)
         have u1 : ¬ dv (dn (J 18 2)) 3 = 1 := fun q => h33 (by rw [q]; rfl)
         have u2 : ¬ I (a + 1) (4 * p) < 2 := fun q => zB_0.mp h71 ⟨kp, q⟩
         refine ⟨rfl, I (a + 1), fun i q hq => ?_, ?_⟩
         · unfold csG
           rw [if_neg u0, if_neg u1, if_neg u2]
         · unfold csB
           rw [if_neg u0, if_neg u1, if_neg u2, xrow_id])
end CS

