/-! The drawing of numbers and steps, in the model. -/
def PL (I : Nat → Nat → Int32) : Prop := ∀ m, m < 2 → I 265 m = nI (lnM I m) ∧ lnM I m ≤ 10
def isS (I : Nat → Nat → Int32) (q : Nat) : Bool := decide (q % 10 < lnM I (q / 10) ∧ cdM I (q / 10) (q % 10) 0 = 0)
theorem isS_iff {I : Nat → Nat → Int32} {q : Nat} : isS I q = true ↔ (q % 10 < lnM I (q / 10) ∧ cdM I (q / 10) (q % 10) 0 = 0) := decide_eq_true_iff
def scnt (I : Nat → Nat → Int32) : Nat → Nat
  | 0 => 0
  | n + 1 => if isS I n then scnt I n + 1 else scnt I n
theorem scnt_y {I : Nat → Nat → Int32} {n : Nat} (h : isS I n) : scnt I (n + 1) = scnt I n + 1 := by simp only [scnt]; rw [if_pos h]
theorem scnt_n {I : Nat → Nat → Int32} {n : Nat} (h : ¬ isS I n) : scnt I (n + 1) = scnt I n := by simp only [scnt]; rw [if_neg h]
theorem scnt_le {I : Nat → Nat → Int32} : ∀ n, scnt I n ≤ n
  | 0 => Nat.le_refl _
  | n + 1 => by
    have := scnt_le (I := I) n
    by_cases h : isS I n
    · rw [scnt_y h]; omega
    · rw [scnt_n h]; omega
section MD
variable {S : XS} {d s : Nat} {I : Nat → Nat → Int32} {J : Nat → Nat → Int64} {R : Nat → Nat → Option Nat}
theorem s_setLine (hR : RF R) (hL : PL I) (q : Nat) (hq : q < 20) {xq : Int32} (e1 : xq = nI q) : XP S (d + 1) 121 0 (xent [.ref 261, .int xq] 2) [] (hh I J R) (rI (zB (decide (isS I q))) (hh I J R)) := by
  have hd : xq / 10 = nI (q / 10) := by rw [e1]; exact pk_div (d := 10) (by omega) (by decide) (by decide)
  have hr : xq - xq / 10 * 10 = nI (q % 10) := by rw [e1]; exact pk_rem (d := 10) (by omega) (by decide) (by decide)
  have hm : q / 10 < 2 := by omega
  have hp : q % 10 < 10 := by omega
  obtain ⟨l1, l2⟩ := hL (q / 10) hm
  refine y_loc (pc' := 1) xD_121 rfl rfl rfl rfl ?_
  refine y_ci (pc' := 3) (20) xD_121 rfl rfl rfl rfl ?_
  refine y_icge (pt := 42) (pf := 6) xD_121 rfl rfl rfl (fun h3 => ?_) (fun h3 => ?_)
  · skip
    first
    | exact absurd h3 (by rw [e1]; exact nI_ge (b := 20) hq (by decide))
    | (refine y_ci (pc' := 43) (0) xD_121 rfl rfl rfl rfl ?_
       refine y_retZ xD_121 rfl rfl (by decide) ?_
       refine rI_f ?_
       rw [isS_iff]
       first | exact fun q => h35 q.2 | exact fun q => absurd q.1 (Nat.not_lt.mpr ((nI_leI (by omega) (by omega)).mp h19)))
  · skip
    refine y_loc (pc' := 7) xD_121 rfl rfl rfl rfl ?_
    refine y_ci (pc' := 9) (10) xD_121 rfl rfl rfl rfl ?_
    refine y_op (pc' := 10) xD_121 rfl rfl (show (if (10 : Int32) = 0 then none else some (Value.int (xq - xq / 10 * 10) :: _)) = some _ from if_neg (by decide)) rfl ?_
    rw [hr]
    refine y_loc (pc' := 11) xD_121 rfl rfl rfl rfl ?_
    first | refine m_getR (pc' := 14) xD_121 rfl rfl rfl rfl (hR.1 _ _ _ rfl) rfl ?_ | refine m_getR (pc' := 14) xD_121 rfl rfl (by first | rfl | assumption) rfl (by assumption) rfl ?_
    refine y_loc (pc' := 15) xD_121 rfl rfl rfl rfl ?_
    refine y_ci (pc' := 17) (10) xD_121 rfl rfl rfl rfl ?_
    refine y_op (pc' := 18) xD_121 rfl rfl (show (if (10 : Int32) = 0 then none else some (Value.int (xq / 10) :: _)) = some _ from if_neg (by decide)) rfl ?_
    rw [hd]
    refine m_iald (pc' := 19) (q / 10) xD_121 rfl (by first | rfl | assumption) (by first | assumption | omega) (by first | decide | assumption) (by first | decide | omega) (by first | rfl | assumption) rfl ?_
    rw [l1]
    refine y_icge (pt := 42) (pf := 22) xD_121 rfl rfl rfl (fun h19 => ?_) (fun h19 => ?_)
    · skip
      first
      | exact absurd h3 (by rw [e1]; exact nI_ge (b := 20) hq (by decide))
      | (refine y_ci (pc' := 43) (0) xD_121 rfl rfl rfl rfl ?_
         refine y_retZ xD_121 rfl rfl (by decide) ?_
         refine rI_f ?_
         rw [isS_iff]
         first | exact fun q => h35 q.2 | exact fun q => absurd q.1 (Nat.not_lt.mpr ((nI_leI (by omega) (by omega)).mp h19)))
    · skip
      refine y_loc (pc' := 23) xD_121 rfl rfl rfl rfl ?_
      refine y_loc (pc' := 24) xD_121 rfl rfl rfl rfl ?_
      refine y_ci (pc' := 26) (10) xD_121 rfl rfl rfl rfl ?_
      refine y_op (pc' := 27) xD_121 rfl rfl (show (if (10 : Int32) = 0 then none else some (Value.int (xq / 10) :: _)) = some _ from if_neg (by decide)) rfl ?_
      refine y_loc (pc' := 28) xD_121 rfl rfl rfl rfl ?_
      refine y_ci (pc' := 30) (10) xD_121 rfl rfl rfl rfl ?_
      refine y_op (pc' := 31) xD_121 rfl rfl (show (if (10 : Int32) = 0 then none else some (Value.int (xq - xq / 10 * 10) :: _)) = some _ from if_neg (by decide)) rfl ?_
      refine y_ci (pc' := 32) (0) xD_121 rfl rfl rfl rfl ?_
      refine y_callV xD_121 rfl rfl rfl rfl (by first | rfl | assumption) rfl rfl rfl rfl (s_code hR hm (q % 10) 0 hp (by decide) hd hr rfl) (fun v h' hq => ?_)
      obtain ⟨rfl, rfl⟩ := hq
      refine y_ifne (pt := 42) (pf := 38) xD_121 rfl rfl rfl (fun h35 => ?_) (fun h35 => ?_)
      · skip
        first
        | exact absurd h3 (by rw [e1]; exact nI_ge (b := 20) hq (by decide))
        | (refine y_ci (pc' := 43) (0) xD_121 rfl rfl rfl rfl ?_
           refine y_retZ xD_121 rfl rfl (by decide) ?_
           refine rI_f ?_
           rw [isS_iff]
           first | exact fun q => h35 q.2 | exact fun q => absurd q.1 (Nat.not_lt.mpr ((nI_leI (by omega) (by omega)).mp h19)))
      · skip
        refine y_ci (pc' := 39) (1) xD_121 rfl rfl rfl rfl ?_
        refine y_goto (pc' := 43) xD_121 rfl rfl ?_
        refine y_retZ xD_121 rfl rfl (by first | decide | assumption) ?_
        exact rI_t (isS_iff.mpr ⟨Nat.lt_of_not_le (fun q => h19 ((nI_leI (by omega) (by omega)).mpr q)), h35⟩)
theorem s_mdrawNumber (hR : RF R) (hL : PL I) (cc : Nat) (hcc : cc = scnt I 20) (con : Nat → Int32) (hcon : ∀ q, q < 20 → isS I q → con (scnt I q) = cdM I (q / 10) (q % 10) 3) : XP S (d + 2) 120 0 (xent [.ref 261] 5) [] (hh I J R) (rI (dnum (J 261 14) cc con) (hh I (xu J 261 14 (dn (dn (J 261 14)))) R)) := by
  have hc20 : cc ≤ 20 := by rw [hcc]; exact scnt_le 20
  have hk4 := dv_lt (dn (J 261 14)) (n := 4) (by decide)
  have find : ∀ (J' : Nat → Nat → Int64) (w0 : Nat) (hw : w0 < cc) (f q w : Nat), q + f = 20 → w + scnt I q = w0 → XP S (d + 2) 120 65 [some (.ref 261), some (.int (nI (dv (dn (J 261 14)) 4))), some (.int (nI cc)), some (.int (nI w)), some (.int (nI q))] [] (hh I J' R) (rI (con w0 + nI (dv (dn (J 261 14)) 4) - 2) (hh I J' R)) := by
    intro J' w0 hw f
    induction f with
    | zero =>
      intro q w hq he
      exfalso
      rw [show q = 20 by omega] at he
      omega
    | succ f ih =>
      intro q w hq he
      have hq20 : q < 20 := by omega
      have e5 : nI q + 1 = nI (q + 1) := nI_1 q
      have hd : nI q / 10 = nI (q / 10) := pk_div (d := 10) (by omega) (by decide) (by decide)
      have hr : nI q - nI q / 10 * 10 = nI (q % 10) := pk_rem (d := 10) (by omega) (by decide) (by decide)
      refine y_loc (pc' := 66) xD_120 rfl rfl rfl rfl ?_
      refine y_ifgt (pt := 78) (pf := 69) xD_120 rfl rfl rfl (fun h66 => ?_) (fun h66 => ?_)
      · skip
        refine y_loc (pc' := 79) xD_120 rfl rfl rfl rfl ?_
        refine y_loc (pc' := 81) xD_120 rfl rfl rfl rfl ?_
        refine y_callV xD_120 rfl rfl rfl rfl (by first | rfl | assumption) rfl rfl rfl rfl (s_setLine (d := d) hR hL q hq20 rfl) (fun v h' hq => ?_)
        obtain ⟨rfl, rfl⟩ := hq
        refine y_ifeq (pt := 93) (pf := 87) xD_120 rfl rfl rfl (fun h84 => ?_) (fun h84 => ?_)
        · skip
          refine y_loc (pc' := 94) xD_120 rfl rfl rfl rfl ?_
          refine y_loc (pc' := 95) xD_120 rfl rfl rfl rfl ?_
          refine y_inc (pc' := 98) (nI (q + 1)) xD_120 rfl rfl rfl e5 rfl rfl ?_
          refine y_goto (pc' := 65) xD_120 rfl rfl ?_
          first
            | exact ih (q + 1) w (by omega) (by rw [scnt_n (zB_0.mp h84)]; exact he)
            | (have hw1 : 0 < w := (nI_ltI (a := 0) (by decide) (by omega)).mp h66
               have e7 : nI w - 1 = nI (w - 1) := pk_sub (b := 1) hw1
               have := ih (q + 1) (w - 1) (by omega) (by rw [scnt_y (zB_n0.mp h84)]; omega)
               rw [← e7] at this
               exact this)
            | exact absurd h75 (fun r => h84 (Classical.byContradiction fun _ => r (zB_0.mpr (zB_0.mp (by assumption)))))
            | exact absurd h75 h84
          skip
        · skip
          refine y_loc (pc' := 88) xD_120 rfl rfl rfl rfl ?_
          refine y_ci (pc' := 89) (1) xD_120 rfl rfl rfl rfl ?_
          refine y_op (pc' := 90) xD_120 rfl rfl rfl rfl ?_
          refine y_goto (pc' := 94) xD_120 rfl rfl ?_
          refine y_loc (pc' := 95) xD_120 rfl rfl rfl rfl ?_
          refine y_inc (pc' := 98) (nI (q + 1)) xD_120 rfl rfl rfl e5 rfl rfl ?_
          refine y_goto (pc' := 65) xD_120 rfl rfl ?_
          first
            | exact ih (q + 1) w (by omega) (by rw [scnt_n (zB_0.mp h84)]; exact he)
            | (have hw1 : 0 < w := (nI_ltI (a := 0) (by decide) (by omega)).mp h66
               have e7 : nI w - 1 = nI (w - 1) := pk_sub (b := 1) hw1
               have := ih (q + 1) (w - 1) (by omega) (by rw [scnt_y (zB_n0.mp h84)]; omega)
               rw [← e7] at this
               exact this)
            | exact absurd h75 (fun r => h84 (Classical.byContradiction fun _ => r (zB_0.mpr (zB_0.mp (by assumption)))))
            | exact absurd h75 h84
          skip
      · skip
        refine y_loc (pc' := 70) xD_120 rfl rfl rfl rfl ?_
        refine y_loc (pc' := 72) xD_120 rfl rfl rfl rfl ?_
        refine y_callV xD_120 rfl rfl rfl rfl (by first | rfl | assumption) rfl rfl rfl rfl (s_setLine (d := d) hR hL q hq20 rfl) (fun v h' hq => ?_)
        obtain ⟨rfl, rfl⟩ := hq
        refine y_ifne (pt := 101) (pf := 78) xD_120 rfl rfl rfl (fun h75 => ?_) (fun h75 => ?_)
        · skip
          refine y_loc (pc' := 102) xD_120 rfl rfl rfl rfl ?_
          refine y_loc (pc' := 104) xD_120 rfl rfl rfl rfl ?_
          refine y_ci (pc' := 106) (10) xD_120 rfl rfl rfl rfl ?_
          refine y_op (pc' := 107) xD_120 rfl rfl (show (if (10 : Int32) = 0 then none else some (Value.int (nI q / 10) :: _)) = some _ from if_neg (by decide)) rfl ?_
          refine y_loc (pc' := 109) xD_120 rfl rfl rfl rfl ?_
          refine y_ci (pc' := 111) (10) xD_120 rfl rfl rfl rfl ?_
          refine y_op (pc' := 112) xD_120 rfl rfl (show (if (10 : Int32) = 0 then none else some (Value.int (nI q - nI q / 10 * 10) :: _)) = some _ from if_neg (by decide)) rfl ?_
          refine y_ci (pc' := 113) (3) xD_120 rfl rfl rfl rfl ?_
          refine y_callV xD_120 rfl rfl rfl rfl (by first | rfl | assumption) rfl rfl rfl rfl (s_code hR (show q / 10 < 2 by omega) (q % 10) 3 (by omega) (by decide) hd hr rfl) (fun v h' hq => ?_)
          obtain ⟨rfl, rfl⟩ := hq
          refine y_loc (pc' := 117) xD_120 rfl rfl rfl rfl ?_
          refine y_op (pc' := 118) xD_120 rfl rfl rfl rfl ?_
          refine y_ci (pc' := 119) (2) xD_120 rfl rfl rfl rfl ?_
          refine y_op (pc' := 120) xD_120 rfl rfl rfl rfl ?_
          refine y_retI xD_120 rfl rfl ?_
          refine rI_e ?_
          have hw0 : w = 0 := Nat.eq_zero_of_not_pos (fun r => h66 ((nI_ltI (a := 0) (by decide) (by omega)).mpr r))
          rw [show w0 = scnt I q by omega, hcon q hq20 (zB_n0.mp h75)]
        · skip
          refine y_loc (pc' := 79) xD_120 rfl rfl rfl rfl ?_
          refine y_loc (pc' := 81) xD_120 rfl rfl rfl rfl ?_
          refine y_callV xD_120 rfl rfl rfl rfl (by first | rfl | assumption) rfl rfl rfl rfl (s_setLine (d := d) hR hL q hq20 rfl) (fun v h' hq => ?_)
          obtain ⟨rfl, rfl⟩ := hq
          refine y_ifeq (pt := 93) (pf := 87) xD_120 rfl rfl rfl (fun h84 => ?_) (fun h84 => ?_)
          · skip
            refine y_loc (pc' := 94) xD_120 rfl rfl rfl rfl ?_
            refine y_loc (pc' := 95) xD_120 rfl rfl rfl rfl ?_
            refine y_inc (pc' := 98) (nI (q + 1)) xD_120 rfl rfl rfl e5 rfl rfl ?_
            refine y_goto (pc' := 65) xD_120 rfl rfl ?_
            first
              | exact ih (q + 1) w (by omega) (by rw [scnt_n (zB_0.mp h84)]; exact he)
              | (have hw1 : 0 < w := (nI_ltI (a := 0) (by decide) (by omega)).mp h66
                 have e7 : nI w - 1 = nI (w - 1) := pk_sub (b := 1) hw1
                 have := ih (q + 1) (w - 1) (by omega) (by rw [scnt_y (zB_n0.mp h84)]; omega)
                 rw [← e7] at this
                 exact this)
              | exact absurd h75 (fun r => h84 (Classical.byContradiction fun _ => r (zB_0.mpr (zB_0.mp (by assumption)))))
              | exact absurd h75 h84
            skip
          · skip
            refine y_loc (pc' := 88) xD_120 rfl rfl rfl rfl ?_
            refine y_ci (pc' := 89) (1) xD_120 rfl rfl rfl rfl ?_
            refine y_op (pc' := 90) xD_120 rfl rfl rfl rfl ?_
            refine y_goto (pc' := 94) xD_120 rfl rfl ?_
            refine y_loc (pc' := 95) xD_120 rfl rfl rfl rfl ?_
            refine y_inc (pc' := 98) (nI (q + 1)) xD_120 rfl rfl rfl e5 rfl rfl ?_
            refine y_goto (pc' := 65) xD_120 rfl rfl ?_
            first
              | exact ih (q + 1) w (by omega) (by rw [scnt_n (zB_0.mp h84)]; exact he)
              | (have hw1 : 0 < w := (nI_ltI (a := 0) (by decide) (by omega)).mp h66
                 have e7 : nI w - 1 = nI (w - 1) := pk_sub (b := 1) hw1
                 have := ih (q + 1) (w - 1) (by omega) (by rw [scnt_y (zB_n0.mp h84)]; omega)
                 rw [← e7] at this
                 exact this)
              | exact absurd h75 (fun r => h84 (Classical.byContradiction fun _ => r (zB_0.mpr (zB_0.mp (by assumption)))))
              | exact absurd h75 h84
            skip
  have cnt : ∀ (J' : Nat → Nat → Int64) (Q : Option Value → XH → Prop), XP S (d + 2) 120 38 [some (.ref 261), some (.int (nI (dv (dn (J 261 14)) 4))), some (.int (nI cc)), some (.int (nI 20)), none] [] (hh I J' R) Q → ∀ (f k : Nat), k + f = 20 → XP S (d + 2) 120 10 [some (.ref 261), some (.int (nI (dv (dn (J 261 14)) 4))), some (.int (nI (scnt I k))), some (.int (nI k)), none] [] (hh I J' R) Q := by
    intro J' Q K f
    induction f with
    | zero =>
      intro k hk
      rw [show k = 20 by omega, ← hcc]
      refine y_loc (pc' := 11) xD_120 rfl rfl rfl rfl ?_
      refine y_ci (pc' := 13) (20) xD_120 rfl rfl rfl rfl ?_
      refine y_icge (pt := 38) (pf := 16) xD_120 rfl rfl rfl (fun h13 => ?_) (fun h13 => ?_)
      · skip
        exact K
      · exact absurd (Int32.le_refl _) h13
    | succ f ih =>
      intro k hk
      have e5 : nI k + 1 = nI (k + 1) := nI_1 k
      have e6 : nI (scnt I k) + 1 = nI (scnt I k + 1) := nI_1 _
      have step := ih (k + 1) (by omega)
      refine y_loc (pc' := 11) xD_120 rfl rfl rfl rfl ?_
      refine y_ci (pc' := 13) (20) xD_120 rfl rfl rfl rfl ?_
      refine y_icge (pt := 38) (pf := 16) xD_120 rfl rfl rfl (fun h13 => ?_) (fun h13 => ?_)
      · skip
        exact absurd h13 (nI_ge (b := 20) (by omega) (by decide))
      · skip
        refine y_loc (pc' := 17) xD_120 rfl rfl rfl rfl ?_
        refine y_loc (pc' := 18) xD_120 rfl rfl rfl rfl ?_
        refine y_callV xD_120 rfl rfl rfl rfl (by first | rfl | assumption) rfl rfl rfl rfl (s_setLine (d := d) hR hL k (by omega) rfl) (fun v h' hq => ?_)
        obtain ⟨rfl, rfl⟩ := hq
        refine y_ifeq (pt := 30) (pf := 24) xD_120 rfl rfl rfl (fun h21 => ?_) (fun h21 => ?_)
        · skip
          refine y_loc (pc' := 31) xD_120 rfl rfl rfl rfl ?_
          refine y_loc (pc' := 32) xD_120 rfl rfl rfl rfl ?_
          refine y_inc (pc' := 35) (nI (k + 1)) xD_120 rfl rfl rfl e5 rfl rfl ?_
          refine y_goto (pc' := 10) xD_120 rfl rfl ?_
          first
            | (rw [scnt_n (zB_0.mp h21)] at step; exact step)
            | (rw [scnt_y (zB_n0.mp h21), ← e6] at step; exact step)
          skip
        · skip
          refine y_loc (pc' := 25) xD_120 rfl rfl rfl rfl ?_
          refine y_ci (pc' := 26) (1) xD_120 rfl rfl rfl rfl ?_
          refine y_op (pc' := 27) xD_120 rfl rfl rfl rfl ?_
          refine y_goto (pc' := 31) xD_120 rfl rfl ?_
          refine y_loc (pc' := 32) xD_120 rfl rfl rfl rfl ?_
          refine y_inc (pc' := 35) (nI (k + 1)) xD_120 rfl rfl rfl e5 rfl rfl ?_
          refine y_goto (pc' := 10) xD_120 rfl rfl ?_
          first
            | (rw [scnt_n (zB_0.mp h21)] at step; exact step)
            | (rw [scnt_y (zB_n0.mp h21), ← e6] at step; exact step)
          skip
  refine y_loc (pc' := 1) xD_120 rfl rfl rfl rfl ?_
  refine y_ci (pc' := 2) (4) xD_120 rfl rfl rfl rfl ?_
  refine y_callV xD_120 rfl rfl rfl rfl (by first | rfl | assumption) rfl rfl rfl rfl (s_mdraw 4 (by decide) (by decide) rfl) (fun v h' hq => ?_)
  obtain ⟨rfl, rfl⟩ := hq
  refine y_loc (pc' := 6) xD_120 rfl rfl rfl rfl ?_
  refine y_ci (pc' := 7) (0) xD_120 rfl rfl rfl rfl ?_
  refine y_loc (pc' := 8) xD_120 rfl rfl rfl rfl ?_
  refine y_ci (pc' := 9) (0) xD_120 rfl rfl rfl rfl ?_
  refine y_loc (pc' := 10) xD_120 rfl rfl rfl rfl ?_
  refine cnt _ _ ?_ 20 0 (by omega)
  refine y_loc (pc' := 39) xD_120 rfl rfl rfl rfl ?_
  refine y_ifeq (pt := 46) (pf := 42) xD_120 rfl rfl rfl (fun h39 => ?_) (fun h39 => ?_)
  · skip
    refine y_loc (pc' := 47) xD_120 rfl rfl rfl rfl ?_
    refine y_ci (pc' := 49) (21) xD_120 rfl rfl rfl rfl ?_
    refine y_callV xD_120 rfl rfl rfl rfl (by first | rfl | assumption) rfl rfl rfl rfl (s_mdraw 21 (by decide) (by decide) rfl) (fun v h' hq => ?_)
    obtain ⟨rfl, rfl⟩ := hq
    rw [xu_ii, xu_xu]
    refine y_ci (pc' := 54) (10) xD_120 rfl rfl rfl rfl ?_
    refine y_op (pc' := 55) xD_120 rfl rfl rfl rfl ?_
    refine y_retI xD_120 rfl rfl ?_
    refine rI_e ?_
    show nI (dv (dn (dn (J 261 14))) 21) - 10 = _
    unfold dnum
    first | rw [if_pos (Or.inl ((nI_z (by omega)).mp h39))] | rw [if_pos (Or.inr ((nI_z (by omega)).mp h43))]
  · skip
    refine y_loc (pc' := 43) xD_120 rfl rfl rfl rfl ?_
    refine y_ifne (pt := 56) (pf := 46) xD_120 rfl rfl rfl (fun h43 => ?_) (fun h43 => ?_)
    · skip
      refine y_loc (pc' := 57) xD_120 rfl rfl rfl rfl ?_
      refine y_loc (pc' := 58) xD_120 rfl rfl rfl rfl ?_
      have hc : 0 < cc := Nat.pos_of_ne_zero (fun q => h43 (by rw [q]; rfl))
      refine y_callV xD_120 rfl rfl rfl rfl (by first | rfl | assumption) rfl rfl rfl rfl (s_mdraw cc hc (by omega) rfl) (fun v h' hq => ?_)
      obtain ⟨rfl, rfl⟩ := hq
      rw [xu_ii, xu_xu]
      refine y_loc (pc' := 62) xD_120 rfl rfl rfl rfl ?_
      refine y_ci (pc' := 63) (0) xD_120 rfl rfl rfl rfl ?_
      refine y_loc (pc' := 65) xD_120 rfl rfl rfl rfl ?_
      have hx : dnum (J 261 14) cc con = con (dv (dn (dn (J 261 14))) cc) + nI (dv (dn (J 261 14)) 4) - 2 := by unfold dnum; rw [if_neg (fun q => q.elim (fun e => h39 ((nI_z (by omega)).mpr e)) (fun e => h43 ((nI_z (by omega)).mpr e)))]
      rw [hx]
      exact find _ (dv (dn (dn (J 261 14))) cc) (dv_lt _ hc) 20 0 _ (by omega) (by show _ + 0 = _; omega)
    · skip
      refine y_loc (pc' := 47) xD_120 rfl rfl rfl rfl ?_
      refine y_ci (pc' := 49) (21) xD_120 rfl rfl rfl rfl ?_
      refine y_callV xD_120 rfl rfl rfl rfl (by first | rfl | assumption) rfl rfl rfl rfl (s_mdraw 21 (by decide) (by decide) rfl) (fun v h' hq => ?_)
      obtain ⟨rfl, rfl⟩ := hq
      rw [xu_ii, xu_xu]
      refine y_ci (pc' := 54) (10) xD_120 rfl rfl rfl rfl ?_
      refine y_op (pc' := 55) xD_120 rfl rfl rfl rfl ?_
      refine y_retI xD_120 rfl rfl ?_
      refine rI_e ?_
      show nI (dv (dn (dn (J 261 14))) 21) - 10 = _
      unfold dnum
      first | rw [if_pos (Or.inl ((nI_z (by omega)).mp h39))] | rw [if_pos (Or.inr ((nI_z (by omega)).mp h43))]
end MD

