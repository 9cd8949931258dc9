/-! A step, a run: the words; the class's doStep. -/
/-- the value of a result -/
def q_val (r : Int64) : Int32 := if r = r.toInt32.toInt64 then r.toInt32 else 0
/-- a step's numbers are well: its kind, its REF -/
def VS (f : Nat → Int32) (j : Nat) : Prop := (∃ t, t < 8 ∧ ¬ t = 2 ∧ ¬ t = 3 ∧ f (4 * j) = nI t) ∧ (f (4 * j) < 2 → f (4 * j + 3) = -1 ∨ ∃ r, r < j ∧ f (4 * j + 3) = nI r)
/-- what a call is given -/
def q_arg (f : Nat → Int32) (j : Nat) (v : Nat → Int32) (res : Nat → Int64) : Nat → Int32 := upd (upd (upd (upd v 0 (f (4 * j + 1))) 1 (if f (4 * j + 3) = -1 then f (4 * j + 2) else q_val (res (f (4 * j + 3)).toNatClampNeg))) 2 0) 3 0
def q_do (U : Nat → Int64 → Int64 → (Nat → Int64) → Nat → Int64) (cdf : Nat → Nat → Nat → Int32) (bnf : Nat → Nat → Option Nat) (ln : Nat → Nat) (f : Nat → Int32) (j : Nat) (v : Nat → Int32) (N res : Nat → Int64) : Int64 × (Nat → Int32) × (Nat → Int64) :=
  if f (4 * j) < 2 then q_call U (cdf (f (4 * j)).toNatClampNeg) (bnf (f (4 * j)).toNatClampNeg) (ln (f (4 * j)).toNatClampNeg) 40 0 (q_arg f j v res) N
  else (0, upd v (f (4 * j)).toNatClampNeg (f (4 * j + 1)), N)
/-- the class's program is well -/
def lnC (I : Nat → Nat → Int32) (m : Nat) : Nat := (I (4 + 6 * m) 5).toNatClampNeg
def PC (I : Nat → Nat → Int32) : Prop := ∀ m, m < 2 → I (4 + 6 * m) 5 = nI (lnC I m) ∧ lnC I m ≤ 10 ∧ VC (cdC I (4 + 6 * m)) (lnC I m) ∧ ∀ p, p < lnC I m → I (4 + 6 * m + 5) p = -1 ∨ ∃ k, k < 12 ∧ I (4 + 6 * m + 5) p = nI k
theorem PC_eq {I I' : Nat → Nat → Int32} (h : ∀ x, x < 16 → I' x = I x) (hP : PC I) : PC I' ∧ ∀ m, m < 2 → lnC I' m = lnC I m ∧ cdC I' (4 + 6 * m) = cdC I (4 + 6 * m) ∧ bnC I' (4 + 6 * m) = bnC I (4 + 6 * m) := by
  have key : ∀ m, m < 2 → lnC I' m = lnC I m ∧ cdC I' (4 + 6 * m) = cdC I (4 + 6 * m) ∧ bnC I' (4 + 6 * m) = bnC I (4 + 6 * m) := by
    intro m hm
    refine ⟨?_, cdC_eq (by omega) h, bnC_eq (by omega) h⟩
    unfold lnC
    rw [h _ (by omega)]
  refine ⟨fun m hm => ?_, key⟩
  obtain ⟨k1, k2, k3⟩ := key m hm
  rw [k1, k2, h _ (by omega), h _ (by omega)]
  exact hP m hm
section DS
variable {S : XS} {d a : Nat} {I : Nat → Nat → Int32} {J : Nat → Nat → Int64} {R : Nat → Nat → Option Nat} {h : XH}
theorem s_valueOf {w : Int64} : XP S d 39 0 (xent [.long w] 2) [] h (rI (q_val w) h) := by
  refine y_loc (pc' := 1) xD_39 rfl rfl rfl rfl ?_
  refine y_loc (pc' := 2) xD_39 rfl rfl rfl rfl ?_
  refine y_op (pc' := 3) xD_39 rfl rfl rfl rfl ?_
  refine y_op (pc' := 4) xD_39 rfl rfl rfl rfl ?_
  refine y_op (pc' := 5) xD_39 rfl rfl rfl rfl ?_
  refine y_ifne (pt := 13) (pf := 8) xD_39 rfl rfl rfl (fun h5 => ?_) (fun h5 => ?_)
  · skip
    refine y_ci (pc' := 14) (0) xD_39 rfl rfl rfl rfl ?_
    refine y_retI xD_39 rfl rfl ?_
    refine rI_e ?_
    unfold q_val
    first | rw [if_pos (lg_eq.mp h5)] | rw [if_neg (fun q => h5 (lg_eq.mpr q))]
  · skip
    refine y_loc (pc' := 9) xD_39 rfl rfl rfl rfl ?_
    refine y_op (pc' := 10) xD_39 rfl rfl rfl rfl ?_
    refine y_goto (pc' := 14) xD_39 rfl rfl ?_
    refine y_retI xD_39 rfl rfl ?_
    refine rI_e ?_
    unfold q_val
    first | rw [if_pos (lg_eq.mp h5)] | rw [if_neg (fun q => h5 (lg_eq.mpr q))]
/-- Runner.doStep -/
theorem s_doStep (hR : RF R) (hc : isCase a) (hP : PC I) (j : Nat) (hj : j < 6) (hV : VS (I (a + 1)) j) {x : Int32} (hx : x = nI j) :
    XP S (d + 4) 37 0 (xent [.ref 20, .ref a, .int x, .ref 2] 7) [] (hh I J R) (rJ (q_do UC (fun m => cdC I (4 + 6 * m)) (fun m => bnC I (4 + 6 * m)) (lnC I) (I (a + 1)) j (I 21) (J 22) (J (a + 2))).1 (hh (xrow I 21 (q_do UC (fun m => cdC I (4 + 6 * m)) (fun m => bnC I (4 + 6 * m)) (lnC I) (I (a + 1)) j (I 21) (J 22) (J (a + 2))).2.1) (xrow J 22 (q_do UC (fun m => cdC I (4 + 6 * m)) (fun m => bnC I (4 + 6 * m)) (lnC I) (I (a + 1)) j (I 21) (J 22) (J (a + 2))).2.2) R)) := by
  have ca := hc
  obtain ⟨hk0, hk1, hk2, hk3⟩ := kCase hc
  obtain ⟨hr0, hr1, hr2⟩ := hR.2 a hc
  obtain ⟨⟨t, ht, ht2, ht3, hkd⟩, hrf⟩ := hV
  have hkd2 : I (a + 1) (4 * j + 0) = nI t := hkd
  by_cases hlt : t < 2
  · have hlt2 : I (a + 1) (4 * j) < 2 := by rw [hkd]; exact nI_lt (b := 2) hlt (by omega)
    unfold q_do
    rw [if_pos hlt2, hkd, nI_cl (by omega)]
    have ha1 : a + 1 ≠ 21 := by unfold isCase at ca; omega
    have hA : 4 + 6 * t = 4 ∨ 4 + 6 * t = 10 := by omega
    have fin : ∀ (y' : Int32) (q4 q5 q6 : Option Value), y' = (if I (a + 1) (4 * j + 3) = -1 then I (a + 1) (4 * j + 2) else q_val (J (a + 2) (I (a + 1) (4 * j + 3)).toNatClampNeg)) → q4 = some (.int (I (a + 1) (4 * j + 0))) → XP S (d + 4) 37 82 [some (.ref 20), some (.ref a), some (.int x), some (.ref 2), q4, q5, q6] [] (hh (xrow I 21 (upd (upd (I 21) 0 (I (a + 1) (4 * j + 1))) 1 y')) J R) (rJ (q_call UC (cdC I (4 + 6 * t)) (bnC I (4 + 6 * t)) (lnC I t) 40 0 (q_arg (I (a + 1)) j (I 21) (J (a + 2))) (J 22)).1 (hh (xrow I 21 (q_call UC (cdC I (4 + 6 * t)) (bnC I (4 + 6 * t)) (lnC I t) 40 0 (q_arg (I (a + 1)) j (I 21) (J (a + 2))) (J 22)).2.1) (xrow J 22 (q_call UC (cdC I (4 + 6 * t)) (bnC I (4 + 6 * t)) (lnC I t) 40 0 (q_arg (I (a + 1)) j (I 21) (J (a + 2))) (J 22)).2.2) R)) := by
      intro y' q4 q5 q6 hy h4
      subst h4
      have hr3 : R 3 t = some (4 + 6 * t) := by
        rcases (show t = 0 ∨ t = 1 by omega) with rfl | rfl
        · exact hR.1 _ _ _ rfl
        · exact hR.1 _ _ _ rfl
      have harg : upd (upd (upd (upd (I 21) 0 (I (a + 1) (4 * j + 1))) 1 y') 2 0) 3 0 = q_arg (I (a + 1)) j (I 21) (J (a + 2)) := by rw [hy]; rfl
      obtain ⟨hP', hE⟩ := PC_eq (I' := xrow I 21 (q_arg (I (a + 1)) j (I 21) (J (a + 2)))) (fun y hy => xrow_ne (by omega)) hP
      obtain ⟨p1, p2, p3, p4⟩ := hP' t hlt
      obtain ⟨E1, E2, E3⟩ := hE t hlt
      refine y_loc (pc' := 83) xD_37 rfl rfl rfl rfl ?_
      first | refine m_getR (pc' := 86) xD_37 rfl rfl rfl rfl (hR.1 _ _ _ rfl) rfl ?_ | refine m_getR (pc' := 86) xD_37 rfl rfl (by first | rfl | assumption) rfl (by assumption) rfl ?_
      refine y_ci (pc' := 87) (2) xD_37 rfl rfl rfl rfl ?_
      refine y_ci (pc' := 88) (0) xD_37 rfl rfl rfl rfl ?_
      refine m_iast (pc' := 89) (2) xD_37 rfl (by first | rfl | assumption) (by first | assumption | omega) (by decide) (by first | rfl | assumption) rfl ?_
      rw [xu_rowI, xrow_row, xrow_at]
      refine y_loc (pc' := 90) xD_37 rfl rfl rfl rfl ?_
      first | refine m_getR (pc' := 93) xD_37 rfl rfl rfl rfl (hR.1 _ _ _ rfl) rfl ?_ | refine m_getR (pc' := 93) xD_37 rfl rfl (by first | rfl | assumption) rfl (by assumption) rfl ?_
      refine y_ci (pc' := 94) (3) xD_37 rfl rfl rfl rfl ?_
      refine y_ci (pc' := 95) (0) xD_37 rfl rfl rfl rfl ?_
      refine m_iast (pc' := 96) (3) xD_37 rfl (by first | rfl | assumption) (by first | assumption | omega) (by decide) (by first | rfl | assumption) rfl ?_
      rw [xu_rowI, xrow_row, xrow_at, harg]
      refine y_loc (pc' := 97) xD_37 rfl rfl rfl rfl ?_
      refine y_loc (pc' := 98) xD_37 rfl rfl rfl rfl ?_
      first | refine m_getR (pc' := 101) xD_37 rfl rfl rfl rfl (hR.1 _ _ _ rfl) rfl ?_ | refine m_getR (pc' := 101) xD_37 rfl rfl (by first | rfl | assumption) rfl (by assumption) rfl ?_
      refine y_loc (pc' := 103) xD_37 rfl rfl rfl rfl ?_
      refine m_aald (pc' := 104) (t) (q := 1) xD_37 rfl (by first | rfl | assumption) (by decide) (by first | assumption | omega) (by decide) hkd2 hr3 rfl ?_
      refine y_callV xD_37 rfl rfl rfl rfl (by first | rfl | assumption) rfl rfl rfl rfl (s_callMethod hR hA p1 p2 p3 p4) (fun v h' hq => ?_)
      obtain ⟨rfl, rfl⟩ := hq
      rw [E1, E2, E3, xrow_at, xrow_row]
      refine y_retJ xD_37 rfl rfl ?_
      exact rJ_e rfl
    refine y_loc (pc' := 1) xD_37 rfl rfl rfl rfl ?_
    refine y_loc (pc' := 2) xD_37 rfl rfl rfl rfl ?_
    refine y_ci (pc' := 3) (0) xD_37 rfl rfl rfl rfl ?_
    refine y_callV xD_37 rfl rfl rfl rfl (by first | rfl | assumption) rfl rfl rfl rfl (s_part hR hc j 0 hj (by decide) hx rfl) (fun v h' hq => ?_)
    obtain ⟨rfl, rfl⟩ := hq
    refine y_loc (pc' := 8) xD_37 rfl rfl rfl rfl ?_
    refine y_loc (pc' := 9) xD_37 rfl rfl rfl rfl ?_
    refine y_loc (pc' := 10) xD_37 rfl rfl rfl rfl ?_
    refine y_ci (pc' := 11) (1) xD_37 rfl rfl rfl rfl ?_
    refine y_callV xD_37 rfl rfl rfl rfl (by first | rfl | assumption) rfl rfl rfl rfl (s_part hR hc j 1 hj (by decide) hx rfl) (fun v h' hq => ?_)
    obtain ⟨rfl, rfl⟩ := hq
    refine y_loc (pc' := 16) xD_37 rfl rfl rfl rfl ?_
    refine y_loc (pc' := 18) xD_37 rfl rfl rfl rfl ?_
    refine y_callS xD_37 rfl rfl rfl rfl rfl rfl rfl rfl (s_isMethod) (fun v h' hq => ?_)
    obtain ⟨rfl, rfl⟩ := hq
    refine y_ifne (pt := 35) (pf := 24) xD_37 rfl rfl rfl (fun h21 => ?_) (fun h21 => ?_)
    · skip
      refine y_loc (pc' := 36) xD_37 rfl rfl rfl rfl ?_
      refine y_loc (pc' := 37) xD_37 rfl rfl rfl rfl ?_
      refine y_ci (pc' := 38) (3) xD_37 rfl rfl rfl rfl ?_
      refine y_callV xD_37 rfl rfl rfl rfl (by first | rfl | assumption) rfl rfl rfl rfl (s_part hR hc j 3 hj (by decide) hx rfl) (fun v h' hq => ?_)
      obtain ⟨rfl, rfl⟩ := hq
      refine y_loc (pc' := 43) xD_37 rfl rfl rfl rfl ?_
      refine y_loc (pc' := 44) xD_37 rfl rfl rfl rfl ?_
      first | refine m_getR (pc' := 47) xD_37 rfl rfl rfl rfl (hR.1 _ _ _ rfl) rfl ?_ | refine m_getR (pc' := 47) xD_37 rfl rfl (by first | rfl | assumption) rfl (by assumption) rfl ?_
      refine y_ci (pc' := 48) (0) xD_37 rfl rfl rfl rfl ?_
      refine y_loc (pc' := 50) xD_37 rfl rfl rfl rfl ?_
      refine m_iast (pc' := 51) (0) xD_37 rfl (by first | rfl | assumption) (by first | assumption | omega) (by decide) (by first | rfl | assumption) rfl ?_
      rw [xu_rowI]
      refine y_loc (pc' := 52) xD_37 rfl rfl rfl rfl ?_
      first | refine m_getR (pc' := 55) xD_37 rfl rfl rfl rfl (hR.1 _ _ _ rfl) rfl ?_ | refine m_getR (pc' := 55) xD_37 rfl rfl (by first | rfl | assumption) rfl (by assumption) rfl ?_
      refine y_ci (pc' := 56) (1) xD_37 rfl rfl rfl rfl ?_
      refine y_loc (pc' := 58) xD_37 rfl rfl rfl rfl ?_
      refine y_ci (pc' := 59) (-1) xD_37 rfl rfl rfl rfl ?_
      refine y_icne (pt := 71) (pf := 62) xD_37 rfl rfl rfl (fun h59 => ?_) (fun h59 => ?_)
      · skip
        refine y_loc (pc' := 72) xD_37 rfl rfl rfl rfl ?_
        first | refine m_getR (pc' := 75) xD_37 rfl rfl rfl rfl (hR.1 _ _ _ rfl) rfl ?_ | refine m_getR (pc' := 75) xD_37 rfl rfl (by first | rfl | assumption) rfl (by assumption) rfl ?_
        refine y_loc (pc' := 77) xD_37 rfl rfl rfl rfl ?_
        obtain ⟨r, hr, er⟩ := (hrf hlt2).resolve_left h59
        have hr6 : r < 6 := by omega
        refine m_jald (pc' := 78) (r) xD_37 rfl (by first | rfl | assumption) (by first | assumption | omega) (by decide) (by first | rfl | assumption) rfl ?_
        refine y_callS xD_37 rfl rfl rfl rfl rfl rfl rfl rfl (s_valueOf) (fun v h' hq => ?_)
        obtain ⟨rfl, rfl⟩ := hq
        refine m_iast (pc' := 82) (1) xD_37 rfl (by first | rfl | assumption) (by first | assumption | omega) (by decide) (by first | rfl | assumption) rfl ?_
        rw [xu_rowI, xrow_row, xrow_at]
        first
        | exact fin _ _ _ _ (by rw [if_pos h59]) rfl
        | exact fin _ _ _ _ (by rw [if_neg h59, er, nI_cl (by omega)]) rfl
      · skip
        refine y_loc (pc' := 63) xD_37 rfl rfl rfl rfl ?_
        refine y_loc (pc' := 64) xD_37 rfl rfl rfl rfl ?_
        refine y_ci (pc' := 65) (2) xD_37 rfl rfl rfl rfl ?_
        refine y_callV xD_37 rfl rfl rfl rfl (by first | rfl | assumption) rfl rfl rfl rfl (s_part hR hc j 2 hj (by decide) hx rfl) (fun v h' hq => ?_)
        obtain ⟨rfl, rfl⟩ := hq
        rw [xrow_ne ha1]
        refine y_goto (pc' := 81) xD_37 rfl rfl ?_
        refine m_iast (pc' := 82) (1) xD_37 rfl (by first | rfl | assumption) (by first | assumption | omega) (by decide) (by first | rfl | assumption) rfl ?_
        rw [xu_rowI, xrow_row, xrow_at]
        first
        | exact fin _ _ _ _ (by rw [if_pos h59]) rfl
        | exact fin _ _ _ _ (by rw [if_neg h59, er, nI_cl (by omega)]) rfl
    · skip
      exact absurd ⟨show (0 : Int32) ≤ I (a + 1) (4 * j) by rw [hkd]; exact nI_pos' (by omega), hlt2⟩ (zB_0.mp h21)
  · have hlt2 : ¬ I (a + 1) (4 * j) < 2 := by rw [hkd]; exact nI_nlt (b := 2) (by omega) (by omega)
    unfold q_do
    rw [if_neg hlt2, hkd, nI_cl (by omega)]
    refine y_loc (pc' := 1) xD_37 rfl rfl rfl rfl ?_
    refine y_loc (pc' := 2) xD_37 rfl rfl rfl rfl ?_
    refine y_ci (pc' := 3) (0) xD_37 rfl rfl rfl rfl ?_
    refine y_callV xD_37 rfl rfl rfl rfl (by first | rfl | assumption) rfl rfl rfl rfl (s_part hR hc j 0 hj (by decide) hx rfl) (fun v h' hq => ?_)
    obtain ⟨rfl, rfl⟩ := hq
    refine y_loc (pc' := 8) xD_37 rfl rfl rfl rfl ?_
    refine y_loc (pc' := 9) xD_37 rfl rfl rfl rfl ?_
    refine y_loc (pc' := 10) xD_37 rfl rfl rfl rfl ?_
    refine y_ci (pc' := 11) (1) xD_37 rfl rfl rfl rfl ?_
    refine y_callV xD_37 rfl rfl rfl rfl (by first | rfl | assumption) rfl rfl rfl rfl (s_part hR hc j 1 hj (by decide) hx rfl) (fun v h' hq => ?_)
    obtain ⟨rfl, rfl⟩ := hq
    refine y_loc (pc' := 16) xD_37 rfl rfl rfl rfl ?_
    refine y_loc (pc' := 18) xD_37 rfl rfl rfl rfl ?_
    refine y_callS xD_37 rfl rfl rfl rfl rfl rfl rfl rfl (s_isMethod) (fun v h' hq => ?_)
    obtain ⟨rfl, rfl⟩ := hq
    refine y_ifne (pt := 35) (pf := 24) xD_37 rfl rfl rfl (fun h21 => ?_) (fun h21 => ?_)
    · skip
      exact absurd (zB_n0.mp h21).2 hlt2
    · skip
      refine y_loc (pc' := 25) xD_37 rfl rfl rfl rfl ?_
      first | refine m_getR (pc' := 28) xD_37 rfl rfl rfl rfl (hR.1 _ _ _ rfl) rfl ?_ | refine m_getR (pc' := 28) xD_37 rfl rfl (by first | rfl | assumption) rfl (by assumption) rfl ?_
      refine y_loc (pc' := 30) xD_37 rfl rfl rfl rfl ?_
      refine y_loc (pc' := 32) xD_37 rfl rfl rfl rfl ?_
      refine m_iast (pc' := 33) (t) xD_37 rfl (by first | rfl | assumption) (by first | assumption | omega) (by decide) hkd2 rfl ?_
      rw [xu_rowI]
      refine y_cj (pc' := 34) (0) xD_37 rfl rfl rfl rfl ?_
      refine y_retJ xD_37 rfl rfl ?_
      show rJ 0 (hh (xrow I 21 _) (xrow J 22 (J 22)) R) _ _
      rw [xrow_id]
      exact rJ_e rfl
end DS

