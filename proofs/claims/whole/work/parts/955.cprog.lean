/-! The program's branches: the class. -/
/-- how many branches a method adds -/
def ad (cd : Nat → Nat → Int32) (n : Nat) : Nat := if wt cd n = true then bc cd n else 0
theorem ad_6 {cd : Nat → Nat → Int32} {n : Nat} : ad cd n ≤ 6 := by
  unfold ad
  split
  · exact wt_6 (by assumption)
  · omega
def StC (A : Nat) (cd : Nat → Nat → Int32) (n f : Nat) (I I' : Nat → Nat → Int32) : Prop :=
  I' 2 3 = nI (f + ad cd n) ∧ I' A 6 = zB (wt cd n) ∧ (∀ p, p < n → I' (A + 5) p = if wt cd n = true ∧ br cd p = true then nI (f + bc cd p) else I (A + 5) p) ∧ (wt cd n = true → ∀ p, p < n → br cd p = true → ND cd n f p (I' 16 (f + bc cd p)) ∧ (¬ I' 17 (f + bc cd p) = 0 ↔ (I' 16 (f + bc cd p) = 0 ∨ ms cd n p 0))) ∧ (∀ k, k < f ∨ f + ad cd n ≤ k → I' 16 k = I 16 k ∧ I' 17 k = I 17 k) ∧ (∀ x, x ≠ 2 → x ≠ A → x ≠ A + 5 → x ≠ 16 → x ≠ 17 → I' x = I x) ∧ (∀ j, j ≠ 3 → I' 2 j = I 2 j) ∧ ∀ j, j ≠ 6 → I' A j = I A j
section PS
variable {S : XS} {d m n f : Nat} {I : Nat → Nat → Int32} {J : Nat → Nat → Int64} {R : Nat → Nat → Option Nat}
theorem s_pstep (hR : RF R) (hm : m < 2) (hn : I (4 + 6 * m) 5 = nI n) (hn2 : n ≤ 10) (hf : f ≤ 6) (h2 : I 2 3 = nI f) {cd : Nat → Nat → Int32} (ecd : cd = cdC I (4 + 6 * m)) (hV : VC cd n) {Q : Option Value → XH → Prop}
    (K : ∀ I', StC (4 + 6 * m) cd n f I I' → XP S (d + 5) 17 46 [some (.ref 2), some (.int (nI m))] [] (hh I' J R) Q) : XP S (d + 5) 17 7 [some (.ref 2), some (.int (nI m))] [] (hh I J R) Q := by
  have hA : 4 + 6 * m = 4 ∨ 4 + 6 * m = 10 := by omega
  obtain ⟨k0, -, -, -, -, -⟩ := kMeth hA
  have rm : R 3 m = some (4 + 6 * m) := by
    rcases (show m = 0 ∨ m = 1 by omega) with rfl | rfl
    · exact hR.1 3 0 4 (by decide)
    · exact hR.1 3 1 10 (by decide)
  obtain ⟨A, eA⟩ : ∃ A, A = 4 + 6 * m := ⟨_, rfl⟩
  rw [← eA] at hA k0 rm hn ecd K
  refine y_loc (pc' := 8) xD_17 rfl rfl rfl rfl ?_
  refine y_loc (pc' := 9) xD_17 rfl rfl rfl rfl ?_
  first | refine m_getR (pc' := 12) xD_17 rfl rfl rfl rfl (hR.1 _ _ _ rfl) rfl ?_ | refine m_getR (pc' := 12) xD_17 rfl rfl (by first | rfl | assumption) rfl (by assumption) rfl ?_
  refine y_loc (pc' := 13) xD_17 rfl rfl rfl rfl ?_
  refine m_aald (pc' := 14) (m) (q := 1) xD_17 rfl (by first | rfl | assumption) (by first | decide | assumption) (by first | assumption | omega) (by first | decide | assumption) (by first | rfl | assumption) rm rfl ?_
  refine y_loc (pc' := 15) xD_17 rfl rfl rfl rfl ?_
  refine m_getI (pc' := 18) xD_17 rfl rfl rfl (by first | rfl | assumption) (h2) rfl ?_
  refine y_callV xD_17 rfl rfl rfl rfl (by first | rfl | assumption) rfl rfl rfl rfl (s_number (d := d + 3) (n := n) (f := f) hR hA hn hn2 hf ecd) (fun v h' hq => ?_)
  obtain ⟨rfl, g, rfl, hg⟩ := hq
  refine m_putI (pc' := 24) xD_17 rfl rfl (by first | rfl | assumption) rfl rfl rfl ?_
  obtain ⟨I1, eI1⟩ : ∃ I1, I1 = xu (xrow (xu I A 6 (zB (wt cd n))) (A + 5) g) 2 3 (nI (if wt cd n = true then f + bc cd n else f)) := ⟨_, rfl⟩
  have x1 : ∀ x, x ≠ 2 → x ≠ A → x ≠ A + 5 → I1 x = I x := fun x a b c => by rw [eI1, xu_ne a, xrow_ne c, xu_ne b]
  have eA6 : I1 A 6 = zB (wt cd n) := by rw [eI1, xu_ne (by omega), xrow_ne (by omega), xu_ii]
  have eAj : ∀ j, j ≠ 6 → I1 A j = I A j := fun j hj => by
    rw [eI1, xu_ne (by omega), xrow_ne (by omega)]
    show (if _ then _ else _) = _
    rw [if_neg (fun q => hj q.2)]
  have e5 : ∀ p, p < n → I1 (A + 5) p = if wt cd n = true ∧ br cd p = true then nI (f + bc cd p) else I (A + 5) p := fun p hp => by
    rw [eI1, xu_ne (by omega), xrow_at]; exact hg p hp
  have e23 : I1 2 3 = nI (f + ad cd n) := by
    rw [eI1, xu_ii]
    unfold ad
    by_cases q : wt cd n = true
    · rw [if_pos q, if_pos q]
    · rw [if_neg q, if_neg q]; rfl
  have e2j : ∀ j, j ≠ 3 → I1 2 j = I 2 j := fun j hj => by
    rw [eI1]
    show (if _ then _ else _) = _
    rw [if_neg (fun q => hj q.2), xrow_ne (by omega), xu_ne (by omega)]
  have ecd1 : cd = cdC I1 A := by
    rw [ecd]
    funext p q
    unfold cdC
    rw [x1 _ (by omega) (by omega) (by omega)]
  show XP S (d + 5) 17 24 [some (.ref 2), some (.int (nI m))] [] (hh (xu (xrow (xu I A 6 (zB (wt cd n))) (A + 5) g) 2 3 (nI (if wt cd n = true then f + bc cd n else f))) J R) Q
  rw [← eI1]
  refine y_loc (pc' := 25) xD_17 rfl rfl rfl rfl ?_
  first | refine m_getR (pc' := 28) xD_17 rfl rfl rfl rfl (hR.1 _ _ _ rfl) rfl ?_ | refine m_getR (pc' := 28) xD_17 rfl rfl (by first | rfl | assumption) rfl (by assumption) rfl ?_
  refine y_loc (pc' := 29) xD_17 rfl rfl rfl rfl ?_
  refine m_aald (pc' := 30) (m) (q := 1) xD_17 rfl (by first | rfl | assumption) (by first | decide | assumption) (by first | assumption | omega) (by first | decide | assumption) (by first | rfl | assumption) rm rfl ?_
  refine m_getZ (pc' := 33) xD_17 rfl rfl rfl (by first | rfl | assumption) (eA6) rfl ?_
  refine y_ifeq (pt := 46) (pf := 36) xD_17 rfl rfl rfl (fun h33 => ?_) (fun h33 => ?_)
  · skip
    have hw : wt cd n = false := zB_f.mp h33
    refine K I1 ⟨e23, eA6, e5, fun t => by rw [hw] at t; exact absurd t (by decide), fun k _ => ⟨by rw [x1 16 (by omega) (by omega) (by omega)], by rw [x1 17 (by omega) (by omega) (by omega)]⟩, fun x a b c _ _ => x1 x a b c, e2j, eAj⟩
  · skip
    have hw : wt cd n = true := by rw [zB_f, Bool.not_eq_false] at h33; exact h33
    have w6 := wt_6 hw
    have ea : ad cd n = bc cd n := by unfold ad; rw [if_pos hw]
    refine y_loc (pc' := 37) xD_17 rfl rfl rfl rfl ?_
    refine y_loc (pc' := 38) xD_17 rfl rfl rfl rfl ?_
    first | refine m_getR (pc' := 41) xD_17 rfl rfl rfl rfl (hR.1 _ _ _ rfl) rfl ?_ | refine m_getR (pc' := 41) xD_17 rfl rfl (by first | rfl | assumption) rfl (by assumption) rfl ?_
    refine y_loc (pc' := 42) xD_17 rfl rfl rfl rfl ?_
    refine m_aald (pc' := 43) (m) (q := 1) xD_17 rfl (by first | rfl | assumption) (by first | decide | assumption) (by first | assumption | omega) (by first | decide | assumption) (by first | rfl | assumption) rm rfl ?_
    refine y_callV xD_17 rfl rfl rfl rfl (by first | rfl | assumption) rfl rfl rfl rfl (s_linkBranches (d := d) (n := n) (f := f) hR hA (by rw [eAj 5 (by decide)]; exact hn) hn2 (by rw [← ecd1]; exact hV) ecd1 (fun q hq hb => by rw [e5 q hq, if_pos ⟨hw, hb⟩]) (by omega)) (fun v h' hq => ?_)
    obtain ⟨rfl, r6, r7, rfl, l1, l2⟩ := hq
    refine K _ ⟨?_, ?_, fun p hp => ?_, fun _ p hp hb => ?_, fun k hk => ?_, fun x a b c e f => ?_, fun j hj => ?_, fun j hj => ?_⟩
    · rw [xrow_ne (by decide), xrow_ne (by decide)]; exact e23
    · rw [xrow_ne (by omega), xrow_ne (by omega)]; exact eA6
    · rw [xrow_ne (by omega), xrow_ne (by omega)]; exact e5 p hp
    · rw [xrow_at, show xrow (xrow I1 16 r6) 17 r7 16 = r6 from by rw [xrow_ne (by decide), xrow_at]]; exact l1 p hp hb
    · rw [ea] at hk
      rw [xrow_at, show xrow (xrow I1 16 r6) 17 r7 16 = r6 from by rw [xrow_ne (by decide), xrow_at]]
      have := l2 k hk
      rw [x1 16 (by omega) (by omega) (by omega), x1 17 (by omega) (by omega) (by omega)] at this
      exact this
    · rw [xrow_ne f, xrow_ne e]; exact x1 x a b c
    · rw [xrow_ne (by decide), xrow_ne (by decide)]; exact e2j j hj
    · rw [xrow_ne (by omega), xrow_ne (by omega)]; exact eAj j hj
/-- Program.numberBranches -/
theorem s_pnumber (hR : RF R) {n0 n1 : Nat} (e0 : I 4 5 = nI n0) (e1 : I 10 5 = nI n1) (hn0 : n0 ≤ 10) (hn1 : n1 ≤ 10) (h2 : I 2 3 = 0) {c0 c1 : Nat → Nat → Int32} (ec0 : c0 = cdC I 4) (ec1 : c1 = cdC I 10) (hV0 : VC c0 n0) (hV1 : VC c1 n1) :
    XP S (d + 5) 17 0 (xent [.ref 2] 2) [] (hh I J R) (fun v h' => v = none ∧ ∃ I1 I2, h' = hh I2 J R ∧ StC 4 c0 n0 0 I I1 ∧ StC 10 c1 n1 (ad c0 n0) I1 I2) := by
  have a6 := ad_6 (cd := c0) (n := n0)
  refine y_ci (pc' := 1) (0) xD_17 rfl rfl rfl rfl ?_
  refine y_loc (pc' := 2) xD_17 rfl rfl rfl rfl ?_
  refine y_loc (pc' := 3) xD_17 rfl rfl rfl rfl ?_
  refine y_ci (pc' := 4) (2) xD_17 rfl rfl rfl rfl ?_
  refine y_icge (pt := 52) (pf := 7) xD_17 rfl rfl rfl (fun h4 => ?_) (fun h4 => ?_)
  · exact absurd h4 (by decide)
  · skip
    refine s_pstep (m := 0) (f := 0) (n := n0) (cd := c0) (S := S) (d := d) hR (by decide) e0 hn0 (by decide) h2 ec0 hV0 (fun I1 s1 => ?_)
    obtain ⟨a1, a2, a3, a4, a5, a6', a7, a8⟩ := s1
    rw [Nat.zero_add] at a1
    refine y_inc (pc' := 49) (1 : Int32) xD_17 rfl rfl rfl rfl rfl rfl ?_
    refine y_goto (pc' := 2) xD_17 rfl rfl ?_
    refine y_loc (pc' := 3) xD_17 rfl rfl rfl rfl ?_
    refine y_ci (pc' := 4) (2) xD_17 rfl rfl rfl rfl ?_
    refine y_icge (pt := 52) (pf := 7) xD_17 rfl rfl rfl (fun h4' => ?_) (fun h4' => ?_)
    · exact absurd h4' (by decide)
    · skip
      refine s_pstep (m := 1) (f := ad c0 n0) (n := n1) (cd := c1) (S := S) (d := d) hR (by decide) (by rw [show I1 (4 + 6 * 1) = I 10 from a6' 10 (by decide) (by decide) (by decide) (by decide) (by decide)]; exact e1) hn1 a6 a1 (by
        rw [ec1]
        funext p q
        show I (10 + 1 + q % 4) p = I1 (10 + 1 + q % 4) p
        rw [a6' (10 + 1 + q % 4) (by omega) (by omega) (by omega) (by omega) (by omega)]) hV1 (fun I2 s2 => ?_)
      refine y_inc (pc' := 49) (2 : Int32) xD_17 rfl rfl rfl rfl rfl rfl ?_
      refine y_goto (pc' := 2) xD_17 rfl rfl ?_
      refine y_loc (pc' := 3) xD_17 rfl rfl rfl rfl ?_
      refine y_ci (pc' := 4) (2) xD_17 rfl rfl rfl rfl ?_
      refine y_icge (pt := 52) (pf := 7) xD_17 rfl rfl rfl (fun h4'' => ?_) (fun h4'' => ?_)
      · skip
        refine y_retV xD_17 rfl rfl ?_
        exact ⟨rfl, I1, I2, rfl, ⟨by rw [Nat.zero_add]; exact a1, a2, a3, a4, a5, a6', a7, a8⟩, s2⟩
      · exact absurd (show (2 : Int32) ≤ 2 by decide) h4''
end PS

