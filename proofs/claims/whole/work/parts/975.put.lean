/-! put: both sides. -/
def PT (n : Nat) (k r : Int32) : Prop := n < 6 ∧ ((4 ≤ k ∧ k < 8) ∨ ((0 ≤ k ∧ k < 2) ∧ (-1 ≤ r ∧ r < nI n)))
def pY (k y r : Int32) : Int32 := if 4 ≤ k then 0 else if r = -1 then y else 0
def pR (k r : Int32) : Int32 := if 4 ≤ k then -1 else r
theorem k_02 {k : Int32} : (0 ≤ k ∧ k < 2) ↔ k = 0 ∨ k = 1 := by
  constructor
  · rintro ⟨a, b⟩
    obtain ⟨j, -, hj, e⟩ := i32_range (a := 0) (b := 2) (by decide) a b (by decide)
    rcases (show j = 0 ∨ j = 1 by omega) with rfl | rfl
    · exact Or.inl e
    · exact Or.inr e
  · rintro (rfl | rfl) <;> decide
theorem k_47 {k : Int32} : (4 ≤ k ∧ k ≤ 7) ↔ (4 ≤ k ∧ k < 8) := by
  rw [Int32.le_iff_toInt_le, Int32.le_iff_toInt_le, Int32.lt_iff_toInt_lt]
  show ((4 : Int) ≤ _ ∧ k.toInt ≤ 7) ↔ ((4 : Int) ≤ _ ∧ k.toInt < 8)
  omega
theorem r_n {r : Int32} {n : Nat} (hn : n ≤ 6) : (-1 ≤ r ∧ r ≤ nI n - 1) ↔ (-1 ≤ r ∧ r < nI n) := by
  have e : (nI n - 1).toInt = (n : Int) - 1 := by
    rw [Int32.toInt_sub, nI_toInt (by omega)]
    show Int.bmod ((n : Int) - 1) _ = _
    simp only [Int.bmod]
    omega
  rw [Int32.le_iff_toInt_le (x := r), Int32.lt_iff_toInt_lt, nI_toInt (by omega), e]
  constructor
  · rintro ⟨a, b⟩; exact ⟨a, by omega⟩
  · rintro ⟨a, b⟩; exact ⟨a, by omega⟩
section PU
variable {S : XS} {d n : Nat} {I : Nat → Nat → Int32} {J : Nat → Nat → Int64} {R : Nat → Nat → Option Nat} {k x y r : Int32}
theorem s_put (hR : RF R) (hn : I 253 3 = nI n) (hn6 : n ≤ 6) : XP S (d + 1) 67 0 (xent [.ref 1, .int k, .int x, .int y, .int r] 6) [] (hh I J R) (fun v h' => (¬ PT n k r ∧ v = some (.int 0) ∧ h' = hh I J R) ∨ (PT n k r ∧ v = some (.int 1) ∧ h' = hh (xu (xrow I 254 (w4 (I 254) (4 * n) k x (pY k y r) (pR k r))) 253 3 (nI (n + 1))) J R)) := by
  have i253 : isCase 253 := Or.inr (Or.inr ⟨by decide, by decide, by decide⟩)
  have k253 := (kCase i253).1
  have l6 : nI n < 6 ↔ n < 6 := nI_ltI (b := 6) (by omega) (by decide)
  have tail : ∀ g : Nat → Int32, PT n k r → g = w4 (I 254) (4 * n) k x (pY k y r) (pR k r) → XP S (d + 1) 67 90 [some (.ref 1), some (.int k), some (.int x), some (.int y), some (.int r), some (.int (nI n))] [] (hh (xrow I 254 g) J R) (fun v h' => (¬ PT n k r ∧ v = some (.int 0) ∧ h' = hh I J R) ∨ (PT n k r ∧ v = some (.int 1) ∧ h' = hh (xu (xrow I 254 (w4 (I 254) (4 * n) k x (pY k y r) (pR k r))) 253 3 (nI (n + 1))) J R)) := by
    intro g hp hg
    have e3 : xrow I 254 g 253 3 = nI n := by rw [xrow_ne (by decide)]; exact hn
    refine y_loc (pc' := 91) xD_67 rfl rfl rfl rfl ?_
    first | refine m_getR (pc' := 94) xD_67 rfl rfl rfl rfl (hR.1 _ _ _ rfl) rfl ?_ | refine m_getR (pc' := 94) xD_67 rfl rfl (by first | rfl | assumption) rfl (by assumption) rfl ?_
    refine y_op (pc' := 95) xD_67 rfl rfl rfl rfl ?_
    refine m_getI (pc' := 98) xD_67 rfl rfl rfl (by first | rfl | assumption) (e3) rfl ?_
    refine y_ci (pc' := 99) (1) xD_67 rfl rfl rfl rfl ?_
    refine y_iadd (pc' := 100) xD_67 rfl (nI_1 n) rfl ?_
    refine m_putI (pc' := 103) xD_67 rfl rfl (by first | rfl | assumption) rfl rfl rfl ?_
    refine y_ci (pc' := 104) (1) xD_67 rfl rfl rfl rfl ?_
    refine y_retZ xD_67 rfl rfl (by first | decide | assumption) ?_
    exact Or.inr ⟨hp, rfl, by rw [hg]⟩
  refine y_loc (pc' := 1) xD_67 rfl rfl rfl rfl ?_
  first | refine m_getR (pc' := 4) xD_67 rfl rfl rfl rfl (hR.1 _ _ _ rfl) rfl ?_ | refine m_getR (pc' := 4) xD_67 rfl rfl (by first | rfl | assumption) rfl (by assumption) rfl ?_
  refine m_getI (pc' := 7) xD_67 rfl rfl rfl (by first | rfl | assumption) (hn) rfl ?_
  refine y_loc (pc' := 9) xD_67 rfl rfl rfl rfl ?_
  refine y_loc (pc' := 11) xD_67 rfl rfl rfl rfl ?_
  refine y_ci (pc' := 13) (6) xD_67 rfl rfl rfl rfl ?_
  refine y_iclt (pt := 18) (pf := 16) xD_67 rfl rfl rfl (fun h13 => ?_) (fun h13 => ?_)
  · skip
    have n6 := l6.mp h13
    refine y_loc (pc' := 19) xD_67 rfl rfl rfl rfl ?_
    refine y_callS xD_67 rfl rfl rfl rfl rfl rfl rfl rfl (s_isField) (fun v h' hq => ?_)
    obtain ⟨rfl, rfl⟩ := hq
    refine y_ifeq (pt := 41) (pf := 25) xD_67 rfl rfl rfl (fun h22 => ?_) (fun h22 => ?_)
    · skip
      have nf := zB_0.mp h22
      refine y_loc (pc' := 42) xD_67 rfl rfl rfl rfl ?_
      refine y_callS xD_67 rfl rfl rfl rfl rfl rfl rfl rfl (s_isMethod) (fun v h' hq => ?_)
      obtain ⟨rfl, rfl⟩ := hq
      refine y_ifeq (pt := 88) (pf := 48) xD_67 rfl rfl rfl (fun h45 => ?_) (fun h45 => ?_)
      · skip
        refine y_ci (pc' := 89) (0) xD_67 rfl rfl rfl rfl ?_
        refine y_retZ xD_67 rfl rfl (by first | decide | assumption) ?_
        exact Or.inl ⟨fun q => q.2.elim (fun t => nf t) (fun t => zB_0.mp h45 t.1), rfl, rfl⟩
      · skip
        have hm := zB_n0.mp h45
        refine y_loc (pc' := 50) xD_67 rfl rfl rfl rfl ?_
        refine y_ci (pc' := 51) (-1) xD_67 rfl rfl rfl rfl ?_
        refine y_iclt (pt := 88) (pf := 54) xD_67 rfl rfl rfl (fun h51 => ?_) (fun h51 => ?_)
        · skip
          refine y_ci (pc' := 89) (0) xD_67 rfl rfl rfl rfl ?_
          refine y_retZ xD_67 rfl rfl (by first | decide | assumption) ?_
          exact Or.inl ⟨fun q => q.2.elim (fun t => nf t) (fun t => absurd t.2.1 (Int32.not_le.mpr h51)), rfl, rfl⟩
        · skip
          refine y_loc (pc' := 56) xD_67 rfl rfl rfl rfl ?_
          refine y_loc (pc' := 58) xD_67 rfl rfl rfl rfl ?_
          refine y_icge (pt := 88) (pf := 61) xD_67 rfl rfl rfl (fun h58 => ?_) (fun h58 => ?_)
          · skip
            refine y_ci (pc' := 89) (0) xD_67 rfl rfl rfl rfl ?_
            refine y_retZ xD_67 rfl rfl (by first | decide | assumption) ?_
            exact Or.inl ⟨fun q => q.2.elim (fun t => nf t) (fun t => absurd t.2.2 (Int32.not_lt.mpr h58)), rfl, rfl⟩
          · skip
            have hp : PT n k r := ⟨n6, Or.inr ⟨hm, Int32.not_lt.mp h51, Int32.not_le.mp h58⟩⟩
            have k4 : ¬ 4 ≤ k := fun q => absurd (Int32.lt_of_le_of_lt q hm.2) (by decide)
            refine y_loc (pc' := 62) xD_67 rfl rfl rfl rfl ?_
            first | refine m_getR (pc' := 65) xD_67 rfl rfl rfl rfl (hR.1 _ _ _ rfl) rfl ?_ | refine m_getR (pc' := 65) xD_67 rfl rfl (by first | rfl | assumption) rfl (by assumption) rfl ?_
            refine y_loc (pc' := 67) xD_67 rfl rfl rfl rfl ?_
            refine y_loc (pc' := 68) xD_67 rfl rfl rfl rfl ?_
            refine y_loc (pc' := 69) xD_67 rfl rfl rfl rfl ?_
            refine y_loc (pc' := 71) xD_67 rfl rfl rfl rfl ?_
            refine y_ci (pc' := 72) (-1) xD_67 rfl rfl rfl rfl ?_
            refine y_icne (pt := 79) (pf := 75) xD_67 rfl rfl rfl (fun h72 => ?_) (fun h72 => ?_)
            · skip
              refine y_ci (pc' := 80) (0) xD_67 rfl rfl rfl rfl ?_
              refine y_loc (pc' := 82) xD_67 rfl rfl rfl rfl ?_
              refine y_callV xD_67 rfl rfl rfl rfl (by first | rfl | assumption) rfl rfl rfl rfl (s_write (a := 253) (d := d) hR i253 n n6 rfl) (fun v h' hq => ?_)
              obtain ⟨rfl, rfl⟩ := hq
              refine y_goto (pc' := 90) xD_67 rfl rfl ?_
              exact tail _ hp (by unfold pY pR; rw [if_neg k4, if_neg h72, if_neg k4])
            · skip
              refine y_loc (pc' := 76) xD_67 rfl rfl rfl rfl ?_
              refine y_goto (pc' := 80) xD_67 rfl rfl ?_
              refine y_loc (pc' := 82) xD_67 rfl rfl rfl rfl ?_
              refine y_callV xD_67 rfl rfl rfl rfl (by first | rfl | assumption) rfl rfl rfl rfl (s_write (a := 253) (d := d) hR i253 n n6 rfl) (fun v h' hq => ?_)
              obtain ⟨rfl, rfl⟩ := hq
              refine y_goto (pc' := 90) xD_67 rfl rfl ?_
              exact tail _ hp (by unfold pY pR; rw [if_neg k4, if_pos h72, if_neg k4])
    · skip
      have hf := zB_n0.mp h22
      refine y_loc (pc' := 26) xD_67 rfl rfl rfl rfl ?_
      first | refine m_getR (pc' := 29) xD_67 rfl rfl rfl rfl (hR.1 _ _ _ rfl) rfl ?_ | refine m_getR (pc' := 29) xD_67 rfl rfl (by first | rfl | assumption) rfl (by assumption) rfl ?_
      refine y_loc (pc' := 31) xD_67 rfl rfl rfl rfl ?_
      refine y_loc (pc' := 32) xD_67 rfl rfl rfl rfl ?_
      refine y_loc (pc' := 33) xD_67 rfl rfl rfl rfl ?_
      refine y_ci (pc' := 34) (0) xD_67 rfl rfl rfl rfl ?_
      refine y_ci (pc' := 35) (-1) xD_67 rfl rfl rfl rfl ?_
      refine y_callV xD_67 rfl rfl rfl rfl (by first | rfl | assumption) rfl rfl rfl rfl (s_write (a := 253) (d := d) hR i253 n n6 rfl) (fun v h' hq => ?_)
      obtain ⟨rfl, rfl⟩ := hq
      refine y_goto (pc' := 90) xD_67 rfl rfl ?_
      exact tail _ ⟨n6, Or.inl hf⟩ (by unfold pY pR; rw [if_pos hf.1, if_pos hf.1])
  · skip
    refine y_ci (pc' := 17) (0) xD_67 rfl rfl rfl rfl ?_
    refine y_retZ xD_67 rfl rfl (by first | decide | assumption) ?_
    exact Or.inl ⟨fun q => h13 (l6.mpr q.1), rfl, rfl⟩
theorem s_mput (hR : RF R) (hn : I 263 8 = nI n) (hn6 : n ≤ 6) : XP S (d + 1) 104 0 (xent [.ref 261, .int k, .int x, .int y, .int r] 7) [] (hh I J R) (fun v h' => (¬ PT n k r ∧ v = some (.int 0) ∧ h' = hh I J R) ∨ (PT n k r ∧ v = some (.int 1) ∧ h' = hh (xu (xrow I 262 (w4 (I 262) (24 * 8 + 4 * n) k x (pY k y r) (pR k r))) 263 8 (nI (n + 1))) J R)) := by
  have e6 : nI n = 6 ↔ n = 6 := nI_eq (b := 6) (by omega) (by decide)
  have fin : ∀ g : Nat → Int32, PT n k r → g = w4 (I 262) (24 * 8 + 4 * n) k x (pY k y r) (pR k r) → ∀ q6 : Int32, XP S (d + 1) 104 93 [some (.ref 261), some (.int k), some (.int x), some (.int y), some (.int r), some (.int (nI n)), some (.int q6)] [] (hh (xrow I 262 g) J R) (fun v h' => (¬ PT n k r ∧ v = some (.int 0) ∧ h' = hh I J R) ∨ (PT n k r ∧ v = some (.int 1) ∧ h' = hh (xu (xrow I 262 (w4 (I 262) (24 * 8 + 4 * n) k x (pY k y r) (pR k r))) 263 8 (nI (n + 1))) J R)) := by
    intro g hp hg q6
    have e3 : xrow I 262 g 263 8 = nI n := by rw [xrow_ne (by decide)]; exact hn
    refine y_loc (pc' := 94) xD_104 rfl rfl rfl rfl ?_
    first | refine m_getR (pc' := 97) xD_104 rfl rfl rfl rfl (hR.1 _ _ _ rfl) rfl ?_ | refine m_getR (pc' := 97) xD_104 rfl rfl (by first | rfl | assumption) rfl (by assumption) rfl ?_
    refine y_ci (pc' := 99) (8) xD_104 rfl rfl rfl rfl ?_
    refine y_op (pc' := 100) xD_104 rfl rfl rfl rfl ?_
    refine m_iald (pc' := 101) (8) xD_104 rfl (by first | rfl | assumption) (by first | assumption | omega) (by first | decide | assumption) (by first | decide | omega) (by first | rfl | assumption) rfl ?_
    rw [e3]
    refine y_ci (pc' := 102) (1) xD_104 rfl rfl rfl rfl ?_
    refine y_iadd (pc' := 103) xD_104 rfl (nI_1 n) rfl ?_
    refine m_iast (pc' := 104) (8) xD_104 rfl (by first | rfl | assumption) (by first | assumption | omega) (by first | decide | assumption) (by first | rfl | assumption) rfl ?_
    refine y_ci (pc' := 105) (1) xD_104 rfl rfl rfl rfl ?_
    refine y_retZ xD_104 rfl rfl (by first | decide | assumption) ?_
    exact Or.inr ⟨hp, rfl, by rw [hg]⟩
  have tail : ∀ cl : Bool, (cl = true ↔ (0 ≤ k ∧ k < 2)) → XP S (d + 1) 104 25 [some (.ref 261), some (.int k), some (.int x), some (.int y), some (.int r), some (.int (nI n)), some (.int (zB cl))] [] (hh I J R) (fun v h' => (¬ PT n k r ∧ v = some (.int 0) ∧ h' = hh I J R) ∨ (PT n k r ∧ v = some (.int 1) ∧ h' = hh (xu (xrow I 262 (w4 (I 262) (24 * 8 + 4 * n) k x (pY k y r) (pR k r))) 263 8 (nI (n + 1))) J R)) := by
    intro cl hcl
    refine y_loc (pc' := 27) xD_104 rfl rfl rfl rfl ?_
    refine y_ci (pc' := 29) (6) xD_104 rfl rfl rfl rfl ?_
    refine y_iceq (pt := 65) (pf := 32) xD_104 rfl rfl rfl (fun h29 => ?_) (fun h29 => ?_)
    · skip
      refine y_ci (pc' := 66) (0) xD_104 rfl rfl rfl rfl ?_
      refine y_retZ xD_104 rfl rfl (by first | decide | assumption) ?_
      exact Or.inl ⟨fun q => by have := e6.mp h29; have := q.1; omega, rfl, rfl⟩
    · skip
      have n6 : n < 6 := by
        have : ¬ n = 6 := fun q => h29 (e6.mpr q)
        omega
      cases cl with
      | true =>
        have hm := hcl.mp rfl
        have k4 : ¬ 4 ≤ k := fun q => absurd (Int32.lt_of_le_of_lt q hm.2) (by decide)
        refine y_loc (pc' := 34) xD_104 rfl rfl rfl rfl ?_
        refine y_ifne (pt := 47) (pf := 37) xD_104 rfl rfl rfl (fun h34 => ?_) (fun h34 => ?_)
        · skip
          refine y_loc (pc' := 49) xD_104 rfl rfl rfl rfl ?_
          refine y_ifeq (pt := 67) (pf := 52) xD_104 rfl rfl rfl (fun h49 => ?_) (fun h49 => ?_)
          · exact absurd h49 (by decide)
          · skip
            refine y_loc (pc' := 54) xD_104 rfl rfl rfl rfl ?_
            refine y_ci (pc' := 55) (-1) xD_104 rfl rfl rfl rfl ?_
            refine y_loc (pc' := 57) xD_104 rfl rfl rfl rfl ?_
            refine y_ci (pc' := 58) (1) xD_104 rfl rfl rfl rfl ?_
            refine y_op (pc' := 59) xD_104 rfl rfl rfl rfl ?_
            refine y_callS xD_104 rfl rfl rfl rfl rfl rfl rfl rfl (s_within) (fun v h' hq => ?_)
            obtain ⟨rfl, rfl⟩ := hq
            refine y_ifne (pt := 67) (pf := 65) xD_104 rfl rfl rfl (fun h62 => ?_) (fun h62 => ?_)
            · skip
              have hr := (r_n hn6).mp (zB_n0.mp h62)
              have hp : PT n k r := ⟨n6, Or.inr ⟨hm, hr⟩⟩
              have rl : r < 0 ↔ r = -1 := by
                constructor
                · intro q
                  apply Int32.toInt_inj.mp
                  have a := hr.1
                  rw [Int32.le_iff_toInt_le] at a
                  rw [Int32.lt_iff_toInt_lt] at q
                  have a : (-1 : Int) ≤ r.toInt := a
                  have q : r.toInt < (0 : Int) := q
                  show r.toInt = -1
                  omega
                · intro q; rw [q]; decide
              refine y_loc (pc' := 68) xD_104 rfl rfl rfl rfl ?_
              refine y_ci (pc' := 70) (8) xD_104 rfl rfl rfl rfl ?_
              refine y_loc (pc' := 72) xD_104 rfl rfl rfl rfl ?_
              refine y_loc (pc' := 73) xD_104 rfl rfl rfl rfl ?_
              refine y_loc (pc' := 74) xD_104 rfl rfl rfl rfl ?_
              refine y_callV xD_104 rfl rfl rfl rfl (by first | rfl | assumption) rfl rfl rfl rfl (s_mwrite (s := 8) (d := d) hR (by decide) n n6 rfl rfl) (fun v h' hq => ?_)
              obtain ⟨rfl, rfl⟩ := hq
              refine y_loc (pc' := 79) xD_104 rfl rfl rfl rfl ?_
              refine y_ifeq (pt := 93) (pf := 82) xD_104 rfl rfl rfl (fun h79 => ?_) (fun h79 => ?_)
              · exact absurd h79 (by decide)
              · skip
                refine y_loc (pc' := 83) xD_104 rfl rfl rfl rfl ?_
                refine y_ci (pc' := 85) (8) xD_104 rfl rfl rfl rfl ?_
                refine y_loc (pc' := 87) xD_104 rfl rfl rfl rfl ?_
                refine y_loc (pc' := 88) xD_104 rfl rfl rfl rfl ?_
                refine y_loc (pc' := 90) xD_104 rfl rfl rfl rfl ?_
                refine y_callV xD_104 rfl rfl rfl rfl (by first | rfl | assumption) rfl rfl rfl rfl (s_msecond (s := 8) (d := d) hR (by decide) n n6 rfl rfl) (fun v h' hq => ?_)
                obtain ⟨rfl, rfl⟩ := hq
                rw [xrow_row, xrow_at, w2_w4]
                refine fin _ hp ?_ _
                unfold pY pR
                rw [if_neg k4, if_neg k4]
                by_cases q : r = -1
                · rw [if_pos q, if_pos (rl.mpr q)]
                · rw [if_neg q, if_neg (fun t => q (rl.mp t))]
            · skip
              refine y_ci (pc' := 66) (0) xD_104 rfl rfl rfl rfl ?_
              refine y_retZ xD_104 rfl rfl (by first | decide | assumption) ?_
              exact Or.inl ⟨fun q => q.2.elim (fun t => k4 t.1) (fun t => zB_0.mp h62 ((r_n hn6).mpr t.2)), rfl, rfl⟩
        · exact absurd (show ¬ zB true = 0 by decide) (fun q => q h34)
      | false =>
        have hm : ¬ (0 ≤ k ∧ k < 2) := fun q => absurd (hcl.mpr q) (by decide)
        refine y_loc (pc' := 34) xD_104 rfl rfl rfl rfl ?_
        refine y_ifne (pt := 47) (pf := 37) xD_104 rfl rfl rfl (fun h34 => ?_) (fun h34 => ?_)
        · exact absurd rfl h34
        · skip
          refine y_loc (pc' := 38) xD_104 rfl rfl rfl rfl ?_
          refine y_ci (pc' := 39) (4) xD_104 rfl rfl rfl rfl ?_
          refine y_ci (pc' := 41) (7) xD_104 rfl rfl rfl rfl ?_
          refine y_callS xD_104 rfl rfl rfl rfl rfl rfl rfl rfl (s_within) (fun v h' hq => ?_)
          obtain ⟨rfl, rfl⟩ := hq
          refine y_ifeq (pt := 65) (pf := 47) xD_104 rfl rfl rfl (fun h44 => ?_) (fun h44 => ?_)
          · skip
            refine y_ci (pc' := 66) (0) xD_104 rfl rfl rfl rfl ?_
            refine y_retZ xD_104 rfl rfl (by first | decide | assumption) ?_
            exact Or.inl ⟨fun q => q.2.elim (fun t => zB_0.mp h44 (k_47.mpr t)) (fun t => hm t.1), rfl, rfl⟩
          · skip
            have hf := k_47.mp (zB_n0.mp h44)
            have hp : PT n k r := ⟨n6, Or.inl hf⟩
            refine y_loc (pc' := 49) xD_104 rfl rfl rfl rfl ?_
            refine y_ifeq (pt := 67) (pf := 52) xD_104 rfl rfl rfl (fun h49 => ?_) (fun h49 => ?_)
            · skip
              refine y_loc (pc' := 68) xD_104 rfl rfl rfl rfl ?_
              refine y_ci (pc' := 70) (8) xD_104 rfl rfl rfl rfl ?_
              refine y_loc (pc' := 72) xD_104 rfl rfl rfl rfl ?_
              refine y_loc (pc' := 73) xD_104 rfl rfl rfl rfl ?_
              refine y_loc (pc' := 74) xD_104 rfl rfl rfl rfl ?_
              refine y_callV xD_104 rfl rfl rfl rfl (by first | rfl | assumption) rfl rfl rfl rfl (s_mwrite (s := 8) (d := d) hR (by decide) n n6 rfl rfl) (fun v h' hq => ?_)
              obtain ⟨rfl, rfl⟩ := hq
              refine y_loc (pc' := 79) xD_104 rfl rfl rfl rfl ?_
              refine y_ifeq (pt := 93) (pf := 82) xD_104 rfl rfl rfl (fun h79 => ?_) (fun h79 => ?_)
              · skip
                exact fin _ hp (by unfold pY pR; rw [if_pos hf.1, if_pos hf.1]) _
              · exact absurd rfl h79
            · exact absurd rfl h49
  refine y_loc (pc' := 1) xD_104 rfl rfl rfl rfl ?_
  first | refine m_getR (pc' := 4) xD_104 rfl rfl rfl rfl (hR.1 _ _ _ rfl) rfl ?_ | refine m_getR (pc' := 4) xD_104 rfl rfl (by first | rfl | assumption) rfl (by assumption) rfl ?_
  refine y_ci (pc' := 6) (8) xD_104 rfl rfl rfl rfl ?_
  refine m_iald (pc' := 7) (8) xD_104 rfl (by first | rfl | assumption) (by first | assumption | omega) (by first | decide | assumption) (by first | decide | omega) (by first | rfl | assumption) rfl ?_
  rw [hn]
  refine y_loc (pc' := 9) xD_104 rfl rfl rfl rfl ?_
  refine y_loc (pc' := 10) xD_104 rfl rfl rfl rfl ?_
  refine y_ifeq (pt := 18) (pf := 13) xD_104 rfl rfl rfl (fun h10 => ?_) (fun h10 => ?_)
  · skip
    refine y_ci (pc' := 19) (1) xD_104 rfl rfl rfl rfl ?_
    refine y_goto (pc' := 23) xD_104 rfl rfl ?_
    refine y_loc (pc' := 25) xD_104 rfl rfl rfl rfl ?_
    exact tail true ⟨fun _ => k_02.mpr (Or.inl h10), fun _ => rfl⟩
  · skip
    refine y_loc (pc' := 14) xD_104 rfl rfl rfl rfl ?_
    refine y_ci (pc' := 15) (1) xD_104 rfl rfl rfl rfl ?_
    refine y_icne (pt := 22) (pf := 18) xD_104 rfl rfl rfl (fun h15 => ?_) (fun h15 => ?_)
    · skip
      refine y_ci (pc' := 23) (0) xD_104 rfl rfl rfl rfl ?_
      refine y_loc (pc' := 25) xD_104 rfl rfl rfl rfl ?_
      exact tail false ⟨fun q => absurd q (by decide), fun q => absurd (k_02.mp q) (fun t => t.elim h10 h15)⟩
    · skip
      refine y_ci (pc' := 19) (1) xD_104 rfl rfl rfl rfl ?_
      refine y_goto (pc' := 23) xD_104 rfl rfl ?_
      refine y_loc (pc' := 25) xD_104 rfl rfl rfl rfl ?_
      exact tail true ⟨fun _ => k_02.mpr (Or.inr h15), fun _ => rfl⟩
theorem p_put (h : Inv I J R) : PrI S (d + 1) 67 6 [.int k, .int x, .int y, .int r] 104 7 [.int k, .int x, .int y, .int r] I J R := by
  obtain ⟨st, P, nb, A, np, pop, ar, B, ns, su, lt, wr, cc, hi⟩ := id h
  obtain ⟨hR, h2, h3, h4, h5, h6, h7, h8, h9, h10, h11, h12, h13, h14⟩ := hi
  obtain ⟨ww, rw', mw⟩ := h14
  have n6 := ww.1
  refine XP.conseq (s_put (d := d) hR rw'.1 n6) (fun v h' hq => ?_)
  rcases hq with ⟨np', rfl, rfl⟩ | ⟨hp, rfl, rfl⟩
  · refine ⟨⟨_, rfl⟩, I, J, R, rfl, XP.conseq (s_mput (d := d) hR mw.1 n6) (fun v h' hq => ?_)⟩
    rcases hq with ⟨-, rfl, rfl⟩ | ⟨hp, -, -⟩
    · exact ⟨rfl, I, J, R, rfl, h⟩
    · exact absurd hp np'
  · obtain ⟨n, en⟩ : ∃ n, n = wr.1 := ⟨_, rfl⟩
    rw [← en] at hp n6
    obtain ⟨c', ec'⟩ : ∃ c : CA, c = (n + 1, fun i => if i / 4 = n then st4 k x (pY k y r) (pR k r) (i % 4) else wr.2 i) := ⟨_, rfl⟩
    have c'1 : c'.1 = n + 1 := by rw [ec']
    have c'2 : ∀ i q, q < 4 → c'.2 (4 * i + q) = if i = n then st4 k x (pY k y r) (pR k r) q else wr.2 (4 * i + q) := fun i q hq => by
      rw [ec']
      show (if (4 * i + q) / 4 = n then _ else _) = _
      rw [(m4 i q hq).1, (m4 i q hq).2]
    have W : WC c' := by
      refine ⟨by rw [c'1]; exact hp.1, fun j hj => ?_⟩
      rw [c'1] at hj
      refine VT_of (g := fun j q => c'.2 (4 * j + q)) (fun q _ => rfl) ?_ ?_
      · show ∃ t, t < 8 ∧ ¬ t = 2 ∧ ¬ t = 3 ∧ c'.2 (4 * j + 0) = nI t
        rw [c'2 j 0 (by decide)]
        by_cases e : j = n
        · rw [if_pos e, st4_0]
          rcases hp.2 with t | t
          · obtain ⟨q, a, b, e⟩ := i32_range (a := 4) (b := 8) (by decide) t.1 t.2 (by decide)
            exact ⟨q, b, by omega, by omega, e⟩
          · obtain ⟨q, a, b, e⟩ := i32_range (a := 0) (b := 2) (by decide) t.1.1 t.1.2 (by decide)
            exact ⟨q, by omega, by omega, by omega, e⟩
        · rw [if_neg e]; exact (ww.2 j (by omega)).1
      · show c'.2 (4 * j + 3) = -1 ∨ ∃ r, r < j ∧ c'.2 (4 * j + 3) = nI r ∧ c'.2 (4 * j + 2) = 0
        rw [c'2 j 3 (by decide), c'2 j 2 (by decide)]
        by_cases e : j = n
        · rw [if_pos e, if_pos e, st4_3, st4_2]
          unfold pR pY
          by_cases k4 : 4 ≤ k
          · rw [if_pos k4]; exact Or.inl rfl
          · rw [if_neg k4, if_neg k4]
            have t := (hp.2.resolve_left (fun t => k4 t.1)).2
            by_cases r1 : r = -1
            · exact Or.inl r1
            · rw [if_neg r1]
              have r0 : 0 ≤ r := by
                have a := t.1
                rw [Int32.le_iff_toInt_le] at a ⊢
                have a : (-1 : Int) ≤ r.toInt := a
                have : ¬ r.toInt = -1 := fun q => r1 (Int32.toInt_inj.mp q)
                show (0 : Int) ≤ r.toInt
                omega
              obtain ⟨q, a, b, e'⟩ := i32_range (a := 0) (b := n) (by omega) r0 t.2 (by decide)
              exact Or.inr ⟨q, by omega, e', rfl⟩
        · rw [if_neg e, if_neg e]; exact (ww.2 j (by omega)).2
    obtain ⟨I1, eI1⟩ : ∃ I1, I1 = xu (xrow I 254 (w4 (I 254) (4 * wr.1) k x (pY k y r) (pR k r))) 253 3 (nI (wr.1 + 1)) := ⟨_, rfl⟩
    have x1 : ∀ x, x ≠ 253 → x ≠ 254 → I1 x = I x := fun x a b => by rw [eI1, xu_ne a, xrow_ne b]
    have rc1 : RC I1 253 c' := by
      rw [eI1, ← en]
      refine ⟨by rw [xu_ii, c'1], fun i hi => ?_⟩
      rw [c'1] at hi
      show xu (xrow I 254 (w4 (I 254) (4 * n) k x (pY k y r) (pR k r))) 253 3 (nI (n + 1)) 254 i = _
      rw [xu_ne (by decide), xrow_at]
      have a := w4_pt (g := I 254) (k := n) (a := k) (b := x) (y := pY k y r) (r := pR k r) (i := i / 4) (q := i % 4) (by omega)
      have b := c'2 (i / 4) (i % 4) (by omega)
      rw [show 4 * (i / 4) + i % 4 = i by omega] at a b
      rw [a, b]
      by_cases e : i / 4 = n
      · rw [if_pos e, if_pos e]; rfl
      · rw [if_neg e, if_neg e]; exact rw'.2 i (by rw [← en]; omega)
    rw [← eI1]
    refine ⟨⟨_, rfl⟩, I1, J, R, rfl, ?_⟩
    have mw1 : RM I1 8 wr := mw.row (x1 262 (by decide) (by decide)) (x1 263 (by decide) (by decide))
    refine XP.conseq (s_mput (d := d) hR mw1.1 (by rw [← en]; exact n6)) (fun v h' hq => ?_)
    rcases hq with ⟨nq, -, -⟩ | ⟨-, rfl, rfl⟩
    · exact absurd (by rw [← en]; exact hp) nq
    · rw [← en, w4_sl1 hp.1]
      obtain ⟨g8, eg8⟩ : ∃ g, g = w4 (fun q => I1 262 (24 * 8 + q)) (4 * n) k x (pY k y r) (pR k r) := ⟨_, rfl⟩
      rw [← eg8]
      obtain ⟨I2, eI2⟩ : ∃ I2, I2 = xu (xrow I1 262 (sl1 (I1 262) 8 g8)) 263 8 (nI (n + 1)) := ⟨_, rfl⟩
      have s2 : SF (fun t => t ≠ 8) I1 I2 := by rw [eI2]; exact SF_cp
      have x2 : ∀ x, x ≠ 262 → x ≠ 263 → I2 x = I1 x := fun x a b => by rw [eI2, xu_ne b, xrow_ne a]
      have rm2 : RM I2 8 c' := by
        rw [eI2]
        refine ⟨by rw [xu_ii, c'1], fun i hi => ?_⟩
        rw [c'1] at hi
        show xu (xrow I1 262 (sl1 (I1 262) 8 g8)) 263 8 (nI (n + 1)) 262 (24 * 8 + i) = _
        rw [xu_ne (by decide), xrow_at, sl1_at (by have := hp.1; omega), eg8]
        have a := w4_pt (g := fun q => I1 262 (24 * 8 + q)) (k := n) (a := k) (b := x) (y := pY k y r) (r := pR k r) (i := i / 4) (q := i % 4) (by omega)
        have b := c'2 (i / 4) (i % 4) (by omega)
        rw [show 4 * (i / 4) + i % 4 = i by omega] at a b
        rw [a, b]
        by_cases e : i / 4 = n
        · rw [if_pos e, if_pos e]; rfl
        · rw [if_neg e, if_neg e]; exact mw1.2 i (by rw [← en]; omega)
      rw [← eI2]
      have sf1 : SF (fun _ => True) I I1 := SF.rfl' (x1 262 (by decide) (by decide)) (x1 263 (by decide) (by decide))
      have sf2 : SF (fun t => t ≠ 8) I I2 := (sf1.w (fun _ _ => trivial)).tr s2
      have X : ∀ x, x ≠ 253 → x ≠ 254 → x ≠ 262 → x ≠ 263 → I2 x = I x := fun x a b c e => (x2 x c e).trans (x1 x a b)
      refine ⟨rfl, I2, J, R, rfl, st, P, nb, A, np, pop, ar, B, ns, su, lt, c', cc, hR, h2, ?_, ?_, ⟨h5.1.fr (fun x hx => X x (by omega) (by omega) (by omega) (by omega)), h5.2.fr (by rw [X 261 (by decide) (by decide) (by decide) (by decide)]) (fun x a b => X x (by omega) (by omega) (by omega) (by omega))⟩, fun m hm => ?_, fun k hk => ?_, fun q => ?_, fun q => ?_, ⟨h10.1.fr (fun x a b => ⟨X x (by omega) (by omega) (by omega) (by omega), rfl⟩) rfl, ?_⟩, ⟨h11.1.fr (fun x a b => ⟨X x (by omega) (by omega) (by omega) (by omega), rfl⟩), h11.2.1.sf sf2 (fun t a b => show t ≠ 8 by omega), h11.2.2⟩, ⟨h12.1.fr (fun x a b => ⟨X x (by omega) (by omega) (by omega) (by omega), rfl⟩) rfl, ?_⟩, ⟨h13.1, h13.2.1.fr (X _ (by decide) (by decide) (by decide) (by decide)) (X _ (by decide) (by decide) (by decide) (by decide)), h13.2.2.1.sf h13.1 sf2 (show 7 ≠ 8 by decide), fun q => (h13.2.2.2 q).fr (X _ (by decide) (by decide) (by decide) (by decide)) (X _ (by decide) (by decide) (by decide) (by decide)) rfl rfl⟩, W, rc1.fr (x2 _ (by decide) (by decide)) (x2 _ (by decide) (by decide)), rm2⟩
      · rw [X 20 (by decide) (by decide) (by decide) (by decide), X 261 (by decide) (by decide) (by decide) (by decide)]; exact h3
      · rw [X 1 (by decide) (by decide) (by decide) (by decide), X 261 (by decide) (by decide) (by decide) (by decide)]; exact h4
      · rw [X _ (by omega) (by omega) (by omega) (by omega), X 266 (by decide) (by decide) (by decide) (by decide)]; exact h6 m hm
      · rw [X 17 (by decide) (by decide) (by decide) (by decide), X 270 (by decide) (by decide) (by decide) (by decide)]; exact h7 k hk
      · obtain ⟨a, b, c, e⟩ := h8 q
        exact ⟨by rw [X 18 (by decide) (by decide) (by decide) (by decide)]; exact a, b, by rw [X 19 (by decide) (by decide) (by decide) (by decide)]; exact c.fr (fun x a b => X x (by omega) (by omega) (by omega) (by omega)), e⟩
      · obtain ⟨a, b, c, e, f, g, i, j, k⟩ := h9 q
        exact ⟨a, b, c, e, f, g.fr (fun x hx => X x (by omega) (by omega) (by omega) (by omega)), by rw [X 16 (by decide) (by decide) (by decide) (by decide)]; exact i, by rw [X 269 (by decide) (by decide) (by decide) (by decide)]; exact j, by rw [X 18 (by decide) (by decide) (by decide) (by decide)]; exact k⟩
      · exact ⟨by rw [X 261 (by decide) (by decide) (by decide) (by decide)]; exact h10.2.1, h10.2.2.1, fun k hk => ⟨(h10.2.2.2 k hk).1, (h10.2.2.2 k hk).2.1, (h10.2.2.2 k hk).2.2.sf (h10.2.2.2 k hk).1 sf2 (show k ≠ 8 by have := h10.2.2.1; omega)⟩⟩
      · exact ⟨by rw [X 261 (by decide) (by decide) (by decide) (by decide)]; exact h12.2.1, h12.2.2.1, fun k hk => ⟨(h12.2.2.2 k hk).1, (h12.2.2.2 k hk).2.sf (h12.2.2.2 k hk).1 sf2 (show 33 + k ≠ 8 by omega)⟩⟩
end PU

