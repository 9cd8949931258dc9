/-! line: both sides. -/
/-- the four numbers of a line are allowed -/
def AL (o a b c : Int32) : Prop := VL (fun _ q => st4 o a b c q) 0
theorem AL_iff {o a b c : Int32} : AL o a b c ↔ (∃ t, t < 10 ∧ o = nI t) ∧ ((o = 5 ∨ o = 6 ∨ o = 7) → ∃ t, t ≤ 10 ∧ c = nI t) ∧ ((o ≤ 6 ∨ o = 8) → ∃ t, t < 8 ∧ a = nI t) ∧ ((1 ≤ o ∧ o ≤ 6) → ∃ t, t < 8 ∧ b = nI t) ∧ ((1 ≤ o ∧ o ≤ 4) → ∃ t, t < 8 ∧ c = nI t) := Iff.rfl
theorem var_iff {x : Int32} : (0 ≤ x ∧ x < 8) ↔ ∃ t, t < 8 ∧ x = nI t := by
  constructor
  · rintro ⟨a, b⟩
    obtain ⟨j, -, hj, e⟩ := i32_range (a := 0) (b := 8) (by decide) a b (by decide)
    exact ⟨j, hj, e⟩
  · rintro ⟨j, hj, rfl⟩
    exact ⟨nI_pos' (by omega), nI_lt (b := 8) hj (by decide)⟩
theorem tgt_iff {x : Int32} : (0 ≤ x ∧ x ≤ 10) ↔ ∃ t, t ≤ 10 ∧ x = nI t := by
  constructor
  · rintro ⟨a, b⟩
    obtain ⟨j, -, hj, e⟩ := i32_range (a := 0) (b := 11) (by decide) a (Int32.lt_of_le_of_lt b (by decide)) (by decide)
    exact ⟨j, by omega, e⟩
  · rintro ⟨j, hj, rfl⟩
    exact ⟨nI_pos' (by omega), nI_le (b := 10) hj (by decide)⟩
theorem o_10 {t : Nat} {o : Int32} (ht : t < 10) (e : o = nI t) : (o = 5 ↔ t = 5) ∧ (o = 6 ↔ t = 6) ∧ (o = 7 ↔ t = 7) ∧ (o = 8 ↔ t = 8) ∧ (o ≤ 6 ↔ t ≤ 6) ∧ (1 ≤ o ↔ 1 ≤ t) ∧ (o ≤ 4 ↔ t ≤ 4) := by
  subst e
  exact ⟨nI_eq (b := 5) (by omega) (by decide), nI_eq (b := 6) (by omega) (by decide), nI_eq (b := 7) (by omega) (by decide), nI_eq (b := 8) (by omega) (by decide), nI_leI (b := 6) (by omega) (by decide), nI_leI (a := 1) (by decide) (by omega), nI_leI (b := 4) (by omega) (by decide)⟩
theorem AL_t {t : Nat} {o a b c : Int32} (ht : t < 10) (e : o = nI t) : AL o a b c ↔ ((t = 5 ∨ t = 6 ∨ t = 7) → ∃ t, t ≤ 10 ∧ c = nI t) ∧ ((t ≤ 6 ∨ t = 8) → ∃ t, t < 8 ∧ a = nI t) ∧ ((1 ≤ t ∧ t ≤ 6) → ∃ t, t < 8 ∧ b = nI t) ∧ ((1 ≤ t ∧ t ≤ 4) → ∃ t, t < 8 ∧ c = nI t) := by
  obtain ⟨e5, e6, e7, e8, l6, l1, l4⟩ := o_10 ht e
  rw [AL_iff, e5, e6, e7, e8, l6, l1, l4]
  exact ⟨fun q => q.2, fun q => ⟨⟨t, ht, e⟩, q⟩⟩
theorem pg_prog {I : Nat → Nat → Int32} (h : PG0 I) (h2 : I 2 3 = 0) (h10 : I 261 10 = 0) (z16 : ∀ k, I 16 k = 0) (z69 : ∀ k, I 269 k = 0) : CPg I I 0 ∧ MPg I I 0 := by
  have lc : ∀ m, m < 2 → lnC I m = lnM I m := fun m hm => by
    unfold lnC; rw [(h m hm).2.2.2.1]; exact nI_cl (by have := (h m hm).2.1; omega)
  refine ⟨⟨h2, by decide, fun m hm => ?_, fun m hm => ?_, by funext k; rw [z16, z69]⟩, ⟨h10, by decide, fun m hm => ⟨(h m hm).1, (h m hm).2.1, (h m hm).2.2.1⟩⟩, rfl, rfl, rfl, rfl, rfl⟩
  · obtain ⟨a1, a2, a3, a4, a5, a6⟩ := h m hm
    rw [lc m hm]
    exact ⟨a4, a2, fun p hp => VL_ag a5 hp (a3 p hp), fun p hp => Or.inl (a6 p hp)⟩
  · obtain ⟨a1, a2, a3, a4, a5, a6⟩ := h m hm
    rw [lc m hm]
    refine ⟨rfl, fun p hp => ?_⟩
    have bn : bnC I (4 + 6 * m) p = none := by unfold bnC; rw [if_pos (a6 p hp)]
    show VL (cdC I (4 + 6 * m)) p ∧ (∀ q, q < 4 → cdM I m p q = cdC I (4 + 6 * m) p q) ∧ bnM I m 0 p = bnC I (4 + 6 * m) p ∧ ∀ k, bnC I (4 + 6 * m) p = some k → k < 12
    rw [bn]
    exact ⟨VL_ag a5 hp (a3 p hp), fun q hq => (a5 p hp q hq).symm, rfl, fun k hk => by cases hk⟩
theorem xjtab_d {d lo hi : Int} {offs : Array Int} {pc t : Nat} {x : Int32} {r : List Value} (hc : x.toInt < lo ∨ hi < x.toInt) (ht : xtg pc d = some t) : xjtab d lo hi offs pc (.int x :: r) = some (t, r) := by
  unfold xjtab
  simp only [if_pos hc, ht]
  rfl
section LN
variable {S : XS} {d : Nat} {I : Nat → Nat → Int32} {J : Nat → Nat → Int64} {R : Nat → Nat → Option Nat} {o a b c xm : Int32} {h : XH}
theorem s_isAllowed : XP S (d + 1) 13 0 (xent [.int o, .int a, .int b, .int c] 4) [] h (fun v h' => (∃ t : Bool, (t = true ↔ AL o a b c) ∧ v = some (.int (zB t))) ∧ h' = h) := by
  have va := var_iff (x := a)
  have vb := var_iff (x := b)
  have vc := var_iff (x := c)
  have tc := tgt_iff (x := c)
  have gA : (AL o a b c ↔ (0 ≤ a ∧ a < 8)) → XP S (d + 1) 13 56 [some (.int o), some (.int a), some (.int b), some (.int c)] [] h (fun v h' => (∃ t : Bool, (t = true ↔ AL o a b c) ∧ v = some (.int (zB t))) ∧ h' = h) := by
    intro q
    refine y_loc (pc' := 57) xD_13 rfl rfl rfl rfl ?_
    refine y_callS xD_13 rfl rfl rfl rfl rfl rfl rfl rfl (s_isVariable) (fun v h' hq => ?_)
    obtain ⟨rfl, rfl⟩ := hq
    refine y_retZ xD_13 rfl rfl (zB_or _) ?_
    exact ⟨⟨_, by rw [q]; exact decide_eq_true_iff, rfl⟩, rfl⟩
  have gB : (AL o a b c ↔ (0 ≤ a ∧ a < 8) ∧ (0 ≤ b ∧ b < 8) ∧ (0 ≤ c ∧ c < 8)) → XP S (d + 1) 13 61 [some (.int o), some (.int a), some (.int b), some (.int c)] [] h (fun v h' => (∃ t : Bool, (t = true ↔ AL o a b c) ∧ v = some (.int (zB t))) ∧ h' = h) := by
    intro q
    refine y_loc (pc' := 62) xD_13 rfl rfl rfl rfl ?_
    refine y_callS xD_13 rfl rfl rfl rfl rfl rfl rfl rfl (s_isVariable) (fun v h' hq => ?_)
    obtain ⟨rfl, rfl⟩ := hq
    refine y_ifeq (pt := 86) (pf := 68) xD_13 rfl rfl rfl (fun h65 => ?_) (fun h65 => ?_)
    · skip
      refine y_ci (pc' := 87) (0) xD_13 rfl rfl rfl rfl ?_
      refine y_retZ xD_13 rfl rfl (by first | decide | assumption) ?_
      first | exact ⟨⟨true, ⟨fun _ => q.mpr ⟨zB_n0.mp h65, zB_n0.mp h72, zB_n0.mp h79⟩, fun _ => rfl⟩, rfl⟩, rfl⟩ | exact ⟨⟨false, ⟨fun t => absurd t (by decide), fun t => absurd (q.mp t).2.2 (zB_0.mp h79)⟩, rfl⟩, rfl⟩ | exact ⟨⟨false, ⟨fun t => absurd t (by decide), fun t => absurd (q.mp t).2.1 (zB_0.mp h72)⟩, rfl⟩, rfl⟩ | exact ⟨⟨false, ⟨fun t => absurd t (by decide), fun t => absurd (q.mp t).1 (zB_0.mp h65)⟩, rfl⟩, rfl⟩
    · skip
      refine y_loc (pc' := 69) xD_13 rfl rfl rfl rfl ?_
      refine y_callS xD_13 rfl rfl rfl rfl rfl rfl rfl rfl (s_isVariable) (fun v h' hq => ?_)
      obtain ⟨rfl, rfl⟩ := hq
      refine y_ifeq (pt := 86) (pf := 75) xD_13 rfl rfl rfl (fun h72 => ?_) (fun h72 => ?_)
      · skip
        refine y_ci (pc' := 87) (0) xD_13 rfl rfl rfl rfl ?_
        refine y_retZ xD_13 rfl rfl (by first | decide | assumption) ?_
        first | exact ⟨⟨true, ⟨fun _ => q.mpr ⟨zB_n0.mp h65, zB_n0.mp h72, zB_n0.mp h79⟩, fun _ => rfl⟩, rfl⟩, rfl⟩ | exact ⟨⟨false, ⟨fun t => absurd t (by decide), fun t => absurd (q.mp t).2.2 (zB_0.mp h79)⟩, rfl⟩, rfl⟩ | exact ⟨⟨false, ⟨fun t => absurd t (by decide), fun t => absurd (q.mp t).2.1 (zB_0.mp h72)⟩, rfl⟩, rfl⟩ | exact ⟨⟨false, ⟨fun t => absurd t (by decide), fun t => absurd (q.mp t).1 (zB_0.mp h65)⟩, rfl⟩, rfl⟩
      · skip
        refine y_loc (pc' := 76) xD_13 rfl rfl rfl rfl ?_
        refine y_callS xD_13 rfl rfl rfl rfl rfl rfl rfl rfl (s_isVariable) (fun v h' hq => ?_)
        obtain ⟨rfl, rfl⟩ := hq
        refine y_ifeq (pt := 86) (pf := 82) xD_13 rfl rfl rfl (fun h79 => ?_) (fun h79 => ?_)
        · skip
          refine y_ci (pc' := 87) (0) xD_13 rfl rfl rfl rfl ?_
          refine y_retZ xD_13 rfl rfl (by first | decide | assumption) ?_
          first | exact ⟨⟨true, ⟨fun _ => q.mpr ⟨zB_n0.mp h65, zB_n0.mp h72, zB_n0.mp h79⟩, fun _ => rfl⟩, rfl⟩, rfl⟩ | exact ⟨⟨false, ⟨fun t => absurd t (by decide), fun t => absurd (q.mp t).2.2 (zB_0.mp h79)⟩, rfl⟩, rfl⟩ | exact ⟨⟨false, ⟨fun t => absurd t (by decide), fun t => absurd (q.mp t).2.1 (zB_0.mp h72)⟩, rfl⟩, rfl⟩ | exact ⟨⟨false, ⟨fun t => absurd t (by decide), fun t => absurd (q.mp t).1 (zB_0.mp h65)⟩, rfl⟩, rfl⟩
        · skip
          refine y_ci (pc' := 83) (1) xD_13 rfl rfl rfl rfl ?_
          refine y_goto (pc' := 87) xD_13 rfl rfl ?_
          refine y_retZ xD_13 rfl rfl (by first | decide | assumption) ?_
          first | exact ⟨⟨true, ⟨fun _ => q.mpr ⟨zB_n0.mp h65, zB_n0.mp h72, zB_n0.mp h79⟩, fun _ => rfl⟩, rfl⟩, rfl⟩ | exact ⟨⟨false, ⟨fun t => absurd t (by decide), fun t => absurd (q.mp t).2.2 (zB_0.mp h79)⟩, rfl⟩, rfl⟩ | exact ⟨⟨false, ⟨fun t => absurd t (by decide), fun t => absurd (q.mp t).2.1 (zB_0.mp h72)⟩, rfl⟩, rfl⟩ | exact ⟨⟨false, ⟨fun t => absurd t (by decide), fun t => absurd (q.mp t).1 (zB_0.mp h65)⟩, rfl⟩, rfl⟩
  have gC : (AL o a b c ↔ (0 ≤ a ∧ a < 8) ∧ (0 ≤ b ∧ b < 8) ∧ (0 ≤ c ∧ c ≤ 10)) → XP S (d + 1) 13 88 [some (.int o), some (.int a), some (.int b), some (.int c)] [] h (fun v h' => (∃ t : Bool, (t = true ↔ AL o a b c) ∧ v = some (.int (zB t))) ∧ h' = h) := by
    intro q
    refine y_loc (pc' := 89) xD_13 rfl rfl rfl rfl ?_
    refine y_callS xD_13 rfl rfl rfl rfl rfl rfl rfl rfl (s_isVariable) (fun v h' hq => ?_)
    obtain ⟨rfl, rfl⟩ := hq
    refine y_ifeq (pt := 113) (pf := 95) xD_13 rfl rfl rfl (fun h92 => ?_) (fun h92 => ?_)
    · skip
      refine y_ci (pc' := 114) (0) xD_13 rfl rfl rfl rfl ?_
      refine y_retZ xD_13 rfl rfl (by first | decide | assumption) ?_
      first | exact ⟨⟨true, ⟨fun _ => q.mpr ⟨zB_n0.mp h92, zB_n0.mp h99, zB_n0.mp h106⟩, fun _ => rfl⟩, rfl⟩, rfl⟩ | exact ⟨⟨false, ⟨fun t => absurd t (by decide), fun t => absurd (q.mp t).2.2 (zB_0.mp h106)⟩, rfl⟩, rfl⟩ | exact ⟨⟨false, ⟨fun t => absurd t (by decide), fun t => absurd (q.mp t).2.1 (zB_0.mp h99)⟩, rfl⟩, rfl⟩ | exact ⟨⟨false, ⟨fun t => absurd t (by decide), fun t => absurd (q.mp t).1 (zB_0.mp h92)⟩, rfl⟩, rfl⟩
    · skip
      refine y_loc (pc' := 96) xD_13 rfl rfl rfl rfl ?_
      refine y_callS xD_13 rfl rfl rfl rfl rfl rfl rfl rfl (s_isVariable) (fun v h' hq => ?_)
      obtain ⟨rfl, rfl⟩ := hq
      refine y_ifeq (pt := 113) (pf := 102) xD_13 rfl rfl rfl (fun h99 => ?_) (fun h99 => ?_)
      · skip
        refine y_ci (pc' := 114) (0) xD_13 rfl rfl rfl rfl ?_
        refine y_retZ xD_13 rfl rfl (by first | decide | assumption) ?_
        first | exact ⟨⟨true, ⟨fun _ => q.mpr ⟨zB_n0.mp h92, zB_n0.mp h99, zB_n0.mp h106⟩, fun _ => rfl⟩, rfl⟩, rfl⟩ | exact ⟨⟨false, ⟨fun t => absurd t (by decide), fun t => absurd (q.mp t).2.2 (zB_0.mp h106)⟩, rfl⟩, rfl⟩ | exact ⟨⟨false, ⟨fun t => absurd t (by decide), fun t => absurd (q.mp t).2.1 (zB_0.mp h99)⟩, rfl⟩, rfl⟩ | exact ⟨⟨false, ⟨fun t => absurd t (by decide), fun t => absurd (q.mp t).1 (zB_0.mp h92)⟩, rfl⟩, rfl⟩
      · skip
        refine y_loc (pc' := 103) xD_13 rfl rfl rfl rfl ?_
        refine y_callS xD_13 rfl rfl rfl rfl rfl rfl rfl rfl (s_isTarget) (fun v h' hq => ?_)
        obtain ⟨rfl, rfl⟩ := hq
        refine y_ifeq (pt := 113) (pf := 109) xD_13 rfl rfl rfl (fun h106 => ?_) (fun h106 => ?_)
        · skip
          refine y_ci (pc' := 114) (0) xD_13 rfl rfl rfl rfl ?_
          refine y_retZ xD_13 rfl rfl (by first | decide | assumption) ?_
          first | exact ⟨⟨true, ⟨fun _ => q.mpr ⟨zB_n0.mp h92, zB_n0.mp h99, zB_n0.mp h106⟩, fun _ => rfl⟩, rfl⟩, rfl⟩ | exact ⟨⟨false, ⟨fun t => absurd t (by decide), fun t => absurd (q.mp t).2.2 (zB_0.mp h106)⟩, rfl⟩, rfl⟩ | exact ⟨⟨false, ⟨fun t => absurd t (by decide), fun t => absurd (q.mp t).2.1 (zB_0.mp h99)⟩, rfl⟩, rfl⟩ | exact ⟨⟨false, ⟨fun t => absurd t (by decide), fun t => absurd (q.mp t).1 (zB_0.mp h92)⟩, rfl⟩, rfl⟩
        · skip
          refine y_ci (pc' := 110) (1) xD_13 rfl rfl rfl rfl ?_
          refine y_goto (pc' := 114) xD_13 rfl rfl ?_
          refine y_retZ xD_13 rfl rfl (by first | decide | assumption) ?_
          first | exact ⟨⟨true, ⟨fun _ => q.mpr ⟨zB_n0.mp h92, zB_n0.mp h99, zB_n0.mp h106⟩, fun _ => rfl⟩, rfl⟩, rfl⟩ | exact ⟨⟨false, ⟨fun t => absurd t (by decide), fun t => absurd (q.mp t).2.2 (zB_0.mp h106)⟩, rfl⟩, rfl⟩ | exact ⟨⟨false, ⟨fun t => absurd t (by decide), fun t => absurd (q.mp t).2.1 (zB_0.mp h99)⟩, rfl⟩, rfl⟩ | exact ⟨⟨false, ⟨fun t => absurd t (by decide), fun t => absurd (q.mp t).1 (zB_0.mp h92)⟩, rfl⟩, rfl⟩
  have gD : (AL o a b c ↔ (0 ≤ c ∧ c ≤ 10)) → XP S (d + 1) 13 115 [some (.int o), some (.int a), some (.int b), some (.int c)] [] h (fun v h' => (∃ t : Bool, (t = true ↔ AL o a b c) ∧ v = some (.int (zB t))) ∧ h' = h) := by
    intro q
    refine y_loc (pc' := 116) xD_13 rfl rfl rfl rfl ?_
    refine y_callS xD_13 rfl rfl rfl rfl rfl rfl rfl rfl (s_isTarget) (fun v h' hq => ?_)
    obtain ⟨rfl, rfl⟩ := hq
    refine y_retZ xD_13 rfl rfl (zB_or _) ?_
    exact ⟨⟨_, by rw [q]; exact decide_eq_true_iff, rfl⟩, rfl⟩
  have gE : AL o a b c → XP S (d + 1) 13 120 [some (.int o), some (.int a), some (.int b), some (.int c)] [] h (fun v h' => (∃ t : Bool, (t = true ↔ AL o a b c) ∧ v = some (.int (zB t))) ∧ h' = h) := by
    intro q
    refine y_ci (pc' := 121) (1) xD_13 rfl rfl rfl rfl ?_
    refine y_retZ xD_13 rfl rfl (by first | decide | assumption) ?_
    exact ⟨⟨true, ⟨fun _ => q, fun _ => rfl⟩, rfl⟩, rfl⟩
  have gF : ¬ AL o a b c → XP S (d + 1) 13 122 [some (.int o), some (.int a), some (.int b), some (.int c)] [] h (fun v h' => (∃ t : Bool, (t = true ↔ AL o a b c) ∧ v = some (.int (zB t))) ∧ h' = h) := by
    intro q
    refine y_ci (pc' := 123) (0) xD_13 rfl rfl rfl rfl ?_
    refine y_retZ xD_13 rfl rfl (by first | decide | assumption) ?_
    exact ⟨⟨false, ⟨fun t => absurd t (by decide), fun t => absurd t q⟩, rfl⟩, rfl⟩
  by_cases hr : 0 ≤ o ∧ o < 10
  · obtain ⟨t, -, ht, e⟩ := i32_range (a := 0) (b := 10) (by decide) hr.1 hr.2 (by decide)
    have al := AL_t (a := a) (b := b) (c := c) ht e
    rw [← va, ← vb, ← vc, ← tc] at al
    subst e
    rcases (show t = 0 ∨ t = 1 ∨ t = 2 ∨ t = 3 ∨ t = 4 ∨ t = 5 ∨ t = 6 ∨ t = 7 ∨ t = 8 ∨ t = 9 by omega) with rfl | rfl | rfl | rfl | rfl | rfl | rfl | rfl | rfl | rfl
    · skip
      refine y_loc (pc' := 1) xD_13 rfl rfl rfl rfl ?_
      refine y_jmp (pc' := 56) xD_13 rfl (rfl) ?_
      exact gA (al.trans ⟨fun q => q.2.1 (by decide), fun q => ⟨fun t => absurd t (by decide), fun _ => q, fun t => absurd t (by decide), fun t => absurd t (by decide)⟩⟩)
    · skip
      refine y_loc (pc' := 1) xD_13 rfl rfl rfl rfl ?_
      refine y_jmp (pc' := 61) xD_13 rfl (rfl) ?_
      exact gB (al.trans ⟨fun q => ⟨q.2.1 (by decide), q.2.2.1 (by decide), q.2.2.2 (by decide)⟩, fun q => ⟨fun t => absurd t (by decide), fun _ => q.1, fun _ => q.2.1, fun _ => q.2.2⟩⟩)
    · skip
      refine y_loc (pc' := 1) xD_13 rfl rfl rfl rfl ?_
      refine y_jmp (pc' := 61) xD_13 rfl (rfl) ?_
      exact gB (al.trans ⟨fun q => ⟨q.2.1 (by decide), q.2.2.1 (by decide), q.2.2.2 (by decide)⟩, fun q => ⟨fun t => absurd t (by decide), fun _ => q.1, fun _ => q.2.1, fun _ => q.2.2⟩⟩)
    · skip
      refine y_loc (pc' := 1) xD_13 rfl rfl rfl rfl ?_
      refine y_jmp (pc' := 61) xD_13 rfl (rfl) ?_
      exact gB (al.trans ⟨fun q => ⟨q.2.1 (by decide), q.2.2.1 (by decide), q.2.2.2 (by decide)⟩, fun q => ⟨fun t => absurd t (by decide), fun _ => q.1, fun _ => q.2.1, fun _ => q.2.2⟩⟩)
    · skip
      refine y_loc (pc' := 1) xD_13 rfl rfl rfl rfl ?_
      refine y_jmp (pc' := 61) xD_13 rfl (rfl) ?_
      exact gB (al.trans ⟨fun q => ⟨q.2.1 (by decide), q.2.2.1 (by decide), q.2.2.2 (by decide)⟩, fun q => ⟨fun t => absurd t (by decide), fun _ => q.1, fun _ => q.2.1, fun _ => q.2.2⟩⟩)
    · skip
      refine y_loc (pc' := 1) xD_13 rfl rfl rfl rfl ?_
      refine y_jmp (pc' := 88) xD_13 rfl (rfl) ?_
      exact gC (al.trans ⟨fun q => ⟨q.2.1 (by decide), q.2.2.1 (by decide), q.1 (by decide)⟩, fun q => ⟨fun _ => q.2.2, fun _ => q.1, fun _ => q.2.1, fun t => absurd t (by decide)⟩⟩)
    · skip
      refine y_loc (pc' := 1) xD_13 rfl rfl rfl rfl ?_
      refine y_jmp (pc' := 88) xD_13 rfl (rfl) ?_
      exact gC (al.trans ⟨fun q => ⟨q.2.1 (by decide), q.2.2.1 (by decide), q.1 (by decide)⟩, fun q => ⟨fun _ => q.2.2, fun _ => q.1, fun _ => q.2.1, fun t => absurd t (by decide)⟩⟩)
    · skip
      refine y_loc (pc' := 1) xD_13 rfl rfl rfl rfl ?_
      refine y_jmp (pc' := 115) xD_13 rfl (rfl) ?_
      exact gD (al.trans ⟨fun q => q.1 (by decide), fun q => ⟨fun _ => q, fun t => absurd t (by decide), fun t => absurd t (by decide), fun t => absurd t (by decide)⟩⟩)
    · skip
      refine y_loc (pc' := 1) xD_13 rfl rfl rfl rfl ?_
      refine y_jmp (pc' := 56) xD_13 rfl (rfl) ?_
      exact gA (al.trans ⟨fun q => q.2.1 (by decide), fun q => ⟨fun t => absurd t (by decide), fun _ => q, fun t => absurd t (by decide), fun t => absurd t (by decide)⟩⟩)
    · skip
      refine y_loc (pc' := 1) xD_13 rfl rfl rfl rfl ?_
      refine y_jmp (pc' := 120) xD_13 rfl (rfl) ?_
      exact gE (al.mpr ⟨fun t => absurd t (by decide), fun t => absurd t (by decide), fun t => absurd t (by decide), fun t => absurd t (by decide)⟩)
  · have nAL : ¬ AL o a b c := fun q => by
      obtain ⟨t, ht, e⟩ := (AL_iff.mp q).1
      exact hr (by rw [e]; exact ⟨nI_pos' (by omega), nI_lt (b := 10) ht (by decide)⟩)
    have hc : o.toInt < (0 : Int) ∨ (9 : Int) < o.toInt := by
      by_cases q : o.toInt < (0 : Int)
      · exact Or.inl q
      · refine Or.inr ?_
        have : ¬ (o < 10) := fun t => hr ⟨by rw [Int32.le_iff_toInt_le]; show (0 : Int) ≤ _; omega, t⟩
        rw [Int32.lt_iff_toInt_lt] at this
        have : ¬ o.toInt < (10 : Int) := this
        omega
    refine y_loc (pc' := 1) xD_13 rfl rfl rfl rfl ?_
    refine y_jmp (pc' := 122) xD_13 rfl (xjtab_d hc rfl) ?_
    exact gF nAL
/-- Method.append -/
theorem s_append {A n : Nat} (hR : RF R) (hA : A = 4 ∨ A = 10) (hn : I A 5 = nI n) (hn2 : n ≤ 10) :
    XP S (d + 2) 12 0 (xent [.ref A, .int o, .int a, .int b, .int c] 5) [] (hh I J R) (fun v h' => (¬ (n < 10 ∧ AL o a b c) ∧ v = some (.int 0) ∧ h' = hh I J R) ∨ (n < 10 ∧ AL o a b c ∧ v = some (.int 1) ∧ ∃ I', h' = hh I' J R ∧ I' A 5 = nI (n + 1) ∧ (∀ j, j ≠ 5 → I' A j = I A j) ∧ (I' (A + 1) n = o ∧ I' (A + 2) n = a ∧ I' (A + 3) n = b ∧ I' (A + 4) n = c ∧ I' (A + 5) n = -1) ∧ (∀ x j, x ≠ A → j ≠ n → I' x j = I x j) ∧ ∀ x, x ≠ A → x ≠ A + 1 → x ≠ A + 2 → x ≠ A + 3 → x ≠ A + 4 → x ≠ A + 5 → I' x = I x)) := by
  obtain ⟨k0, k1, k2, k3, k4, k5⟩ := kMeth hA
  obtain ⟨r1, r2, r3, r4, r5⟩ := rMeth hR hA
  have l10 : 10 ≤ nI n ↔ 10 ≤ n := nI_leI (a := 10) (by decide) (by omega)
  refine y_loc (pc' := 1) xD_12 rfl rfl rfl rfl ?_
  refine m_getI (pc' := 4) xD_12 rfl rfl rfl (by first | rfl | assumption) (hn) rfl ?_
  refine y_ci (pc' := 6) (10) xD_12 rfl rfl rfl rfl ?_
  refine y_icge (pt := 20) (pf := 9) xD_12 rfl rfl rfl (fun h6 => ?_) (fun h6 => ?_)
  · skip
    refine y_ci (pc' := 21) (0) xD_12 rfl rfl rfl rfl ?_
    refine y_retZ xD_12 rfl rfl (by first | decide | assumption) ?_
    exact Or.inl ⟨fun q => by have := l10.mp h6; omega, rfl, rfl⟩
  · skip
    have n10 : n < 10 := Nat.lt_of_not_le (fun q => h6 (l10.mpr q))
    refine y_loc (pc' := 10) xD_12 rfl rfl rfl rfl ?_
    refine y_loc (pc' := 11) xD_12 rfl rfl rfl rfl ?_
    refine y_loc (pc' := 12) xD_12 rfl rfl rfl rfl ?_
    refine y_loc (pc' := 14) xD_12 rfl rfl rfl rfl ?_
    refine y_callS xD_12 rfl rfl rfl rfl rfl rfl rfl rfl (s_isAllowed (d := d)) (fun v h' hq => ?_)
    obtain ⟨⟨t, kt, rfl⟩, rfl⟩ := hq
    refine y_ifne (pt := 22) (pf := 20) xD_12 rfl rfl rfl (fun h17 => ?_) (fun h17 => ?_)
    · skip
      have hal := kt.mp (by rw [zB_f, Bool.not_eq_false] at h17; exact h17)
      refine y_loc (pc' := 23) xD_12 rfl rfl rfl rfl ?_
      first | refine m_getR (pc' := 26) xD_12 rfl rfl rfl rfl (hR.1 _ _ _ rfl) rfl ?_ | refine m_getR (pc' := 26) xD_12 rfl rfl (by first | rfl | assumption) rfl (by assumption) rfl ?_
      refine y_loc (pc' := 27) xD_12 rfl rfl rfl rfl ?_
      refine m_getI (pc' := 30) xD_12 rfl rfl rfl (by first | rfl | assumption) (hn) rfl ?_
      refine y_loc (pc' := 31) xD_12 rfl rfl rfl rfl ?_
      refine m_iast (pc' := 32) (n) xD_12 rfl (by first | rfl | assumption) (by first | assumption | omega) (by first | decide | assumption) (by first | rfl | assumption) rfl ?_
      refine y_loc (pc' := 33) xD_12 rfl rfl rfl rfl ?_
      first | refine m_getR (pc' := 36) xD_12 rfl rfl rfl rfl (hR.1 _ _ _ rfl) rfl ?_ | refine m_getR (pc' := 36) xD_12 rfl rfl (by first | rfl | assumption) rfl (by assumption) rfl ?_
      refine y_loc (pc' := 37) xD_12 rfl rfl rfl rfl ?_
      refine m_getI (pc' := 40) xD_12 rfl rfl rfl (by first | rfl | assumption) ((show xu I (A + 1) n o A 5 = nI n from by rw [xu_ne (by omega)]; exact hn)) rfl ?_
      refine y_loc (pc' := 41) xD_12 rfl rfl rfl rfl ?_
      refine m_iast (pc' := 42) (n) xD_12 rfl (by first | rfl | assumption) (by first | assumption | omega) (by first | decide | assumption) (by first | rfl | assumption) rfl ?_
      refine y_loc (pc' := 43) xD_12 rfl rfl rfl rfl ?_
      first | refine m_getR (pc' := 46) xD_12 rfl rfl rfl rfl (hR.1 _ _ _ rfl) rfl ?_ | refine m_getR (pc' := 46) xD_12 rfl rfl (by first | rfl | assumption) rfl (by assumption) rfl ?_
      refine y_loc (pc' := 47) xD_12 rfl rfl rfl rfl ?_
      refine m_getI (pc' := 50) xD_12 rfl rfl rfl (by first | rfl | assumption) ((show xu (xu I (A + 1) n o) (A + 2) n a A 5 = nI n from by rw [xu_ne (by omega), xu_ne (by omega)]; exact hn)) rfl ?_
      refine y_loc (pc' := 51) xD_12 rfl rfl rfl rfl ?_
      refine m_iast (pc' := 52) (n) xD_12 rfl (by first | rfl | assumption) (by first | assumption | omega) (by first | decide | assumption) (by first | rfl | assumption) rfl ?_
      refine y_loc (pc' := 53) xD_12 rfl rfl rfl rfl ?_
      first | refine m_getR (pc' := 56) xD_12 rfl rfl rfl rfl (hR.1 _ _ _ rfl) rfl ?_ | refine m_getR (pc' := 56) xD_12 rfl rfl (by first | rfl | assumption) rfl (by assumption) rfl ?_
      refine y_loc (pc' := 57) xD_12 rfl rfl rfl rfl ?_
      refine m_getI (pc' := 60) xD_12 rfl rfl rfl (by first | rfl | assumption) ((show xu (xu (xu I (A + 1) n o) (A + 2) n a) (A + 3) n b A 5 = nI n from by rw [xu_ne (by omega), xu_ne (by omega), xu_ne (by omega)]; exact hn)) rfl ?_
      refine y_loc (pc' := 62) xD_12 rfl rfl rfl rfl ?_
      refine m_iast (pc' := 63) (n) xD_12 rfl (by first | rfl | assumption) (by first | assumption | omega) (by first | decide | assumption) (by first | rfl | assumption) rfl ?_
      refine y_loc (pc' := 64) xD_12 rfl rfl rfl rfl ?_
      first | refine m_getR (pc' := 67) xD_12 rfl rfl rfl rfl (hR.1 _ _ _ rfl) rfl ?_ | refine m_getR (pc' := 67) xD_12 rfl rfl (by first | rfl | assumption) rfl (by assumption) rfl ?_
      refine y_loc (pc' := 68) xD_12 rfl rfl rfl rfl ?_
      refine m_getI (pc' := 71) xD_12 rfl rfl rfl (by first | rfl | assumption) ((show xu (xu (xu (xu I (A + 1) n o) (A + 2) n a) (A + 3) n b) (A + 4) n c A 5 = nI n from by rw [xu_ne (by omega), xu_ne (by omega), xu_ne (by omega), xu_ne (by omega)]; exact hn)) rfl ?_
      refine y_ci (pc' := 72) (-1) xD_12 rfl rfl rfl rfl ?_
      refine m_iast (pc' := 73) (n) xD_12 rfl (by first | rfl | assumption) (by first | assumption | omega) (by first | decide | assumption) (by first | rfl | assumption) rfl ?_
      refine y_loc (pc' := 74) xD_12 rfl rfl rfl rfl ?_
      refine y_op (pc' := 75) xD_12 rfl rfl rfl rfl ?_
      refine m_getI (pc' := 78) xD_12 rfl rfl rfl (by first | rfl | assumption) ((show xu (xu (xu (xu (xu I (A + 1) n o) (A + 2) n a) (A + 3) n b) (A + 4) n c) (A + 5) n (-1) A 5 = nI n from by rw [xu_ne (by omega), xu_ne (by omega), xu_ne (by omega), xu_ne (by omega), xu_ne (by omega)]; exact hn)) rfl ?_
      refine y_ci (pc' := 79) (1) xD_12 rfl rfl rfl rfl ?_
      refine y_iadd (pc' := 80) xD_12 rfl (nI_1 n) rfl ?_
      refine m_putI (pc' := 83) xD_12 rfl rfl (by first | rfl | assumption) rfl rfl rfl ?_
      refine y_ci (pc' := 84) (1) xD_12 rfl rfl rfl rfl ?_
      refine y_retZ xD_12 rfl rfl (by first | decide | assumption) ?_
      refine Or.inr ⟨n10, hal, rfl, _, rfl, xu_ii, fun j hj => ?_, ⟨?_, ?_, ?_, ?_, ?_⟩, fun x j hx hj => ?_, fun x e0 e1 e2 e3 e4 e5 => ?_⟩
      · show (if _ then _ else _) = _
        rw [if_neg (fun q => hj q.2), xu_ne (by omega), xu_ne (by omega), xu_ne (by omega), xu_ne (by omega), xu_ne (by omega)]
      · rw [xu_ne (by omega), xu_ne (by omega), xu_ne (by omega), xu_ne (by omega), xu_ne (by omega), xu_ii]
      · rw [xu_ne (by omega), xu_ne (by omega), xu_ne (by omega), xu_ne (by omega), xu_ii]
      · rw [xu_ne (by omega), xu_ne (by omega), xu_ne (by omega), xu_ii]
      · rw [xu_ne (by omega), xu_ne (by omega), xu_ii]
      · rw [xu_ne (by omega), xu_ii]
      · rw [xu_ne hx]
        unfold xu
        rw [if_neg (fun q => hj q.2), if_neg (fun q => hj q.2), if_neg (fun q => hj q.2), if_neg (fun q => hj q.2), if_neg (fun q => hj q.2)]
      · rw [xu_ne e0, xu_ne e5, xu_ne e4, xu_ne e3, xu_ne e2, xu_ne e1]
    · skip
      refine y_ci (pc' := 21) (0) xD_12 rfl rfl rfl rfl ?_
      refine y_retZ xD_12 rfl rfl (by first | decide | assumption) ?_
      refine Or.inl ⟨fun q => ?_, rfl, rfl⟩
      have := kt.mpr q.2
      rw [zB_f.mp h17] at this
      exact absurd this (by decide)
end LN

