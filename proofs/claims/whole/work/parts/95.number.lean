/-! Branches numbered and linked. -/
def br (cd : Nat → Nat → Int32) (p : Nat) : Bool := decide (cd p 0 = 5 ∨ cd p 0 = 6)
def bc (cd : Nat → Nat → Int32) : Nat → Nat
  | 0 => 0
  | p + 1 => if br cd p = true then bc cd p + 1 else bc cd p
def wt (cd : Nat → Nat → Int32) (n : Nat) : Bool := decide (n + 2 * bc cd n ≤ 20)
theorem bc_le {cd : Nat → Nat → Int32} : ∀ p, bc cd p ≤ p
  | 0 => Nat.le_refl _
  | p + 1 => by
    have := bc_le (cd := cd) p
    simp only [bc]
    split <;> omega
theorem bc_y {cd : Nat → Nat → Int32} {p : Nat} (h : br cd p = true) : bc cd (p + 1) = bc cd p + 1 := by simp only [bc]; rw [if_pos h]
theorem bc_n {cd : Nat → Nat → Int32} {p : Nat} (h : ¬ br cd p = true) : bc cd (p + 1) = bc cd p := by simp only [bc]; rw [if_neg h]
theorem bc_mono {cd : Nat → Nat → Int32} {p : Nat} : ∀ k, bc cd p ≤ bc cd (p + k)
  | 0 => Nat.le_refl _
  | k + 1 => by
    have := bc_mono (cd := cd) (p := p) k
    show _ ≤ bc cd (p + k + 1)
    simp only [bc]
    split <;> omega
theorem bc_lt {cd : Nat → Nat → Int32} {p n : Nat} (hp : p < n) (h : br cd p = true) : bc cd p < bc cd n := by
  have := bc_mono (cd := cd) (p := p + 1) (n - (p + 1))
  rw [show p + 1 + (n - (p + 1)) = n by omega, bc_y h] at this
  omega
theorem bc_inj {cd : Nat → Nat → Int32} {p q : Nat} (hp : br cd p = true) (hq : br cd q = true) (h : bc cd p = bc cd q) : p = q := by
  by_cases l : p < q
  · have := bc_lt l hp; omega
  · by_cases l2 : q < p
    · have := bc_lt l2 hq; omega
    · omega
theorem bc_onto {cd : Nat → Nat → Int32} : ∀ n k, k < bc cd n → ∃ p, p < n ∧ br cd p = true ∧ bc cd p = k
  | 0, k, h => absurd h (Nat.not_lt_zero _)
  | n + 1, k, h => by
    by_cases hb : br cd n = true
    · rw [bc_y hb] at h
      by_cases e : k = bc cd n
      · exact ⟨n, by omega, hb, e.symm⟩
      · obtain ⟨p, hp, h1, h2⟩ := bc_onto (cd := cd) n k (by omega)
        exact ⟨p, by omega, h1, h2⟩
    · rw [bc_n hb] at h
      obtain ⟨p, hp, h1, h2⟩ := bc_onto (cd := cd) n k h
      exact ⟨p, by omega, h1, h2⟩
theorem wt_6 {cd : Nat → Nat → Int32} {n : Nat} (h : wt cd n = true) : bc cd n ≤ 6 := by
  have := of_decide_eq_true h
  have := bc_le (cd := cd) n
  omega
/-- the goals on which the branch in line p depends -/
def ND (cd : Nat → Nat → Int32) (n f p : Nat) (G : Int32) : Prop := ∀ h, h < 32 → (ib G h = true ↔ ∃ q, q < n ∧ br cd q = true ∧ (q = p ∨ ¬ ms cd n p q) ∧ ((h = 2 * (f + bc cd q) ∧ ms cd n p (q_lead cd n q false)) ∨ (h = 2 * (f + bc cd q) + 1 ∧ ms cd n p (q_lead cd n q true))))
theorem ND.uniq {cd : Nat → Nat → Int32} {n f p : Nat} {G G' : Int32} (h : ND cd n f p G) (h' : ND cd n f p G') : G = G' := ib_ext (fun g hg => by rw [Bool.eq_iff_iff, h g hg, h' g hg])
section NB
variable {S : XS} {d A n f : Nat} {I : Nat → Nat → Int32} {J : Nat → Nat → Int64} {R : Nat → Nat → Option Nat}
/-- Method.numberBranches -/
theorem s_number (hR : RF R) (hA : A = 4 ∨ A = 10) (hn : I A 5 = nI n) (hn2 : n ≤ 10) (hf : f ≤ 6) {cd : Nat → Nat → Int32} (ecd : cd = cdC I A) :
    XP S (d + 1) 18 0 (xent [.ref A, .int (nI f)] 5) [] (hh I J R) (fun v h' => v = some (.int (nI (if wt cd n = true then f + bc cd n else f))) ∧ ∃ g, h' = hh (xrow (xu I A 6 (zB (wt cd n))) (A + 5) g) J R ∧ ∀ p, p < n → g p = if wt cd n = true ∧ br cd p = true then nI (f + bc cd p) else I (A + 5) p) := by
  obtain ⟨k0, -, -, -, -, k5⟩ := kMeth hA
  have r5 := (rMeth hR hA).2.2.2.2
  have ebr : ∀ p, p < 10 → decide (I (A + 1) p = 5 ∨ I (A + 1) p = 6) = br cd p := fun p hp => by rw [ecd]; rfl
  have bl := bc_le (cd := cd) n
  have number : wt cd n = true → ∀ (m p : Nat), p + m = n → ∀ (g : Nat → Int32), (∀ q, q < p → g q = if br cd q = true then nI (f + bc cd q) else I (A + 5) q) → (∀ q, p ≤ q → g q = I (A + 5) q) → ∀ q2 : Int32, XP S (d + 1) 18 65 [some (.ref A), some (.int (nI f)), some (.int q2), some (.int (nI (f + bc cd p))), some (.int (nI p))] [] (hh (xrow (xu I A 6 1) (A + 5) g) J R) (fun v h' => v = some (.int (nI (if wt cd n = true then f + bc cd n else f))) ∧ ∃ g, h' = hh (xrow (xu I A 6 (zB (wt cd n))) (A + 5) g) J R ∧ ∀ p, p < n → g p = if wt cd n = true ∧ br cd p = true then nI (f + bc cd p) else I (A + 5) p) := by
    intro hw m
    have w6 := wt_6 hw
    induction m with
    | zero =>
      intro p hp g h1 h2 q2
      have hp : p = n := by omega
      subst hp
      have e5 : xrow (xu I A 6 1) (A + 5) g A 5 = nI p := by rw [xrow_ne (by omega)]; show (if _ then _ else _) = _; rw [if_neg (by omega)]; exact hn
      refine y_loc (pc' := 67) xD_18 rfl rfl rfl rfl ?_
      refine y_loc (pc' := 68) xD_18 rfl rfl rfl rfl ?_
      refine m_getI (pc' := 71) xD_18 rfl rfl rfl (by first | rfl | assumption) (e5) rfl ?_
      refine y_icge (pt := 100) (pf := 74) xD_18 rfl rfl rfl (fun h71 => ?_) (fun h71 => ?_)
      · skip
        refine y_loc (pc' := 101) xD_18 rfl rfl rfl rfl ?_
        refine y_retI xD_18 rfl rfl ?_
        exact ⟨by rw [if_pos hw], g, by rw [hw]; rfl, fun q hq => by rw [h1 q hq]; by_cases t : br cd q = true; rw [if_pos t, if_pos ⟨hw, t⟩]; rw [if_neg t, if_neg (fun u => t u.2)]⟩
      · skip
        exact absurd (Int32.le_refl _) h71
    | succ m ih =>
      intro p hp g h1 h2 q2
      have e5 : xrow (xu I A 6 1) (A + 5) g A 5 = nI n := by rw [xrow_ne (by omega)]; show (if _ then _ else _) = _; rw [if_neg (by omega)]; exact hn
      have e1 : xrow (xu I A 6 1) (A + 5) g (A + 1) p = I (A + 1) p := by rw [xrow_ne (by omega), xu_ne (by omega)]
      have ib1 := s_isBranch (S := S) (d := d) (I := xrow (xu I A 6 1) (A + 5) g) (J := J) (R := R) hR hA p (by omega) (x := nI p) rfl
      rw [e1, ebr p (by omega)] at ib1
      refine y_loc (pc' := 67) xD_18 rfl rfl rfl rfl ?_
      refine y_loc (pc' := 68) xD_18 rfl rfl rfl rfl ?_
      refine m_getI (pc' := 71) xD_18 rfl rfl rfl (by first | rfl | assumption) (e5) rfl ?_
      refine y_icge (pt := 100) (pf := 74) xD_18 rfl rfl rfl (fun h71 => ?_) (fun h71 => ?_)
      · skip
        exact absurd h71 (nI_ge (a := p) (b := n) (by omega) (by omega))
      · skip
        refine y_loc (pc' := 75) xD_18 rfl rfl rfl rfl ?_
        refine y_loc (pc' := 77) xD_18 rfl rfl rfl rfl ?_
        refine y_callV xD_18 rfl rfl rfl rfl (by first | rfl | assumption) rfl rfl rfl rfl (ib1) (fun v h' hq => ?_)
        obtain ⟨rfl, rfl⟩ := hq
        refine y_ifeq (pt := 94) (pf := 83) xD_18 rfl rfl rfl (fun h80 => ?_) (fun h80 => ?_)
        · skip
          refine y_inc (pc' := 97) (nI (p + 1)) xD_18 rfl rfl rfl (nI_1 (p)) rfl rfl ?_
          refine y_goto (pc' := 65) xD_18 rfl rfl ?_
          first
          | (have hb : ¬ br cd p = true := by rw [zB_f.mp h80]; decide
             have := ih (p + 1) (by omega) g (fun q hq => by by_cases e : q = p; rw [e, if_neg hb]; exact h2 p (Nat.le_refl _); exact h1 q (by omega)) (fun q hq => h2 q (by omega)) q2
             rw [bc_n hb] at this
             exact this)
          | (have hb : br cd p = true := by rw [zB_f, Bool.not_eq_false] at h80; exact h80
             have := ih (p + 1) (by omega) (fun j => if j = p then nI (f + bc cd p) else g j) (fun q hq => by by_cases e : q = p; rw [if_pos e, e, if_pos hb]; rw [if_neg e]; exact h1 q (by omega)) (fun q hq => by rw [if_neg (by omega)]; exact h2 q (by omega)) q2
             rw [bc_y hb, show f + (bc cd p + 1) = f + bc cd p + 1 from rfl] at this
             exact this)
        · skip
          refine y_loc (pc' := 84) xD_18 rfl rfl rfl rfl ?_
          first | refine m_getR (pc' := 87) xD_18 rfl rfl rfl rfl (hR.1 _ _ _ rfl) rfl ?_ | refine m_getR (pc' := 87) xD_18 rfl rfl (by first | rfl | assumption) rfl (by assumption) rfl ?_
          refine y_loc (pc' := 89) xD_18 rfl rfl rfl rfl ?_
          refine y_loc (pc' := 90) xD_18 rfl rfl rfl rfl ?_
          refine y_inc (pc' := 93) (nI (f + bc cd p + 1)) xD_18 rfl rfl rfl (nI_1 _) rfl rfl ?_
          refine m_iast (pc' := 94) (p) xD_18 rfl (by first | rfl | assumption) (by first | assumption | omega) (by first | decide | assumption) (by first | rfl | assumption) rfl ?_
          rw [xu_row, xrow_row, xrow_at]
          refine y_inc (pc' := 97) (nI (p + 1)) xD_18 rfl rfl rfl (nI_1 (p)) rfl rfl ?_
          refine y_goto (pc' := 65) xD_18 rfl rfl ?_
          first
          | (have hb : ¬ br cd p = true := by rw [zB_f.mp h80]; decide
             have := ih (p + 1) (by omega) g (fun q hq => by by_cases e : q = p; rw [e, if_neg hb]; exact h2 p (Nat.le_refl _); exact h1 q (by omega)) (fun q hq => h2 q (by omega)) q2
             rw [bc_n hb] at this
             exact this)
          | (have hb : br cd p = true := by rw [zB_f, Bool.not_eq_false] at h80; exact h80
             have := ih (p + 1) (by omega) (fun j => if j = p then nI (f + bc cd p) else g j) (fun q hq => by by_cases e : q = p; rw [if_pos e, e, if_pos hb]; rw [if_neg e]; exact h1 q (by omega)) (fun q hq => by rw [if_neg (by omega)]; exact h2 q (by omega)) q2
             rw [bc_y hb, show f + (bc cd p + 1) = f + bc cd p + 1 from rfl] at this
             exact this)
  have count : ∀ (m p : Nat), p + m = n → ∀ (q4 : Option Value), XP S (d + 1) 18 4 [some (.ref A), some (.int (nI f)), some (.int (nI (bc cd p))), some (.int (nI p)), q4] [] (hh I J R) (fun v h' => v = some (.int (nI (if wt cd n = true then f + bc cd n else f))) ∧ ∃ g, h' = hh (xrow (xu I A 6 (zB (wt cd n))) (A + 5) g) J R ∧ ∀ p, p < n → g p = if wt cd n = true ∧ br cd p = true then nI (f + bc cd p) else I (A + 5) p) := by
    intro m
    induction m with
    | zero =>
      intro p hp q4
      have hp : p = n := by omega
      subst hp
      have ml : (2 : Int32) * nI (bc cd p) = nI (2 * bc cd p) := pk_mul 2 _
      have al : nI p + nI (2 * bc cd p) = nI (p + 2 * bc cd p) := nI_add _ _
      have cl : 20 < nI (p + 2 * bc cd p) ↔ 20 < p + 2 * bc cd p := nI_ltI (a := 20) (by decide) (by omega)
      have tail : ∀ z : Int32, z = zB (wt cd p) → XP S (d + 1) 18 48 [some (.ref A), some (.int (nI f)), some (.int (nI (bc cd p))), some (.int (nI p)), q4] [.int z, .ref A] (hh I J R) (fun v h' => v = some (.int (nI (if wt cd p = true then f + bc cd p else f))) ∧ ∃ g, h' = hh (xrow (xu I A 6 (zB (wt cd p))) (A + 5) g) J R ∧ ∀ q, q < p → g q = if wt cd p = true ∧ br cd q = true then nI (f + bc cd q) else I (A + 5) q) := by
        intro z hz
        subst hz
        have e6 : xu I A 6 (zB (wt cd p)) A 6 = zB (wt cd p) := xu_ii
        refine m_putZ (pc' := 51) (zB_or _) xD_18 rfl rfl (by first | rfl | assumption) rfl rfl rfl ?_
        refine y_loc (pc' := 52) xD_18 rfl rfl rfl rfl ?_
        refine m_getZ (pc' := 55) xD_18 rfl rfl rfl (by first | rfl | assumption) (e6) rfl ?_
        refine y_ifne (pt := 60) (pf := 58) xD_18 rfl rfl rfl (fun h55 => ?_) (fun h55 => ?_)
        · skip
          have hw : wt cd p = true := by rw [zB_f, Bool.not_eq_false] at h55; exact h55
          refine y_loc (pc' := 61) xD_18 rfl rfl rfl rfl ?_
          refine y_loc (pc' := 62) xD_18 rfl rfl rfl rfl ?_
          refine y_ci (pc' := 63) (0) xD_18 rfl rfl rfl rfl ?_
          refine y_loc (pc' := 65) xD_18 rfl rfl rfl rfl ?_
          have := number hw p 0 (by omega) (I (A + 5)) (fun q hq => absurd hq (by omega)) (fun q _ => rfl) (nI (bc cd p))
          rw [show f + bc cd 0 = f from rfl, show xrow (xu I A 6 1) (A + 5) (I (A + 5)) = xu I A 6 1 from by rw [← xu_ne (f := I) (a := A) (i := 6) (v := 1) (show A + 5 ≠ A by omega), xrow_id]] at this
          rw [hw]
          rw [hw] at this
          exact this
        · skip
          have hw : wt cd p = false := zB_f.mp h55
          refine y_loc (pc' := 59) xD_18 rfl rfl rfl rfl ?_
          refine y_retI xD_18 rfl rfl ?_
          refine ⟨by rw [hw]; rfl, I (A + 5), by rw [hw, show xrow (xu I A 6 (zB false)) (A + 5) (I (A + 5)) = xu I A 6 (zB false) from by rw [← xu_ne (f := I) (a := A) (i := 6) (v := zB false) (show A + 5 ≠ A by omega), xrow_id]], fun q hq => ?_⟩
          rw [hw, if_neg (fun t => absurd t.1 (by decide))]
      refine y_loc (pc' := 5) xD_18 rfl rfl rfl rfl ?_
      refine y_loc (pc' := 6) xD_18 rfl rfl rfl rfl ?_
      refine m_getI (pc' := 9) xD_18 rfl rfl rfl (by first | rfl | assumption) (hn) rfl ?_
      refine y_icge (pt := 29) (pf := 12) xD_18 rfl rfl rfl (fun h9 => ?_) (fun h9 => ?_)
      · skip
        refine y_loc (pc' := 30) xD_18 rfl rfl rfl rfl ?_
        refine y_loc (pc' := 31) xD_18 rfl rfl rfl rfl ?_
        refine m_getI (pc' := 34) xD_18 rfl rfl rfl (by first | rfl | assumption) (hn) rfl ?_
        refine y_ci (pc' := 35) (2) xD_18 rfl rfl rfl rfl ?_
        refine y_loc (pc' := 36) xD_18 rfl rfl rfl rfl ?_
        refine y_imul (pc' := 37) xD_18 rfl (ml) rfl ?_
        refine y_iadd (pc' := 38) xD_18 rfl (al) rfl ?_
        refine y_ci (pc' := 40) (20) xD_18 rfl rfl rfl rfl ?_
        refine y_icgt (pt := 47) (pf := 43) xD_18 rfl rfl rfl (fun h40 => ?_) (fun h40 => ?_)
        · skip
          refine y_ci (pc' := 48) (0) xD_18 rfl rfl rfl rfl ?_
          first
          | exact tail 0 (by rw [show wt cd p = false from decide_eq_false (by have := cl.mp h40; omega)]; rfl)
          | exact tail 1 (by rw [show wt cd p = true from decide_eq_true (Nat.le_of_not_lt (fun q => h40 (cl.mpr q)))]; rfl)
        · skip
          refine y_ci (pc' := 44) (1) xD_18 rfl rfl rfl rfl ?_
          refine y_goto (pc' := 48) xD_18 rfl rfl ?_
          first
          | exact tail 0 (by rw [show wt cd p = false from decide_eq_false (by have := cl.mp h40; omega)]; rfl)
          | exact tail 1 (by rw [show wt cd p = true from decide_eq_true (Nat.le_of_not_lt (fun q => h40 (cl.mpr q)))]; rfl)
      · skip
        exact absurd (Int32.le_refl _) h9
    | succ m ih =>
      intro p hp q4
      have ib1 := s_isBranch (S := S) (d := d) (I := I) (J := J) (R := R) hR hA p (by omega) (x := nI p) rfl
      rw [ebr p (by omega)] at ib1
      have step := ih (p + 1) (by omega) q4
      refine y_loc (pc' := 5) xD_18 rfl rfl rfl rfl ?_
      refine y_loc (pc' := 6) xD_18 rfl rfl rfl rfl ?_
      refine m_getI (pc' := 9) xD_18 rfl rfl rfl (by first | rfl | assumption) (hn) rfl ?_
      refine y_icge (pt := 29) (pf := 12) xD_18 rfl rfl rfl (fun h9 => ?_) (fun h9 => ?_)
      · skip
        exact absurd h9 (nI_ge (a := p) (b := n) (by omega) (by omega))
      · skip
        refine y_loc (pc' := 13) xD_18 rfl rfl rfl rfl ?_
        refine y_loc (pc' := 14) xD_18 rfl rfl rfl rfl ?_
        refine y_callV xD_18 rfl rfl rfl rfl (by first | rfl | assumption) rfl rfl rfl rfl (ib1) (fun v h' hq => ?_)
        obtain ⟨rfl, rfl⟩ := hq
        refine y_ifeq (pt := 23) (pf := 20) xD_18 rfl rfl rfl (fun h17 => ?_) (fun h17 => ?_)
        · skip
          refine y_inc (pc' := 26) (nI (p + 1)) xD_18 rfl rfl rfl (nI_1 (p)) rfl rfl ?_
          refine y_goto (pc' := 4) xD_18 rfl rfl ?_
          first
          | (rw [bc_n (by rw [zB_f.mp h17]; decide)] at step
             exact step)
          | (rw [bc_y (by rw [zB_f, Bool.not_eq_false] at h17; exact h17)] at step
             exact step)
        · skip
          refine y_inc (pc' := 23) (nI (bc cd p + 1)) xD_18 rfl rfl rfl (nI_1 _) rfl rfl ?_
          refine y_inc (pc' := 26) (nI (p + 1)) xD_18 rfl rfl rfl (nI_1 (p)) rfl rfl ?_
          refine y_goto (pc' := 4) xD_18 rfl rfl ?_
          first
          | (rw [bc_n (by rw [zB_f.mp h17]; decide)] at step
             exact step)
          | (rw [bc_y (by rw [zB_f, Bool.not_eq_false] at h17; exact h17)] at step
             exact step)
  refine y_ci (pc' := 1) (0) xD_18 rfl rfl rfl rfl ?_
  refine y_loc (pc' := 2) xD_18 rfl rfl rfl rfl ?_
  refine y_ci (pc' := 3) (0) xD_18 rfl rfl rfl rfl ?_
  refine y_loc (pc' := 4) xD_18 rfl rfl rfl rfl ?_
  exact count n 0 (by omega) _
end NB

