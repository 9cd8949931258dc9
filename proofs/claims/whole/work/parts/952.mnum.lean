/-! Branches numbered and related: the model. -/
theorem kMod3 : kq 266 = (102, 2) ∧ kq 267 = (100, 12) ∧ kq 268 = (100, 12) ∧ kq 269 = (100, 12) ∧ kq 270 = (102, 12) := by decide
theorem xu_c {α : Type} {f : Nat → Nat → α} {x y i j : Nat} {a b : α} (h : x ≠ y) : xu (xu f x i a) y j b = xu (xu f y j b) x i a := by
  funext u v
  unfold xu
  by_cases h1 : u = y ∧ v = j
  · rw [if_pos h1, if_neg (by omega), if_pos h1]
  · rw [if_neg h1]
    by_cases h2 : u = x ∧ v = i
    · rw [if_pos h2, if_pos h2]
    · rw [if_neg h2, if_neg h2, if_neg h1]
theorem xu_in {α : Type} {f : Nat → Nat → α} {a i : Nat} {g : Nat → α} {v : α} : xu (xrow f a g) a i v = xrow f a (fun j => if j = i then v else g j) := by rw [xu_row, xrow_row, xrow_at]
section MB
variable {S : XS} {d m n f nb : Nat} {I : Nat → Nat → Int32} {J : Nat → Nat → Int64} {R : Nat → Nat → Option Nat}
/-- number(m) -/
theorem s_mnumber (hR : RF R) (hm : m < 2) (hn : I 265 m = nI n) (hn2 : n ≤ 10) (hf : f ≤ 6) (h10 : I 261 10 = nI f) {cd : Nat → Nat → Int32} (ecd : cd = cdM I m) :
    XP S (d + 2) 110 0 (xent [.ref 261, .int (nI m)] 4) [] (hh I J R) (fun v h' => v = none ∧ ∃ r7 r8, h' = hh (xu (xrow (xrow (xu I 266 m (zB (wt cd n))) 267 r7) 268 r8) 261 10 (nI (if wt cd n = true then f + bc cd n else f))) J R ∧ (wt cd n = true → ∀ p, p < n → br cd p = true → r7 (f + bc cd p) = nI m ∧ r8 (f + bc cd p) = nI p) ∧ (∀ k, k < f ∨ f + bc cd n ≤ k → r7 k = I 267 k ∧ r8 k = I 268 k) ∧ (¬ wt cd n = true → ∀ k, r7 k = I 267 k ∧ r8 k = I 268 k)) := by
  have bl := bc_le (cd := cd) n
  have ebr : ∀ p, decide (cdM I m p 0 = 5 ∨ cdM I m p 0 = 6) = br cd p := fun p => by rw [ecd]; rfl
  have number : ∀ (k p : Nat), p + k = n → ∀ (r7 r8 : Nat → Int32) (q2 : Int32), (∀ q, q < p → br cd q = true → r7 (f + bc cd q) = nI m ∧ r8 (f + bc cd q) = nI q) → (∀ k, k < f ∨ f + bc cd n ≤ k → r7 k = I 267 k ∧ r8 k = I 268 k) → wt cd n = true → XP S (d + 2) 110 65 [some (.ref 261), some (.int (nI m)), some (.int q2), some (.int (nI p))] [] (hh (xu (xrow (xrow (xu I 266 m (zB (wt cd n))) 267 r7) 268 r8) 261 10 (nI (f + bc cd p))) J R) (fun v h' => v = none ∧ ∃ r7 r8, h' = hh (xu (xrow (xrow (xu I 266 m (zB (wt cd n))) 267 r7) 268 r8) 261 10 (nI (if wt cd n = true then f + bc cd n else f))) J R ∧ (wt cd n = true → ∀ p, p < n → br cd p = true → r7 (f + bc cd p) = nI m ∧ r8 (f + bc cd p) = nI p) ∧ (∀ k, k < f ∨ f + bc cd n ≤ k → r7 k = I 267 k ∧ r8 k = I 268 k) ∧ (¬ wt cd n = true → ∀ k, r7 k = I 267 k ∧ r8 k = I 268 k)) := by
    intro k
    induction k with
    | zero =>
      intro p hp r7 r8 q2 h1 h2 hw
      have hp : p = n := by omega
      subst hp
      obtain ⟨I1, eI1⟩ : ∃ I1, I1 = xu (xrow (xrow (xu I 266 m (zB (wt cd p))) 267 r7) 268 r8) 261 10 (nI (f + bc cd p)) := ⟨_, rfl⟩
      have e5 : I1 265 m = nI p := by rw [eI1, xu_ne (by decide), xrow_ne (by decide), xrow_ne (by decide), xu_ne (by decide)]; exact hn
      rw [← eI1]
      refine y_loc (pc' := 66) xD_110 rfl rfl rfl rfl ?_
      refine y_loc (pc' := 67) xD_110 rfl rfl rfl rfl ?_
      first | refine m_getR (pc' := 70) xD_110 rfl rfl rfl rfl (hR.1 _ _ _ rfl) rfl ?_ | refine m_getR (pc' := 70) xD_110 rfl rfl (by first | rfl | assumption) rfl (by assumption) rfl ?_
      refine y_loc (pc' := 71) xD_110 rfl rfl rfl rfl ?_
      refine m_iald (pc' := 72) (m) xD_110 rfl (by first | rfl | assumption) (by first | assumption | omega) (by first | decide | assumption) (by first | decide | omega) (by first | rfl | assumption) rfl ?_
      rw [e5]
      refine y_icge (pt := 129) (pf := 75) xD_110 rfl rfl rfl (fun h72 => ?_) (fun h72 => ?_)
      · skip
        refine y_retV xD_110 rfl rfl ?_
        exact ⟨rfl, r7, r8, by rw [eI1, if_pos hw], fun _ => h1, h2, fun t => absurd hw t⟩
      · skip
        exact absurd (Int32.le_refl _) h72
    | succ k ih =>
      intro p hp r7 r8 q2 h1 h2 hw
      have w6 := wt_6 hw
      obtain ⟨I1, eI1⟩ : ∃ I1, I1 = xu (xrow (xrow (xu I 266 m (zB (wt cd n))) 267 r7) 268 r8) 261 10 (nI (f + bc cd p)) := ⟨_, rfl⟩
      have e5 : I1 265 m = nI n := by rw [eI1, xu_ne (by decide), xrow_ne (by decide), xrow_ne (by decide), xu_ne (by decide)]; exact hn
      have e6 : I1 266 m = 1 := by rw [eI1, xu_ne (by decide), xrow_ne (by decide), xrow_ne (by decide), xu_ii, hw]; rfl
      have e10 : I1 261 10 = nI (f + bc cd p) := by rw [eI1, xu_ii]
      have ec : cdM I1 m = cdM I m := cdM_eq (by rw [eI1, xu_ne (by decide), xrow_ne (by decide), xrow_ne (by decide), xu_ne (by decide)])
      have ba := s_branchAt (S := S) (d := d) (I := I1) (J := J) (R := R) hR hm p (by omega) (xm := nI m) (xp := nI p) rfl rfl
      rw [ec, ebr p] at ba
      rw [← eI1]
      have next : ¬ br cd p = true → XP S (d + 2) 110 123 [some (.ref 261), some (.int (nI m)), some (.int q2), some (.int (nI p))] [] (hh I1 J R) (fun v h' => v = none ∧ ∃ r7 r8, h' = hh (xu (xrow (xrow (xu I 266 m (zB (wt cd n))) 267 r7) 268 r8) 261 10 (nI (if wt cd n = true then f + bc cd n else f))) J R ∧ (wt cd n = true → ∀ p, p < n → br cd p = true → r7 (f + bc cd p) = nI m ∧ r8 (f + bc cd p) = nI p) ∧ (∀ k, k < f ∨ f + bc cd n ≤ k → r7 k = I 267 k ∧ r8 k = I 268 k) ∧ (¬ wt cd n = true → ∀ k, r7 k = I 267 k ∧ r8 k = I 268 k)) := by
        intro hb
        refine y_inc (pc' := 126) (nI (p + 1)) xD_110 rfl rfl rfl (nI_1 (p)) rfl rfl ?_
        refine y_goto (pc' := 65) xD_110 rfl rfl ?_
        have := ih (p + 1) (by omega) r7 r8 q2 (fun q hq hq2 => h1 q (by rcases Nat.lt_or_ge q p with t | t; exact t; exact absurd (by rw [show p = q by omega]; exact hq2) hb) hq2) h2 hw
        rw [bc_n hb, ← eI1] at this
        exact this
      refine y_loc (pc' := 66) xD_110 rfl rfl rfl rfl ?_
      refine y_loc (pc' := 67) xD_110 rfl rfl rfl rfl ?_
      first | refine m_getR (pc' := 70) xD_110 rfl rfl rfl rfl (hR.1 _ _ _ rfl) rfl ?_ | refine m_getR (pc' := 70) xD_110 rfl rfl (by first | rfl | assumption) rfl (by assumption) rfl ?_
      refine y_loc (pc' := 71) xD_110 rfl rfl rfl rfl ?_
      refine m_iald (pc' := 72) (m) xD_110 rfl (by first | rfl | assumption) (by first | assumption | omega) (by first | decide | assumption) (by first | decide | omega) (by first | rfl | assumption) rfl ?_
      rw [e5]
      refine y_icge (pt := 129) (pf := 75) xD_110 rfl rfl rfl (fun h72 => ?_) (fun h72 => ?_)
      · skip
        first
        | exact absurd h72 (nI_ge (a := p) (b := n) (by omega) (by omega))
        | exact absurd h81 (by decide)
      · skip
        refine y_loc (pc' := 76) xD_110 rfl rfl rfl rfl ?_
        first | refine m_getR (pc' := 79) xD_110 rfl rfl rfl rfl (hR.1 _ _ _ rfl) rfl ?_ | refine m_getR (pc' := 79) xD_110 rfl rfl (by first | rfl | assumption) rfl (by assumption) rfl ?_
        refine y_loc (pc' := 80) xD_110 rfl rfl rfl rfl ?_
        refine m_zald (pc' := 81) (m) xD_110 rfl (by first | rfl | assumption) (by first | assumption | omega) (by first | decide | assumption) (by first | rfl | assumption) rfl ?_
        rw [e6]
        refine y_ifeq (pt := 129) (pf := 84) xD_110 rfl rfl rfl (fun h81 => ?_) (fun h81 => ?_)
        · skip
          first
          | exact absurd h72 (nI_ge (a := p) (b := n) (by omega) (by omega))
          | exact absurd h81 (by decide)
        · skip
          refine y_loc (pc' := 85) xD_110 rfl rfl rfl rfl ?_
          refine y_loc (pc' := 86) xD_110 rfl rfl rfl rfl ?_
          refine y_loc (pc' := 87) xD_110 rfl rfl rfl rfl ?_
          refine y_callV xD_110 rfl rfl rfl rfl (by first | rfl | assumption) rfl rfl rfl rfl (ba) (fun v h' hq => ?_)
          obtain ⟨rfl, rfl⟩ := hq
          refine y_ifeq (pt := 123) (pf := 93) xD_110 rfl rfl rfl (fun h90 => ?_) (fun h90 => ?_)
          · skip
            exact next (by rw [zB_f.mp h90]; decide)
          · skip
            skip
            have hb : br cd p = true := by rw [zB_f, Bool.not_eq_false] at h90; exact h90
            have hlt := bc_lt (n := n) (by omega) hb
            have e10b : xu (xu I1 267 (f + bc cd p) (nI m)) 268 (f + bc cd p) (nI p) 261 10 = nI (f + bc cd p) := by rw [xu_ne (by decide), xu_ne (by decide)]; exact e10
            have e10a : xu I1 267 (f + bc cd p) (nI m) 261 10 = nI (f + bc cd p) := by rw [xu_ne (by decide)]; exact e10
            refine y_loc (pc' := 94) xD_110 rfl rfl rfl rfl ?_
            first | refine m_getR (pc' := 97) xD_110 rfl rfl rfl rfl (hR.1 _ _ _ rfl) rfl ?_ | refine m_getR (pc' := 97) xD_110 rfl rfl (by first | rfl | assumption) rfl (by assumption) rfl ?_
            refine y_loc (pc' := 98) xD_110 rfl rfl rfl rfl ?_
            refine m_getI (pc' := 101) xD_110 rfl rfl rfl (by first | rfl | assumption) (e10) rfl ?_
            refine y_loc (pc' := 102) xD_110 rfl rfl rfl rfl ?_
            refine m_iast (pc' := 103) ((f + bc cd p)) xD_110 rfl (by first | rfl | assumption) (by first | assumption | omega) (by first | decide | assumption) (by first | rfl | assumption) rfl ?_
            refine y_loc (pc' := 104) xD_110 rfl rfl rfl rfl ?_
            first | refine m_getR (pc' := 107) xD_110 rfl rfl rfl rfl (hR.1 _ _ _ rfl) rfl ?_ | refine m_getR (pc' := 107) xD_110 rfl rfl (by first | rfl | assumption) rfl (by assumption) rfl ?_
            refine y_loc (pc' := 108) xD_110 rfl rfl rfl rfl ?_
            refine m_getI (pc' := 111) xD_110 rfl rfl rfl (by first | rfl | assumption) (e10a) rfl ?_
            refine y_loc (pc' := 112) xD_110 rfl rfl rfl rfl ?_
            refine m_iast (pc' := 113) ((f + bc cd p)) xD_110 rfl (by first | rfl | assumption) (by first | assumption | omega) (by first | decide | assumption) (by first | rfl | assumption) rfl ?_
            refine y_loc (pc' := 114) xD_110 rfl rfl rfl rfl ?_
            refine y_op (pc' := 115) xD_110 rfl rfl rfl rfl ?_
            refine m_getI (pc' := 118) xD_110 rfl rfl rfl (by first | rfl | assumption) (e10b) rfl ?_
            refine y_ci (pc' := 119) (1) xD_110 rfl rfl rfl rfl ?_
            refine y_iadd (pc' := 120) xD_110 rfl (nI_1 (f + bc cd p)) rfl ?_
            refine m_putI (pc' := 123) xD_110 rfl rfl (by first | rfl | assumption) rfl rfl rfl ?_
            refine y_inc (pc' := 126) (nI (p + 1)) xD_110 rfl rfl rfl (nI_1 (p)) rfl rfl ?_
            refine y_goto (pc' := 65) xD_110 rfl rfl ?_
            have := ih (p + 1) (by omega) (fun j => if j = f + bc cd p then nI m else r7 j) (fun j => if j = f + bc cd p then nI p else r8 j) q2 (fun q hq hq2 => ?_) (fun j hj => ?_) hw
            · rw [bc_y hb, show f + (bc cd p + 1) = f + bc cd p + 1 from rfl] at this
              have em : xu (xu (xu I1 267 (f + bc cd p) (nI m)) 268 (f + bc cd p) (nI p)) 261 10 (nI (f + bc cd p + 1)) = xu (xrow (xrow (xu I 266 m (zB (wt cd n))) 267 (fun j => if j = f + bc cd p then nI m else r7 j)) 268 (fun j => if j = f + bc cd p then nI p else r8 j)) 261 10 (nI (f + bc cd p + 1)) := by
                rw [eI1, xu_c (show (261 : Nat) ≠ 267 by decide), xu_c (show (261 : Nat) ≠ 268 by decide), xu_xu, xu_row_c (show (267 : Nat) ≠ 268 by decide), xu_in, xu_in]
              rw [← em] at this
              exact this
            · by_cases e : q = p
              · rw [e, if_pos rfl, if_pos rfl]; exact ⟨rfl, rfl⟩
              · have ne : ¬ f + bc cd q = f + bc cd p := fun t => e (bc_inj hq2 hb (by omega))
                rw [if_neg ne, if_neg ne]; exact h1 q (by omega) hq2
            · rw [if_neg (by omega), if_neg (by omega)]; exact h2 j hj
  have count : ∀ (k p : Nat), p + k = n → XP S (d + 2) 110 4 [some (.ref 261), some (.int (nI m)), some (.int (nI (bc cd p))), some (.int (nI p))] [] (hh I J R) (fun v h' => v = none ∧ ∃ r7 r8, h' = hh (xu (xrow (xrow (xu I 266 m (zB (wt cd n))) 267 r7) 268 r8) 261 10 (nI (if wt cd n = true then f + bc cd n else f))) J R ∧ (wt cd n = true → ∀ p, p < n → br cd p = true → r7 (f + bc cd p) = nI m ∧ r8 (f + bc cd p) = nI p) ∧ (∀ k, k < f ∨ f + bc cd n ≤ k → r7 k = I 267 k ∧ r8 k = I 268 k) ∧ (¬ wt cd n = true → ∀ k, r7 k = I 267 k ∧ r8 k = I 268 k)) := by
    intro k
    induction k with
    | zero =>
      intro p hp
      have hp : p = n := by omega
      subst hp
      have ml : (2 : Int32) * nI (bc cd p) = nI (2 * bc cd p) := pk_mul 2 _
      have al : nI p + nI (2 * bc cd p) = nI (p + 2 * bc cd p) := nI_add _ _
      have cl : 20 < nI (p + 2 * bc cd p) ↔ 20 < p + 2 * bc cd p := nI_ltI (a := 20) (by decide) (by omega)
      have same : ∀ z : Int32, xu (xrow (xrow (xu I 266 m z) 267 (I 267)) 268 (I 268)) 261 10 (nI f) = xu I 266 m z := fun z => by
        rw [show xrow (xu I 266 m z) 267 (I 267) = xu I 266 m z from by rw [← xu_ne (f := I) (a := 266) (i := m) (v := z) (show 267 ≠ 266 by decide), xrow_id], show xrow (xu I 266 m z) 268 (I 268) = xu I 266 m z from by rw [← xu_ne (f := I) (a := 266) (i := m) (v := z) (show 268 ≠ 266 by decide), xrow_id], xu_same (by rw [xu_ne (by decide)]; exact h10)]
      have tail : ∀ z : Int32, z = zB (wt cd p) → XP S (d + 2) 110 62 [some (.ref 261), some (.int (nI m)), some (.int (nI (bc cd p))), some (.int (nI p))] [.int z, .int (nI m), .ref 266] (hh I J R) (fun v h' => v = none ∧ ∃ r7 r8, h' = hh (xu (xrow (xrow (xu I 266 m (zB (wt cd p))) 267 r7) 268 r8) 261 10 (nI (if wt cd p = true then f + bc cd p else f))) J R ∧ (wt cd p = true → ∀ q, q < p → br cd q = true → r7 (f + bc cd q) = nI m ∧ r8 (f + bc cd q) = nI q) ∧ (∀ k, k < f ∨ f + bc cd p ≤ k → r7 k = I 267 k ∧ r8 k = I 268 k) ∧ (¬ wt cd p = true → ∀ k, r7 k = I 267 k ∧ r8 k = I 268 k)) := by
        intro z hz
        subst hz
        cases hw : wt cd p with
        | true =>
          have := number p 0 (by omega) (I 267) (I 268) (nI (bc cd p)) (fun q hq => absurd hq (by omega)) (fun k _ => ⟨rfl, rfl⟩) hw
          rw [show f + bc cd 0 = f from rfl, same, hw] at this
          refine m_zast (pc' := 63) (m) (Or.inr rfl) xD_110 rfl (by first | rfl | assumption) (by first | assumption | omega) (by first | decide | assumption) (by first | rfl | assumption) rfl ?_
          refine y_ci (pc' := 64) (0) xD_110 rfl rfl rfl rfl ?_
          refine y_loc (pc' := 65) xD_110 rfl rfl rfl rfl ?_
          exact this
        | false =>
          refine m_zast (pc' := 63) (m) (Or.inl rfl) xD_110 rfl (by first | rfl | assumption) (by first | assumption | omega) (by first | decide | assumption) (by first | rfl | assumption) rfl ?_
          have e5 : xu I 266 m (zB false) 265 m = nI p := by rw [xu_ne (by decide)]; exact hn
          have e6 : xu I 266 m (zB false) 266 m = 0 := by rw [xu_ii]; rfl
          refine y_ci (pc' := 64) (0) xD_110 rfl rfl rfl rfl ?_
          refine y_loc (pc' := 65) xD_110 rfl rfl rfl rfl ?_
          refine y_loc (pc' := 66) xD_110 rfl rfl rfl rfl ?_
          refine y_loc (pc' := 67) xD_110 rfl rfl rfl rfl ?_
          first | refine m_getR (pc' := 70) xD_110 rfl rfl rfl rfl (hR.1 _ _ _ rfl) rfl ?_ | refine m_getR (pc' := 70) xD_110 rfl rfl (by first | rfl | assumption) rfl (by assumption) rfl ?_
          refine y_loc (pc' := 71) xD_110 rfl rfl rfl rfl ?_
          refine m_iald (pc' := 72) (m) xD_110 rfl (by first | rfl | assumption) (by first | assumption | omega) (by first | decide | assumption) (by first | decide | omega) (by first | rfl | assumption) rfl ?_
          rw [e5]
          refine y_icge (pt := 129) (pf := 75) xD_110 rfl rfl rfl (fun h72 => ?_) (fun h72 => ?_)
          · skip
            refine y_retV xD_110 rfl rfl ?_
            exact ⟨rfl, I 267, I 268, by rw [if_neg (by decide), same], fun t => absurd t (by decide), fun k _ => ⟨rfl, rfl⟩, fun _ k => ⟨rfl, rfl⟩⟩
          · skip
            refine y_loc (pc' := 76) xD_110 rfl rfl rfl rfl ?_
            first | refine m_getR (pc' := 79) xD_110 rfl rfl rfl rfl (hR.1 _ _ _ rfl) rfl ?_ | refine m_getR (pc' := 79) xD_110 rfl rfl (by first | rfl | assumption) rfl (by assumption) rfl ?_
            refine y_loc (pc' := 80) xD_110 rfl rfl rfl rfl ?_
            refine m_zald (pc' := 81) (m) xD_110 rfl (by first | rfl | assumption) (by first | assumption | omega) (by first | decide | assumption) (by first | rfl | assumption) rfl ?_
            rw [e6]
            refine y_ifeq (pt := 129) (pf := 84) xD_110 rfl rfl rfl (fun h81 => ?_) (fun h81 => ?_)
            · skip
              refine y_retV xD_110 rfl rfl ?_
              exact ⟨rfl, I 267, I 268, by rw [if_neg (by decide), same], fun t => absurd t (by decide), fun k _ => ⟨rfl, rfl⟩, fun _ k => ⟨rfl, rfl⟩⟩
            · skip
              exact absurd rfl h81
      refine y_loc (pc' := 5) xD_110 rfl rfl rfl rfl ?_
      refine y_loc (pc' := 6) xD_110 rfl rfl rfl rfl ?_
      first | refine m_getR (pc' := 9) xD_110 rfl rfl rfl rfl (hR.1 _ _ _ rfl) rfl ?_ | refine m_getR (pc' := 9) xD_110 rfl rfl (by first | rfl | assumption) rfl (by assumption) rfl ?_
      refine y_loc (pc' := 10) xD_110 rfl rfl rfl rfl ?_
      refine m_iald (pc' := 11) (m) xD_110 rfl (by first | rfl | assumption) (by first | assumption | omega) (by first | decide | assumption) (by first | decide | omega) (by first | rfl | assumption) rfl ?_
      rw [hn]
      refine y_icge (pt := 37) (pf := 14) xD_110 rfl rfl rfl (fun h11 => ?_) (fun h11 => ?_)
      · skip
        refine y_loc (pc' := 38) xD_110 rfl rfl rfl rfl ?_
        first | refine m_getR (pc' := 41) xD_110 rfl rfl rfl rfl (hR.1 _ _ _ rfl) rfl ?_ | refine m_getR (pc' := 41) xD_110 rfl rfl (by first | rfl | assumption) rfl (by assumption) rfl ?_
        refine y_loc (pc' := 42) xD_110 rfl rfl rfl rfl ?_
        refine y_loc (pc' := 43) xD_110 rfl rfl rfl rfl ?_
        first | refine m_getR (pc' := 46) xD_110 rfl rfl rfl rfl (hR.1 _ _ _ rfl) rfl ?_ | refine m_getR (pc' := 46) xD_110 rfl rfl (by first | rfl | assumption) rfl (by assumption) rfl ?_
        refine y_loc (pc' := 47) xD_110 rfl rfl rfl rfl ?_
        refine m_iald (pc' := 48) (m) xD_110 rfl (by first | rfl | assumption) (by first | assumption | omega) (by first | decide | assumption) (by first | decide | omega) (by first | rfl | assumption) rfl ?_
        rw [hn]
        refine y_ci (pc' := 49) (2) xD_110 rfl rfl rfl rfl ?_
        refine y_loc (pc' := 50) xD_110 rfl rfl rfl rfl ?_
        refine y_imul (pc' := 51) xD_110 rfl (ml) rfl ?_
        refine y_iadd (pc' := 52) xD_110 rfl (al) rfl ?_
        refine y_ci (pc' := 54) (20) xD_110 rfl rfl rfl rfl ?_
        refine y_icgt (pt := 61) (pf := 57) xD_110 rfl rfl rfl (fun h54 => ?_) (fun h54 => ?_)
        · skip
          refine y_ci (pc' := 62) (0) xD_110 rfl rfl rfl rfl ?_
          first
          | exact tail 0 (by rw [show wt cd p = false from decide_eq_false (by have := cl.mp h54; omega)]; rfl)
          | exact tail 1 (by rw [show wt cd p = true from decide_eq_true (Nat.le_of_not_lt (fun q => h54 (cl.mpr q)))]; rfl)
        · skip
          refine y_ci (pc' := 58) (1) xD_110 rfl rfl rfl rfl ?_
          refine y_goto (pc' := 62) xD_110 rfl rfl ?_
          first
          | exact tail 0 (by rw [show wt cd p = false from decide_eq_false (by have := cl.mp h54; omega)]; rfl)
          | exact tail 1 (by rw [show wt cd p = true from decide_eq_true (Nat.le_of_not_lt (fun q => h54 (cl.mpr q)))]; rfl)
      · skip
        exact absurd (Int32.le_refl _) h11
    | succ k ih =>
      intro p hp
      have ba := s_branchAt (S := S) (d := d) (I := I) (J := J) (R := R) hR hm p (by omega) (xm := nI m) (xp := nI p) rfl rfl
      rw [ebr p] at ba
      have step := ih (p + 1) (by omega)
      refine y_loc (pc' := 5) xD_110 rfl rfl rfl rfl ?_
      refine y_loc (pc' := 6) xD_110 rfl rfl rfl rfl ?_
      first | refine m_getR (pc' := 9) xD_110 rfl rfl rfl rfl (hR.1 _ _ _ rfl) rfl ?_ | refine m_getR (pc' := 9) xD_110 rfl rfl (by first | rfl | assumption) rfl (by assumption) rfl ?_
      refine y_loc (pc' := 10) xD_110 rfl rfl rfl rfl ?_
      refine m_iald (pc' := 11) (m) xD_110 rfl (by first | rfl | assumption) (by first | assumption | omega) (by first | decide | assumption) (by first | decide | omega) (by first | rfl | assumption) rfl ?_
      rw [hn]
      refine y_icge (pt := 37) (pf := 14) xD_110 rfl rfl rfl (fun h11 => ?_) (fun h11 => ?_)
      · skip
        exact absurd h11 (nI_ge (a := p) (b := n) (by omega) (by omega))
      · skip
        refine y_loc (pc' := 15) xD_110 rfl rfl rfl rfl ?_
        refine y_loc (pc' := 16) xD_110 rfl rfl rfl rfl ?_
        refine y_loc (pc' := 17) xD_110 rfl rfl rfl rfl ?_
        refine y_callV xD_110 rfl rfl rfl rfl (by first | rfl | assumption) rfl rfl rfl rfl (ba) (fun v h' hq => ?_)
        obtain ⟨rfl, rfl⟩ := hq
        refine y_ifeq (pt := 29) (pf := 23) xD_110 rfl rfl rfl (fun h20 => ?_) (fun h20 => ?_)
        · skip
          refine y_loc (pc' := 30) xD_110 rfl rfl rfl rfl ?_
          refine y_loc (pc' := 31) xD_110 rfl rfl rfl rfl ?_
          refine y_inc (pc' := 34) (nI (p + 1)) xD_110 rfl rfl rfl (nI_1 (p)) rfl rfl ?_
          refine y_goto (pc' := 4) xD_110 rfl rfl ?_
          first
          | (rw [bc_n (by rw [zB_f.mp h20]; decide)] at step
             exact step)
          | (rw [bc_y (by rw [zB_f, Bool.not_eq_false] at h20; exact h20)] at step
             exact step)
        · skip
          refine y_loc (pc' := 24) xD_110 rfl rfl rfl rfl ?_
          refine y_ci (pc' := 25) (1) xD_110 rfl rfl rfl rfl ?_
          refine y_iadd (pc' := 26) xD_110 rfl (nI_1 _) rfl ?_
          refine y_goto (pc' := 30) xD_110 rfl rfl ?_
          refine y_loc (pc' := 31) xD_110 rfl rfl rfl rfl ?_
          refine y_inc (pc' := 34) (nI (p + 1)) xD_110 rfl rfl rfl (nI_1 (p)) rfl rfl ?_
          refine y_goto (pc' := 4) xD_110 rfl rfl ?_
          first
          | (rw [bc_n (by rw [zB_f.mp h20]; decide)] at step
             exact step)
          | (rw [bc_y (by rw [zB_f, Bool.not_eq_false] at h20; exact h20)] at step
             exact step)
  refine y_ci (pc' := 1) (0) xD_110 rfl rfl rfl rfl ?_
  refine y_loc (pc' := 2) xD_110 rfl rfl rfl rfl ?_
  refine y_ci (pc' := 3) (0) xD_110 rfl rfl rfl rfl ?_
  refine y_loc (pc' := 4) xD_110 rfl rfl rfl rfl ?_
  exact count n 0 (by omega)
end MB

