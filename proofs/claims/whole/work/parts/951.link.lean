/-! Branches linked: the class. -/
theorem ib_bsh {T : Int32} {l s h : Nat} (hl : l < 24) (hs : s < 32) (hh : h < 32) : ib (bitI T (nI l) <<< (nI s &&& 31)) h = true ↔ ib T l = true ∧ h = s := by
  cases q : ib T l with
  | true =>
    rw [(bit1 hl T).mpr q, ib_shl hs h hh, decide_eq_true_eq]
    exact ⟨fun t => ⟨rfl, t⟩, fun t => t.2⟩
  | false =>
    rw [(bit0 hl T).mpr q, Int32.zero_shiftLeft, ib_0]
    exact ⟨fun t => absurd t (by decide), fun t => absurd t.1 (by decide)⟩
section LB
variable {S : XS} {d A n f p : Nat} {I : Nat → Nat → Int32} {J : Nat → Nat → Int64} {R : Nat → Nat → Option Nat}
/-- Program.goalsNeededAt -/
theorem s_goalsNeededAt (hR : RF R) (hA : A = 4 ∨ A = 10) (hn : I A 5 = nI n) (hn2 : n ≤ 10) (hV : VC (cdC I A) n) {cd : Nat → Nat → Int32} (ecd : cd = cdC I A) (hbo : ∀ q, q < n → br cd q = true → I (A + 5) q = nI (f + bc cd q)) (hf : f + bc cd n ≤ 12) (hp : p < n) {T : Int32} (hT : ∀ x, x < 32 → (ib T x = true ↔ x ≤ n ∧ ms cd n p x)) :
    XP S (d + 2) 25 0 (xent [.int (nI p), .int T, .ref A] 6) [] (hh I J R) (fun v h' => (∃ G : Int32, v = some (.int G) ∧ ND cd n f p G) ∧ h' = hh I J R) := by
  obtain ⟨k0, -, -, -, -, k5⟩ := kMeth hA
  have r5 := (rMeth hR hA).2.2.2.2
  have ebr : ∀ p, p < 10 → decide (I (A + 1) p = 5 ∨ I (A + 1) p = 6) = br cd p := fun p hp => by rw [ecd]; rfl
  have loop : ∀ (m k : Nat), k + m = n → ∀ (G : Int32) (q5 : Option Value), (∀ h, h < 32 → (ib G h = true ↔ ∃ q, q < k ∧ br cd q = true ∧ (q = p ∨ ¬ ms cd n p q) ∧ ((h = 2 * (f + bc cd q) ∧ ms cd n p (q_lead cd n q false)) ∨ (h = 2 * (f + bc cd q) + 1 ∧ ms cd n p (q_lead cd n q true))))) → XP S (d + 2) 25 5 [some (.int (nI p)), some (.int T), some (.ref A), some (.int G), some (.int (nI k)), q5] [] (hh I J R) (fun v h' => (∃ G : Int32, v = some (.int G) ∧ ND cd n f p G) ∧ h' = hh I J R) := by
    intro m
    induction m with
    | zero =>
      intro k hk G q5 hG
      have hk : k = n := by omega
      subst hk
      refine y_loc (pc' := 7) xD_25 rfl rfl rfl rfl ?_
      refine y_loc (pc' := 8) xD_25 rfl rfl rfl rfl ?_
      refine m_getI (pc' := 11) xD_25 rfl rfl rfl (by first | rfl | assumption) (hn) rfl ?_
      refine y_icge (pt := 91) (pf := 14) xD_25 rfl rfl rfl (fun h11 => ?_) (fun h11 => ?_)
      · skip
        refine y_loc (pc' := 92) xD_25 rfl rfl rfl rfl ?_
        refine y_retI xD_25 rfl rfl ?_
        exact ⟨⟨G, rfl, hG⟩, rfl⟩
      · skip
        exact absurd (Int32.le_refl _) h11
    | succ m ih =>
      intro k hk G q5 hG
      have k10 : k < 10 := by omega
      have ib1 := s_isBranch (S := S) (d := d + 1) (I := I) (J := J) (R := R) hR hA k (by omega) (x := nI k) rfl
      rw [ebr k (by omega)] at ib1
      have vi := hV k (by omega)
      have p0 := s_placeAfter (S := S) (d := d) (I := I) (J := J) (R := R) hR hA hn hn2 k (by omega) vi (x := nI k) (o := 0) rfl
      have p1 := s_placeAfter (S := S) (d := d) (I := I) (J := J) (R := R) hR hA hn hn2 k (by omega) vi (x := nI k) (o := 1) rfl
      rw [show decide ((0 : Int32) = 1) = false from rfl, ← ecd] at p0
      rw [show decide ((1 : Int32) = 1) = true from rfl, ← ecd] at p1
      have l1 := q_lead_le (cd := cd) (n := n) (p := k) (o := false)
      have l2 := q_lead_le (cd := cd) (n := n) (p := k) (o := true)
      have b0 := bit0 (g := k) (by omega) T
      have ep : nI k = nI p ↔ k = p := nI_inj (by omega) (by omega)
      have next : ∀ (G' : Int32) (q5 : Option Value), (∀ h, h < 32 → (ib G' h = true ↔ ib G h = true ∨ (br cd k = true ∧ (k = p ∨ ¬ ms cd n p k) ∧ ((h = 2 * (f + bc cd k) ∧ ms cd n p (q_lead cd n k false)) ∨ (h = 2 * (f + bc cd k) + 1 ∧ ms cd n p (q_lead cd n k true)))))) → XP S (d + 2) 25 85 [some (.int (nI p)), some (.int T), some (.ref A), some (.int G'), some (.int (nI k)), q5] [] (hh I J R) (fun v h' => (∃ G : Int32, v = some (.int G) ∧ ND cd n f p G) ∧ h' = hh I J R) := by
        intro G' q5 hG'
        refine y_inc (pc' := 88) (nI (k + 1)) xD_25 rfl rfl rfl (nI_1 (k)) rfl rfl ?_
        refine y_goto (pc' := 5) xD_25 rfl rfl ?_
        refine ih (k + 1) (by omega) G' q5 (fun h hh => ?_)
        rw [hG' h hh, hG h hh]
        constructor
        · rintro (⟨q, a, b⟩ | q)
          · exact ⟨q, by omega, b⟩
          · exact ⟨k, by omega, q⟩
        · rintro ⟨q, a, b⟩
          by_cases e : q = k
          · subst e; exact Or.inr b
          · exact Or.inl ⟨q, by omega, b⟩
      have none : ¬ (br cd k = true ∧ (k = p ∨ ¬ ms cd n p k)) → ∀ q5 : Option Value, XP S (d + 2) 25 85 [some (.int (nI p)), some (.int T), some (.ref A), some (.int G), some (.int (nI k)), q5] [] (hh I J R) (fun v h' => (∃ G : Int32, v = some (.int G) ∧ ND cd n f p G) ∧ h' = hh I J R) := fun q q5 => next G q5 (fun h hh => ⟨Or.inl, fun t => t.elim id (fun t => absurd ⟨t.1, t.2.1⟩ q)⟩)
      have some1 : br cd k = true → (k = p ∨ ¬ ms cd n p k) → XP S (d + 2) 25 38 [some (.int (nI p)), some (.int T), some (.ref A), some (.int G), some (.int (nI k)), q5] [] (hh I J R) (fun v h' => (∃ G : Int32, v = some (.int G) ∧ ND cd n f p G) ∧ h' = hh I J R) := by
        intro hb hc
        have hlt := bc_lt (n := n) (by omega) hb
        have e5 := hbo k (by omega) hb
        have ml : (2 : Int32) * nI (f + bc cd k) = nI (2 * (f + bc cd k)) := pk_mul 2 _
        have m1 : nI (2 * (f + bc cd k)) + 1 = nI (2 * (f + bc cd k) + 1) := nI_1 _
        refine y_ci (pc' := 39) (2) xD_25 rfl rfl rfl rfl ?_
        refine y_loc (pc' := 40) xD_25 rfl rfl rfl rfl ?_
        first | refine m_getR (pc' := 43) xD_25 rfl rfl rfl rfl (hR.1 _ _ _ rfl) rfl ?_ | refine m_getR (pc' := 43) xD_25 rfl rfl (by first | rfl | assumption) rfl (by assumption) rfl ?_
        refine y_loc (pc' := 45) xD_25 rfl rfl rfl rfl ?_
        refine m_iald (pc' := 46) (k) xD_25 rfl (by first | rfl | assumption) (by first | assumption | omega) (by first | decide | assumption) (by first | decide | omega) (by first | rfl | assumption) rfl ?_
        rw [e5]
        refine y_imul (pc' := 47) xD_25 rfl (ml) rfl ?_
        refine y_loc (pc' := 49) xD_25 rfl rfl rfl rfl ?_
        refine y_loc (pc' := 50) xD_25 rfl rfl rfl rfl ?_
        refine y_loc (pc' := 51) xD_25 rfl rfl rfl rfl ?_
        refine y_loc (pc' := 52) xD_25 rfl rfl rfl rfl ?_
        refine y_loc (pc' := 54) xD_25 rfl rfl rfl rfl ?_
        refine y_ci (pc' := 55) (0) xD_25 rfl rfl rfl rfl ?_
        refine y_callV xD_25 rfl rfl rfl rfl (by first | rfl | assumption) rfl rfl rfl rfl (p0) (fun v h' hq => ?_)
        obtain ⟨rfl, rfl⟩ := hq
        refine y_op (pc' := 59) xD_25 rfl rfl rfl rfl ?_
        refine y_ci (pc' := 60) (1) xD_25 rfl rfl rfl rfl ?_
        refine y_op (pc' := 61) xD_25 rfl rfl rfl rfl ?_
        refine y_loc (pc' := 63) xD_25 rfl rfl rfl rfl ?_
        refine y_op (pc' := 64) xD_25 rfl rfl rfl rfl ?_
        refine y_op (pc' := 65) xD_25 rfl rfl rfl rfl ?_
        refine y_loc (pc' := 66) xD_25 rfl rfl rfl rfl ?_
        refine y_loc (pc' := 67) xD_25 rfl rfl rfl rfl ?_
        refine y_loc (pc' := 68) xD_25 rfl rfl rfl rfl ?_
        refine y_loc (pc' := 69) xD_25 rfl rfl rfl rfl ?_
        refine y_loc (pc' := 71) xD_25 rfl rfl rfl rfl ?_
        refine y_ci (pc' := 72) (1) xD_25 rfl rfl rfl rfl ?_
        refine y_callV xD_25 rfl rfl rfl rfl (by first | rfl | assumption) rfl rfl rfl rfl (p1) (fun v h' hq => ?_)
        obtain ⟨rfl, rfl⟩ := hq
        refine y_op (pc' := 76) xD_25 rfl rfl rfl rfl ?_
        refine y_ci (pc' := 77) (1) xD_25 rfl rfl rfl rfl ?_
        refine y_op (pc' := 78) xD_25 rfl rfl rfl rfl ?_
        refine y_loc (pc' := 80) xD_25 rfl rfl rfl rfl ?_
        refine y_ci (pc' := 81) (1) xD_25 rfl rfl rfl rfl ?_
        refine y_iadd (pc' := 82) xD_25 rfl (m1) rfl ?_
        refine y_op (pc' := 83) xD_25 rfl rfl rfl rfl ?_
        refine y_op (pc' := 84) xD_25 rfl rfl rfl rfl ?_
        refine y_loc (pc' := 85) xD_25 rfl rfl rfl rfl ?_
        skip
        refine next _ _ (fun h hh => ?_)
        show ib ((G ||| (bitI T (nI (q_lead cd n k false)) <<< (nI (2 * (f + bc cd k)) &&& 31))) ||| (bitI T (nI (q_lead cd n k true)) <<< (nI (2 * (f + bc cd k) + 1) &&& 31))) h = true ↔ _
        rw [ib_or, ib_or, Bool.or_eq_true, Bool.or_eq_true, ib_bsh (by omega) (by omega) hh, ib_bsh (by omega) (by omega) hh, hT _ (by omega), hT _ (by omega)]
        constructor
        · rintro ((q | q) | q)
          · exact Or.inl q
          · exact Or.inr ⟨hb, hc, Or.inl ⟨q.2, q.1.2⟩⟩
          · exact Or.inr ⟨hb, hc, Or.inr ⟨q.2, q.1.2⟩⟩
        · rintro (q | ⟨-, -, q | q⟩)
          · exact Or.inl (Or.inl q)
          · exact Or.inl (Or.inr ⟨⟨l1, q.2⟩, q.1⟩)
          · exact Or.inr ⟨⟨l2, q.2⟩, q.1⟩
      have tk : ib T k = true ↔ ms cd n p k := (hT k (by omega)).trans ⟨fun q => q.2, fun q => ⟨by omega, q⟩⟩
      have nb0 : ¬ bitI T (nI k) = 0 → ib T k = true := fun q => by rw [b0, Bool.not_eq_false] at q; exact q
      have hbr : ¬ zB (br cd k) = 0 → br cd k = true := fun q => by rw [zB_f, Bool.not_eq_false] at q; exact q
      refine y_loc (pc' := 7) xD_25 rfl rfl rfl rfl ?_
      refine y_loc (pc' := 8) xD_25 rfl rfl rfl rfl ?_
      refine m_getI (pc' := 11) xD_25 rfl rfl rfl (by first | rfl | assumption) (hn) rfl ?_
      refine y_icge (pt := 91) (pf := 14) xD_25 rfl rfl rfl (fun h11 => ?_) (fun h11 => ?_)
      · skip
        exact absurd h11 (nI_ge (a := k) (b := n) (by omega) (by omega))
      · skip
        refine y_loc (pc' := 15) xD_25 rfl rfl rfl rfl ?_
        refine y_loc (pc' := 17) xD_25 rfl rfl rfl rfl ?_
        refine y_callV xD_25 rfl rfl rfl rfl (by first | rfl | assumption) rfl rfl rfl rfl (ib1) (fun v h' hq => ?_)
        obtain ⟨rfl, rfl⟩ := hq
        refine y_ifeq (pt := 85) (pf := 23) xD_25 rfl rfl rfl (fun h20 => ?_) (fun h20 => ?_)
        · skip
          first
          | exact none (fun q => absurd q.1 (by rw [zB_f.mp h20]; decide)) _
          | exact none (fun q => q.2.elim (fun t => h26 (ep.mpr t)) (fun t => t (tk.mp (nb0 h35)))) _
        · skip
          refine y_loc (pc' := 25) xD_25 rfl rfl rfl rfl ?_
          refine y_loc (pc' := 26) xD_25 rfl rfl rfl rfl ?_
          refine y_iceq (pt := 38) (pf := 29) xD_25 rfl rfl rfl (fun h26 => ?_) (fun h26 => ?_)
          · skip
            first
            | exact some1 (hbr h20) (Or.inl (ep.mp h26))
            | exact some1 (hbr h20) (Or.inr (fun q => by rw [← tk, b0.mp h35] at q; exact absurd q (by decide)))
          · skip
            refine y_loc (pc' := 30) xD_25 rfl rfl rfl rfl ?_
            refine y_loc (pc' := 32) xD_25 rfl rfl rfl rfl ?_
            refine y_op (pc' := 33) xD_25 rfl rfl rfl rfl ?_
            refine y_ci (pc' := 34) (1) xD_25 rfl rfl rfl rfl ?_
            refine y_op (pc' := 35) xD_25 rfl rfl rfl rfl ?_
            refine y_ifne (pt := 85) (pf := 38) xD_25 rfl rfl rfl (fun h35 => ?_) (fun h35 => ?_)
            · skip
              first
              | exact none (fun q => absurd q.1 (by rw [zB_f.mp h20]; decide)) _
              | exact none (fun q => q.2.elim (fun t => h26 (ep.mpr t)) (fun t => t (tk.mp (nb0 h35)))) _
            · skip
              first
              | exact some1 (hbr h20) (Or.inl (ep.mp h26))
              | exact some1 (hbr h20) (Or.inr (fun q => by rw [← tk, b0.mp h35] at q; exact absurd q (by decide)))
  refine y_ci (pc' := 1) (0) xD_25 rfl rfl rfl rfl ?_
  refine y_loc (pc' := 2) xD_25 rfl rfl rfl rfl ?_
  refine y_ci (pc' := 3) (0) xD_25 rfl rfl rfl rfl ?_
  refine y_loc (pc' := 5) xD_25 rfl rfl rfl rfl ?_
  refine loop n 0 (by omega) 0 _ (fun h hh => ?_)
  rw [ib_0]
  exact ⟨fun q => absurd q (by decide), fun ⟨q, a, _⟩ => absurd a (by omega)⟩
/-- Program.linkBranches -/
theorem s_linkBranches (hR : RF R) (hA : A = 4 ∨ A = 10) (hn : I A 5 = nI n) (hn2 : n ≤ 10) (hV : VC (cdC I A) n) {cd : Nat → Nat → Int32} (ecd : cd = cdC I A) (hbo : ∀ q, q < n → br cd q = true → I (A + 5) q = nI (f + bc cd q)) (hf : f + bc cd n ≤ 12) :
    XP S (d + 4) 20 0 (xent [.ref 2, .ref A] 5) [] (hh I J R) (fun v h' => v = none ∧ ∃ r6 r7, h' = hh (xrow (xrow I 16 r6) 17 r7) J R ∧ (∀ p, p < n → br cd p = true → ND cd n f p (r6 (f + bc cd p)) ∧ (¬ r7 (f + bc cd p) = 0 ↔ (r6 (f + bc cd p) = 0 ∨ ms cd n p 0))) ∧ ∀ k, k < f ∨ f + bc cd n ≤ k → r6 k = I 16 k ∧ r7 k = I 17 k) := by
  obtain ⟨k0, -, -, -, -, k5⟩ := kMeth hA
  have r5 := (rMeth hR hA).2.2.2.2
  have ebr : ∀ p, p < 10 → decide (I (A + 1) p = 5 ∨ I (A + 1) p = 6) = br cd p := fun p hp => by rw [ecd]; rfl
  have loop : ∀ (m p : Nat), p + m = n → ∀ (r6 r7 : Nat → Int32) (q3 q4 : Option Value), (∀ q, q < p → br cd q = true → ND cd n f q (r6 (f + bc cd q)) ∧ (¬ r7 (f + bc cd q) = 0 ↔ (r6 (f + bc cd q) = 0 ∨ ms cd n q 0))) → (∀ k, k < f ∨ f + bc cd n ≤ k → r6 k = I 16 k ∧ r7 k = I 17 k) → XP S (d + 4) 20 2 [some (.ref 2), some (.ref A), some (.int (nI p)), q3, q4] [] (hh (xrow (xrow I 16 r6) 17 r7) J R) (fun v h' => v = none ∧ ∃ r6 r7, h' = hh (xrow (xrow I 16 r6) 17 r7) J R ∧ (∀ p, p < n → br cd p = true → ND cd n f p (r6 (f + bc cd p)) ∧ (¬ r7 (f + bc cd p) = 0 ↔ (r6 (f + bc cd p) = 0 ∨ ms cd n p 0))) ∧ ∀ k, k < f ∨ f + bc cd n ≤ k → r6 k = I 16 k ∧ r7 k = I 17 k) := by
    intro m
    induction m with
    | zero =>
      intro p hp r6 r7 q3 q4 h1 h2
      have hp : p = n := by omega
      subst hp
      have eA : xrow (xrow I 16 r6) 17 r7 A 5 = nI p := by rw [xrow_ne (by omega), xrow_ne (by omega)]; exact hn
      refine y_loc (pc' := 3) xD_20 rfl rfl rfl rfl ?_
      refine y_loc (pc' := 4) xD_20 rfl rfl rfl rfl ?_
      refine m_getI (pc' := 7) xD_20 rfl rfl rfl (by first | rfl | assumption) (eA) rfl ?_
      refine y_icge (pt := 78) (pf := 10) xD_20 rfl rfl rfl (fun h7 => ?_) (fun h7 => ?_)
      · skip
        refine y_retV xD_20 rfl rfl ?_
        exact ⟨rfl, r6, r7, rfl, h1, h2⟩
      · skip
        exact absurd (Int32.le_refl _) h7
    | succ m ih =>
      intro p hp r6 r7 q3 q4 h1 h2
      obtain ⟨I1, eI1⟩ : ∃ I1, I1 = xrow (xrow I 16 r6) 17 r7 := ⟨_, rfl⟩
      have x1 : ∀ x, x ≠ 16 → x ≠ 17 → I1 x = I x := fun x a b => by rw [eI1, xrow_ne b, xrow_ne a]
      have eA : I1 A 5 = nI n := by rw [x1 A (by omega) (by omega)]; exact hn
      have ecd1 : cd = cdC I1 A := by rw [ecd]; exact (cdC_eq hA (fun x hx => x1 x (by omega) (by omega))).symm
      have hV1 : VC (cdC I1 A) n := by rw [← ecd1, ecd]; exact hV
      have ib1 := s_isBranch (S := S) (d := d + 3) (I := I1) (J := J) (R := R) hR hA p (by omega) (x := nI p) rfl
      rw [x1 (A + 1) (by omega) (by omega), ebr p (by omega)] at ib1
      have pd := s_postDominatedBy (S := S) (d := d) (I := I1) (J := J) (R := R) (y := p) hR hA eA hn2 hV1 (by omega) (xy := nI p) rfl
      rw [← ecd1] at pd
      have bo1 : ∀ q, q < n → br cd q = true → I1 (A + 5) q = nI (f + bc cd q) := fun q hq hb => by rw [x1 (A + 5) (by omega) (by omega)]; exact hbo q hq hb
      rw [← eI1]
      have next : br cd p = false → ∀ q3 q4 : Option Value, XP S (d + 4) 20 72 [some (.ref 2), some (.ref A), some (.int (nI p)), q3, q4] [] (hh I1 J R) (fun v h' => v = none ∧ ∃ r6 r7, h' = hh (xrow (xrow I 16 r6) 17 r7) J R ∧ (∀ p, p < n → br cd p = true → ND cd n f p (r6 (f + bc cd p)) ∧ (¬ r7 (f + bc cd p) = 0 ↔ (r6 (f + bc cd p) = 0 ∨ ms cd n p 0))) ∧ ∀ k, k < f ∨ f + bc cd n ≤ k → r6 k = I 16 k ∧ r7 k = I 17 k) := by
        intro hb q3 q4
        refine y_inc (pc' := 75) (nI (p + 1)) xD_20 rfl rfl rfl (nI_1 (p)) rfl rfl ?_
        refine y_goto (pc' := 2) xD_20 rfl rfl ?_
        rw [eI1]
        exact ih (p + 1) (by omega) r6 r7 q3 q4 (fun q hq hq2 => by by_cases e : q = p; rw [e, hb] at hq2; exact absurd hq2 (by decide); exact h1 q (by omega) hq2) h2
      refine y_loc (pc' := 3) xD_20 rfl rfl rfl rfl ?_
      refine y_loc (pc' := 4) xD_20 rfl rfl rfl rfl ?_
      refine m_getI (pc' := 7) xD_20 rfl rfl rfl (by first | rfl | assumption) (eA) rfl ?_
      refine y_icge (pt := 78) (pf := 10) xD_20 rfl rfl rfl (fun h7 => ?_) (fun h7 => ?_)
      · skip
        exact absurd h7 (nI_ge (a := p) (b := n) (by omega) (by omega))
      · skip
        refine y_loc (pc' := 11) xD_20 rfl rfl rfl rfl ?_
        refine y_loc (pc' := 12) xD_20 rfl rfl rfl rfl ?_
        refine y_callV xD_20 rfl rfl rfl rfl (by first | rfl | assumption) rfl rfl rfl rfl (ib1) (fun v h' hq => ?_)
        obtain ⟨rfl, rfl⟩ := hq
        refine y_ifeq (pt := 72) (pf := 18) xD_20 rfl rfl rfl (fun h15 => ?_) (fun h15 => ?_)
        · skip
          exact next (zB_f.mp h15) _ _
        · skip
          skip
          have hb : br cd p = true := by rw [zB_f, Bool.not_eq_false] at h15; exact h15
          have hlt := bc_lt (n := n) (by omega) hb
          have ebo := bo1 p (by omega) hb
          refine y_loc (pc' := 19) xD_20 rfl rfl rfl rfl ?_
          refine y_loc (pc' := 20) xD_20 rfl rfl rfl rfl ?_
          refine y_callV xD_20 rfl rfl rfl rfl (by first | rfl | assumption) rfl rfl rfl rfl (pd) (fun v h' hq => ?_)
          obtain ⟨⟨T, rfl, hT⟩, rfl⟩ := hq
          refine y_loc (pc' := 24) xD_20 rfl rfl rfl rfl ?_
          refine y_loc (pc' := 25) xD_20 rfl rfl rfl rfl ?_
          refine y_loc (pc' := 26) xD_20 rfl rfl rfl rfl ?_
          refine y_loc (pc' := 27) xD_20 rfl rfl rfl rfl ?_
          refine y_callS xD_20 rfl rfl rfl rfl rfl rfl rfl rfl (s_goalsNeededAt (d := d + 1) (p := p) hR hA eA hn2 hV1 ecd1 bo1 hf (by omega) hT) (fun v h' hq => ?_)
          obtain ⟨⟨G, rfl, hG⟩, rfl⟩ := hq
          have b1 := b1_ib T
          have t0 : ib T 0 = true ↔ ms cd n p 0 := (hT 0 (by decide)).trans ⟨fun q => q.2, fun q => ⟨Nat.zero_le _, q⟩⟩
          have tail : ∀ z : Int32, (z = 0 ∨ z = 1) → (¬ z = 0 ↔ (G = 0 ∨ ms cd n p 0)) → XP S (d + 4) 20 71 [some (.ref 2), some (.ref A), some (.int (nI p)), some (.int T), some (.int G)] [.int z, .int (nI (f + bc cd p)), .ref 17] (hh (xu I1 16 (f + bc cd p) G) J R) (fun v h' => v = none ∧ ∃ r6 r7, h' = hh (xrow (xrow I 16 r6) 17 r7) J R ∧ (∀ p, p < n → br cd p = true → ND cd n f p (r6 (f + bc cd p)) ∧ (¬ r7 (f + bc cd p) = 0 ↔ (r6 (f + bc cd p) = 0 ∨ ms cd n p 0))) ∧ ∀ k, k < f ∨ f + bc cd n ≤ k → r6 k = I 16 k ∧ r7 k = I 17 k) := by
            intro z hz hzz
            refine m_zast (pc' := 72) ((f + bc cd p)) hz xD_20 rfl (by first | rfl | assumption) (by first | assumption | omega) (by first | decide | assumption) (by first | rfl | assumption) rfl ?_
            refine y_inc (pc' := 75) (nI (p + 1)) xD_20 rfl rfl rfl (nI_1 (p)) rfl rfl ?_
            refine y_goto (pc' := 2) xD_20 rfl rfl ?_
            have em : xu (xu I1 16 (f + bc cd p) G) 17 (f + bc cd p) z = xrow (xrow I 16 (fun j => if j = f + bc cd p then G else r6 j)) 17 (fun j => if j = f + bc cd p then z else r7 j) := by
              rw [eI1, xu_row, show xu (xrow (xrow I 16 r6) 17 r7) 16 (f + bc cd p) G 17 = r7 from by rw [xu_ne (by decide), xrow_at], xu_row_c (by decide), xrow_row, xu_row, xrow_row, xrow_at]
            rw [em]
            refine ih (p + 1) (by omega) _ _ _ _ (fun q hq hq2 => ?_) (fun k hk => ?_)
            · by_cases e : q = p
              · rw [e, if_pos rfl, if_pos rfl]; exact ⟨hG, hzz⟩
              · have ne : ¬ f + bc cd q = f + bc cd p := fun t => e (bc_inj hq2 hb (by omega))
                rw [if_neg ne, if_neg ne]; exact h1 q (by omega) hq2
            · rw [if_neg (by omega), if_neg (by omega)]; exact h2 k hk
          refine y_loc (pc' := 32) xD_20 rfl rfl rfl rfl ?_
          refine y_loc (pc' := 33) xD_20 rfl rfl rfl rfl ?_
          first | refine m_getR (pc' := 36) xD_20 rfl rfl rfl rfl (hR.1 _ _ _ rfl) rfl ?_ | refine m_getR (pc' := 36) xD_20 rfl rfl (by first | rfl | assumption) rfl (by assumption) rfl ?_
          refine y_loc (pc' := 37) xD_20 rfl rfl rfl rfl ?_
          first | refine m_getR (pc' := 40) xD_20 rfl rfl rfl rfl (hR.1 _ _ _ rfl) rfl ?_ | refine m_getR (pc' := 40) xD_20 rfl rfl (by first | rfl | assumption) rfl (by assumption) rfl ?_
          refine y_loc (pc' := 41) xD_20 rfl rfl rfl rfl ?_
          refine m_iald (pc' := 42) (p) xD_20 rfl (by first | rfl | assumption) (by first | assumption | omega) (by first | decide | assumption) (by first | decide | omega) (by first | rfl | assumption) rfl ?_
          rw [ebo]
          refine y_loc (pc' := 44) xD_20 rfl rfl rfl rfl ?_
          refine m_iast (pc' := 45) ((f + bc cd p)) xD_20 rfl (by first | rfl | assumption) (by first | assumption | omega) (by first | decide | assumption) (by first | rfl | assumption) rfl ?_
          refine y_loc (pc' := 46) xD_20 rfl rfl rfl rfl ?_
          first | refine m_getR (pc' := 49) xD_20 rfl rfl rfl rfl (hR.1 _ _ _ rfl) rfl ?_ | refine m_getR (pc' := 49) xD_20 rfl rfl (by first | rfl | assumption) rfl (by assumption) rfl ?_
          refine y_loc (pc' := 50) xD_20 rfl rfl rfl rfl ?_
          first | refine m_getR (pc' := 53) xD_20 rfl rfl rfl rfl (hR.1 _ _ _ rfl) rfl ?_ | refine m_getR (pc' := 53) xD_20 rfl rfl (by first | rfl | assumption) rfl (by assumption) rfl ?_
          refine y_loc (pc' := 54) xD_20 rfl rfl rfl rfl ?_
          refine m_iald (pc' := 55) (p) xD_20 rfl (by first | rfl | assumption) (by first | assumption | omega) (by first | decide | assumption) (by first | decide | omega) (by first | rfl | assumption) rfl ?_
          rw [show xu I1 16 (f + bc cd p) G (A + 5) p = nI (f + bc cd p) from by rw [xu_ne (by omega)]; exact ebo]
          refine y_loc (pc' := 57) xD_20 rfl rfl rfl rfl ?_
          refine y_ifeq (pt := 66) (pf := 60) xD_20 rfl rfl rfl (fun h57 => ?_) (fun h57 => ?_)
          · skip
            refine y_ci (pc' := 67) (1) xD_20 rfl rfl rfl rfl ?_
            refine y_goto (pc' := 71) xD_20 rfl rfl ?_
            first
            | exact tail 1 (Or.inr rfl) ⟨fun _ => Or.inl h57, fun _ => by decide⟩
            | exact tail 0 (Or.inl rfl) ⟨fun q => absurd rfl q, fun q => absurd (q.elim h57 (fun t => by have := b1.2.mp h63; rw [← t0, this] at t; exact absurd t (by decide))) id⟩
            | exact tail 1 (Or.inr rfl) ⟨fun _ => Or.inr (t0.mp (by have := fun q => h63 (b1.2.mpr q); rw [← Bool.not_eq_false]; exact this)), fun _ => by decide⟩
          · skip
            refine y_loc (pc' := 61) xD_20 rfl rfl rfl rfl ?_
            refine y_ci (pc' := 62) (1) xD_20 rfl rfl rfl rfl ?_
            refine y_op (pc' := 63) xD_20 rfl rfl rfl rfl ?_
            refine y_ifeq (pt := 70) (pf := 66) xD_20 rfl rfl rfl (fun h63 => ?_) (fun h63 => ?_)
            · skip
              refine y_ci (pc' := 71) (0) xD_20 rfl rfl rfl rfl ?_
              first
              | exact tail 1 (Or.inr rfl) ⟨fun _ => Or.inl h57, fun _ => by decide⟩
              | exact tail 0 (Or.inl rfl) ⟨fun q => absurd rfl q, fun q => absurd (q.elim h57 (fun t => by have := b1.2.mp h63; rw [← t0, this] at t; exact absurd t (by decide))) id⟩
              | exact tail 1 (Or.inr rfl) ⟨fun _ => Or.inr (t0.mp (by have := fun q => h63 (b1.2.mpr q); rw [← Bool.not_eq_false]; exact this)), fun _ => by decide⟩
            · skip
              refine y_ci (pc' := 67) (1) xD_20 rfl rfl rfl rfl ?_
              refine y_goto (pc' := 71) xD_20 rfl rfl ?_
              first
              | exact tail 1 (Or.inr rfl) ⟨fun _ => Or.inl h57, fun _ => by decide⟩
              | exact tail 0 (Or.inl rfl) ⟨fun q => absurd rfl q, fun q => absurd (q.elim h57 (fun t => by have := b1.2.mp h63; rw [← t0, this] at t; exact absurd t (by decide))) id⟩
              | exact tail 1 (Or.inr rfl) ⟨fun _ => Or.inr (t0.mp (by have := fun q => h63 (b1.2.mpr q); rw [← Bool.not_eq_false]; exact this)), fun _ => by decide⟩
  refine y_ci (pc' := 1) (0) xD_20 rfl rfl rfl rfl ?_
  refine y_loc (pc' := 2) xD_20 rfl rfl rfl rfl ?_
  have := loop n 0 (by omega) (I 16) (I 17) none none (fun q hq => absurd hq (by omega)) (fun k _ => ⟨rfl, rfl⟩)
  rw [xrow_id, xrow_id] at this
  exact this
end LB

