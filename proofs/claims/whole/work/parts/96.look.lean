/-! A case by its name: both sides. -/
theorem i32_nat {x : Int32} (h : 0 ≤ x) : x = nI x.toNatClampNeg ∧ (x.toNatClampNeg : Int) = x.toInt := by
  have h0 : (0 : Int) ≤ x.toInt := by
    rw [Int32.le_iff_toInt_le] at h
    exact h
  have e : (x.toNatClampNeg : Int) = x.toInt := by
    show ((x.toInt.toNat : Nat) : Int) = _
    omega
  refine ⟨?_, e⟩
  apply Int32.toInt_inj.mp
  have h1 := x.toInt_lt
  rw [nI_toInt (by omega), e]
theorem i32_range {x : Int32} {a b : Nat} (hb : b < 2000) (h1 : nI a ≤ x) (h2 : x < nI b) (ha : a < 2000) : ∃ k, a ≤ k ∧ k < b ∧ x = nI k := by
  have h0 : 0 ≤ x := by
    rw [Int32.le_iff_toInt_le] at h1 ⊢
    rw [nI_toInt (by omega)] at h1
    show (0 : Int) ≤ _
    omega
  obtain ⟨e, e'⟩ := i32_nat h0
  rw [Int32.le_iff_toInt_le, nI_toInt (by omega)] at h1
  rw [Int32.lt_iff_toInt_lt, nI_toInt (by omega)] at h2
  exact ⟨_, by omega, by omega, e⟩
/-- the slot of a name -/
def SL (np nb ns : Nat) (ar : Nat → CA) (lt : CA) (x : Int32) (s : Nat) : Prop := (∃ k, k < np ∧ x = nI k ∧ s = k) ∨ (x = -1 ∧ 0 < lt.1 ∧ s = 7) ∨ (∃ g, g < 2 * nb ∧ x = nI (100 + g) ∧ 0 < (ar g).1 ∧ s = 9 + g) ∨ (∃ k, k < ns ∧ x = nI (200 + k) ∧ s = 33 + k)
theorem SL.uniq {np nb ns : Nat} {ar : Nat → CA} {lt : CA} {x : Int32} {s s' : Nat} (hp : np ≤ 5) (hn : nb ≤ 12) (hs : ns ≤ 24) (h : SL np nb ns ar lt x s) (h' : SL np nb ns ar lt x s') : s = s' := by
  have m : ∀ k, k < 2000 → ¬ nI k = (-1 : Int32) := fun k hk => nI_m1 hk
  have j : ∀ a b, a < 2000 → b < 2000 → nI a = nI b → a = b := fun a b ha hb q => (nI_inj ha hb).mp q
  rcases h with ⟨k, h1, h2, h3⟩ | ⟨h1, h2, h3⟩ | ⟨k, h1, h2, -, h3⟩ | ⟨k, h1, h2, h3⟩ <;> rcases h' with ⟨k', g1, g2, g3⟩ | ⟨g1, g2, g3⟩ | ⟨k', g1, g2, -, g3⟩ | ⟨k', g1, g2, g3⟩
  · have := j _ _ (by omega) (by omega) (h2.symm.trans g2); omega
  · exact absurd (h2.symm.trans g1) (m _ (by omega))
  · have := j _ _ (by omega) (by omega) (h2.symm.trans g2); omega
  · have := j _ _ (by omega) (by omega) (h2.symm.trans g2); omega
  · exact absurd (g2.symm.trans h1) (m _ (by omega))
  · omega
  · exact absurd (g2.symm.trans h1) (m _ (by omega))
  · exact absurd (g2.symm.trans h1) (m _ (by omega))
  · have := j _ _ (by omega) (by omega) (h2.symm.trans g2); omega
  · exact absurd (h2.symm.trans g1) (m _ (by omega))
  · have := j _ _ (by omega) (by omega) (h2.symm.trans g2); omega
  · have := j _ _ (by omega) (by omega) (h2.symm.trans g2); omega
  · have := j _ _ (by omega) (by omega) (h2.symm.trans g2); omega
  · exact absurd (h2.symm.trans g1) (m _ (by omega))
  · have := j _ _ (by omega) (by omega) (h2.symm.trans g2); omega
  · have := j _ _ (by omega) (by omega) (h2.symm.trans g2); omega
section LK
variable {S : XS} {d nb np ns : Nat} {I P : Nat → Nat → Int32} {J : Nat → Nat → Int64} {R : Nat → Nat → Option Nat} {A B : Nat → Nat} {pop ar su : Nat → CA} {lt : CA} {x : Int32}
theorem s_within {y z : Int32} {h : XH} : XP S d 100 0 (xent [.int x, .int y, .int z] 3) [] h (rI (zB (decide (y ≤ x ∧ x ≤ z))) h) := by
  refine y_loc (pc' := 1) xD_100 rfl rfl rfl rfl ?_
  refine y_loc (pc' := 2) xD_100 rfl rfl rfl rfl ?_
  refine y_iclt (pt := 14) (pf := 5) xD_100 rfl rfl rfl (fun h2 => ?_) (fun h2 => ?_)
  · skip
    refine y_ci (pc' := 15) (0) xD_100 rfl rfl rfl rfl ?_
    refine y_retZ xD_100 rfl rfl (by first | decide | assumption) ?_
    first | exact rI_t ⟨Int32.not_lt.mp h2, Int32.not_lt.mp h7⟩ | exact rI_f (fun q => absurd q.1 (Int32.not_le.mpr h2)) | exact rI_f (fun q => absurd q.2 (Int32.not_le.mpr h7))
  · skip
    refine y_loc (pc' := 6) xD_100 rfl rfl rfl rfl ?_
    refine y_loc (pc' := 7) xD_100 rfl rfl rfl rfl ?_
    refine y_icgt (pt := 14) (pf := 10) xD_100 rfl rfl rfl (fun h7 => ?_) (fun h7 => ?_)
    · skip
      refine y_ci (pc' := 15) (0) xD_100 rfl rfl rfl rfl ?_
      refine y_retZ xD_100 rfl rfl (by first | decide | assumption) ?_
      first | exact rI_t ⟨Int32.not_lt.mp h2, Int32.not_lt.mp h7⟩ | exact rI_f (fun q => absurd q.1 (Int32.not_le.mpr h2)) | exact rI_f (fun q => absurd q.2 (Int32.not_le.mpr h7))
    · skip
      refine y_ci (pc' := 11) (1) xD_100 rfl rfl rfl rfl ?_
      refine y_goto (pc' := 15) xD_100 rfl rfl ?_
      refine y_retZ xD_100 rfl rfl (by first | decide | assumption) ?_
      first | exact rI_t ⟨Int32.not_lt.mp h2, Int32.not_lt.mp h7⟩ | exact rI_f (fun q => absurd q.1 (Int32.not_le.mpr h2)) | exact rI_f (fun q => absurd q.2 (Int32.not_le.mpr h7))
/-- caseNamed -/
theorem s_caseNamed (hR : RF R) (hnb : nb ≤ 12) (hpo : CPo I J R P nb A np pop) (hAr : CAr I J P nb ar) (hz : ∀ g, 2 * nb ≤ g → (ar g).1 = 0) (hsu : CSu I J R P nb B ns su) (wl : WC lt) (rl : RC I 257 lt) (xl : 0 < lt.1 → RX I J P nb 257 lt) (mp : ∀ k, k < np → RM I k (pop k)) (ma : ∀ g, g < 24 → RM I (9 + g) (ar g)) (msu : ∀ k, k < ns → RM I (33 + k) (su k)) (ml : RM I 7 lt) :
    XP S (d + 1) 89 0 (xent [.ref 1, .int x] 3) [] (hh I J R) (fun v h' => h' = hh I J R ∧ ((v = some .null ∧ ∀ s, ¬ SL np nb ns ar lt x s) ∨ ∃ a c s, v = some (.ref a) ∧ isCase a ∧ RX I J P nb a c ∧ WC c ∧ 0 < c.1 ∧ RM I s c ∧ s < 57 ∧ SL np nb ns ar lt x s)) := by
  obtain ⟨h7, e121, np5, hp⟩ := hpo
  obtain ⟨hB, e151, ns24, hs⟩ := hsu
  have m : ∀ k, k < 2000 → ¬ nI k = (-1 : Int32) := fun k hk => nI_m1 hk
  have e257 : I 257 3 = nI lt.1 := rl.1
  have z7 : nI lt.1 = 0 ↔ lt.1 = 0 := nI_z (by have := wl.1; omega)
  have i257 : isCase 257 := Or.inr (Or.inr ⟨by decide, by decide, by decide⟩)
  have e200 : (200 : Int32) + nI ns = nI (200 + ns) := nI_add 200 ns
  have noP : ¬ 0 ≤ x ∨ nI np ≤ x → ∀ k, k < np → ¬ x = nI k := fun q k hk e => by
    rw [e] at q
    exact q.elim (fun t => t (nI_pos' (by omega))) (fun t => nI_ge hk (by omega) t)
  have noA : ¬ (100 : Int32) ≤ x ∨ (124 : Int32) ≤ x → ∀ g, g < 24 → ¬ x = nI (100 + g) := fun q k hk e => by
    rw [e] at q
    exact q.elim (fun t => t (nI_le (a := 100) (by omega) (by omega))) (fun t => nI_ge (a := 100 + k) (b := 124) (by omega) (by decide) t)
  have noS : ¬ (200 : Int32) ≤ x ∨ nI (200 + ns) ≤ x → ∀ k, k < ns → ¬ x = nI (200 + k) := fun q k hk e => by
    rw [e] at q
    exact q.elim (fun t => t (nI_le (a := 200) (by omega) (by omega))) (fun t => nI_ge (a := 200 + k) (b := 200 + ns) (by omega) (by omega) t)
  have k7 : kq 122 = (103 + 0, 7) := by decide
  have e23 := hAr.1
  have tail2 : ¬ x = -1 → (∀ k, k < np → ¬ x = nI k) → (∀ g, g < 24 → ¬ x = nI (100 + g)) → ∀ q2 : Option Value, XP S (d + 1) 89 94 [some (.ref 1), some (.int x), q2] [] (hh I J R) (fun v h' => h' = hh I J R ∧ ((v = some .null ∧ ∀ s, ¬ SL np nb ns ar lt x s) ∨ ∃ a c s, v = some (.ref a) ∧ isCase a ∧ RX I J P nb a c ∧ WC c ∧ 0 < c.1 ∧ RM I s c ∧ s < 57 ∧ SL np nb ns ar lt x s)) := by
    intro u1 u2 u3 q2
    have null : (∀ k, k < ns → ¬ x = nI (200 + k)) → ∀ s, ¬ SL np nb ns ar lt x s := by
      intro u4 s q
      rcases q with ⟨k, h1, g, -⟩ | ⟨g, -, -⟩ | ⟨k, h1, g, -⟩ | ⟨k, h1, g, -⟩
      · exact u2 k h1 g
      · exact u1 g
      · exact u3 k (by omega) g
      · exact u4 k h1 g
    refine y_loc (pc' := 95) xD_89 rfl rfl rfl rfl ?_
    refine y_ci (pc' := 98) (200) xD_89 rfl rfl rfl rfl ?_
    refine y_iclt (pt := 130) (pf := 101) xD_89 rfl rfl rfl (fun h98 => ?_) (fun h98 => ?_)
    · skip
      refine y_op (pc' := 131) xD_89 rfl rfl rfl rfl ?_
      refine y_retN xD_89 rfl rfl ?_
      exact ⟨rfl, Or.inl ⟨rfl, null (noS (Or.inl (Int32.not_le.mpr h98)))⟩⟩
    · skip
      refine y_loc (pc' := 102) xD_89 rfl rfl rfl rfl ?_
      refine y_ci (pc' := 105) (200) xD_89 rfl rfl rfl rfl ?_
      refine y_loc (pc' := 106) xD_89 rfl rfl rfl rfl ?_
      first | refine m_getR (pc' := 109) xD_89 rfl rfl rfl rfl (hR.1 _ _ _ rfl) rfl ?_ | refine m_getR (pc' := 109) xD_89 rfl rfl (by first | rfl | assumption) rfl (by assumption) rfl ?_
      refine m_getI (pc' := 112) xD_89 rfl rfl rfl (by first | rfl | assumption) (e151) rfl ?_
      refine y_iadd (pc' := 113) xD_89 rfl (e200) rfl ?_
      refine y_icge (pt := 130) (pf := 116) xD_89 rfl rfl rfl (fun h113 => ?_) (fun h113 => ?_)
      · skip
        refine y_op (pc' := 131) xD_89 rfl rfl rfl rfl ?_
        refine y_retN xD_89 rfl rfl ?_
        exact ⟨rfl, Or.inl ⟨rfl, null (noS (Or.inr h113))⟩⟩
      · skip
        obtain ⟨k, k1, k2, ex⟩ := i32_range (a := 200) (b := 200 + ns) (by omega) (Int32.not_lt.mp h98) (Int32.not_le.mp h113) (by decide)
        obtain ⟨rk, ck, -, -, -⟩ := hB (k - 200) (by omega)
        obtain ⟨w, z, xx⟩ := hs (k - 200) (by omega)
        have e1 : x - 200 = nI (k - 200) := by rw [ex]; exact pk_sub (b := 200) k1
        refine y_loc (pc' := 117) xD_89 rfl rfl rfl rfl ?_
        first | refine m_getR (pc' := 120) xD_89 rfl rfl rfl rfl (hR.1 _ _ _ rfl) rfl ?_ | refine m_getR (pc' := 120) xD_89 rfl rfl (by first | rfl | assumption) rfl (by assumption) rfl ?_
        first | refine m_getR (pc' := 123) xD_89 rfl rfl rfl rfl (hR.1 _ _ _ rfl) rfl ?_ | refine m_getR (pc' := 123) xD_89 rfl rfl (by first | rfl | assumption) rfl (by assumption) rfl ?_
        refine y_loc (pc' := 124) xD_89 rfl rfl rfl rfl ?_
        refine y_ci (pc' := 127) (200) xD_89 rfl rfl rfl rfl ?_
        refine y_isub (pc' := 128) xD_89 rfl (e1) rfl ?_
        refine m_aald (pc' := 129) ((k - 200)) (q := 0) xD_89 rfl (by first | rfl | assumption) (by first | decide | assumption) (by omega) (by first | decide | assumption) (by first | rfl | assumption) rk rfl ?_
        refine y_retA xD_89 rfl rfl ?_
        exact ⟨rfl, Or.inr ⟨_, _, 33 + (k - 200), rfl, ck, xx, w, z, msu _ (by omega), by omega, Or.inr (Or.inr (Or.inr ⟨k - 200, by omega, by rw [ex, show 200 + (k - 200) = k by omega], rfl⟩))⟩⟩
  have tail : ¬ x = -1 → (∀ k, k < np → ¬ x = nI k) → ∀ q2 : Option Value, XP S (d + 1) 89 49 [some (.ref 1), some (.int x), q2] [] (hh I J R) (fun v h' => h' = hh I J R ∧ ((v = some .null ∧ ∀ s, ¬ SL np nb ns ar lt x s) ∨ ∃ a c s, v = some (.ref a) ∧ isCase a ∧ RX I J P nb a c ∧ WC c ∧ 0 < c.1 ∧ RM I s c ∧ s < 57 ∧ SL np nb ns ar lt x s)) := by
    intro u1 u2 q2
    refine y_loc (pc' := 50) xD_89 rfl rfl rfl rfl ?_
    refine y_ci (pc' := 52) (100) xD_89 rfl rfl rfl rfl ?_
    refine y_iclt (pt := 94) (pf := 55) xD_89 rfl rfl rfl (fun h52 => ?_) (fun h52 => ?_)
    · skip
      exact tail2 u1 u2 (noA (Or.inl (Int32.not_le.mpr h52))) _
    · skip
      refine y_loc (pc' := 56) xD_89 rfl rfl rfl rfl ?_
      refine y_ci (pc' := 58) (124) xD_89 rfl rfl rfl rfl ?_
      refine y_icge (pt := 94) (pf := 61) xD_89 rfl rfl rfl (fun h58 => ?_) (fun h58 => ?_)
      · skip
        exact tail2 u1 u2 (noA (Or.inr h58)) _
      · skip
        obtain ⟨k, k1, k2, ex⟩ := i32_range (a := 100) (b := 124) (by decide) (Int32.not_lt.mp h52) (Int32.not_le.mp h58) (by decide)
        obtain ⟨g, eg⟩ : ∃ g, k = 100 + g := ⟨k - 100, by omega⟩
        rw [eg] at ex
        have g24 : g < 24 := by omega
        have e1 : x - 100 = nI g := by rw [ex, show nI (100 + g) - 100 = nI (100 + g - 100) from pk_sub (b := 100) (by omega), show 100 + g - 100 = g by omega]
        have b0 := bit0 g24 (I 23 1)
        have fnd : ib (I 23 1) g = true ↔ 0 < (ar g).1 := (e23 g (by omega)).trans ⟨fun q => q.2, fun q => ⟨g24, q⟩⟩
        have rb := rBest hR g24
        refine y_loc (pc' := 62) xD_89 rfl rfl rfl rfl ?_
        refine y_ci (pc' := 64) (100) xD_89 rfl rfl rfl rfl ?_
        refine y_isub (pc' := 65) xD_89 rfl (e1) rfl ?_
        refine y_loc (pc' := 66) xD_89 rfl rfl rfl rfl ?_
        refine y_loc (pc' := 67) xD_89 rfl rfl rfl rfl ?_
        first | refine m_getR (pc' := 70) xD_89 rfl rfl rfl rfl (hR.1 _ _ _ rfl) rfl ?_ | refine m_getR (pc' := 70) xD_89 rfl rfl (by first | rfl | assumption) rfl (by assumption) rfl ?_
        refine m_getI (pc' := 73) xD_89 rfl rfl rfl (by first | rfl | assumption) ((Eq.refl (I 23 1))) rfl ?_
        refine y_loc (pc' := 74) xD_89 rfl rfl rfl rfl ?_
        refine y_callS xD_89 rfl rfl rfl rfl rfl rfl rfl rfl (s_hasGoal) (fun v h' hq => ?_)
        obtain ⟨rfl, rfl⟩ := hq
        refine y_ifeq (pt := 92) (pf := 80) xD_89 rfl rfl rfl (fun h77 => ?_) (fun h77 => ?_)
        · skip
          refine y_op (pc' := 93) xD_89 rfl rfl rfl rfl ?_
          refine y_retN xD_89 rfl rfl ?_
          refine ⟨rfl, Or.inl ⟨rfl, fun s q => ?_⟩⟩
          have nf : ¬ 0 < (ar g).1 := fun t => by
            have := fnd.mpr t
            rw [b0.mp (Classical.not_not.mp (zB_0.mp h77))] at this
            exact absurd this (by decide)
          rcases q with ⟨k, h1, e, -⟩ | ⟨e, -, -⟩ | ⟨k, h1, e, h3, -⟩ | ⟨k, h1, e, -⟩
          · exact u2 k h1 e
          · exact u1 e
          · have := (nI_inj (by omega) (by omega)).mp (ex.symm.trans e)
            rw [show k = g by omega] at h3
            exact nf h3
          · have := (nI_inj (by omega) (by omega)).mp (ex.symm.trans e); omega
        · skip
          have f1 : 0 < (ar g).1 := fnd.mp (by have q := zB_n0.mp h77; rw [b0, Bool.not_eq_false] at q; exact q)
          have g2 : g < 2 * nb := Nat.lt_of_not_le (fun q => by have := hz g q; omega)
          refine y_loc (pc' := 81) xD_89 rfl rfl rfl rfl ?_
          first | refine m_getR (pc' := 84) xD_89 rfl rfl rfl rfl (hR.1 _ _ _ rfl) rfl ?_ | refine m_getR (pc' := 84) xD_89 rfl rfl (by first | rfl | assumption) rfl (by assumption) rfl ?_
          first | refine m_getR (pc' := 87) xD_89 rfl rfl rfl rfl (hR.1 _ _ _ rfl) rfl ?_ | refine m_getR (pc' := 87) xD_89 rfl rfl (by first | rfl | assumption) rfl (by assumption) rfl ?_
          refine y_loc (pc' := 88) xD_89 rfl rfl rfl rfl ?_
          refine m_aald (pc' := 89) (g) (q := 0) xD_89 rfl (by first | rfl | assumption) (by first | decide | assumption) (by first | assumption | omega) (by first | decide | assumption) (by first | rfl | assumption) rb rfl ?_
          refine y_goto (pc' := 93) xD_89 rfl rfl ?_
          refine y_retA xD_89 rfl rfl ?_
          exact ⟨rfl, Or.inr ⟨_, _, 9 + g, rfl, aCase g24, (hAr.2 g g24).2.2 f1, (hAr.2 g g24).1, f1, ma g g24, by omega, Or.inr (Or.inr (Or.inl ⟨g, g2, ex, f1, rfl⟩))⟩⟩
  refine y_loc (pc' := 1) xD_89 rfl rfl rfl rfl ?_
  refine y_ci (pc' := 2) (-1) xD_89 rfl rfl rfl rfl ?_
  refine y_icne (pt := 24) (pf := 5) xD_89 rfl rfl rfl (fun h2 => ?_) (fun h2 => ?_)
  · skip
    refine y_loc (pc' := 25) xD_89 rfl rfl rfl rfl ?_
    refine y_iflt (pt := 49) (pf := 28) xD_89 rfl rfl rfl (fun h25 => ?_) (fun h25 => ?_)
    · skip
      exact tail h2 (noP (Or.inl (Int32.not_le.mpr h25))) _
    · skip
      refine y_loc (pc' := 29) xD_89 rfl rfl rfl rfl ?_
      refine y_loc (pc' := 30) xD_89 rfl rfl rfl rfl ?_
      first | refine m_getR (pc' := 33) xD_89 rfl rfl rfl rfl (hR.1 _ _ _ rfl) rfl ?_ | refine m_getR (pc' := 33) xD_89 rfl rfl (by first | rfl | assumption) rfl (by assumption) rfl ?_
      refine m_getI (pc' := 36) xD_89 rfl rfl rfl (by first | rfl | assumption) (e121) rfl ?_
      refine y_icge (pt := 49) (pf := 39) xD_89 rfl rfl rfl (fun h36 => ?_) (fun h36 => ?_)
      · skip
        exact tail h2 (noP (Or.inr h36)) _
      · skip
        obtain ⟨k, -, hk, ex⟩ := i32_range (a := 0) (b := np) (by omega) (by have := Int32.not_lt.mp h25; exact this) (Int32.not_le.mp h36) (by decide)
        obtain ⟨rk, ck, -, -, -⟩ := h7 k (by omega)
        refine y_loc (pc' := 40) xD_89 rfl rfl rfl rfl ?_
        first | refine m_getR (pc' := 43) xD_89 rfl rfl rfl rfl (hR.1 _ _ _ rfl) rfl ?_ | refine m_getR (pc' := 43) xD_89 rfl rfl (by first | rfl | assumption) rfl (by assumption) rfl ?_
        first | refine m_getR (pc' := 46) xD_89 rfl rfl rfl rfl (hR.1 _ _ _ rfl) rfl ?_ | refine m_getR (pc' := 46) xD_89 rfl rfl (by first | rfl | assumption) rfl (by assumption) rfl ?_
        refine y_loc (pc' := 47) xD_89 rfl rfl rfl rfl ?_
        refine m_aald (pc' := 48) (k) (q := 0) xD_89 rfl (by first | rfl | assumption) (by first | decide | assumption) (by first | assumption | omega) (by first | decide | assumption) ex rk rfl ?_
        refine y_retA xD_89 rfl rfl ?_
        exact ⟨rfl, Or.inr ⟨A k, pop k, k, rfl, ck, (hp k hk).2.2, (hp k hk).1, (hp k hk).2.1, mp k hk, by omega, Or.inl ⟨k, hk, ex, rfl⟩⟩⟩
  · skip
    refine y_loc (pc' := 6) xD_89 rfl rfl rfl rfl ?_
    first | refine m_getR (pc' := 9) xD_89 rfl rfl rfl rfl (hR.1 _ _ _ rfl) rfl ?_ | refine m_getR (pc' := 9) xD_89 rfl rfl (by first | rfl | assumption) rfl (by assumption) rfl ?_
    refine m_getI (pc' := 12) xD_89 rfl rfl rfl (by first | rfl | assumption) (e257) rfl ?_
    refine y_ifne (pt := 19) (pf := 15) xD_89 rfl rfl rfl (fun h12 => ?_) (fun h12 => ?_)
    · skip
      have l0 : 0 < lt.1 := Nat.pos_of_ne_zero (fun q => h12 (z7.mpr q))
      refine y_loc (pc' := 20) xD_89 rfl rfl rfl rfl ?_
      first | refine m_getR (pc' := 23) xD_89 rfl rfl rfl rfl (hR.1 _ _ _ rfl) rfl ?_ | refine m_getR (pc' := 23) xD_89 rfl rfl (by first | rfl | assumption) rfl (by assumption) rfl ?_
      refine y_retA xD_89 rfl rfl ?_
      exact ⟨rfl, Or.inr ⟨257, lt, 7, rfl, i257, xl l0, wl, l0, ml, by decide, Or.inr (Or.inl ⟨h2, l0, rfl⟩)⟩⟩
    · skip
      refine y_op (pc' := 16) xD_89 rfl rfl rfl rfl ?_
      refine y_goto (pc' := 23) xD_89 rfl rfl ?_
      refine y_retN xD_89 rfl rfl ?_
      refine ⟨rfl, Or.inl ⟨rfl, fun s q => ?_⟩⟩
      rcases q with ⟨k, h1, g, -⟩ | ⟨-, h1, -⟩ | ⟨k, h1, g, -⟩ | ⟨k, h1, g, -⟩
      · exact m k (by omega) (g.symm.trans h2)
      · have := z7.mp h12; omega
      · exact m _ (by omega) (g.symm.trans h2)
      · exact m _ (by omega) (g.symm.trans h2)
/-- the model's slot -/
theorem s_slot (hR : RF R) (h10 : I 261 10 = nI nb) (h11 : I 261 11 = nI np) (h12 : I 261 12 = nI ns) (hnb : nb ≤ 12) (np5 : np ≤ 5) (ns24 : ns ≤ 24) (wl : WC lt) (wa : ∀ g, g < 24 → WC (ar g)) (ma : ∀ g, g < 24 → RM I (9 + g) (ar g)) (ml : RM I 7 lt) :
    XP S (d + 1) 153 0 (xent [.ref 261, .int x] 2) [] (hh I J R) (fun v h' => h' = hh I J R ∧ ((v = some (.int (-1)) ∧ ∀ s, ¬ SL np nb ns ar lt x s) ∨ ∃ s, v = some (.int (nI s)) ∧ s < 57 ∧ SL np nb ns ar lt x s)) := by
  have m : ∀ k, k < 2000 → ¬ nI k = (-1 : Int32) := fun k hk => nI_m1 hk
  have z7 : nI lt.1 ≤ 0 ↔ lt.1 ≤ 0 := nI_leI (b := 0) (by have := wl.1; omega) (by decide)
  have e2 : (2 : Int32) * nI nb = nI (2 * nb) := pk_mul 2 nb
  have e100 : (100 : Int32) + nI (2 * nb) = nI (100 + 2 * nb) := nI_add 100 _
  have e199 : (199 : Int32) + nI ns = nI (199 + ns) := nI_add 199 ns
  have le1 : ∀ {k : Nat}, k < 2000 → (nI k ≤ nI np - 1 ↔ k < np) := fun {k} hk => by
    by_cases q : np = 0
    · rw [q]
      constructor
      · intro t
        exact absurd (Int32.lt_of_le_of_lt t (show nI 0 - 1 < 0 by decide)) (nI_pos (by omega))
      · intro t; omega
    · rw [show nI np - 1 = nI (np - 1) from pk_sub (b := 1) (by omega), nI_leI (by omega) (by omega)]
      omega
  have inP : (0 ≤ x ∧ x ≤ nI np - 1) ↔ ∃ k, k < np ∧ x = nI k := by
    constructor
    · rintro ⟨h1, h2⟩
      obtain ⟨e, e'⟩ := i32_nat h1
      have hl : x.toNatClampNeg < np := by
        by_cases q : np = 0
        · rw [q] at h2
          exact absurd (Int32.lt_of_le_of_lt h2 (show nI 0 - 1 < 0 by decide)) (Int32.not_lt.mpr h1)
        · rw [show nI np - 1 = nI (np - 1) from pk_sub (b := 1) (by omega), Int32.le_iff_toInt_le, nI_toInt (by omega)] at h2
          omega
      exact ⟨_, hl, e⟩
    · rintro ⟨k, h1, rfl⟩
      exact ⟨nI_pos' (by omega), (le1 (by omega)).mpr h1⟩
  have inS : ((200 : Int32) ≤ x ∧ x ≤ nI (199 + ns)) ↔ ∃ k, k < ns ∧ x = nI (200 + k) := by
    constructor
    · rintro ⟨h1, h2⟩
      obtain ⟨k, k1, k2, e⟩ := i32_range (a := 200) (b := 200 + ns) (by omega) h1 (by rw [show 200 + ns = 199 + ns + 1 by omega]; exact Int32.lt_of_le_of_lt h2 (nI_lt (by omega) (by omega))) (by decide)
      exact ⟨k - 200, by omega, by rw [e, show 200 + (k - 200) = k by omega]⟩
    · rintro ⟨k, h1, rfl⟩
      exact ⟨nI_le (a := 200) (by omega) (by omega), nI_le (by omega) (by omega)⟩
  have tail : (∀ k, k < np → ¬ x = nI k) → ¬ (x = -1 ∧ 0 < lt.1) → (∀ g, g < 2 * nb → x = nI (100 + g) → ¬ 0 < (ar g).1) → XP S (d + 1) 153 76 [some (.ref 261), some (.int x)] [] (hh I J R) (fun v h' => h' = hh I J R ∧ ((v = some (.int (-1)) ∧ ∀ s, ¬ SL np nb ns ar lt x s) ∨ ∃ s, v = some (.int (nI s)) ∧ s < 57 ∧ SL np nb ns ar lt x s)) := by
    intro u1 u2 u3
    refine y_loc (pc' := 77) xD_153 rfl rfl rfl rfl ?_
    refine y_ci (pc' := 80) (200) xD_153 rfl rfl rfl rfl ?_
    refine y_ci (pc' := 83) (199) xD_153 rfl rfl rfl rfl ?_
    refine y_loc (pc' := 84) xD_153 rfl rfl rfl rfl ?_
    refine m_getI (pc' := 87) xD_153 rfl rfl rfl (by first | rfl | assumption) (h12) rfl ?_
    refine y_iadd (pc' := 88) xD_153 rfl (e199) rfl ?_
    refine y_callS xD_153 rfl rfl rfl rfl rfl rfl rfl rfl (s_within) (fun v h' hq => ?_)
    obtain ⟨rfl, rfl⟩ := hq
    refine y_ifeq (pt := 105) (pf := 94) xD_153 rfl rfl rfl (fun h91 => ?_) (fun h91 => ?_)
    · skip
      refine y_ci (pc' := 106) (-1) xD_153 rfl rfl rfl rfl ?_
      refine y_retI xD_153 rfl rfl ?_
      refine ⟨rfl, Or.inl ⟨rfl, fun s q => ?_⟩⟩
      rcases q with ⟨k, h1, e, -⟩ | ⟨e, h1, -⟩ | ⟨k, h1, e, h3, -⟩ | ⟨k, h1, e, -⟩
      · exact u1 k h1 e
      · exact u2 ⟨e, h1⟩
      · exact u3 k h1 e h3
      · exact zB_0.mp h91 (inS.mpr ⟨k, h1, e⟩)
    · skip
      obtain ⟨k, k1, e⟩ := inS.mp (zB_n0.mp h91)
      have e1 : (33 : Int32) + x = nI (33 + (200 + k)) := by rw [e]; exact nI_add 33 _
      have e3 : nI (33 + (200 + k)) - 200 = nI (33 + k) := by rw [show nI (33 + (200 + k)) - 200 = nI (33 + (200 + k) - 200) from pk_sub (b := 200) (by omega), show 33 + (200 + k) - 200 = 33 + k by omega]
      refine y_ci (pc' := 96) (33) xD_153 rfl rfl rfl rfl ?_
      refine y_loc (pc' := 97) xD_153 rfl rfl rfl rfl ?_
      refine y_iadd (pc' := 98) xD_153 rfl (e1) rfl ?_
      refine y_ci (pc' := 101) (200) xD_153 rfl rfl rfl rfl ?_
      refine y_isub (pc' := 102) xD_153 rfl (e3) rfl ?_
      refine y_goto (pc' := 106) xD_153 rfl rfl ?_
      refine y_retI xD_153 rfl rfl ?_
      exact ⟨rfl, Or.inr ⟨33 + k, rfl, by omega, Or.inr (Or.inr (Or.inr ⟨k, k1, e, rfl⟩))⟩⟩
  have tailA : (∀ k, k < np → ¬ x = nI k) → ¬ (x = -1 ∧ 0 < lt.1) → XP S (d + 1) 153 34 [some (.ref 261), some (.int x)] [] (hh I J R) (fun v h' => h' = hh I J R ∧ ((v = some (.int (-1)) ∧ ∀ s, ¬ SL np nb ns ar lt x s) ∨ ∃ s, v = some (.int (nI s)) ∧ s < 57 ∧ SL np nb ns ar lt x s)) := by
    intro u1 u2
    refine y_loc (pc' := 35) xD_153 rfl rfl rfl rfl ?_
    refine y_ci (pc' := 37) (100) xD_153 rfl rfl rfl rfl ?_
    refine y_iclt (pt := 76) (pf := 40) xD_153 rfl rfl rfl (fun h37 => ?_) (fun h37 => ?_)
    · skip
      exact tail u1 u2 (fun g hg e => absurd (show (100 : Int32) ≤ x by rw [e]; exact nI_le (a := 100) (by omega) (by omega)) (Int32.not_le.mpr h37))
    · skip
      refine y_loc (pc' := 41) xD_153 rfl rfl rfl rfl ?_
      refine y_ci (pc' := 43) (100) xD_153 rfl rfl rfl rfl ?_
      refine y_ci (pc' := 44) (2) xD_153 rfl rfl rfl rfl ?_
      refine y_loc (pc' := 45) xD_153 rfl rfl rfl rfl ?_
      refine m_getI (pc' := 48) xD_153 rfl rfl rfl (by first | rfl | assumption) (h10) rfl ?_
      refine y_imul (pc' := 49) xD_153 rfl (e2) rfl ?_
      refine y_iadd (pc' := 50) xD_153 rfl (e100) rfl ?_
      refine y_icge (pt := 76) (pf := 53) xD_153 rfl rfl rfl (fun h50 => ?_) (fun h50 => ?_)
      · skip
        exact tail u1 u2 (fun g hg e => absurd h50 (by rw [e]; exact nI_ge (by omega) (by omega)))
      · skip
        obtain ⟨k, k1, k2, ex⟩ := i32_range (a := 100) (b := 100 + 2 * nb) (by omega) (Int32.not_lt.mp h37) (Int32.not_le.mp h50) (by decide)
        obtain ⟨g, eg⟩ : ∃ g, k = 100 + g := ⟨k - 100, by omega⟩
        rw [eg] at ex
        have g24 : g < 24 := by omega
        have e1 : (9 : Int32) + x = nI (9 + (100 + g)) := by rw [ex]; exact nI_add 9 _
        have e3 : nI (9 + (100 + g)) - 100 = nI (9 + g) := by rw [show nI (9 + (100 + g)) - 100 = nI (9 + (100 + g) - 100) from pk_sub (b := 100) (by omega), show 9 + (100 + g) - 100 = 9 + g by omega]
        have l0 : nI (ar g).1 ≤ 0 ↔ (ar g).1 ≤ 0 := nI_leI (b := 0) (by have := (wa g g24).1; omega) (by decide)
        refine y_loc (pc' := 54) xD_153 rfl rfl rfl rfl ?_
        first | refine m_getR (pc' := 57) xD_153 rfl rfl rfl rfl (hR.1 _ _ _ rfl) rfl ?_ | refine m_getR (pc' := 57) xD_153 rfl rfl (by first | rfl | assumption) rfl (by assumption) rfl ?_
        refine y_ci (pc' := 59) (9) xD_153 rfl rfl rfl rfl ?_
        refine y_loc (pc' := 60) xD_153 rfl rfl rfl rfl ?_
        refine y_iadd (pc' := 61) xD_153 rfl (e1) rfl ?_
        refine y_ci (pc' := 63) (100) xD_153 rfl rfl rfl rfl ?_
        refine y_isub (pc' := 64) xD_153 rfl (e3) rfl ?_
        refine m_iald (pc' := 65) ((9 + g)) xD_153 rfl (by first | rfl | assumption) (by first | assumption | omega) (by first | decide | assumption) (by first | decide | omega) (by first | rfl | assumption) rfl ?_
        rw [(ma g g24).1]
        refine y_ifle (pt := 76) (pf := 68) xD_153 rfl rfl rfl (fun h65 => ?_) (fun h65 => ?_)
        · skip
          refine tail u1 u2 (fun g' hg' e => ?_)
          have := (nI_inj (by omega) (by omega)).mp (ex.symm.trans e)
          rw [show g' = g by omega]
          have := l0.mp h65
          omega
        · skip
          have f1 : 0 < (ar g).1 := Nat.lt_of_not_le (fun q => h65 (l0.mpr q))
          refine y_ci (pc' := 70) (9) xD_153 rfl rfl rfl rfl ?_
          refine y_loc (pc' := 71) xD_153 rfl rfl rfl rfl ?_
          refine y_iadd (pc' := 72) xD_153 rfl (e1) rfl ?_
          refine y_ci (pc' := 74) (100) xD_153 rfl rfl rfl rfl ?_
          refine y_isub (pc' := 75) xD_153 rfl (e3) rfl ?_
          refine y_retI xD_153 rfl rfl ?_
          exact ⟨rfl, Or.inr ⟨9 + g, rfl, by omega, Or.inr (Or.inr (Or.inl ⟨g, by omega, ex, f1, rfl⟩))⟩⟩
  refine y_loc (pc' := 1) xD_153 rfl rfl rfl rfl ?_
  refine y_ci (pc' := 2) (0) xD_153 rfl rfl rfl rfl ?_
  refine y_loc (pc' := 3) xD_153 rfl rfl rfl rfl ?_
  refine m_getI (pc' := 6) xD_153 rfl rfl rfl (by first | rfl | assumption) (h11) rfl ?_
  refine y_ci (pc' := 7) (1) xD_153 rfl rfl rfl rfl ?_
  refine y_op (pc' := 8) xD_153 rfl rfl rfl rfl ?_
  refine y_callS xD_153 rfl rfl rfl rfl rfl rfl rfl rfl (s_within) (fun v h' hq => ?_)
  obtain ⟨rfl, rfl⟩ := hq
  refine y_ifeq (pt := 16) (pf := 14) xD_153 rfl rfl rfl (fun h11' => ?_) (fun h11' => ?_)
  · skip
    have u1 : ∀ k, k < np → ¬ x = nI k := fun k hk e => zB_0.mp h11' (inP.mpr ⟨k, hk, e⟩)
    refine y_loc (pc' := 17) xD_153 rfl rfl rfl rfl ?_
    refine y_ci (pc' := 18) (-1) xD_153 rfl rfl rfl rfl ?_
    refine y_icne (pt := 34) (pf := 21) xD_153 rfl rfl rfl (fun h18 => ?_) (fun h18 => ?_)
    · skip
      exact tailA u1 (fun q => h18 q.1)
    · skip
      refine y_loc (pc' := 22) xD_153 rfl rfl rfl rfl ?_
      first | refine m_getR (pc' := 25) xD_153 rfl rfl rfl rfl (hR.1 _ _ _ rfl) rfl ?_ | refine m_getR (pc' := 25) xD_153 rfl rfl (by first | rfl | assumption) rfl (by assumption) rfl ?_
      refine y_ci (pc' := 27) (7) xD_153 rfl rfl rfl rfl ?_
      refine m_iald (pc' := 28) (7) xD_153 rfl (by first | rfl | assumption) (by first | assumption | omega) (by first | decide | assumption) (by first | decide | omega) (by first | rfl | assumption) rfl ?_
      rw [ml.1]
      refine y_ifle (pt := 34) (pf := 31) xD_153 rfl rfl rfl (fun h28 => ?_) (fun h28 => ?_)
      · skip
        exact tailA u1 (fun q => by have := z7.mp h28; omega)
      · skip
        have l0 : 0 < lt.1 := Nat.lt_of_not_le (fun q => h28 (z7.mpr q))
        refine y_ci (pc' := 33) (7) xD_153 rfl rfl rfl rfl ?_
        refine y_retI xD_153 rfl rfl ?_
        exact ⟨rfl, Or.inr ⟨7, rfl, by decide, Or.inr (Or.inl ⟨h18, l0, rfl⟩)⟩⟩
  · skip
    obtain ⟨k, k1, e⟩ := inP.mp (zB_n0.mp h11')
    refine y_loc (pc' := 15) xD_153 rfl rfl rfl rfl ?_
    refine y_retI xD_153 rfl rfl ?_
    exact ⟨rfl, Or.inr ⟨k, by rw [e], by omega, Or.inl ⟨k, k1, e, rfl⟩⟩⟩
end LK

