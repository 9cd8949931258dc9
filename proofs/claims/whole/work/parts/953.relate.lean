/-! Branches related: the model. -/
section RL
variable {S : XS} {d n nb k y m : Nat} {I : Nat → Nat → Int32} {J : Nat → Nat → Int64} {R : Nat → Nat → Option Nat} {mq aq : Nat → Nat}
/-- relate(k) -/
theorem s_relate (hR : RF R) (h10 : I 261 10 = nI nb) (hnb : nb ≤ 12) (hq : ∀ q, q < nb → I 267 q = nI (mq q) ∧ I 268 q = nI (aq q) ∧ mq q < 2) (hk : k < nb) (em : m = mq k) (ey : y = aq k) (hn : I 265 m = nI n) (hn2 : n ≤ 10) (hy : y < n) (ha : ∀ q, q < nb → mq q = m → aq q < n) {cd : Nat → Nat → Int32} (ecd : cd = cdM I m) (hV : VC cd n) :
    XP S (d + 5) 113 0 (xent [.ref 261, .int (nI k)] 5) [] (hh I J R) (fun v h' => v = none ∧ ∃ (t : Bool) (G : Int32), h' = hh (xu (xu I 270 k (zB t)) 269 k G) J R ∧ (t = true ↔ ms cd n y 0) ∧ ∀ h, h < 32 → (ib G h = true ↔ ib (I 269 k) h = true ∨ (h < 2 * nb ∧ mq (h / 2) = m ∧ ms cd n y (q_lead cd n (aq (h / 2)) (decide (h % 2 = 1))) ∧ (k = h / 2 ∨ ¬ ms cd n y (aq (h / 2)))))) := by
  obtain ⟨e267, e268, hm2⟩ := hq k hk
  rw [← em] at e267 hm2
  rw [← ey] at e268
  have e2 : (2 : Int32) * nI nb = nI (2 * nb) := pk_mul 2 nb
  have hV0 : VC (cdM I m) n := by rw [← ecd]; exact hV
  have must0 := s_must (S := S) (d := d) (I := I) (J := J) (R := R) (m := m) (y := y) hR hm2 hn hn2 hV0 0 (Nat.zero_le _) hy (xm := nI m) (xy := nI y) (xx := 0) rfl rfl rfl
  rw [← ecd] at must0
  have loop : ∀ (t : Bool), (t = true ↔ ms cd n y 0) → ∀ (f h : Nat), h + f = 2 * nb → ∀ (G : Int32) (q4 : Option Value), (∀ g, g < 32 → (ib G g = true ↔ ib (I 269 k) g = true ∨ (g < h ∧ mq (g / 2) = m ∧ ms cd n y (q_lead cd n (aq (g / 2)) (decide (g % 2 = 1))) ∧ (k = g / 2 ∨ ¬ ms cd n y (aq (g / 2)))))) → XP S (d + 5) 113 27 [some (.ref 261), some (.int (nI k)), some (.int (nI m)), some (.int (nI h)), q4] [] (hh (xu (xu I 270 k (zB t)) 269 k G) J R) (fun v h' => v = none ∧ ∃ (t : Bool) (G : Int32), h' = hh (xu (xu I 270 k (zB t)) 269 k G) J R ∧ (t = true ↔ ms cd n y 0) ∧ ∀ h, h < 32 → (ib G h = true ↔ ib (I 269 k) h = true ∨ (h < 2 * nb ∧ mq (h / 2) = m ∧ ms cd n y (q_lead cd n (aq (h / 2)) (decide (h % 2 = 1))) ∧ (k = h / 2 ∨ ¬ ms cd n y (aq (h / 2)))))) := by
    intro t ht f
    induction f with
    | zero =>
      intro h hh2 G q4 hG
      have hh2 : h = 2 * nb := by omega
      subst hh2
      have h10' : xu (xu I 270 k (zB t)) 269 k G 261 10 = nI nb := by rw [xu_ne (by decide), xu_ne (by decide)]; exact h10
      refine y_loc (pc' := 28) xD_113 rfl rfl rfl rfl ?_
      refine y_ci (pc' := 29) (2) xD_113 rfl rfl rfl rfl ?_
      refine y_loc (pc' := 30) xD_113 rfl rfl rfl rfl ?_
      refine m_getI (pc' := 33) xD_113 rfl rfl rfl (by first | rfl | assumption) (h10') rfl ?_
      refine y_imul (pc' := 34) xD_113 rfl (e2) rfl ?_
      refine y_icge (pt := 131) (pf := 37) xD_113 rfl rfl rfl (fun h34 => ?_) (fun h34 => ?_)
      · skip
        refine y_retV xD_113 rfl rfl ?_
        exact ⟨rfl, t, G, rfl, ht, hG⟩
      · skip
        exact absurd (Int32.le_refl _) h34
    | succ f ih =>
      intro h hh2 G q4 hG
      have h24 : h < 24 := by omega
      have q12 : h / 2 < nb := by omega
      obtain ⟨I1, eI1⟩ : ∃ I1, I1 = xu (xu I 270 k (zB t)) 269 k G := ⟨_, rfl⟩
      have x1 : ∀ x, x ≠ 269 → x ≠ 270 → I1 x = I x := fun x a b => by rw [eI1, xu_ne a, xu_ne b]
      have h10' : I1 261 10 = nI nb := by rw [x1 261 (by decide) (by decide)]; exact h10
      have n' : I1 265 m = nI n := by rw [x1 265 (by decide) (by decide)]; exact hn
      have ecd1 : cd = cdM I1 m := by rw [ecd]; exact (cdM_eq (x1 264 (by decide) (by decide))).symm
      have hV1 : VC (cdM I1 m) n := by rw [← ecd1]; exact hV
      obtain ⟨f7, f8, fm⟩ := hq (h / 2) q12
      have g7 : I1 267 (h / 2) = nI (mq (h / 2)) := by rw [x1 267 (by decide) (by decide)]; exact f7
      have g8 : I1 268 (h / 2) = nI (aq (h / 2)) := by rw [x1 268 (by decide) (by decide)]; exact f8
      have g8k : I1 268 k = nI y := by rw [x1 268 (by decide) (by decide)]; exact e268
      have ed : nI h / 2 = nI (h / 2) := pk_div (d := 2) (by omega) (by decide) (by decide)
      have er : nI h - nI h / 2 * 2 = nI (h % 2) := pk_rem (d := 2) (by omega) (by decide) (by decide)
      have emm : nI (mq (h / 2)) = nI m ↔ mq (h / 2) = m := nI_inj (by omega) (by omega)
      have ekq : nI k = nI (h / 2) ↔ k = h / 2 := nI_inj (by omega) (by omega)
      have ed1 : decide (nI (h % 2) = 1) = decide (h % 2 = 1) := by
        have : nI (h % 2) = 1 ↔ h % 2 = 1 := nI_eq (b := 1) (by omega) (by decide)
        rw [decide_eq_decide]; exact this
      rw [← eI1]
      have next : ∀ (G' : Int32) (q4 : Option Value), (∀ g, g < 32 → (ib G' g = true ↔ ib G g = true ∨ (g = h ∧ mq (h / 2) = m ∧ ms cd n y (q_lead cd n (aq (h / 2)) (decide (h % 2 = 1))) ∧ (k = h / 2 ∨ ¬ ms cd n y (aq (h / 2)))))) → XP S (d + 5) 113 125 [some (.ref 261), some (.int (nI k)), some (.int (nI m)), some (.int (nI h)), q4] [] (hh (xu (xu I 270 k (zB t)) 269 k G') J R) (fun v h' => v = none ∧ ∃ (t : Bool) (G : Int32), h' = hh (xu (xu I 270 k (zB t)) 269 k G) J R ∧ (t = true ↔ ms cd n y 0) ∧ ∀ h, h < 32 → (ib G h = true ↔ ib (I 269 k) h = true ∨ (h < 2 * nb ∧ mq (h / 2) = m ∧ ms cd n y (q_lead cd n (aq (h / 2)) (decide (h % 2 = 1))) ∧ (k = h / 2 ∨ ¬ ms cd n y (aq (h / 2)))))) := by
        intro G' q4 hG'
        refine y_inc (pc' := 128) (nI (h + 1)) xD_113 rfl rfl rfl (nI_1 (h)) rfl rfl ?_
        refine y_goto (pc' := 27) xD_113 rfl rfl ?_
        refine ih (h + 1) (by omega) G' q4 (fun g hg => ?_)
        rw [hG' g hg, hG g hg]
        constructor
        · rintro ((q | ⟨a, b⟩) | ⟨a, b⟩)
          · exact Or.inl q
          · exact Or.inr ⟨by omega, b⟩
          · subst a; exact Or.inr ⟨by omega, b⟩
        · rintro (q | ⟨a, b⟩)
          · exact Or.inl (Or.inl q)
          · by_cases e : g = h
            · subst e; exact Or.inr ⟨rfl, b⟩
            · exact Or.inl (Or.inr ⟨by omega, b⟩)
      have no : ¬ (mq (h / 2) = m ∧ ms cd n y (q_lead cd n (aq (h / 2)) (decide (h % 2 = 1))) ∧ (k = h / 2 ∨ ¬ ms cd n y (aq (h / 2)))) → ∀ q4 : Option Value, XP S (d + 5) 113 125 [some (.ref 261), some (.int (nI k)), some (.int (nI m)), some (.int (nI h)), q4] [] (hh I1 J R) (fun v h' => v = none ∧ ∃ (t : Bool) (G : Int32), h' = hh (xu (xu I 270 k (zB t)) 269 k G) J R ∧ (t = true ↔ ms cd n y 0) ∧ ∀ h, h < 32 → (ib G h = true ↔ ib (I 269 k) h = true ∨ (h < 2 * nb ∧ mq (h / 2) = m ∧ ms cd n y (q_lead cd n (aq (h / 2)) (decide (h % 2 = 1))) ∧ (k = h / 2 ∨ ¬ ms cd n y (aq (h / 2)))))) := by
        intro q q4
        rw [eI1]
        exact next G q4 (fun g hg => ⟨Or.inl, fun t => t.elim id (fun t => absurd t.2 q)⟩)
      have yes : (mq (h / 2) = m ∧ ms cd n y (q_lead cd n (aq (h / 2)) (decide (h % 2 = 1))) ∧ (k = h / 2 ∨ ¬ ms cd n y (aq (h / 2)))) → ∀ q4 : Option Value, XP S (d + 5) 113 109 [some (.ref 261), some (.int (nI k)), some (.int (nI m)), some (.int (nI h)), q4] [] (hh I1 J R) (fun v h' => v = none ∧ ∃ (t : Bool) (G : Int32), h' = hh (xu (xu I 270 k (zB t)) 269 k G) J R ∧ (t = true ↔ ms cd n y 0) ∧ ∀ h, h < 32 → (ib G h = true ↔ ib (I 269 k) h = true ∨ (h < 2 * nb ∧ mq (h / 2) = m ∧ ms cd n y (q_lead cd n (aq (h / 2)) (decide (h % 2 = 1))) ∧ (k = h / 2 ∨ ¬ ms cd n y (aq (h / 2)))))) := by
        intro q q4
        have eG : I1 269 k = G := by rw [eI1, xu_ii]
        refine y_loc (pc' := 110) xD_113 rfl rfl rfl rfl ?_
        first | refine m_getR (pc' := 113) xD_113 rfl rfl rfl rfl (hR.1 _ _ _ rfl) rfl ?_ | refine m_getR (pc' := 113) xD_113 rfl rfl (by first | rfl | assumption) rfl (by assumption) rfl ?_
        refine y_loc (pc' := 114) xD_113 rfl rfl rfl rfl ?_
        refine y_loc (pc' := 115) xD_113 rfl rfl rfl rfl ?_
        first | refine m_getR (pc' := 118) xD_113 rfl rfl rfl rfl (hR.1 _ _ _ rfl) rfl ?_ | refine m_getR (pc' := 118) xD_113 rfl rfl (by first | rfl | assumption) rfl (by assumption) rfl ?_
        refine y_loc (pc' := 119) xD_113 rfl rfl rfl rfl ?_
        refine m_iald (pc' := 120) (k) xD_113 rfl (by first | rfl | assumption) (by first | assumption | omega) (by first | decide | assumption) (by first | decide | omega) (by first | rfl | assumption) rfl ?_
        rw [eG]
        refine y_ci (pc' := 121) (1) xD_113 rfl rfl rfl rfl ?_
        refine y_loc (pc' := 122) xD_113 rfl rfl rfl rfl ?_
        refine y_op (pc' := 123) xD_113 rfl rfl rfl rfl ?_
        refine y_op (pc' := 124) xD_113 rfl rfl rfl rfl ?_
        refine m_iast (pc' := 125) (k) xD_113 rfl (by first | rfl | assumption) (by first | assumption | omega) (by first | decide | assumption) (by first | rfl | assumption) rfl ?_
        rw [eI1, xu_xu]
        exact next _ _ (fun g hg => by rw [ib_or, Bool.or_eq_true, ib_shl (by omega) g hg, decide_eq_true_eq]; exact ⟨fun t => t.imp id (fun u => ⟨u, q⟩), fun t => t.imp id (fun u => u.1)⟩)
      refine y_loc (pc' := 28) xD_113 rfl rfl rfl rfl ?_
      refine y_ci (pc' := 29) (2) xD_113 rfl rfl rfl rfl ?_
      refine y_loc (pc' := 30) xD_113 rfl rfl rfl rfl ?_
      refine m_getI (pc' := 33) xD_113 rfl rfl rfl (by first | rfl | assumption) (h10') rfl ?_
      refine y_imul (pc' := 34) xD_113 rfl (e2) rfl ?_
      refine y_icge (pt := 131) (pf := 37) xD_113 rfl rfl rfl (fun h34 => ?_) (fun h34 => ?_)
      · exact absurd h34 (nI_ge (a := h) (b := 2 * nb) (by omega) (by omega))
      · skip
        refine y_loc (pc' := 38) xD_113 rfl rfl rfl rfl ?_
        refine y_ci (pc' := 39) (2) xD_113 rfl rfl rfl rfl ?_
        refine y_i2 (pc' := 40) (v := (nI (h / 2))) xD_113 rfl rfl rfl (ed) rfl ?_
        refine y_loc (pc' := 42) xD_113 rfl rfl rfl rfl ?_
        refine y_loc (pc' := 43) xD_113 rfl rfl rfl rfl ?_
        first | refine m_getR (pc' := 46) xD_113 rfl rfl rfl rfl (hR.1 _ _ _ rfl) rfl ?_ | refine m_getR (pc' := 46) xD_113 rfl rfl (by first | rfl | assumption) rfl (by assumption) rfl ?_
        refine y_loc (pc' := 48) xD_113 rfl rfl rfl rfl ?_
        refine m_iald (pc' := 49) ((h / 2)) xD_113 rfl (by first | rfl | assumption) (by first | assumption | omega) (by first | decide | assumption) (by first | decide | omega) (by first | rfl | assumption) rfl ?_
        rw [g7]
        refine y_loc (pc' := 50) xD_113 rfl rfl rfl rfl ?_
        refine y_icne (pt := 125) (pf := 53) xD_113 rfl rfl rfl (fun h50 => ?_) (fun h50 => ?_)
        · skip
          exact no (fun q => h50 (emm.mpr q.1)) _
        · skip
          have hmq : mq (h / 2) = m := emm.mp h50
          have haq := ha (h / 2) q12 hmq
          have ld := s_lead (S := S) (d := d + 2) (I := I1) (J := J) (R := R) (m := m) hR hm2 n' hn2 (aq (h / 2)) haq (hV1 _ haq) (xm := nI m) (xp := nI (aq (h / 2))) (xo := nI (h % 2)) rfl rfl
          rw [ed1, ← ecd1] at ld
          have ll := q_lead_le (cd := cd) (n := n) (p := aq (h / 2)) (o := decide (h % 2 = 1))
          have mu := s_must (S := S) (d := d) (I := I1) (J := J) (R := R) (m := m) (y := y) hR hm2 n' hn2 hV1 (q_lead cd n (aq (h / 2)) (decide (h % 2 = 1))) ll hy (xm := nI m) (xy := nI y) rfl rfl rfl
          have mu2 := s_must (S := S) (d := d) (I := I1) (J := J) (R := R) (m := m) (y := y) hR hm2 n' hn2 hV1 (aq (h / 2)) (Nat.le_of_lt haq) hy (xm := nI m) (xy := nI y) (xx := nI (aq (h / 2))) rfl rfl rfl
          rw [← ecd1] at mu mu2
          refine y_loc (pc' := 54) xD_113 rfl rfl rfl rfl ?_
          refine y_loc (pc' := 55) xD_113 rfl rfl rfl rfl ?_
          refine y_loc (pc' := 56) xD_113 rfl rfl rfl rfl ?_
          first | refine m_getR (pc' := 59) xD_113 rfl rfl rfl rfl (hR.1 _ _ _ rfl) rfl ?_ | refine m_getR (pc' := 59) xD_113 rfl rfl (by first | rfl | assumption) rfl (by assumption) rfl ?_
          refine y_loc (pc' := 60) xD_113 rfl rfl rfl rfl ?_
          refine m_iald (pc' := 61) (k) xD_113 rfl (by first | rfl | assumption) (by first | assumption | omega) (by first | decide | assumption) (by first | decide | omega) (by first | rfl | assumption) rfl ?_
          rw [g8k]
          refine y_loc (pc' := 62) xD_113 rfl rfl rfl rfl ?_
          refine y_loc (pc' := 63) xD_113 rfl rfl rfl rfl ?_
          refine y_loc (pc' := 64) xD_113 rfl rfl rfl rfl ?_
          first | refine m_getR (pc' := 67) xD_113 rfl rfl rfl rfl (hR.1 _ _ _ rfl) rfl ?_ | refine m_getR (pc' := 67) xD_113 rfl rfl (by first | rfl | assumption) rfl (by assumption) rfl ?_
          refine y_loc (pc' := 69) xD_113 rfl rfl rfl rfl ?_
          refine m_iald (pc' := 70) ((h / 2)) xD_113 rfl (by first | rfl | assumption) (by first | assumption | omega) (by first | decide | assumption) (by first | decide | omega) (by first | rfl | assumption) rfl ?_
          rw [g8]
          refine y_loc (pc' := 71) xD_113 rfl rfl rfl rfl ?_
          refine y_ci (pc' := 72) (2) xD_113 rfl rfl rfl rfl ?_
          refine y_i2 (pc' := 73) (v := (nI (h % 2))) xD_113 rfl rfl rfl (er) rfl ?_
          refine y_callV xD_113 rfl rfl rfl rfl (by first | rfl | assumption) rfl rfl rfl rfl (ld) (fun v h' hq => ?_)
          obtain ⟨rfl, rfl⟩ := hq
          refine y_callV xD_113 rfl rfl rfl rfl (by first | rfl | assumption) rfl rfl rfl rfl (mu) (fun v h' hq => ?_)
          obtain ⟨⟨t1, k1, rfl⟩, rfl⟩ := hq
          refine y_ifeq (pt := 125) (pf := 82) xD_113 rfl rfl rfl (fun h79 => ?_) (fun h79 => ?_)
          · skip
            exact no (fun q => by have := k1.mpr q.2.1; rw [zB_f.mp h79] at this; exact absurd this (by decide)) _
          · skip
            have y1 := k1.mp (by rw [zB_f, Bool.not_eq_false] at h79; exact h79)
            refine y_loc (pc' := 83) xD_113 rfl rfl rfl rfl ?_
            refine y_loc (pc' := 85) xD_113 rfl rfl rfl rfl ?_
            refine y_iceq (pt := 109) (pf := 88) xD_113 rfl rfl rfl (fun h85 => ?_) (fun h85 => ?_)
            · skip
              exact yes ⟨hmq, y1, Or.inl (ekq.mp h85)⟩ _
            · skip
              refine y_loc (pc' := 89) xD_113 rfl rfl rfl rfl ?_
              refine y_loc (pc' := 90) xD_113 rfl rfl rfl rfl ?_
              refine y_loc (pc' := 91) xD_113 rfl rfl rfl rfl ?_
              first | refine m_getR (pc' := 94) xD_113 rfl rfl rfl rfl (hR.1 _ _ _ rfl) rfl ?_ | refine m_getR (pc' := 94) xD_113 rfl rfl (by first | rfl | assumption) rfl (by assumption) rfl ?_
              refine y_loc (pc' := 95) xD_113 rfl rfl rfl rfl ?_
              refine m_iald (pc' := 96) (k) xD_113 rfl (by first | rfl | assumption) (by first | assumption | omega) (by first | decide | assumption) (by first | decide | omega) (by first | rfl | assumption) rfl ?_
              rw [g8k]
              refine y_loc (pc' := 97) xD_113 rfl rfl rfl rfl ?_
              first | refine m_getR (pc' := 100) xD_113 rfl rfl rfl rfl (hR.1 _ _ _ rfl) rfl ?_ | refine m_getR (pc' := 100) xD_113 rfl rfl (by first | rfl | assumption) rfl (by assumption) rfl ?_
              refine y_loc (pc' := 102) xD_113 rfl rfl rfl rfl ?_
              refine m_iald (pc' := 103) ((h / 2)) xD_113 rfl (by first | rfl | assumption) (by first | assumption | omega) (by first | decide | assumption) (by first | decide | omega) (by first | rfl | assumption) rfl ?_
              rw [g8]
              refine y_callV xD_113 rfl rfl rfl rfl (by first | rfl | assumption) rfl rfl rfl rfl (mu2) (fun v h' hq => ?_)
              obtain ⟨⟨t2, k2, rfl⟩, rfl⟩ := hq
              refine y_ifne (pt := 125) (pf := 109) xD_113 rfl rfl rfl (fun h106 => ?_) (fun h106 => ?_)
              · skip
                exact no (fun q => q.2.2.elim (fun u => h85 (ekq.mpr u)) (fun u => u (k2.mp (by rw [zB_f, Bool.not_eq_false] at h106; exact h106)))) _
              · skip
                exact yes ⟨hmq, y1, Or.inr (fun q => by have := k2.mpr q; rw [zB_f.mp h106] at this; exact absurd this (by decide))⟩ _
  refine y_loc (pc' := 1) xD_113 rfl rfl rfl rfl ?_
  first | refine m_getR (pc' := 4) xD_113 rfl rfl rfl rfl (hR.1 _ _ _ rfl) rfl ?_ | refine m_getR (pc' := 4) xD_113 rfl rfl (by first | rfl | assumption) rfl (by assumption) rfl ?_
  refine y_loc (pc' := 5) xD_113 rfl rfl rfl rfl ?_
  refine m_iald (pc' := 6) (k) xD_113 rfl (by first | rfl | assumption) (by first | assumption | omega) (by first | decide | assumption) (by first | decide | omega) (by first | rfl | assumption) rfl ?_
  rw [e267]
  refine y_loc (pc' := 7) xD_113 rfl rfl rfl rfl ?_
  refine y_loc (pc' := 8) xD_113 rfl rfl rfl rfl ?_
  first | refine m_getR (pc' := 11) xD_113 rfl rfl rfl rfl (hR.1 _ _ _ rfl) rfl ?_ | refine m_getR (pc' := 11) xD_113 rfl rfl (by first | rfl | assumption) rfl (by assumption) rfl ?_
  refine y_loc (pc' := 12) xD_113 rfl rfl rfl rfl ?_
  refine y_loc (pc' := 13) xD_113 rfl rfl rfl rfl ?_
  refine y_loc (pc' := 14) xD_113 rfl rfl rfl rfl ?_
  refine y_loc (pc' := 15) xD_113 rfl rfl rfl rfl ?_
  first | refine m_getR (pc' := 18) xD_113 rfl rfl rfl rfl (hR.1 _ _ _ rfl) rfl ?_ | refine m_getR (pc' := 18) xD_113 rfl rfl (by first | rfl | assumption) rfl (by assumption) rfl ?_
  refine y_loc (pc' := 19) xD_113 rfl rfl rfl rfl ?_
  refine m_iald (pc' := 20) (k) xD_113 rfl (by first | rfl | assumption) (by first | assumption | omega) (by first | decide | assumption) (by first | decide | omega) (by first | rfl | assumption) rfl ?_
  rw [e268]
  refine y_ci (pc' := 21) (0) xD_113 rfl rfl rfl rfl ?_
  refine y_callV xD_113 rfl rfl rfl rfl (by first | rfl | assumption) rfl rfl rfl rfl (must0) (fun v h' hq => ?_)
  obtain ⟨⟨t, kt, rfl⟩, rfl⟩ := hq
  refine m_zast (pc' := 25) (k) (zB_or _) xD_113 rfl (by first | rfl | assumption) (by first | assumption | omega) (by first | decide | assumption) (by first | rfl | assumption) rfl ?_
  refine y_ci (pc' := 26) (0) xD_113 rfl rfl rfl rfl ?_
  refine y_loc (pc' := 27) xD_113 rfl rfl rfl rfl ?_
  have := loop t kt (2 * nb) 0 (by omega) (I 269 k) none (fun g hg => ⟨Or.inl, fun q => q.elim id (fun q => absurd q.1 (by omega))⟩)
  rw [xu_same (f := xu I 270 k (zB t)) (by rw [xu_ne (by decide)])] at this
  exact this
end RL

