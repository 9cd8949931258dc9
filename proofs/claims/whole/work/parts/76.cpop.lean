/-! The order of the population: the class. -/
/-- the seven cases, wherever they stand -/
def C7 (R : Nat → Nat → Option Nat) (A : Nat → Nat) : Prop := ∀ i, i < 7 → R 122 i = some (A i) ∧ isCase (A i) ∧ 123 ≤ A i ∧ A i < 151 ∧ ∀ j, j < 7 → A i = A j → i = j
def FA (J : Nat → Nat → Int64) (A : Nat → Nat) (F : Nat → Nat → Int64) (act : Int32) (n : Nat) : Prop := ∀ k, k < n → ∀ g, g < 24 → ib act g = true → J (A k + 3) g = F k g
def SA (I : Nat → Nat → Int32) (A sz : Nat → Nat) (n : Nat) : Prop := ∀ k, k < n → I (A k) 3 = nI (sz k) ∧ sz k ≤ 6
def FB (F : Nat → Nat → Int64) (n : Nat) : Prop := ∀ k, k < n → ∀ g, g < 24 → 0 ≤ (F k g).toInt ∧ (F k g).toInt ≤ 549755813888
/-- field j0 of the first n alone may differ -/
def FrF (j0 : Nat) (A : Nat → Nat) (n : Nat) (I I' : Nat → Nat → Int32) : Prop := (∀ x j, j ≠ j0 → I' x j = I x j) ∧ ∀ x, (∀ k, k < n → x ≠ A k) → I' x = I x
theorem FrF.rfl' {j0 : Nat} {A : Nat → Nat} {n : Nat} {I : Nat → Nat → Int32} : FrF j0 A n I I := ⟨fun _ _ _ => rfl, fun _ _ => rfl⟩
theorem FrF.put {j0 i : Nat} {A : Nat → Nat} {n : Nat} {I I' : Nat → Nat → Int32} {v : Int32} (h : FrF j0 A n I I') (hi : i < n) : FrF j0 A n I (xu I' (A i) j0 v) := by
  refine ⟨fun x j hj => ?_, fun x hx => ?_⟩
  · unfold xu; rw [if_neg (fun q => hj q.2)]; exact h.1 x j hj
  · rw [xu_ne (hx i hi)]; exact h.2 x hx
theorem i64_b {x y : Int64} (hx : 0 ≤ x.toInt ∧ x.toInt ≤ 549755813888) (hy : 0 ≤ y.toInt ∧ y.toInt ≤ 549755813888) : (x - y < 0 ↔ x < y) ∧ (x - y = 0 ↔ x = y) := by
  have e : (x - y).toInt = x.toInt - y.toInt := by
    rw [Int64.toInt_sub]
    simp only [Int.bmod]
    omega
  have z : (0 : Int64).toInt = 0 := rfl
  constructor
  · rw [Int64.lt_iff_toInt_lt, Int64.lt_iff_toInt_lt, e, z]; omega
  · rw [← Int64.toInt_inj, ← Int64.toInt_inj, e, z]; omega
section CP
variable {S : XS} {d n : Nat} {I : Nat → Nat → Int32} {J : Nat → Nat → Int64} {R : Nat → Nat → Option Nat} {A sz : Nat → Nat} {F : Nat → Nat → Int64} {act : Int32}
/-- Population.goalsNearer -/
theorem s_goalsNearer (hR : RF R) {a b o k : Nat} (ha : isCase a) (hb : isCase b) (h1 : ∀ g, g < 24 → ib act g = true → J (a + 3) g = F o g) (h2 : ∀ g, g < 24 → ib act g = true → J (b + 3) g = F k g) :
    XP S (d + 1) 59 0 (xent [.ref a, .ref b, .int act] 5) [] (hh I J R) (rI (nI (bt F act o k)) (hh I J R)) := by
  obtain ⟨ka0, _, _, ka3⟩ := kCase ha
  obtain ⟨kb0, _, _, kb3⟩ := kCase hb
  have ra := (hR.2 a ha).2.2
  have rb := (hR.2 b hb).2.2
  have loop : ∀ (f g : Nat), g + f = 24 → XP S (d + 1) 59 5 [some (.ref a), some (.ref b), some (.int act), some (.int (nI (btn F act o k g))), some (.int (nI g))] [] (hh I J R) (rI (nI (bt F act o k)) (hh I J R)) := by
    intro f
    induction f with
    | zero =>
      intro g hg
      have hg : g = 24 := by omega
      subst hg
      refine y_loc (pc' := 7) xD_59 rfl rfl rfl rfl ?_
      refine y_ci (pc' := 9) (24) xD_59 rfl rfl rfl rfl ?_
      refine y_icge (pt := 48) (pf := 12) xD_59 rfl rfl rfl (fun h9 => ?_) (fun h9 => ?_)
      · skip
        refine y_loc (pc' := 49) xD_59 rfl rfl rfl rfl ?_
        refine y_retI xD_59 rfl rfl ?_
        exact ⟨rfl, rfl⟩
      · skip
        exact absurd (Int32.le_refl _) h9
    | succ f ih =>
      intro g hg
      have g24 : g < 24 := by omega
      have step := ih (g + 1) (by omega)
      simp only [btn] at step
      refine y_loc (pc' := 7) xD_59 rfl rfl rfl rfl ?_
      refine y_ci (pc' := 9) (24) xD_59 rfl rfl rfl rfl ?_
      refine y_icge (pt := 48) (pf := 12) xD_59 rfl rfl rfl (fun h9 => ?_) (fun h9 => ?_)
      · skip
        exact absurd h9 (nI_ge (a := g) (b := 24) (by omega) (by decide))
      · skip
        refine y_loc (pc' := 13) xD_59 rfl rfl rfl rfl ?_
        refine y_loc (pc' := 15) xD_59 rfl rfl rfl rfl ?_
        refine y_callS xD_59 rfl rfl rfl rfl rfl rfl rfl rfl (s_hasGoal) (fun v h' hq => ?_)
        obtain ⟨rfl, rfl⟩ := hq
        refine y_ifeq (pt := 42) (pf := 21) xD_59 rfl rfl rfl (fun h18 => ?_) (fun h18 => ?_)
        · skip
          refine y_inc (pc' := 45) (nI (g + 1)) xD_59 rfl rfl rfl (nI_1 (g)) rfl rfl ?_
          refine y_goto (pc' := 5) xD_59 rfl rfl ?_
          first
          | (have q := Classical.not_not.mp (zB_0.mp h18)
             rw [bit0 g24] at q
             rw [q, if_neg (fun r => absurd r.1 (by decide))] at step
             exact step)
          | (have q := zB_n0.mp h18
             rw [bit0 g24, Bool.not_eq_false] at q
             have r := (lg_cmp_ge _ _).mp h36
             rw [h1 g g24 q, h2 g g24 q] at r
             rw [if_neg (fun t => absurd t.2 (Int64.not_lt.mpr r))] at step
             exact step)
          | (have q := zB_n0.mp h18
             rw [bit0 g24, Bool.not_eq_false] at q
             have r := Int64.not_le.mp (fun r => h36 ((lg_cmp_ge _ _).mpr r))
             rw [h1 g g24 q, h2 g g24 q] at r
             rw [if_pos ⟨q, r⟩] at step
             exact step)
        · skip
          refine y_loc (pc' := 22) xD_59 rfl rfl rfl rfl ?_
          first | refine m_getR (pc' := 25) xD_59 rfl rfl rfl rfl (hR.1 _ _ _ rfl) rfl ?_ | refine m_getR (pc' := 25) xD_59 rfl rfl (by first | rfl | assumption) rfl (by assumption) rfl ?_
          refine y_loc (pc' := 27) xD_59 rfl rfl rfl rfl ?_
          refine m_jald (pc' := 28) (g) xD_59 rfl (by first | rfl | assumption) (by first | assumption | omega) (by first | decide | assumption) (by first | rfl | assumption) rfl ?_
          refine y_loc (pc' := 29) xD_59 rfl rfl rfl rfl ?_
          first | refine m_getR (pc' := 32) xD_59 rfl rfl rfl rfl (hR.1 _ _ _ rfl) rfl ?_ | refine m_getR (pc' := 32) xD_59 rfl rfl (by first | rfl | assumption) rfl (by assumption) rfl ?_
          refine y_loc (pc' := 34) xD_59 rfl rfl rfl rfl ?_
          refine m_jald (pc' := 35) (g) xD_59 rfl (by first | rfl | assumption) (by first | assumption | omega) (by first | decide | assumption) (by first | rfl | assumption) rfl ?_
          refine y_op (pc' := 36) xD_59 rfl rfl rfl rfl ?_
          refine y_ifge (pt := 42) (pf := 39) xD_59 rfl rfl rfl (fun h36 => ?_) (fun h36 => ?_)
          · skip
            refine y_inc (pc' := 45) (nI (g + 1)) xD_59 rfl rfl rfl (nI_1 (g)) rfl rfl ?_
            refine y_goto (pc' := 5) xD_59 rfl rfl ?_
            first
            | (have q := Classical.not_not.mp (zB_0.mp h18)
               rw [bit0 g24] at q
               rw [q, if_neg (fun r => absurd r.1 (by decide))] at step
               exact step)
            | (have q := zB_n0.mp h18
               rw [bit0 g24, Bool.not_eq_false] at q
               have r := (lg_cmp_ge _ _).mp h36
               rw [h1 g g24 q, h2 g g24 q] at r
               rw [if_neg (fun t => absurd t.2 (Int64.not_lt.mpr r))] at step
               exact step)
            | (have q := zB_n0.mp h18
               rw [bit0 g24, Bool.not_eq_false] at q
               have r := Int64.not_le.mp (fun r => h36 ((lg_cmp_ge _ _).mpr r))
               rw [h1 g g24 q, h2 g g24 q] at r
               rw [if_pos ⟨q, r⟩] at step
               exact step)
          · skip
            refine y_inc (pc' := 42) (nI (btn F act o k g + 1)) xD_59 rfl rfl rfl (nI_1 _) rfl rfl ?_
            refine y_inc (pc' := 45) (nI (g + 1)) xD_59 rfl rfl rfl (nI_1 (g)) rfl rfl ?_
            refine y_goto (pc' := 5) xD_59 rfl rfl ?_
            first
            | (have q := Classical.not_not.mp (zB_0.mp h18)
               rw [bit0 g24] at q
               rw [q, if_neg (fun r => absurd r.1 (by decide))] at step
               exact step)
            | (have q := zB_n0.mp h18
               rw [bit0 g24, Bool.not_eq_false] at q
               have r := (lg_cmp_ge _ _).mp h36
               rw [h1 g g24 q, h2 g g24 q] at r
               rw [if_neg (fun t => absurd t.2 (Int64.not_lt.mpr r))] at step
               exact step)
            | (have q := zB_n0.mp h18
               rw [bit0 g24, Bool.not_eq_false] at q
               have r := Int64.not_le.mp (fun r => h36 ((lg_cmp_ge _ _).mpr r))
               rw [h1 g g24 q, h2 g g24 q] at r
               rw [if_pos ⟨q, r⟩] at step
               exact step)
  refine y_ci (pc' := 1) (0) xD_59 rfl rfl rfl rfl ?_
  refine y_loc (pc' := 2) xD_59 rfl rfl rfl rfl ?_
  refine y_ci (pc' := 3) (0) xD_59 rfl rfl rfl rfl ?_
  refine y_loc (pc' := 5) xD_59 rfl rfl rfl rfl ?_
  exact loop 24 0 rfl
/-- Population.preferredFor -/
theorem s_preferredFor (hR : RF R) (h7 : C7 R A) (hn : n ≤ 7) (hn0 : 0 < n) (hF : FA J A F act n) (hB : FB F n) (hS : SA I A sz n) (g : Nat) (hg : g < 24) (hi : ib act g = true) :
    XP S d 57 0 (xent [.ref 121, .int (nI g), .int (nI n)] 7) [] (hh I J R) (rA (A (pf F sz g n)) (hh I J R)) := by
  have p1 : pf F sz g 1 = 0 := by simp only [pf]; split <;> rfl
  have loop : ∀ (f k : Nat), 1 ≤ k → k + f = n → ∀ (q5 q6 : Option Value), XP S d 57 10 [some (.ref 121), some (.int (nI g)), some (.int (nI n)), some (.ref (A (pf F sz g k))), some (.int (nI k)), q5, q6] [] (hh I J R) (rA (A (pf F sz g n)) (hh I J R)) := by
    intro f
    induction f with
    | zero =>
      intro k h1 hk q5 q6
      have hk : k = n := by omega
      subst hk
      refine y_loc (pc' := 12) xD_57 rfl rfl rfl rfl ?_
      refine y_loc (pc' := 13) xD_57 rfl rfl rfl rfl ?_
      refine y_icge (pt := 82) (pf := 16) xD_57 rfl rfl rfl (fun h13 => ?_) (fun h13 => ?_)
      · skip
        refine y_loc (pc' := 83) xD_57 rfl rfl rfl rfl ?_
        refine y_retA xD_57 rfl rfl ?_
        exact ⟨rfl, rfl⟩
      · skip
        exact absurd (Int32.le_refl _) h13
    | succ f ih =>
      intro k h1 hk q5 q6
      have step := ih (k + 1) (by omega) (by omega)
      simp only [pf] at step
      obtain ⟨b, hb⟩ : ∃ b, b = pf F sz g k := ⟨_, rfl⟩
      have bk : b < k := by rw [hb]; exact pf_lt k (by omega)
      rw [← hb] at step ⊢
      obtain ⟨rk, ck, -, -, -⟩ := h7 k (by omega)
      obtain ⟨rb, cb, -, -, -⟩ := h7 b (by omega)
      obtain ⟨kk0, -, -, kk3⟩ := kCase ck
      obtain ⟨kb0, -, -, kb3⟩ := kCase cb
      have rk3 := (hR.2 _ ck).2.2
      have rb3 := (hR.2 _ cb).2.2
      have ek := hF k (by omega) g hg hi
      have eb := hF b (by omega) g hg hi
      have lem := i64_b (hB k (by omega) g hg) (hB b (by omega) g hg)
      have sl : nI (sz b) ≤ nI (sz k) ↔ sz b ≤ sz k := nI_leI (by have := (hS b (by omega)).2; omega) (by have := (hS k (by omega)).2; omega)
      have stepY := fun (q : F k g < F b g ∨ (F k g = F b g ∧ sz k < sz b)) => (show (if F k g < F b g ∨ (F k g = F b g ∧ sz k < sz b) then k else b) = k from if_pos q) ▸ step
      have stepN := fun (q : ¬ (F k g < F b g ∨ (F k g = F b g ∧ sz k < sz b))) => (show (if F k g < F b g ∨ (F k g = F b g ∧ sz k < sz b) then k else b) = b from if_neg q) ▸ step
      have n1 : ¬ lg_cmp (F k g - F b g) 0 < 0 → ¬ lg_cmp (F k g - F b g) 0 = 0 → ¬ (F k g < F b g ∨ (F k g = F b g ∧ sz k < sz b)) := fun h41 h48 t => t.elim (fun t => h41 (lg_lt.mpr (lem.1.mpr t))) (fun t => h48 (lg_eq.mpr (lem.2.mpr t.1)))
      have n2 : ¬ lg_cmp (F k g - F b g) 0 < 0 → nI (sz b) ≤ nI (sz k) → ¬ (F k g < F b g ∨ (F k g = F b g ∧ sz k < sz b)) := fun h41 h65 t => t.elim (fun t => h41 (lg_lt.mpr (lem.1.mpr t))) (fun t => absurd t.2 (Nat.not_lt.mpr (sl.mp h65)))
      refine y_loc (pc' := 12) xD_57 rfl rfl rfl rfl ?_
      refine y_loc (pc' := 13) xD_57 rfl rfl rfl rfl ?_
      refine y_icge (pt := 82) (pf := 16) xD_57 rfl rfl rfl (fun h13 => ?_) (fun h13 => ?_)
      · skip
        exact absurd h13 (nI_ge (a := k) (b := n) (by omega) (by omega))
      · skip
        refine y_loc (pc' := 17) xD_57 rfl rfl rfl rfl ?_
        first | refine m_getR (pc' := 20) xD_57 rfl rfl rfl rfl (hR.1 _ _ _ rfl) rfl ?_ | refine m_getR (pc' := 20) xD_57 rfl rfl (by first | rfl | assumption) rfl (by assumption) rfl ?_
        refine y_loc (pc' := 22) xD_57 rfl rfl rfl rfl ?_
        refine m_aald (pc' := 23) (k) (q := 0) xD_57 rfl (by first | rfl | assumption) (by first | decide | assumption) (by first | assumption | omega) (by first | decide | assumption) (by first | rfl | assumption) rk rfl ?_
        first | refine m_getR (pc' := 26) xD_57 rfl rfl rfl rfl (hR.1 _ _ _ rfl) rfl ?_ | refine m_getR (pc' := 26) xD_57 rfl rfl (by first | rfl | assumption) rfl (by assumption) rfl ?_
        refine y_loc (pc' := 27) xD_57 rfl rfl rfl rfl ?_
        refine m_jald (pc' := 28) (g) xD_57 rfl (by first | rfl | assumption) (by first | assumption | omega) (by first | decide | assumption) (by first | rfl | assumption) rfl ?_
        rw [ek]
        refine y_loc (pc' := 29) xD_57 rfl rfl rfl rfl ?_
        first | refine m_getR (pc' := 32) xD_57 rfl rfl rfl rfl (hR.1 _ _ _ rfl) rfl ?_ | refine m_getR (pc' := 32) xD_57 rfl rfl (by first | rfl | assumption) rfl (by assumption) rfl ?_
        refine y_loc (pc' := 33) xD_57 rfl rfl rfl rfl ?_
        refine m_jald (pc' := 34) (g) xD_57 rfl (by first | rfl | assumption) (by first | assumption | omega) (by first | decide | assumption) (by first | rfl | assumption) rfl ?_
        rw [eb]
        refine y_op (pc' := 35) xD_57 rfl rfl rfl rfl ?_
        refine y_loc (pc' := 37) xD_57 rfl rfl rfl rfl ?_
        refine y_loc (pc' := 39) xD_57 rfl rfl rfl rfl ?_
        refine y_cj (pc' := 40) (0) xD_57 rfl rfl rfl rfl ?_
        refine y_op (pc' := 41) xD_57 rfl rfl rfl rfl ?_
        refine y_iflt (pt := 68) (pf := 44) xD_57 rfl rfl rfl (fun h41 => ?_) (fun h41 => ?_)
        · skip
          refine y_loc (pc' := 69) xD_57 rfl rfl rfl rfl ?_
          first | refine m_getR (pc' := 72) xD_57 rfl rfl rfl rfl (hR.1 _ _ _ rfl) rfl ?_ | refine m_getR (pc' := 72) xD_57 rfl rfl (by first | rfl | assumption) rfl (by assumption) rfl ?_
          refine y_loc (pc' := 74) xD_57 rfl rfl rfl rfl ?_
          refine m_aald (pc' := 75) (k) (q := 0) xD_57 rfl (by first | rfl | assumption) (by first | decide | assumption) (by first | assumption | omega) (by first | decide | assumption) (by first | rfl | assumption) rk rfl ?_
          refine y_loc (pc' := 76) xD_57 rfl rfl rfl rfl ?_
          refine y_inc (pc' := 79) (nI (k + 1)) xD_57 rfl rfl rfl (nI_1 (k)) rfl rfl ?_
          refine y_goto (pc' := 10) xD_57 rfl rfl ?_
          first
          | exact stepY (Or.inl (lem.1.mp (lg_lt.mp h41))) _ _
          | exact stepY (Or.inr ⟨lem.2.mp (lg_eq.mp h48), Nat.lt_of_not_le (fun q => h65 (sl.mpr q))⟩) _ _
          | exact stepN (n2 h41 h65) _ _
          | exact stepN (n1 h41 h48) _ _
        · skip
          refine y_loc (pc' := 46) xD_57 rfl rfl rfl rfl ?_
          refine y_cj (pc' := 47) (0) xD_57 rfl rfl rfl rfl ?_
          refine y_op (pc' := 48) xD_57 rfl rfl rfl rfl ?_
          refine y_ifne (pt := 76) (pf := 51) xD_57 rfl rfl rfl (fun h48 => ?_) (fun h48 => ?_)
          · skip
            refine y_inc (pc' := 79) (nI (k + 1)) xD_57 rfl rfl rfl (nI_1 (k)) rfl rfl ?_
            refine y_goto (pc' := 10) xD_57 rfl rfl ?_
            first
            | exact stepY (Or.inl (lem.1.mp (lg_lt.mp h41))) _ _
            | exact stepY (Or.inr ⟨lem.2.mp (lg_eq.mp h48), Nat.lt_of_not_le (fun q => h65 (sl.mpr q))⟩) _ _
            | exact stepN (n2 h41 h65) _ _
            | exact stepN (n1 h41 h48) _ _
          · skip
            refine y_loc (pc' := 52) xD_57 rfl rfl rfl rfl ?_
            first | refine m_getR (pc' := 55) xD_57 rfl rfl rfl rfl (hR.1 _ _ _ rfl) rfl ?_ | refine m_getR (pc' := 55) xD_57 rfl rfl (by first | rfl | assumption) rfl (by assumption) rfl ?_
            refine y_loc (pc' := 57) xD_57 rfl rfl rfl rfl ?_
            refine m_aald (pc' := 58) (k) (q := 0) xD_57 rfl (by first | rfl | assumption) (by first | decide | assumption) (by first | assumption | omega) (by first | decide | assumption) (by first | rfl | assumption) rk rfl ?_
            refine m_getI (pc' := 61) xD_57 rfl rfl rfl (by first | rfl | assumption) ((hS k (by omega)).1) rfl ?_
            refine y_loc (pc' := 62) xD_57 rfl rfl rfl rfl ?_
            refine m_getI (pc' := 65) xD_57 rfl rfl rfl (by first | rfl | assumption) ((hS b (by omega)).1) rfl ?_
            refine y_icge (pt := 76) (pf := 68) xD_57 rfl rfl rfl (fun h65 => ?_) (fun h65 => ?_)
            · skip
              refine y_inc (pc' := 79) (nI (k + 1)) xD_57 rfl rfl rfl (nI_1 (k)) rfl rfl ?_
              refine y_goto (pc' := 10) xD_57 rfl rfl ?_
              first
              | exact stepY (Or.inl (lem.1.mp (lg_lt.mp h41))) _ _
              | exact stepY (Or.inr ⟨lem.2.mp (lg_eq.mp h48), Nat.lt_of_not_le (fun q => h65 (sl.mpr q))⟩) _ _
              | exact stepN (n2 h41 h65) _ _
              | exact stepN (n1 h41 h48) _ _
            · skip
              refine y_loc (pc' := 69) xD_57 rfl rfl rfl rfl ?_
              first | refine m_getR (pc' := 72) xD_57 rfl rfl rfl rfl (hR.1 _ _ _ rfl) rfl ?_ | refine m_getR (pc' := 72) xD_57 rfl rfl (by first | rfl | assumption) rfl (by assumption) rfl ?_
              refine y_loc (pc' := 74) xD_57 rfl rfl rfl rfl ?_
              refine m_aald (pc' := 75) (k) (q := 0) xD_57 rfl (by first | rfl | assumption) (by first | decide | assumption) (by first | assumption | omega) (by first | decide | assumption) (by first | rfl | assumption) rk rfl ?_
              refine y_loc (pc' := 76) xD_57 rfl rfl rfl rfl ?_
              refine y_inc (pc' := 79) (nI (k + 1)) xD_57 rfl rfl rfl (nI_1 (k)) rfl rfl ?_
              refine y_goto (pc' := 10) xD_57 rfl rfl ?_
              first
              | exact stepY (Or.inl (lem.1.mp (lg_lt.mp h41))) _ _
              | exact stepY (Or.inr ⟨lem.2.mp (lg_eq.mp h48), Nat.lt_of_not_le (fun q => h65 (sl.mpr q))⟩) _ _
              | exact stepN (n2 h41 h65) _ _
              | exact stepN (n1 h41 h48) _ _
  have r0 := (h7 0 (by decide)).1
  refine y_loc (pc' := 1) xD_57 rfl rfl rfl rfl ?_
  first | refine m_getR (pc' := 4) xD_57 rfl rfl rfl rfl (hR.1 _ _ _ rfl) rfl ?_ | refine m_getR (pc' := 4) xD_57 rfl rfl (by first | rfl | assumption) rfl (by assumption) rfl ?_
  refine y_ci (pc' := 5) (0) xD_57 rfl rfl rfl rfl ?_
  refine m_aald (pc' := 6) (0) (q := 0) xD_57 rfl (by first | rfl | assumption) (by first | decide | assumption) (by first | assumption | omega) (by first | decide | assumption) (by first | rfl | assumption) r0 rfl ?_
  refine y_loc (pc' := 7) xD_57 rfl rfl rfl rfl ?_
  refine y_ci (pc' := 8) (1) xD_57 rfl rfl rfl rfl ?_
  refine y_loc (pc' := 10) xD_57 rfl rfl rfl rfl ?_
  rw [← p1]
  exact loop (n - 1) 1 (Nat.le_refl _) (by omega) _ _
/-- Population.isBeaten -/
theorem s_isBeaten (hR : RF R) (h7 : C7 R A) (hn : n ≤ 7) (hF : FA J A F act n) {fr : Nat → Nat} (hfr : ∀ k, k < n → I (A k) 5 = nI (fr k) ∧ fr k ≤ 8) (k f : Nat) (hk : k < n) (hf : f ≤ 7) :
    XP S (d + 2) 58 0 (xent [.ref 121, .ref (A k), .int (nI f), .int (nI n), .int act] 6) [] (hh I J R) (rI (zB (bn F act fr f k n)) (hh I J R)) := by
  obtain ⟨-, ck, -, -, -⟩ := h7 k (by omega)
  have loop : ∀ (m o : Nat), o + m = n → bn F act fr f k o = false → XP S (d + 2) 58 3 [some (.ref 121), some (.ref (A k)), some (.int (nI f)), some (.int (nI n)), some (.int act), some (.int (nI o))] [] (hh I J R) (rI (zB (bn F act fr f k n)) (hh I J R)) := by
    intro m
    induction m with
    | zero =>
      intro o ho h0
      have ho : o = n := by omega
      subst ho
      refine y_loc (pc' := 5) xD_58 rfl rfl rfl rfl ?_
      refine y_loc (pc' := 6) xD_58 rfl rfl rfl rfl ?_
      refine y_icge (pt := 63) (pf := 9) xD_58 rfl rfl rfl (fun h6 => ?_) (fun h6 => ?_)
      · skip
        refine y_ci (pc' := 64) (0) xD_58 rfl rfl rfl rfl ?_
        refine y_retZ xD_58 rfl rfl (by first | decide | assumption) ?_
        rw [h0]
        exact ⟨rfl, rfl⟩
      · skip
        exact absurd (Int32.le_refl _) h6
    | succ m ih =>
      intro o ho h0
      obtain ⟨ro, co, -, -, -⟩ := h7 o (by omega)
      obtain ⟨ko0, -, -, -⟩ := kCase co
      have fo := hfr o (by omega)
      have b1 := bt_le (F := F) (act := act) (o := o) (k := k)
      have b2 := bt_le (F := F) (act := act) (o := k) (k := o)
      have fl : nI (fr o) < nI f ↔ fr o < f := nI_ltI (by omega) (by omega)
      have l0 : nI (bt F act o k) ≤ 0 ↔ bt F act o k ≤ 0 := nI_leI (b := 0) (by omega) (by decide)
      have z0 : nI (bt F act k o) = 0 ↔ bt F act k o = 0 := nI_z (by omega)
      have next : ¬ (f ≤ fr o ∧ 0 < bt F act o k ∧ bt F act k o = 0) → XP S (d + 2) 58 57 [some (.ref 121), some (.ref (A k)), some (.int (nI f)), some (.int (nI n)), some (.int act), some (.int (nI o))] [] (hh I J R) (rI (zB (bn F act fr f k n)) (hh I J R)) := by
        intro q
        refine y_inc (pc' := 60) (nI (o + 1)) xD_58 rfl rfl rfl (nI_1 (o)) rfl rfl ?_
        refine y_goto (pc' := 3) xD_58 rfl rfl ?_
        refine ih (o + 1) (by omega) ?_
        simp only [bn]
        rw [h0, Bool.false_or, ← Bool.not_eq_true, Bool.and_eq_true, Bool.and_eq_true, decide_eq_true_eq, decide_eq_true_eq, decide_eq_true_eq]
        exact fun t => q ⟨t.1.1, t.1.2, t.2⟩
      have up : ∀ m', bn F act fr f k (o + 1) = true → bn F act fr f k (o + 1 + m') = true := by
        intro m'
        induction m' with
        | zero => exact id
        | succ m' ih' => intro q; show (bn F act fr f k (o + 1 + m') || _) = true; rw [ih' q]; rfl
      refine y_loc (pc' := 5) xD_58 rfl rfl rfl rfl ?_
      refine y_loc (pc' := 6) xD_58 rfl rfl rfl rfl ?_
      refine y_icge (pt := 63) (pf := 9) xD_58 rfl rfl rfl (fun h6 => ?_) (fun h6 => ?_)
      · skip
        exact absurd h6 (nI_ge (a := o) (b := n) (by omega) (by omega))
      · skip
        refine y_loc (pc' := 10) xD_58 rfl rfl rfl rfl ?_
        first | refine m_getR (pc' := 13) xD_58 rfl rfl rfl rfl (hR.1 _ _ _ rfl) rfl ?_ | refine m_getR (pc' := 13) xD_58 rfl rfl (by first | rfl | assumption) rfl (by assumption) rfl ?_
        refine y_loc (pc' := 15) xD_58 rfl rfl rfl rfl ?_
        refine m_aald (pc' := 16) (o) (q := 0) xD_58 rfl (by first | rfl | assumption) (by first | decide | assumption) (by first | assumption | omega) (by first | decide | assumption) (by first | rfl | assumption) ro rfl ?_
        refine m_getI (pc' := 19) xD_58 rfl rfl rfl (by first | rfl | assumption) (fo.1) rfl ?_
        refine y_loc (pc' := 20) xD_58 rfl rfl rfl rfl ?_
        refine y_iclt (pt := 57) (pf := 23) xD_58 rfl rfl rfl (fun h20 => ?_) (fun h20 => ?_)
        · skip
          first
          | exact next (fun q => absurd (fl.mp h20) (by omega))
          | exact next (fun q => absurd (l0.mp h36) (by omega))
          | exact next (fun q => h52 (z0.mpr q.2.2))
        · skip
          refine y_loc (pc' := 24) xD_58 rfl rfl rfl rfl ?_
          first | refine m_getR (pc' := 27) xD_58 rfl rfl rfl rfl (hR.1 _ _ _ rfl) rfl ?_ | refine m_getR (pc' := 27) xD_58 rfl rfl (by first | rfl | assumption) rfl (by assumption) rfl ?_
          refine y_loc (pc' := 29) xD_58 rfl rfl rfl rfl ?_
          refine m_aald (pc' := 30) (o) (q := 0) xD_58 rfl (by first | rfl | assumption) (by first | decide | assumption) (by first | assumption | omega) (by first | decide | assumption) (by first | rfl | assumption) ro rfl ?_
          refine y_loc (pc' := 31) xD_58 rfl rfl rfl rfl ?_
          refine y_loc (pc' := 33) xD_58 rfl rfl rfl rfl ?_
          refine y_callS xD_58 rfl rfl rfl rfl rfl rfl rfl rfl (s_goalsNearer (d := d) (F := F) (o := o) (k := k) hR co ck (hF o (by omega)) (hF k hk)) (fun v h' hq => ?_)
          obtain ⟨rfl, rfl⟩ := hq
          refine y_ifle (pt := 57) (pf := 39) xD_58 rfl rfl rfl (fun h36 => ?_) (fun h36 => ?_)
          · skip
            first
            | exact next (fun q => absurd (fl.mp h20) (by omega))
            | exact next (fun q => absurd (l0.mp h36) (by omega))
            | exact next (fun q => h52 (z0.mpr q.2.2))
          · skip
            refine y_loc (pc' := 40) xD_58 rfl rfl rfl rfl ?_
            refine y_loc (pc' := 41) xD_58 rfl rfl rfl rfl ?_
            first | refine m_getR (pc' := 44) xD_58 rfl rfl rfl rfl (hR.1 _ _ _ rfl) rfl ?_ | refine m_getR (pc' := 44) xD_58 rfl rfl (by first | rfl | assumption) rfl (by assumption) rfl ?_
            refine y_loc (pc' := 46) xD_58 rfl rfl rfl rfl ?_
            refine m_aald (pc' := 47) (o) (q := 0) xD_58 rfl (by first | rfl | assumption) (by first | decide | assumption) (by first | assumption | omega) (by first | decide | assumption) (by first | rfl | assumption) ro rfl ?_
            refine y_loc (pc' := 49) xD_58 rfl rfl rfl rfl ?_
            refine y_callS xD_58 rfl rfl rfl rfl rfl rfl rfl rfl (s_goalsNearer (d := d) (F := F) (o := k) (k := o) hR ck co (hF k hk) (hF o (by omega))) (fun v h' hq => ?_)
            obtain ⟨rfl, rfl⟩ := hq
            refine y_ifne (pt := 57) (pf := 55) xD_58 rfl rfl rfl (fun h52 => ?_) (fun h52 => ?_)
            · skip
              first
              | exact next (fun q => absurd (fl.mp h20) (by omega))
              | exact next (fun q => absurd (l0.mp h36) (by omega))
              | exact next (fun q => h52 (z0.mpr q.2.2))
            · skip
              refine y_ci (pc' := 56) (1) xD_58 rfl rfl rfl rfl ?_
              refine y_retZ xD_58 rfl rfl (by first | decide | assumption) ?_
              rw [show n = o + 1 + m by omega, up m (by simp only [bn]; rw [h0, Bool.false_or, Bool.and_eq_true, Bool.and_eq_true, decide_eq_true_eq, decide_eq_true_eq, decide_eq_true_eq]; exact ⟨⟨Nat.le_of_not_lt (fun q => h20 (fl.mpr q)), Nat.lt_of_not_le (fun q => h36 (l0.mpr q))⟩, z0.mp h52⟩)]
              exact ⟨rfl, rfl⟩
  refine y_ci (pc' := 1) (0) xD_58 rfl rfl rfl rfl ?_
  refine y_loc (pc' := 3) xD_58 rfl rfl rfl rfl ?_
  exact loop n 0 (by omega) rfl
end CP

