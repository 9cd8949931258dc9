/-! The order of the population: the model. -/
def FM (J : Nat → Nat → Int64) (F : Nat → Nat → Int64) (act : Int32) (n : Nat) : Prop := ∀ k, k < n → ∀ g, g < 24 → ib act g = true → J 274 (24 * k + g) = F k g
def SM (I : Nat → Nat → Int32) (sz : Nat → Nat) (n : Nat) : Prop := ∀ k, k < n → I 263 k = nI (sz k) ∧ sz k ≤ 6
def e0 (x : Nat) : Nat := if x = 8 then 30 else x
def e1 (f x : Nat) : Nat := if x = 8 then 30 else if x = f then 10 + f else x
def gLb (fr cr sz : Nat → Nat) (a b : Nat) : Bool := decide (fr a < fr b) || (decide (fr a = fr b) && (decide (cr a < cr b) || (decide (cr a = cr b) && (decide (sz a < sz b) || (decide (sz a = sz b) && decide (a < b))))))
theorem gLb_iff {fr cr sz : Nat → Nat} {a b : Nat} : gLb fr cr sz a b = true ↔ gL fr cr sz a b := by
  unfold gLb gL
  simp only [Bool.or_eq_true, Bool.and_eq_true, decide_eq_true_eq]
theorem kMod2 : kq 274 = (101, 168) ∧ kq 275 = (100, 7) ∧ kq 276 = (100, 7) ∧ kq 277 = (100, 24) := by decide
section MP
variable {S : XS} {d n : Nat} {I : Nat → Nat → Int32} {J : Nat → Nat → Int64} {R : Nat → Nat → Option Nat} {sz : Nat → Nat} {F : Nat → Nat → Int64} {act : Int32}
/-- better(k, o, set) -/
theorem s_better (hR : RF R) (hn : n ≤ 7) (hF : FM J F act n) {o k : Nat} (ho : o < n) (hk : k < n) {x1 x2 : Int32} (e1 : x1 = nI o) (e2 : x2 = nI k) :
    XP S (d + 1) 135 0 (xent [.ref 261, .int x1, .int x2, .int act] 6) [] (hh I J R) (rI (nI (bt F act o k)) (hh I J R)) := by
  subst e1; subst e2
  have mo : nI o * 24 = nI (o * 24) := pk_mul o 24
  have mk : nI k * 24 = nI (k * 24) := pk_mul k 24
  have loop : ∀ (f g : Nat), g + f = 24 → XP S (d + 1) 135 6 [some (.ref 261), some (.int (nI o)), some (.int (nI k)), some (.int act), some (.int (nI (btn F act o k g))), some (.int (nI g))] [] (hh I J R) (rI (nI (bt F act o k)) (hh I J R)) := by
    intro f
    induction f with
    | zero =>
      intro g hg
      have hg : g = 24 := by omega
      subst hg
      refine y_loc (pc' := 8) xD_135 rfl rfl rfl rfl ?_
      refine y_ci (pc' := 10) (24) xD_135 rfl rfl rfl rfl ?_
      refine y_icge (pt := 68) (pf := 13) xD_135 rfl rfl rfl (fun h10 => ?_) (fun h10 => ?_)
      · skip
        refine y_loc (pc' := 70) xD_135 rfl rfl rfl rfl ?_
        refine y_retI xD_135 rfl rfl ?_
        exact ⟨rfl, rfl⟩
      · skip
        exact absurd (Int32.le_refl _) h10
    | succ f ih =>
      intro g hg
      have g24 : g < 24 := by omega
      have step := ih (g + 1) (by omega)
      simp only [btn] at step
      have stepY := fun (q : ib act g = true ∧ F o g < F k g) => (show (if ib act g = true ∧ F o g < F k g then btn F act o k g + 1 else btn F act o k g) = _ from if_pos q) ▸ step
      have stepN := fun (q : ¬ (ib act g = true ∧ F o g < F k g)) => (show (if ib act g = true ∧ F o g < F k g then btn F act o k g + 1 else btn F act o k g) = _ from if_neg q) ▸ step
      have b1 := bit1 g24 act
      have ao : nI (o * 24) + nI g = nI (24 * o + g) := by rw [nI_add, Nat.mul_comm]
      have ak : nI (k * 24) + nI g = nI (24 * k + g) := by rw [nI_add, Nat.mul_comm]
      have eo := hF o ho g g24
      have ek := hF k hk g g24
      have n1 : ib act g = true → 0 ≤ lg_cmp (J 274 (24 * o + g)) (J 274 (24 * k + g)) → ¬ (ib act g = true ∧ F o g < F k g) := fun q r t => by
        have r := (lg_cmp_ge _ _).mp r
        rw [eo q, ek q] at r
        exact absurd t.2 (Int64.not_lt.mpr r)
      have y1 : ib act g = true → ¬ 0 ≤ lg_cmp (J 274 (24 * o + g)) (J 274 (24 * k + g)) → (ib act g = true ∧ F o g < F k g) := fun q r => by
        have r := Int64.not_le.mp (fun t => r ((lg_cmp_ge _ _).mpr t))
        rw [eo q, ek q] at r
        exact ⟨q, r⟩
      refine y_loc (pc' := 8) xD_135 rfl rfl rfl rfl ?_
      refine y_ci (pc' := 10) (24) xD_135 rfl rfl rfl rfl ?_
      refine y_icge (pt := 68) (pf := 13) xD_135 rfl rfl rfl (fun h10 => ?_) (fun h10 => ?_)
      · skip
        exact absurd h10 (nI_ge (a := g) (b := 24) (by omega) (by decide))
      · skip
        refine y_loc (pc' := 14) xD_135 rfl rfl rfl rfl ?_
        refine y_loc (pc' := 16) xD_135 rfl rfl rfl rfl ?_
        refine y_op (pc' := 17) xD_135 rfl rfl rfl rfl ?_
        refine y_ci (pc' := 18) (1) xD_135 rfl rfl rfl rfl ?_
        refine y_op (pc' := 19) xD_135 rfl rfl rfl rfl ?_
        refine y_ci (pc' := 20) (1) xD_135 rfl rfl rfl rfl ?_
        refine y_icne (pt := 58) (pf := 23) xD_135 rfl rfl rfl (fun h20 => ?_) (fun h20 => ?_)
        · skip
          refine y_loc (pc' := 60) xD_135 rfl rfl rfl rfl ?_
          refine y_loc (pc' := 62) xD_135 rfl rfl rfl rfl ?_
          refine y_inc (pc' := 65) (nI (g + 1)) xD_135 rfl rfl rfl (nI_1 (g)) rfl rfl ?_
          refine y_goto (pc' := 6) xD_135 rfl rfl ?_
          first
          | exact stepN (fun q => h20 (b1.mpr q.1))
          | exact stepN (n1 (b1.mp h20) h48)
          | exact stepY (y1 (b1.mp h20) h48)
        · skip
          refine y_loc (pc' := 24) xD_135 rfl rfl rfl rfl ?_
          first | refine m_getR (pc' := 27) xD_135 rfl rfl rfl rfl (hR.1 _ _ _ rfl) rfl ?_ | refine m_getR (pc' := 27) xD_135 rfl rfl (by first | rfl | assumption) rfl (by assumption) rfl ?_
          refine y_loc (pc' := 28) xD_135 rfl rfl rfl rfl ?_
          refine y_ci (pc' := 30) (24) xD_135 rfl rfl rfl rfl ?_
          refine y_imul (pc' := 31) xD_135 rfl (mo) rfl ?_
          refine y_loc (pc' := 33) xD_135 rfl rfl rfl rfl ?_
          refine y_iadd (pc' := 34) xD_135 rfl (ao) rfl ?_
          refine m_jald (pc' := 35) ((24 * o + g)) xD_135 rfl (by first | rfl | assumption) (by first | assumption | omega) (by first | decide | assumption) (by first | rfl | assumption) rfl ?_
          refine y_loc (pc' := 36) xD_135 rfl rfl rfl rfl ?_
          first | refine m_getR (pc' := 39) xD_135 rfl rfl rfl rfl (hR.1 _ _ _ rfl) rfl ?_ | refine m_getR (pc' := 39) xD_135 rfl rfl (by first | rfl | assumption) rfl (by assumption) rfl ?_
          refine y_loc (pc' := 40) xD_135 rfl rfl rfl rfl ?_
          refine y_ci (pc' := 42) (24) xD_135 rfl rfl rfl rfl ?_
          refine y_imul (pc' := 43) xD_135 rfl (mk) rfl ?_
          refine y_loc (pc' := 45) xD_135 rfl rfl rfl rfl ?_
          refine y_iadd (pc' := 46) xD_135 rfl (ak) rfl ?_
          refine m_jald (pc' := 47) ((24 * k + g)) xD_135 rfl (by first | rfl | assumption) (by first | assumption | omega) (by first | decide | assumption) (by first | rfl | assumption) rfl ?_
          refine y_op (pc' := 48) xD_135 rfl rfl rfl rfl ?_
          refine y_ifge (pt := 58) (pf := 51) xD_135 rfl rfl rfl (fun h48 => ?_) (fun h48 => ?_)
          · skip
            refine y_loc (pc' := 60) xD_135 rfl rfl rfl rfl ?_
            refine y_loc (pc' := 62) xD_135 rfl rfl rfl rfl ?_
            refine y_inc (pc' := 65) (nI (g + 1)) xD_135 rfl rfl rfl (nI_1 (g)) rfl rfl ?_
            refine y_goto (pc' := 6) xD_135 rfl rfl ?_
            first
            | exact stepN (fun q => h20 (b1.mpr q.1))
            | exact stepN (n1 (b1.mp h20) h48)
            | exact stepY (y1 (b1.mp h20) h48)
          · skip
            refine y_loc (pc' := 53) xD_135 rfl rfl rfl rfl ?_
            refine y_ci (pc' := 54) (1) xD_135 rfl rfl rfl rfl ?_
            refine y_iadd (pc' := 55) xD_135 rfl (nI_1 _) rfl ?_
            refine y_goto (pc' := 60) xD_135 rfl rfl ?_
            refine y_loc (pc' := 62) xD_135 rfl rfl rfl rfl ?_
            refine y_inc (pc' := 65) (nI (g + 1)) xD_135 rfl rfl rfl (nI_1 (g)) rfl rfl ?_
            refine y_goto (pc' := 6) xD_135 rfl rfl ?_
            first
            | exact stepN (fun q => h20 (b1.mpr q.1))
            | exact stepN (n1 (b1.mp h20) h48)
            | exact stepY (y1 (b1.mp h20) h48)
  refine y_ci (pc' := 1) (0) xD_135 rfl rfl rfl rfl ?_
  refine y_loc (pc' := 3) xD_135 rfl rfl rfl rfl ?_
  refine y_ci (pc' := 4) (0) xD_135 rfl rfl rfl rfl ?_
  refine y_loc (pc' := 6) xD_135 rfl rfl rfl rfl ?_
  exact loop 24 0 rfl
/-- prefer(n, g) -/
theorem s_prefer (hR : RF R) (hn : n ≤ 7) (hn0 : 0 < n) (hF : FM J F act n) (hS : SM I sz n) (g : Nat) (hg : g < 24) (hi : ib act g = true) :
    XP S d 133 0 (xent [.ref 261, .int (nI n), .int (nI g)] 9) [] (hh I J R) (rV (hh (xu I 275 (pf F sz g n) 0) J R)) := by
  have p1 : pf F sz g 1 = 0 := by simp only [pf]; split <;> rfl
  have pn := pf_lt (F := F) (sz := sz) (g := g) n hn0
  have loop : ∀ (f k : Nat), 1 ≤ k → k + f = n → ∀ (q5 q6 q7 q8 : Option Value), XP S d 133 5 [some (.ref 261), some (.int (nI n)), some (.int (nI g)), some (.int (nI (pf F sz g k))), some (.int (nI k)), q5, q6, q7, q8] [] (hh I J R) (rV (hh (xu I 275 (pf F sz g n) 0) J R)) := by
    intro f
    induction f with
    | zero =>
      intro k h1 hk q5 q6 q7 q8
      have hk : k = n := by omega
      subst hk
      refine y_loc (pc' := 7) xD_133 rfl rfl rfl rfl ?_
      refine y_loc (pc' := 8) xD_133 rfl rfl rfl rfl ?_
      refine y_icge (pt := 83) (pf := 11) xD_133 rfl rfl rfl (fun h8 => ?_) (fun h8 => ?_)
      · skip
        refine y_loc (pc' := 84) xD_133 rfl rfl rfl rfl ?_
        first | refine m_getR (pc' := 87) xD_133 rfl rfl rfl rfl (hR.1 _ _ _ rfl) rfl ?_ | refine m_getR (pc' := 87) xD_133 rfl rfl (by first | rfl | assumption) rfl (by assumption) rfl ?_
        refine y_loc (pc' := 88) xD_133 rfl rfl rfl rfl ?_
        refine y_ci (pc' := 89) (0) xD_133 rfl rfl rfl rfl ?_
        refine m_iast (pc' := 90) ((pf F sz g k)) xD_133 rfl (by first | rfl | assumption) (by first | assumption | omega) (by first | decide | assumption) (by first | rfl | assumption) rfl ?_
        refine y_retV xD_133 rfl rfl ?_
        exact ⟨rfl, rfl⟩
      · skip
        exact absurd (Int32.le_refl _) h8
    | succ f ih =>
      intro k h1 hk q5 q6 q7 q8
      have step := ih (k + 1) (by omega) (by omega)
      simp only [pf] at step
      obtain ⟨b, hb⟩ : ∃ b, b = pf F sz g k := ⟨_, rfl⟩
      have bk : b < k := by rw [hb]; exact pf_lt k (by omega)
      rw [← hb] at step ⊢
      have stepY := fun (q : F k g < F b g ∨ (F k g = F b g ∧ sz k < sz b)) => (show (if F k g < F b g ∨ (F k g = F b g ∧ sz k < sz b) then k else b) = k from if_pos q) ▸ step
      have stepN := fun (q : ¬ (F k g < F b g ∨ (F k g = F b g ∧ sz k < sz b))) => (show (if F k g < F b g ∨ (F k g = F b g ∧ sz k < sz b) then k else b) = b from if_neg q) ▸ step
      have ek := hF k (by omega) g hg hi
      have eb := hF b (by omega) g hg hi
      have mk : nI k * 24 = nI (k * 24) := pk_mul k 24
      have mb : nI b * 24 = nI (b * 24) := pk_mul b 24
      have ak : nI (k * 24) + nI g = nI (24 * k + g) := by rw [nI_add, Nat.mul_comm]
      have ab : nI (b * 24) + nI g = nI (24 * b + g) := by rw [nI_add, Nat.mul_comm]
      have sl : nI (sz b) ≤ nI (sz k) ↔ sz b ≤ sz k := nI_leI (by have := (hS b (by omega)).2; omega) (by have := (hS k (by omega)).2; omega)
      have n1 : ¬ lg_cmp (F k g) (F b g) < 0 → ¬ lg_cmp (F k g) (F b g) = 0 → ¬ (F k g < F b g ∨ (F k g = F b g ∧ sz k < sz b)) := fun h41 h48 t => t.elim (fun t => h41 (lg_lt.mpr t)) (fun t => h48 (lg_eq.mpr t.1))
      have n2 : ¬ lg_cmp (F k g) (F b g) < 0 → nI (sz b) ≤ nI (sz k) → ¬ (F k g < F b g ∨ (F k g = F b g ∧ sz k < sz b)) := fun h41 h65 t => t.elim (fun t => h41 (lg_lt.mpr t)) (fun t => absurd t.2 (Nat.not_lt.mpr (sl.mp h65)))
      refine y_loc (pc' := 7) xD_133 rfl rfl rfl rfl ?_
      refine y_loc (pc' := 8) xD_133 rfl rfl rfl rfl ?_
      refine y_icge (pt := 83) (pf := 11) xD_133 rfl rfl rfl (fun h8 => ?_) (fun h8 => ?_)
      · skip
        exact absurd h8 (nI_ge (a := k) (b := n) (by omega) (by omega))
      · skip
        refine y_loc (pc' := 12) xD_133 rfl rfl rfl rfl ?_
        first | refine m_getR (pc' := 15) xD_133 rfl rfl rfl rfl (hR.1 _ _ _ rfl) rfl ?_ | refine m_getR (pc' := 15) xD_133 rfl rfl (by first | rfl | assumption) rfl (by assumption) rfl ?_
        refine y_loc (pc' := 17) xD_133 rfl rfl rfl rfl ?_
        refine y_ci (pc' := 19) (24) xD_133 rfl rfl rfl rfl ?_
        refine y_imul (pc' := 20) xD_133 rfl (mk) rfl ?_
        refine y_loc (pc' := 21) xD_133 rfl rfl rfl rfl ?_
        refine y_iadd (pc' := 22) xD_133 rfl (ak) rfl ?_
        refine m_jald (pc' := 23) ((24 * k + g)) xD_133 rfl (by first | rfl | assumption) (by first | assumption | omega) (by first | decide | assumption) (by first | rfl | assumption) rfl ?_
        rw [ek]
        refine y_loc (pc' := 25) xD_133 rfl rfl rfl rfl ?_
        refine y_loc (pc' := 26) xD_133 rfl rfl rfl rfl ?_
        first | refine m_getR (pc' := 29) xD_133 rfl rfl rfl rfl (hR.1 _ _ _ rfl) rfl ?_ | refine m_getR (pc' := 29) xD_133 rfl rfl (by first | rfl | assumption) rfl (by assumption) rfl ?_
        refine y_loc (pc' := 30) xD_133 rfl rfl rfl rfl ?_
        refine y_ci (pc' := 32) (24) xD_133 rfl rfl rfl rfl ?_
        refine y_imul (pc' := 33) xD_133 rfl (mb) rfl ?_
        refine y_loc (pc' := 34) xD_133 rfl rfl rfl rfl ?_
        refine y_iadd (pc' := 35) xD_133 rfl (ab) rfl ?_
        refine m_jald (pc' := 36) ((24 * b + g)) xD_133 rfl (by first | rfl | assumption) (by first | assumption | omega) (by first | decide | assumption) (by first | rfl | assumption) rfl ?_
        rw [eb]
        refine y_loc (pc' := 38) xD_133 rfl rfl rfl rfl ?_
        refine y_loc (pc' := 40) xD_133 rfl rfl rfl rfl ?_
        refine y_loc (pc' := 42) xD_133 rfl rfl rfl rfl ?_
        refine y_op (pc' := 43) xD_133 rfl rfl rfl rfl ?_
        refine y_iflt (pt := 70) (pf := 46) xD_133 rfl rfl rfl (fun h43 => ?_) (fun h43 => ?_)
        · skip
          refine y_loc (pc' := 72) xD_133 rfl rfl rfl rfl ?_
          refine y_goto (pc' := 76) xD_133 rfl rfl ?_
          refine y_loc (pc' := 77) xD_133 rfl rfl rfl rfl ?_
          refine y_inc (pc' := 80) (nI (k + 1)) xD_133 rfl rfl rfl (nI_1 (k)) rfl rfl ?_
          refine y_goto (pc' := 5) xD_133 rfl rfl ?_
          first
          | exact stepY (Or.inl (lg_lt.mp h43)) _ _ _ _
          | exact stepY (Or.inr ⟨lg_eq.mp h51, Nat.lt_of_not_le (fun q => h67 (sl.mpr q))⟩) _ _ _ _
          | exact stepN (n2 h43 h67) _ _ _ _
          | exact stepN (n1 h43 h51) _ _ _ _
        · skip
          refine y_loc (pc' := 48) xD_133 rfl rfl rfl rfl ?_
          refine y_loc (pc' := 50) xD_133 rfl rfl rfl rfl ?_
          refine y_op (pc' := 51) xD_133 rfl rfl rfl rfl ?_
          refine y_ifne (pt := 75) (pf := 54) xD_133 rfl rfl rfl (fun h51 => ?_) (fun h51 => ?_)
          · skip
            refine y_loc (pc' := 76) xD_133 rfl rfl rfl rfl ?_
            refine y_loc (pc' := 77) xD_133 rfl rfl rfl rfl ?_
            refine y_inc (pc' := 80) (nI (k + 1)) xD_133 rfl rfl rfl (nI_1 (k)) rfl rfl ?_
            refine y_goto (pc' := 5) xD_133 rfl rfl ?_
            first
            | exact stepY (Or.inl (lg_lt.mp h43)) _ _ _ _
            | exact stepY (Or.inr ⟨lg_eq.mp h51, Nat.lt_of_not_le (fun q => h67 (sl.mpr q))⟩) _ _ _ _
            | exact stepN (n2 h43 h67) _ _ _ _
            | exact stepN (n1 h43 h51) _ _ _ _
          · skip
            refine y_loc (pc' := 55) xD_133 rfl rfl rfl rfl ?_
            first | refine m_getR (pc' := 58) xD_133 rfl rfl rfl rfl (hR.1 _ _ _ rfl) rfl ?_ | refine m_getR (pc' := 58) xD_133 rfl rfl (by first | rfl | assumption) rfl (by assumption) rfl ?_
            refine y_loc (pc' := 60) xD_133 rfl rfl rfl rfl ?_
            refine m_iald (pc' := 61) (k) xD_133 rfl (by first | rfl | assumption) (by first | assumption | omega) (by first | decide | assumption) (by first | decide | omega) (by first | rfl | assumption) rfl ?_
            rw [(hS k (by omega)).1]
            refine y_loc (pc' := 62) xD_133 rfl rfl rfl rfl ?_
            first | refine m_getR (pc' := 65) xD_133 rfl rfl rfl rfl (hR.1 _ _ _ rfl) rfl ?_ | refine m_getR (pc' := 65) xD_133 rfl rfl (by first | rfl | assumption) rfl (by assumption) rfl ?_
            refine y_loc (pc' := 66) xD_133 rfl rfl rfl rfl ?_
            refine m_iald (pc' := 67) (b) xD_133 rfl (by first | rfl | assumption) (by first | assumption | omega) (by first | decide | assumption) (by first | decide | omega) (by first | rfl | assumption) rfl ?_
            rw [(hS b (by omega)).1]
            refine y_icge (pt := 75) (pf := 70) xD_133 rfl rfl rfl (fun h67 => ?_) (fun h67 => ?_)
            · skip
              refine y_loc (pc' := 76) xD_133 rfl rfl rfl rfl ?_
              refine y_loc (pc' := 77) xD_133 rfl rfl rfl rfl ?_
              refine y_inc (pc' := 80) (nI (k + 1)) xD_133 rfl rfl rfl (nI_1 (k)) rfl rfl ?_
              refine y_goto (pc' := 5) xD_133 rfl rfl ?_
              first
              | exact stepY (Or.inl (lg_lt.mp h43)) _ _ _ _
              | exact stepY (Or.inr ⟨lg_eq.mp h51, Nat.lt_of_not_le (fun q => h67 (sl.mpr q))⟩) _ _ _ _
              | exact stepN (n2 h43 h67) _ _ _ _
              | exact stepN (n1 h43 h51) _ _ _ _
            · skip
              refine y_loc (pc' := 72) xD_133 rfl rfl rfl rfl ?_
              refine y_goto (pc' := 76) xD_133 rfl rfl ?_
              refine y_loc (pc' := 77) xD_133 rfl rfl rfl rfl ?_
              refine y_inc (pc' := 80) (nI (k + 1)) xD_133 rfl rfl rfl (nI_1 (k)) rfl rfl ?_
              refine y_goto (pc' := 5) xD_133 rfl rfl ?_
              first
              | exact stepY (Or.inl (lg_lt.mp h43)) _ _ _ _
              | exact stepY (Or.inr ⟨lg_eq.mp h51, Nat.lt_of_not_le (fun q => h67 (sl.mpr q))⟩) _ _ _ _
              | exact stepN (n2 h43 h67) _ _ _ _
              | exact stepN (n1 h43 h51) _ _ _ _
  refine y_ci (pc' := 1) (0) xD_133 rfl rfl rfl rfl ?_
  refine y_loc (pc' := 2) xD_133 rfl rfl rfl rfl ?_
  refine y_ci (pc' := 3) (1) xD_133 rfl rfl rfl rfl ?_
  refine y_loc (pc' := 5) xD_133 rfl rfl rfl rfl ?_
  have := loop (n - 1) 1 (Nat.le_refl _) (by omega) none none none none
  rw [p1] at this
  exact this
/-- before(k, o) -/
theorem s_before (hR : RF R) {i j : Nat} {fr cr : Nat → Nat} (hi : i < 7) (hj : j < 7) (f1 : I 275 i = nI (e0 (fr i))) (f2 : I 275 j = nI (e0 (fr j))) (c1 : I 276 i = nI (cr i)) (c2 : I 276 j = nI (cr j)) (s1 : I 263 i = nI (sz i)) (s2 : I 263 j = nI (sz j)) (hf1 : fr i ≤ 8) (hf2 : fr j ≤ 8) (hc1 : cr i ≤ 24) (hc2 : cr j ≤ 24) (hs1 : sz i ≤ 6) (hs2 : sz j ≤ 6) :
    XP S d 137 0 (xent [.ref 261, .int (nI i), .int (nI j)] 3) [] (hh I J R) (rI (zB (gLb fr cr sz i j)) (hh I J R)) := by
  have g1 : e0 (fr i) ≤ 30 := by unfold e0; split <;> omega
  have g2 : e0 (fr j) ≤ 30 := by unfold e0; split <;> omega
  have ef : nI (e0 (fr i)) = nI (e0 (fr j)) ↔ fr i = fr j := by
    rw [nI_inj (by omega) (by omega)]
    unfold e0; constructor
    · intro q; split at q <;> split at q <;> omega
    · intro q; rw [q]
  have ec : nI (cr i) = nI (cr j) ↔ cr i = cr j := nI_inj (by omega) (by omega)
  have es : nI (sz i) = nI (sz j) ↔ sz i = sz j := nI_inj (by omega) (by omega)
  have lf : nI (e0 (fr j)) ≤ nI (e0 (fr i)) ↔ fr j ≤ fr i := by
    rw [nI_leI (by omega) (by omega)]
    unfold e0; constructor
    · intro q; split at q <;> split at q <;> omega
    · intro q; split <;> split <;> omega
  have lc : nI (cr j) ≤ nI (cr i) ↔ cr j ≤ cr i := nI_leI (by omega) (by omega)
  have ls : nI (sz j) ≤ nI (sz i) ↔ sz j ≤ sz i := nI_leI (by omega) (by omega)
  have li : nI j ≤ nI i ↔ j ≤ i := nI_leI (by omega) (by omega)
  have yes : gL fr cr sz i j → rI (zB (gLb fr cr sz i j)) (hh I J R) (some (.int 1)) (hh I J R) := fun q => by rw [gLb_iff.mpr q]; exact ⟨rfl, rfl⟩
  have no : ¬ gL fr cr sz i j → rI (zB (gLb fr cr sz i j)) (hh I J R) (some (.int 0)) (hh I J R) := fun q => by rw [show gLb fr cr sz i j = false from Bool.not_eq_true _ ▸ (fun r => q (gLb_iff.mp r))]; exact ⟨rfl, rfl⟩
  refine y_loc (pc' := 1) xD_137 rfl rfl rfl rfl ?_
  first | refine m_getR (pc' := 4) xD_137 rfl rfl rfl rfl (hR.1 _ _ _ rfl) rfl ?_ | refine m_getR (pc' := 4) xD_137 rfl rfl (by first | rfl | assumption) rfl (by assumption) rfl ?_
  refine y_loc (pc' := 5) xD_137 rfl rfl rfl rfl ?_
  refine m_iald (pc' := 6) (i) xD_137 rfl (by first | rfl | assumption) (by first | assumption | omega) (by first | decide | assumption) (by first | decide | omega) (by first | rfl | assumption) rfl ?_
  rw [f1]
  refine y_loc (pc' := 7) xD_137 rfl rfl rfl rfl ?_
  first | refine m_getR (pc' := 10) xD_137 rfl rfl rfl rfl (hR.1 _ _ _ rfl) rfl ?_ | refine m_getR (pc' := 10) xD_137 rfl rfl (by first | rfl | assumption) rfl (by assumption) rfl ?_
  refine y_loc (pc' := 11) xD_137 rfl rfl rfl rfl ?_
  refine m_iald (pc' := 12) (j) xD_137 rfl (by first | rfl | assumption) (by first | assumption | omega) (by first | decide | assumption) (by first | decide | omega) (by first | rfl | assumption) rfl ?_
  rw [f2]
  refine y_iceq (pt := 36) (pf := 15) xD_137 rfl rfl rfl (fun h12 => ?_) (fun h12 => ?_)
  · skip
    refine y_loc (pc' := 37) xD_137 rfl rfl rfl rfl ?_
    first | refine m_getR (pc' := 40) xD_137 rfl rfl rfl rfl (hR.1 _ _ _ rfl) rfl ?_ | refine m_getR (pc' := 40) xD_137 rfl rfl (by first | rfl | assumption) rfl (by assumption) rfl ?_
    refine y_loc (pc' := 41) xD_137 rfl rfl rfl rfl ?_
    refine m_iald (pc' := 42) (i) xD_137 rfl (by first | rfl | assumption) (by first | assumption | omega) (by first | decide | assumption) (by first | decide | omega) (by first | rfl | assumption) rfl ?_
    rw [c1]
    refine y_loc (pc' := 43) xD_137 rfl rfl rfl rfl ?_
    first | refine m_getR (pc' := 46) xD_137 rfl rfl rfl rfl (hR.1 _ _ _ rfl) rfl ?_ | refine m_getR (pc' := 46) xD_137 rfl rfl (by first | rfl | assumption) rfl (by assumption) rfl ?_
    refine y_loc (pc' := 47) xD_137 rfl rfl rfl rfl ?_
    refine m_iald (pc' := 48) (j) xD_137 rfl (by first | rfl | assumption) (by first | assumption | omega) (by first | decide | assumption) (by first | decide | omega) (by first | rfl | assumption) rfl ?_
    rw [c2]
    refine y_iceq (pt := 72) (pf := 51) xD_137 rfl rfl rfl (fun h48 => ?_) (fun h48 => ?_)
    · skip
      refine y_loc (pc' := 73) xD_137 rfl rfl rfl rfl ?_
      first | refine m_getR (pc' := 76) xD_137 rfl rfl rfl rfl (hR.1 _ _ _ rfl) rfl ?_ | refine m_getR (pc' := 76) xD_137 rfl rfl (by first | rfl | assumption) rfl (by assumption) rfl ?_
      refine y_loc (pc' := 77) xD_137 rfl rfl rfl rfl ?_
      refine m_iald (pc' := 78) (i) xD_137 rfl (by first | rfl | assumption) (by first | assumption | omega) (by first | decide | assumption) (by first | decide | omega) (by first | rfl | assumption) rfl ?_
      rw [s1]
      refine y_loc (pc' := 79) xD_137 rfl rfl rfl rfl ?_
      first | refine m_getR (pc' := 82) xD_137 rfl rfl rfl rfl (hR.1 _ _ _ rfl) rfl ?_ | refine m_getR (pc' := 82) xD_137 rfl rfl (by first | rfl | assumption) rfl (by assumption) rfl ?_
      refine y_loc (pc' := 83) xD_137 rfl rfl rfl rfl ?_
      refine m_iald (pc' := 84) (j) xD_137 rfl (by first | rfl | assumption) (by first | assumption | omega) (by first | decide | assumption) (by first | decide | omega) (by first | rfl | assumption) rfl ?_
      rw [s2]
      refine y_iceq (pt := 110) (pf := 87) xD_137 rfl rfl rfl (fun h84 => ?_) (fun h84 => ?_)
      · skip
        refine y_loc (pc' := 111) xD_137 rfl rfl rfl rfl ?_
        refine y_loc (pc' := 112) xD_137 rfl rfl rfl rfl ?_
        refine y_icge (pt := 119) (pf := 115) xD_137 rfl rfl rfl (fun h112 => ?_) (fun h112 => ?_)
        · skip
          refine y_ci (pc' := 120) (0) xD_137 rfl rfl rfl rfl ?_
          refine y_retZ xD_137 rfl rfl (by first | decide | assumption) ?_
          rw [ef] at h12
          rw [ec] at h48
          rw [es] at h84
          first | (rw [ls] at h99; first | exact yes (by unfold gL; omega) | exact no (by unfold gL; omega)) | (rw [li] at h112; first | exact yes (by unfold gL; omega) | exact no (by unfold gL; omega))
        · skip
          refine y_ci (pc' := 116) (1) xD_137 rfl rfl rfl rfl ?_
          refine y_goto (pc' := 120) xD_137 rfl rfl ?_
          refine y_retZ xD_137 rfl rfl (by first | decide | assumption) ?_
          rw [ef] at h12
          rw [ec] at h48
          rw [es] at h84
          first | (rw [ls] at h99; first | exact yes (by unfold gL; omega) | exact no (by unfold gL; omega)) | (rw [li] at h112; first | exact yes (by unfold gL; omega) | exact no (by unfold gL; omega))
      · skip
        refine y_loc (pc' := 88) xD_137 rfl rfl rfl rfl ?_
        first | refine m_getR (pc' := 91) xD_137 rfl rfl rfl rfl (hR.1 _ _ _ rfl) rfl ?_ | refine m_getR (pc' := 91) xD_137 rfl rfl (by first | rfl | assumption) rfl (by assumption) rfl ?_
        refine y_loc (pc' := 92) xD_137 rfl rfl rfl rfl ?_
        refine m_iald (pc' := 93) (i) xD_137 rfl (by first | rfl | assumption) (by first | assumption | omega) (by first | decide | assumption) (by first | decide | omega) (by first | rfl | assumption) rfl ?_
        rw [s1]
        refine y_loc (pc' := 94) xD_137 rfl rfl rfl rfl ?_
        first | refine m_getR (pc' := 97) xD_137 rfl rfl rfl rfl (hR.1 _ _ _ rfl) rfl ?_ | refine m_getR (pc' := 97) xD_137 rfl rfl (by first | rfl | assumption) rfl (by assumption) rfl ?_
        refine y_loc (pc' := 98) xD_137 rfl rfl rfl rfl ?_
        refine m_iald (pc' := 99) (j) xD_137 rfl (by first | rfl | assumption) (by first | assumption | omega) (by first | decide | assumption) (by first | decide | omega) (by first | rfl | assumption) rfl ?_
        rw [s2]
        refine y_icge (pt := 106) (pf := 102) xD_137 rfl rfl rfl (fun h99 => ?_) (fun h99 => ?_)
        · skip
          refine y_ci (pc' := 107) (0) xD_137 rfl rfl rfl rfl ?_
          refine y_goto (pc' := 120) xD_137 rfl rfl ?_
          refine y_retZ xD_137 rfl rfl (by first | decide | assumption) ?_
          rw [ef] at h12
          rw [ec] at h48
          rw [es] at h84
          first | (rw [ls] at h99; first | exact yes (by unfold gL; omega) | exact no (by unfold gL; omega)) | (rw [li] at h112; first | exact yes (by unfold gL; omega) | exact no (by unfold gL; omega))
        · skip
          refine y_ci (pc' := 103) (1) xD_137 rfl rfl rfl rfl ?_
          refine y_goto (pc' := 120) xD_137 rfl rfl ?_
          refine y_retZ xD_137 rfl rfl (by first | decide | assumption) ?_
          rw [ef] at h12
          rw [ec] at h48
          rw [es] at h84
          first | (rw [ls] at h99; first | exact yes (by unfold gL; omega) | exact no (by unfold gL; omega)) | (rw [li] at h112; first | exact yes (by unfold gL; omega) | exact no (by unfold gL; omega))
    · skip
      refine y_loc (pc' := 52) xD_137 rfl rfl rfl rfl ?_
      first | refine m_getR (pc' := 55) xD_137 rfl rfl rfl rfl (hR.1 _ _ _ rfl) rfl ?_ | refine m_getR (pc' := 55) xD_137 rfl rfl (by first | rfl | assumption) rfl (by assumption) rfl ?_
      refine y_loc (pc' := 56) xD_137 rfl rfl rfl rfl ?_
      refine m_iald (pc' := 57) (i) xD_137 rfl (by first | rfl | assumption) (by first | assumption | omega) (by first | decide | assumption) (by first | decide | omega) (by first | rfl | assumption) rfl ?_
      rw [c1]
      refine y_loc (pc' := 58) xD_137 rfl rfl rfl rfl ?_
      first | refine m_getR (pc' := 61) xD_137 rfl rfl rfl rfl (hR.1 _ _ _ rfl) rfl ?_ | refine m_getR (pc' := 61) xD_137 rfl rfl (by first | rfl | assumption) rfl (by assumption) rfl ?_
      refine y_loc (pc' := 62) xD_137 rfl rfl rfl rfl ?_
      refine m_iald (pc' := 63) (j) xD_137 rfl (by first | rfl | assumption) (by first | assumption | omega) (by first | decide | assumption) (by first | decide | omega) (by first | rfl | assumption) rfl ?_
      rw [c2]
      refine y_icge (pt := 70) (pf := 66) xD_137 rfl rfl rfl (fun h63 => ?_) (fun h63 => ?_)
      · skip
        refine y_ci (pc' := 71) (0) xD_137 rfl rfl rfl rfl ?_
        refine y_retZ xD_137 rfl rfl (by first | decide | assumption) ?_
        rw [ef] at h12
        rw [ec] at h48
        rw [lc] at h63
        first | exact yes (by unfold gL; omega) | exact no (by unfold gL; omega)
      · skip
        refine y_ci (pc' := 67) (1) xD_137 rfl rfl rfl rfl ?_
        refine y_goto (pc' := 71) xD_137 rfl rfl ?_
        refine y_retZ xD_137 rfl rfl (by first | decide | assumption) ?_
        rw [ef] at h12
        rw [ec] at h48
        rw [lc] at h63
        first | exact yes (by unfold gL; omega) | exact no (by unfold gL; omega)
  · skip
    refine y_loc (pc' := 16) xD_137 rfl rfl rfl rfl ?_
    first | refine m_getR (pc' := 19) xD_137 rfl rfl rfl rfl (hR.1 _ _ _ rfl) rfl ?_ | refine m_getR (pc' := 19) xD_137 rfl rfl (by first | rfl | assumption) rfl (by assumption) rfl ?_
    refine y_loc (pc' := 20) xD_137 rfl rfl rfl rfl ?_
    refine m_iald (pc' := 21) (i) xD_137 rfl (by first | rfl | assumption) (by first | assumption | omega) (by first | decide | assumption) (by first | decide | omega) (by first | rfl | assumption) rfl ?_
    rw [f1]
    refine y_loc (pc' := 22) xD_137 rfl rfl rfl rfl ?_
    first | refine m_getR (pc' := 25) xD_137 rfl rfl rfl rfl (hR.1 _ _ _ rfl) rfl ?_ | refine m_getR (pc' := 25) xD_137 rfl rfl (by first | rfl | assumption) rfl (by assumption) rfl ?_
    refine y_loc (pc' := 26) xD_137 rfl rfl rfl rfl ?_
    refine m_iald (pc' := 27) (j) xD_137 rfl (by first | rfl | assumption) (by first | assumption | omega) (by first | decide | assumption) (by first | decide | omega) (by first | rfl | assumption) rfl ?_
    rw [f2]
    refine y_icge (pt := 34) (pf := 30) xD_137 rfl rfl rfl (fun h27 => ?_) (fun h27 => ?_)
    · skip
      refine y_ci (pc' := 35) (0) xD_137 rfl rfl rfl rfl ?_
      refine y_retZ xD_137 rfl rfl (by first | decide | assumption) ?_
      rw [ef] at h12
      rw [lf] at h27
      first | exact yes (by unfold gL; omega) | exact no (by unfold gL; omega)
    · skip
      refine y_ci (pc' := 31) (1) xD_137 rfl rfl rfl rfl ?_
      refine y_goto (pc' := 35) xD_137 rfl rfl ?_
      refine y_retZ xD_137 rfl rfl (by first | decide | assumption) ?_
      rw [ef] at h12
      rw [lf] at h27
      first | exact yes (by unfold gL; omega) | exact no (by unfold gL; omega)
end MP

