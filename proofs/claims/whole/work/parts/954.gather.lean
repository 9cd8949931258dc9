/-! The constants gathered. -/
theorem scnt_skip {P : Nat → Nat → Int32} {a : Nat} : ∀ k, (∀ q, a ≤ q → q < a + k → ¬ isS P q = true) → scnt P (a + k) = scnt P a
  | 0, _ => rfl
  | k + 1, h => by
    show scnt P (a + k + 1) = _
    rw [scnt_n (h (a + k) (by omega) (by omega))]
    exact scnt_skip k (fun q h1 h2 => h q h1 (by omega))
theorem scnt_mono {P : Nat → Nat → Int32} {a : Nat} : ∀ k, scnt P a ≤ scnt P (a + k)
  | 0 => Nat.le_refl _
  | k + 1 => by
    have := scnt_mono (P := P) (a := a) k
    show _ ≤ scnt P (a + k + 1)
    simp only [scnt]
    split <;> omega
theorem scnt_lt {P : Nat → Nat → Int32} {a b : Nat} (h : isS P a = true) (hab : a < b) : scnt P a < scnt P b := by
  have := scnt_mono (P := P) (a := a + 1) (b - (a + 1))
  rw [show a + 1 + (b - (a + 1)) = b by omega, scnt_y h] at this
  omega
section GC
variable {S : XS} {d : Nat} {I P : Nat → Nat → Int32} {J : Nat → Nat → Int64} {R : Nat → Nat → Option Nat}
/-- the lines of both sides are one, for the gathering -/
def GL (I P : Nat → Nat → Int32) : Prop := ∀ m, m < 2 → I (4 + 6 * m) 5 = nI (lnM P m) ∧ lnM P m ≤ 10 ∧ ∀ p, p < lnM P m → I (4 + 6 * m + 1) p = cdM P m p 0 ∧ I (4 + 6 * m + 4) p = cdM P m p 3
theorem s_gatherConstants (hR : RF R) (h0 : I 18 1 = 0) (hL : GL I P) :
    XP S d 26 0 (xent [.ref 18, .ref 2] 5) [] (hh I J R) (fun v h' => v = none ∧ ∃ r, h' = hh (xu (xrow I 19 r) 18 1 (nI (scnt P 20))) J R ∧ ∀ q, q < 20 → isS P q = true → r (scnt P q) = cdM P (q / 10) (q % 10) 3) := by
  have inner : ∀ (m : Nat), m < 2 → ∀ {Q : Option Value → XH → Prop}, (∀ (r : Nat → Int32) (q3 q4 : Option Value), (∀ q, q < 10 * (m + 1) → isS P q = true → r (scnt P q) = cdM P (q / 10) (q % 10) 3) → XP S d 26 2 [some (.ref 18), some (.ref 2), some (.int (nI (m + 1))), q3, q4] [] (hh (xu (xrow I 19 r) 18 1 (nI (scnt P (10 * (m + 1))))) J R) Q) → ∀ (f i : Nat), i + f = lnM P m → ∀ (r : Nat → Int32), (∀ q, q < 10 * m + i → isS P q = true → r (scnt P q) = cdM P (q / 10) (q % 10) 3) → XP S d 26 17 [some (.ref 18), some (.ref 2), some (.int (nI m)), some (.ref (4 + 6 * m)), some (.int (nI i))] [] (hh (xu (xrow I 19 r) 18 1 (nI (scnt P (10 * m + i)))) J R) Q := by
    intro m hm Q K f
    obtain ⟨l1, l2, l3⟩ := hL m hm
    have hA : 4 + 6 * m = 4 ∨ 4 + 6 * m = 10 := by omega
    obtain ⟨k0, k1, -, -, k4, -⟩ := kMeth hA
    obtain ⟨r1, -, -, r4, -⟩ := rMeth hR hA
    induction f with
    | zero =>
      intro i hi r hr
      have hi : i = lnM P m := by omega
      have eA : xu (xrow I 19 r) 18 1 (nI (scnt P (10 * m + i))) (4 + 6 * m) 5 = nI i := by rw [xu_ne (by omega), xrow_ne (by omega), hi]; exact l1
      have skip : ∀ q, 10 * m + i ≤ q → q < 10 * m + i + (10 - i) → ¬ isS P q = true := fun q h1 h2 h3 => by
        have := (isS_iff.mp h3).1
        rw [show q / 10 = m by omega, ← hi] at this
        omega
      have es := scnt_skip (10 - i) skip
      rw [show 10 * m + i + (10 - i) = 10 * (m + 1) by omega] at es
      have K' := K r (some (.ref (4 + 6 * m))) (some (.int (nI i))) (fun q hq hs => hr q (Nat.lt_of_not_le (fun t => skip q t (by omega) hs)) hs)
      rw [es] at K'
      refine y_loc (pc' := 19) xD_26 rfl rfl rfl rfl ?_
      refine y_loc (pc' := 20) xD_26 rfl rfl rfl rfl ?_
      refine m_getI (pc' := 23) xD_26 rfl rfl rfl (by first | rfl | assumption) (eA) rfl ?_
      refine y_icge (pt := 65) (pf := 26) xD_26 rfl rfl rfl (fun h23 => ?_) (fun h23 => ?_)
      · skip
        refine y_inc (pc' := 68) (nI (m + 1)) xD_26 rfl rfl rfl (nI_1 (m)) rfl rfl ?_
        refine y_goto (pc' := 2) xD_26 rfl rfl ?_
        exact K'
      · skip
        exact absurd (Int32.le_refl _) h23
    | succ f ih =>
      intro i hi r hr
      have i10 : i < 10 := by omega
      obtain ⟨lo, lc⟩ := l3 i (by omega)
      obtain ⟨I1, eI1⟩ : ∃ I1, I1 = xu (xrow I 19 r) 18 1 (nI (scnt P (10 * m + i))) := ⟨_, rfl⟩
      have x1 : ∀ x, x ≠ 18 → x ≠ 19 → I1 x = I x := fun x a b => by rw [eI1, xu_ne a, xrow_ne b]
      have eA : I1 (4 + 6 * m) 5 = nI (lnM P m) := by rw [x1 _ (by omega) (by omega)]; exact l1
      have eo : I1 (4 + 6 * m + 1) i = cdM P m i 0 := by rw [x1 _ (by omega) (by omega)]; exact lo
      have e18 : I1 18 1 = nI (scnt P (10 * m + i)) := by rw [eI1, xu_ii]
      have hs : isS P (10 * m + i) = true ↔ cdM P m i 0 = 0 := by
        rw [isS_iff, show (10 * m + i) / 10 = m by omega, show (10 * m + i) % 10 = i by omega]
        exact ⟨fun q => q.2, fun q => ⟨by omega, q⟩⟩
      have sl := scnt_le (I := P) (10 * m + i)
      rw [← eI1]
      refine y_loc (pc' := 19) xD_26 rfl rfl rfl rfl ?_
      refine y_loc (pc' := 20) xD_26 rfl rfl rfl rfl ?_
      refine m_getI (pc' := 23) xD_26 rfl rfl rfl (by first | rfl | assumption) (eA) rfl ?_
      refine y_icge (pt := 65) (pf := 26) xD_26 rfl rfl rfl (fun h23 => ?_) (fun h23 => ?_)
      · skip
        exact absurd h23 (nI_ge (a := i) (b := lnM P m) (by omega) (by omega))
      · skip
        refine y_loc (pc' := 27) xD_26 rfl rfl rfl rfl ?_
        first | refine m_getR (pc' := 30) xD_26 rfl rfl rfl rfl (hR.1 _ _ _ rfl) rfl ?_ | refine m_getR (pc' := 30) xD_26 rfl rfl (by first | rfl | assumption) rfl (by assumption) rfl ?_
        refine y_loc (pc' := 32) xD_26 rfl rfl rfl rfl ?_
        refine m_iald (pc' := 33) (i) xD_26 rfl (by first | rfl | assumption) (by first | assumption | omega) (by first | decide | assumption) (by first | decide | omega) (by first | rfl | assumption) rfl ?_
        rw [eo]
        refine y_ifne (pt := 59) (pf := 36) xD_26 rfl rfl rfl (fun h33 => ?_) (fun h33 => ?_)
        · skip
          refine y_inc (pc' := 62) (nI (i + 1)) xD_26 rfl rfl rfl (nI_1 (i)) rfl rfl ?_
          refine y_goto (pc' := 17) xD_26 rfl rfl ?_
          (have st := ih (i + 1) (by omega) r (fun q hq hq2 => hr q (by rcases Nat.lt_or_ge q (10 * m + i) with t | t; exact t; exact absurd (hs.mp (by rw [show 10 * m + i = q by omega]; exact hq2)) h33) hq2))
          rw [show 10 * m + (i + 1) = 10 * m + i + 1 from rfl, scnt_n (fun q => h33 (hs.mp q)), ← eI1] at st
          exact st
        · skip
          skip
          have hs1 := hs.mpr h33
          have em : xu (xu I1 18 1 (nI (scnt P (10 * m + i) + 1))) 19 (scnt P (10 * m + i)) (cdM P m i 3) = xu (xrow I 19 (fun j => if j = scnt P (10 * m + i) then cdM P m i 3 else r j)) 18 1 (nI (scnt P (10 * m + i) + 1)) := by
            rw [eI1, xu_xu, xu_c (show (18 : Nat) ≠ 19 by decide), xu_in]
          have ec : xu I1 18 1 (nI (scnt P (10 * m + i) + 1)) (4 + 6 * m + 4) i = cdM P m i 3 := by rw [xu_ne (by omega), x1 _ (by omega) (by omega)]; exact lc
          refine y_loc (pc' := 37) xD_26 rfl rfl rfl rfl ?_
          first | refine m_getR (pc' := 40) xD_26 rfl rfl rfl rfl (hR.1 _ _ _ rfl) rfl ?_ | refine m_getR (pc' := 40) xD_26 rfl rfl (by first | rfl | assumption) rfl (by assumption) rfl ?_
          refine y_loc (pc' := 41) xD_26 rfl rfl rfl rfl ?_
          refine y_op (pc' := 42) xD_26 rfl rfl rfl rfl ?_
          refine m_getI (pc' := 45) xD_26 rfl rfl rfl (by first | rfl | assumption) (e18) rfl ?_
          refine y_op (pc' := 46) xD_26 rfl rfl rfl rfl ?_
          refine y_ci (pc' := 47) (1) xD_26 rfl rfl rfl rfl ?_
          refine y_iadd (pc' := 48) xD_26 rfl (nI_1 _) rfl ?_
          refine m_putI (pc' := 51) xD_26 rfl rfl (by first | rfl | assumption) rfl rfl rfl ?_
          refine y_loc (pc' := 52) xD_26 rfl rfl rfl rfl ?_
          first | refine m_getR (pc' := 55) xD_26 rfl rfl rfl rfl (hR.1 _ _ _ rfl) rfl ?_ | refine m_getR (pc' := 55) xD_26 rfl rfl (by first | rfl | assumption) rfl (by assumption) rfl ?_
          refine y_loc (pc' := 57) xD_26 rfl rfl rfl rfl ?_
          refine m_iald (pc' := 58) (i) xD_26 rfl (by first | rfl | assumption) (by first | assumption | omega) (by first | decide | assumption) (by first | decide | omega) (by first | rfl | assumption) rfl ?_
          rw [ec]
          refine m_iast (pc' := 59) ((scnt P (10 * m + i))) xD_26 rfl (by first | rfl | assumption) (by first | assumption | omega) (by first | decide | assumption) (by first | rfl | assumption) rfl ?_
          refine y_inc (pc' := 62) (nI (i + 1)) xD_26 rfl rfl rfl (nI_1 (i)) rfl rfl ?_
          refine y_goto (pc' := 17) xD_26 rfl rfl ?_
          rw [em]
          have st := ih (i + 1) (by omega) (fun j => if j = scnt P (10 * m + i) then cdM P m i 3 else r j) (fun q hq hq2 => ?_)
          · rw [show 10 * m + (i + 1) = 10 * m + i + 1 from rfl, scnt_y hs1] at st
            exact st
          · by_cases e : q = 10 * m + i
            · rw [e, if_pos rfl, show (10 * m + i) / 10 = m by omega, show (10 * m + i) % 10 = i by omega]
            · have := scnt_lt hq2 (show q < 10 * m + i by omega)
              rw [if_neg (by omega)]
              exact hr q (by omega) hq2
  have rm : ∀ m, m < 2 → R 3 m = some (4 + 6 * m) := fun m hm => by
    rcases (show m = 0 ∨ m = 1 by omega) with rfl | rfl
    · exact hR.1 3 0 4 (by decide)
    · exact hR.1 3 1 10 (by decide)
  have r0 := rm 0 (by decide)
  have r1 := rm 1 (by decide)
  have fin : ∀ (r : Nat → Int32) (q3 q4 : Option Value), (∀ q, q < 10 * (1 + 1) → isS P q = true → r (scnt P q) = cdM P (q / 10) (q % 10) 3) → XP S d 26 2 [some (.ref 18), some (.ref 2), some (.int (nI (1 + 1))), q3, q4] [] (hh (xu (xrow I 19 r) 18 1 (nI (scnt P (10 * (1 + 1))))) J R) (fun v h' => v = none ∧ ∃ r, h' = hh (xu (xrow I 19 r) 18 1 (nI (scnt P 20))) J R ∧ ∀ q, q < 20 → isS P q = true → r (scnt P q) = cdM P (q / 10) (q % 10) 3) := by
    intro r q3 q4 hr
    refine y_loc (pc' := 3) xD_26 rfl rfl rfl rfl ?_
    refine y_ci (pc' := 4) (2) xD_26 rfl rfl rfl rfl ?_
    refine y_icge (pt := 71) (pf := 7) xD_26 rfl rfl rfl (fun h4 => ?_) (fun h4 => ?_)
    · skip
      refine y_retV xD_26 rfl rfl ?_
      exact ⟨rfl, r, rfl, hr⟩
    · skip
      exact absurd (show (2 : Int32) ≤ nI (1 + 1) by decide) h4
  have mid : ∀ (r : Nat → Int32) (q3 q4 : Option Value), (∀ q, q < 10 * (0 + 1) → isS P q = true → r (scnt P q) = cdM P (q / 10) (q % 10) 3) → XP S d 26 2 [some (.ref 18), some (.ref 2), some (.int (nI (0 + 1))), q3, q4] [] (hh (xu (xrow I 19 r) 18 1 (nI (scnt P (10 * (0 + 1))))) J R) (fun v h' => v = none ∧ ∃ r, h' = hh (xu (xrow I 19 r) 18 1 (nI (scnt P 20))) J R ∧ ∀ q, q < 20 → isS P q = true → r (scnt P q) = cdM P (q / 10) (q % 10) 3) := by
    intro r q3 q4 hr
    refine y_loc (pc' := 3) xD_26 rfl rfl rfl rfl ?_
    refine y_ci (pc' := 4) (2) xD_26 rfl rfl rfl rfl ?_
    refine y_icge (pt := 71) (pf := 7) xD_26 rfl rfl rfl (fun h4 => ?_) (fun h4 => ?_)
    · skip
      exact absurd h4 (by decide)
    · skip
      refine y_loc (pc' := 8) xD_26 rfl rfl rfl rfl ?_
      first | refine m_getR (pc' := 11) xD_26 rfl rfl rfl rfl (hR.1 _ _ _ rfl) rfl ?_ | refine m_getR (pc' := 11) xD_26 rfl rfl (by first | rfl | assumption) rfl (by assumption) rfl ?_
      refine y_loc (pc' := 12) xD_26 rfl rfl rfl rfl ?_
      refine m_aald (pc' := 13) (1) (q := 1) xD_26 rfl (by first | rfl | assumption) (by first | decide | assumption) (by first | assumption | omega) (by first | decide | assumption) (by first | rfl | assumption) r1 rfl ?_
      refine y_loc (pc' := 14) xD_26 rfl rfl rfl rfl ?_
      refine y_ci (pc' := 15) (0) xD_26 rfl rfl rfl rfl ?_
      refine y_loc (pc' := 17) xD_26 rfl rfl rfl rfl ?_
      exact inner 1 (by decide) fin (lnM P 1) 0 (by omega) r hr
  refine y_ci (pc' := 1) (0) xD_26 rfl rfl rfl rfl ?_
  refine y_loc (pc' := 2) xD_26 rfl rfl rfl rfl ?_
  refine y_loc (pc' := 3) xD_26 rfl rfl rfl rfl ?_
  refine y_ci (pc' := 4) (2) xD_26 rfl rfl rfl rfl ?_
  refine y_icge (pt := 71) (pf := 7) xD_26 rfl rfl rfl (fun h4 => ?_) (fun h4 => ?_)
  · exact absurd h4 (by decide)
  · skip
    refine y_loc (pc' := 8) xD_26 rfl rfl rfl rfl ?_
    first | refine m_getR (pc' := 11) xD_26 rfl rfl rfl rfl (hR.1 _ _ _ rfl) rfl ?_ | refine m_getR (pc' := 11) xD_26 rfl rfl (by first | rfl | assumption) rfl (by assumption) rfl ?_
    refine y_loc (pc' := 12) xD_26 rfl rfl rfl rfl ?_
    refine m_aald (pc' := 13) (0) (q := 1) xD_26 rfl (by first | rfl | assumption) (by first | decide | assumption) (by first | assumption | omega) (by first | decide | assumption) (by first | rfl | assumption) r0 rfl ?_
    refine y_loc (pc' := 14) xD_26 rfl rfl rfl rfl ?_
    refine y_ci (pc' := 15) (0) xD_26 rfl rfl rfl rfl ?_
    refine y_loc (pc' := 17) xD_26 rfl rfl rfl rfl ?_
    have := inner 0 (by decide) mid (lnM P 0) 0 (by omega) (I 19) (fun q hq => absurd hq (by omega))
    rw [show xu (xrow I 19 (I 19)) 18 1 (nI (scnt P (10 * 0 + 0))) = I from by rw [xrow_id]; exact xu_same h0] at this
    exact this
end GC

