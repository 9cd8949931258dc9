/-! The model's reached and level. -/
def q_in (N : Nat → Int64) (nd : Nat → Int32) (gs : Int32) : Nat → Int64 × Int32
  | 0 => (-1, 0)
  | h + 1 => if bitI gs (nI h) = 1 then ((if 0 ≤ N h ∧ ((q_in N nd gs h).1 < 0 ∨ N h < (q_in N nd gs h).1) then N h else (q_in N nd gs h).1), (q_in N nd gs h).2 ||| nd (h / 2)) else q_in N nd gs h
def q_lvl (N : Nat → Int64) (nd : Nat → Int32) (nb : Nat) : Nat → Nat → Int32 → Int64
  | 0, _, _ => 549755813888
  | f + 1, k, gs => if 0 ≤ (q_in N nd gs (2 * nb)).1 then (nI k).toInt64 * 8589934592 + (q_in N nd gs (2 * nb)).1 else q_lvl N nd nb f (k + 1) (q_in N nd gs (2 * nb)).2
def q_level (N : Nat → Int64) (nd : Nat → Int32) (nb g : Nat) : Int64 := if 0 ≤ N g then N g else q_lvl N nd nb 24 1 (nd (g / 2))
section QI
variable {N : Nat → Int64} {nd : Nat → Int32} {gs : Int32} {h : Nat}
theorem q_in_a (hb : ¬ bitI gs (nI h) = 1) : q_in N nd gs (h + 1) = q_in N nd gs h := by simp only [q_in]; rw [if_neg hb]
theorem q_in_b (hb : bitI gs (nI h) = 1) (h0 : N h < 0) : q_in N nd gs (h + 1) = ((q_in N nd gs h).1, (q_in N nd gs h).2 ||| nd (h / 2)) := by
  simp only [q_in]
  rw [if_pos hb, if_neg (fun q => absurd h0 (Int64.not_lt.mpr q.1))]
theorem q_in_c (hb : bitI gs (nI h) = 1) (h0 : ¬ N h < 0) (h1 : (q_in N nd gs h).1 < 0) : q_in N nd gs (h + 1) = (N h, (q_in N nd gs h).2 ||| nd (h / 2)) := by
  simp only [q_in]
  rw [if_pos hb, if_pos ⟨Int64.not_lt.mp h0, Or.inl h1⟩]
theorem q_in_d (hb : bitI gs (nI h) = 1) (h1 : ¬ (q_in N nd gs h).1 < 0) (h2 : ¬ N h < (q_in N nd gs h).1) : q_in N nd gs (h + 1) = ((q_in N nd gs h).1, (q_in N nd gs h).2 ||| nd (h / 2)) := by
  simp only [q_in]
  rw [if_pos hb, if_neg (fun q => q.2.elim h1 h2)]
theorem q_in_e (hb : bitI gs (nI h) = 1) (h0 : ¬ N h < 0) (h2 : N h < (q_in N nd gs h).1) : q_in N nd gs (h + 1) = (N h, (q_in N nd gs h).2 ||| nd (h / 2)) := by
  simp only [q_in]
  rw [if_pos hb, if_pos ⟨Int64.not_lt.mp h0, Or.inr h2⟩]
end QI
section ML
variable {S : XS} {d s nb : Nat} {I : Nat → Nat → Int32} {J : Nat → Nat → Int64} {R : Nat → Nat → Option Nat}
theorem s_reached (hR : RF R) (hs : s < 67) (hP : PM I nb) {n : Nat} (hn : I 263 s = nI n) (hn6 : n ≤ 6) (hV : ∀ j, j < n → VS (slM I s) j) {xs : Int32} (e1 : xs = nI s) :
    XP S (d + 6) 123 0 (xent [.ref 261, .int xs] 4) [] (hh I J R) (rI (q_set (rnM I J nb s n).2.1 (2 * nb)) (hh (xrow I 271 (rnM I J nb s n).1) (xrow (xrow J 273 (rnM I J nb s n).2.1) 272 (rnM I J nb s n).2.2.1) R)) := by
  have hP0 := hP
  obtain ⟨hnb, hnb2, -⟩ := hP
  have eN : xrow (xrow J 273 (rnM I J nb s n).2.1) 272 (rnM I J nb s n).2.2.1 273 = (rnM I J nb s n).2.1 := by rw [xrow_ne (by decide), xrow_at]
  have hgc : (2 : Int32) * xrow I 271 (rnM I J nb s n).1 261 10 = nI (2 * nb) := by rw [xrow_ne (by decide), hnb]; exact pk_mul 2 nb
  have loop : ∀ (f k : Nat), k + f = 2 * nb → XP S (d + 6) 123 9 [some (.ref 261), some (.int xs), some (.int (q_set (rnM I J nb s n).2.1 k)), some (.int (nI k))] [] (hh (xrow I 271 (rnM I J nb s n).1) (xrow (xrow J 273 (rnM I J nb s n).2.1) 272 (rnM I J nb s n).2.2.1) R) (rI (q_set (rnM I J nb s n).2.1 (2 * nb)) (hh (xrow I 271 (rnM I J nb s n).1) (xrow (xrow J 273 (rnM I J nb s n).2.1) 272 (rnM I J nb s n).2.2.1) R)) := by
    intro f
    induction f with
    | zero =>
      intro k hk
      have hk : k = 2 * nb := by omega
      subst hk
      refine y_loc (pc' := 10) xD_123 rfl rfl rfl rfl ?_
      refine y_ci (pc' := 11) (2) xD_123 rfl rfl rfl rfl ?_
      refine y_loc (pc' := 12) xD_123 rfl rfl rfl rfl ?_
      refine m_get (pc' := 15) xD_123 rfl rfl (by first | rfl | assumption) rfl rfl ?_
      refine y_op (pc' := 16) xD_123 rfl rfl rfl rfl ?_
      refine y_icge (pt := 46) (pf := 19) xD_123 rfl rfl rfl (fun h16 => ?_) (fun h16 => ?_)
      · skip
        refine y_loc (pc' := 47) xD_123 rfl rfl rfl rfl ?_
        refine y_retI xD_123 rfl rfl ?_
        exact rI_e rfl
      · skip
        exact absurd (show (2 : Int32) * xrow I 271 (rnM I J nb s n).1 261 10 ≤ nI (2 * nb) by rw [hgc]; exact Int32.le_refl _) h16
    | succ f ih =>
      intro k hk
      have e5 : nI k + 1 = nI (k + 1) := nI_1 k
      have step := ih (k + 1) (by omega)
      simp only [q_set] at step
      refine y_loc (pc' := 10) xD_123 rfl rfl rfl rfl ?_
      refine y_ci (pc' := 11) (2) xD_123 rfl rfl rfl rfl ?_
      refine y_loc (pc' := 12) xD_123 rfl rfl rfl rfl ?_
      refine m_get (pc' := 15) xD_123 rfl rfl (by first | rfl | assumption) rfl rfl ?_
      refine y_op (pc' := 16) xD_123 rfl rfl rfl rfl ?_
      refine y_icge (pt := 46) (pf := 19) xD_123 rfl rfl rfl (fun h16 => ?_) (fun h16 => ?_)
      · skip
        exact absurd h16 (show ¬ (2 : Int32) * xrow I 271 (rnM I J nb s n).1 261 10 ≤ nI k by rw [hgc]; exact nI_ge (by omega) (by omega))
      · skip
        refine y_loc (pc' := 20) xD_123 rfl rfl rfl rfl ?_
        first | refine m_getR (pc' := 23) xD_123 rfl rfl rfl rfl (hR.1 _ _ _ rfl) rfl ?_ | refine m_getR (pc' := 23) xD_123 rfl rfl (by first | rfl | assumption) rfl (by assumption) rfl ?_
        refine y_loc (pc' := 24) xD_123 rfl rfl rfl rfl ?_
        refine m_jald (pc' := 25) (k) xD_123 rfl (by first | rfl | assumption) (by first | assumption | omega) (by first | decide | assumption) (by first | rfl | assumption) rfl ?_
        rw [eN]
        refine y_cj (pc' := 26) (0) xD_123 rfl rfl rfl rfl ?_
        refine y_op (pc' := 27) xD_123 rfl rfl rfl rfl ?_
        refine y_ifne (pt := 38) (pf := 30) xD_123 rfl rfl rfl (fun h27 => ?_) (fun h27 => ?_)
        · skip
          refine y_loc (pc' := 39) xD_123 rfl rfl rfl rfl ?_
          refine y_loc (pc' := 40) xD_123 rfl rfl rfl rfl ?_
          refine y_inc (pc' := 43) (nI (k + 1)) xD_123 rfl rfl rfl e5 rfl rfl ?_
          refine y_goto (pc' := 9) xD_123 rfl rfl ?_
          first | (rw [if_pos (lg_eq.mp h27)] at step; exact step) | (rw [if_neg (fun q => h27 (lg_eq.mpr q))] at step; exact step)
        · skip
          refine y_loc (pc' := 31) xD_123 rfl rfl rfl rfl ?_
          refine y_ci (pc' := 32) (1) xD_123 rfl rfl rfl rfl ?_
          refine y_loc (pc' := 33) xD_123 rfl rfl rfl rfl ?_
          refine y_op (pc' := 34) xD_123 rfl rfl rfl rfl ?_
          refine y_op (pc' := 35) xD_123 rfl rfl rfl rfl ?_
          refine y_goto (pc' := 39) xD_123 rfl rfl ?_
          refine y_loc (pc' := 40) xD_123 rfl rfl rfl rfl ?_
          refine y_inc (pc' := 43) (nI (k + 1)) xD_123 rfl rfl rfl e5 rfl rfl ?_
          refine y_goto (pc' := 9) xD_123 rfl rfl ?_
          first | (rw [if_pos (lg_eq.mp h27)] at step; exact step) | (rw [if_neg (fun q => h27 (lg_eq.mpr q))] at step; exact step)
  refine y_loc (pc' := 1) xD_123 rfl rfl rfl rfl ?_
  refine y_loc (pc' := 2) xD_123 rfl rfl rfl rfl ?_
  refine y_callV xD_123 rfl rfl rfl rfl (by first | rfl | assumption) rfl rfl rfl rfl (s_mperform hR hs hP0 hn hn6 hV e1) (fun v h' hq => ?_)
  obtain ⟨rfl, rfl⟩ := hq
  refine y_ci (pc' := 6) (0) xD_123 rfl rfl rfl rfl ?_
  refine y_loc (pc' := 7) xD_123 rfl rfl rfl rfl ?_
  refine y_ci (pc' := 8) (0) xD_123 rfl rfl rfl rfl ?_
  refine y_loc (pc' := 9) xD_123 rfl rfl rfl rfl ?_
  exact loop (2 * nb) 0 (by omega)
theorem s_level (hR : RF R) (hnb : I 261 10 = nI nb) (hnb2 : nb ≤ 12) (g : Nat) (hg : g < 24) {xg : Int32} (e1 : xg = nI g) : XP S d 132 0 (xent [.ref 261, .int xg] 8) [] (hh I J R) (rJ (q_level (J 273) (I 269) nb g) (hh I J R)) := by
  have hgc : (2 : Int32) * I 261 10 = nI (2 * nb) := by rw [hnb]; exact pk_mul 2 nb
  have hdv : ∀ h : Nat, h < 24 → nI h / 2 = nI (h / 2) := fun h _ => pk_div (d := 2) (by omega) (by decide) (by decide)
  have inner : ∀ (gs : Int32) (k : Nat) (Q : Option Value → XH → Prop), XP S d 132 133 [some (.ref 261), some (.int xg), some (.int gs), some (.int (nI k)), some (.long (q_in (J 273) (I 269) gs (2 * nb)).1), none, some (.int (q_in (J 273) (I 269) gs (2 * nb)).2), some (.int (nI (2 * nb)))] [] (hh I J R) Q → ∀ (f h : Nat), h + f = 2 * nb → XP S d 132 46 [some (.ref 261), some (.int xg), some (.int gs), some (.int (nI k)), some (.long (q_in (J 273) (I 269) gs h).1), none, some (.int (q_in (J 273) (I 269) gs h).2), some (.int (nI h))] [] (hh I J R) Q := by
    intro gs k Q K f
    induction f with
    | zero =>
      intro h hhe
      have hhe : h = 2 * nb := by omega
      subst hhe
      refine y_loc (pc' := 48) xD_132 rfl rfl rfl rfl ?_
      refine y_ci (pc' := 49) (2) xD_132 rfl rfl rfl rfl ?_
      refine y_loc (pc' := 50) xD_132 rfl rfl rfl rfl ?_
      refine m_get (pc' := 53) xD_132 rfl rfl (by first | rfl | assumption) rfl rfl ?_
      refine y_op (pc' := 54) xD_132 rfl rfl rfl rfl ?_
      refine y_icge (pt := 133) (pf := 57) xD_132 rfl rfl rfl (fun h54 => ?_) (fun h54 => ?_)
      · skip
        exact K
      · exact absurd (show (2 : Int32) * I 261 10 ≤ nI (2 * nb) by rw [hgc]; exact Int32.le_refl _) h54
    | succ f ih =>
      intro h hhe
      have h24 : h < 24 := by omega
      have h12 : h / 2 < 12 := by omega
      have e5 : nI h + 1 = nI (h + 1) := nI_1 h
      have step := ih (h + 1) (by omega)
      refine y_loc (pc' := 48) xD_132 rfl rfl rfl rfl ?_
      refine y_ci (pc' := 49) (2) xD_132 rfl rfl rfl rfl ?_
      refine y_loc (pc' := 50) xD_132 rfl rfl rfl rfl ?_
      refine m_get (pc' := 53) xD_132 rfl rfl (by first | rfl | assumption) rfl rfl ?_
      refine y_op (pc' := 54) xD_132 rfl rfl rfl rfl ?_
      refine y_icge (pt := 133) (pf := 57) xD_132 rfl rfl rfl (fun h54 => ?_) (fun h54 => ?_)
      · skip
        exact absurd h54 (show ¬ (2 : Int32) * I 261 10 ≤ nI h by rw [hgc]; exact nI_ge (by omega) (by omega))
      · skip
        refine y_loc (pc' := 58) xD_132 rfl rfl rfl rfl ?_
        refine y_loc (pc' := 60) xD_132 rfl rfl rfl rfl ?_
        refine y_op (pc' := 61) xD_132 rfl rfl rfl rfl ?_
        refine y_ci (pc' := 62) (1) xD_132 rfl rfl rfl rfl ?_
        refine y_op (pc' := 63) xD_132 rfl rfl rfl rfl ?_
        refine y_ci (pc' := 64) (1) xD_132 rfl rfl rfl rfl ?_
        refine y_icne (pt := 127) (pf := 67) xD_132 rfl rfl rfl (fun h64 => ?_) (fun h64 => ?_)
        · skip
          refine y_inc (pc' := 130) (nI (h + 1)) xD_132 rfl rfl rfl e5 rfl rfl ?_
          refine y_goto (pc' := 46) xD_132 rfl rfl ?_
          first
          | (rw [q_in_a h64] at step; exact step)
          | (rw [q_in_b h64 (lg_lt.mp h76)] at step; exact step)
          | (rw [q_in_c h64 (fun q => h76 (lg_lt.mpr q)) (lg_lt.mp h83)] at step; exact step)
          | (rw [q_in_d h64 (fun q => h83 (lg_lt.mpr q)) (Int64.not_lt.mpr ((lg_cmp_ge _ _).mp h96))] at step; exact step)
          | (rw [q_in_e h64 (fun q => h76 (lg_lt.mpr q)) (Int64.not_le.mp (fun q => h96 ((lg_cmp_ge _ _).mpr q)))] at step; exact step)
        · skip
          refine y_loc (pc' := 68) xD_132 rfl rfl rfl rfl ?_
          first | refine m_getR (pc' := 71) xD_132 rfl rfl rfl rfl (hR.1 _ _ _ rfl) rfl ?_ | refine m_getR (pc' := 71) xD_132 rfl rfl (by first | rfl | assumption) rfl (by assumption) rfl ?_
          refine y_loc (pc' := 73) xD_132 rfl rfl rfl rfl ?_
          refine m_jald (pc' := 74) (h) xD_132 rfl (by first | rfl | assumption) (by first | assumption | omega) (by first | decide | assumption) (by first | rfl | assumption) rfl ?_
          refine y_cj (pc' := 75) (0) xD_132 rfl rfl rfl rfl ?_
          refine y_op (pc' := 76) xD_132 rfl rfl rfl rfl ?_
          refine y_iflt (pt := 109) (pf := 79) xD_132 rfl rfl rfl (fun h76 => ?_) (fun h76 => ?_)
          · skip
            refine y_loc (pc' := 111) xD_132 rfl rfl rfl rfl ?_
            refine y_loc (pc' := 113) xD_132 rfl rfl rfl rfl ?_
            refine y_loc (pc' := 115) xD_132 rfl rfl rfl rfl ?_
            refine y_loc (pc' := 116) xD_132 rfl rfl rfl rfl ?_
            first | refine m_getR (pc' := 119) xD_132 rfl rfl rfl rfl (hR.1 _ _ _ rfl) rfl ?_ | refine m_getR (pc' := 119) xD_132 rfl rfl (by first | rfl | assumption) rfl (by assumption) rfl ?_
            refine y_loc (pc' := 121) xD_132 rfl rfl rfl rfl ?_
            refine y_ci (pc' := 122) (2) xD_132 rfl rfl rfl rfl ?_
            refine y_op (pc' := 123) xD_132 rfl rfl rfl rfl ?_
            refine m_iald (pc' := 124) (h / 2) xD_132 rfl (by first | rfl | assumption) (by first | assumption | omega) (by first | decide | assumption) (by first | decide | omega) (hdv h h24) rfl ?_
            refine y_op (pc' := 125) xD_132 rfl rfl rfl rfl ?_
            refine y_loc (pc' := 127) xD_132 rfl rfl rfl rfl ?_
            refine y_inc (pc' := 130) (nI (h + 1)) xD_132 rfl rfl rfl e5 rfl rfl ?_
            refine y_goto (pc' := 46) xD_132 rfl rfl ?_
            first
            | (rw [q_in_a h64] at step; exact step)
            | (rw [q_in_b h64 (lg_lt.mp h76)] at step; exact step)
            | (rw [q_in_c h64 (fun q => h76 (lg_lt.mpr q)) (lg_lt.mp h83)] at step; exact step)
            | (rw [q_in_d h64 (fun q => h83 (lg_lt.mpr q)) (Int64.not_lt.mpr ((lg_cmp_ge _ _).mp h96))] at step; exact step)
            | (rw [q_in_e h64 (fun q => h76 (lg_lt.mpr q)) (Int64.not_le.mp (fun q => h96 ((lg_cmp_ge _ _).mpr q)))] at step; exact step)
          · skip
            refine y_loc (pc' := 81) xD_132 rfl rfl rfl rfl ?_
            refine y_cj (pc' := 82) (0) xD_132 rfl rfl rfl rfl ?_
            refine y_op (pc' := 83) xD_132 rfl rfl rfl rfl ?_
            refine y_iflt (pt := 99) (pf := 86) xD_132 rfl rfl rfl (fun h83 => ?_) (fun h83 => ?_)
            · skip
              refine y_loc (pc' := 100) xD_132 rfl rfl rfl rfl ?_
              first | refine m_getR (pc' := 103) xD_132 rfl rfl rfl rfl (hR.1 _ _ _ rfl) rfl ?_ | refine m_getR (pc' := 103) xD_132 rfl rfl (by first | rfl | assumption) rfl (by assumption) rfl ?_
              refine y_loc (pc' := 105) xD_132 rfl rfl rfl rfl ?_
              refine m_jald (pc' := 106) (h) xD_132 rfl (by first | rfl | assumption) (by first | assumption | omega) (by first | decide | assumption) (by first | rfl | assumption) rfl ?_
              refine y_goto (pc' := 111) xD_132 rfl rfl ?_
              refine y_loc (pc' := 113) xD_132 rfl rfl rfl rfl ?_
              refine y_loc (pc' := 115) xD_132 rfl rfl rfl rfl ?_
              refine y_loc (pc' := 116) xD_132 rfl rfl rfl rfl ?_
              first | refine m_getR (pc' := 119) xD_132 rfl rfl rfl rfl (hR.1 _ _ _ rfl) rfl ?_ | refine m_getR (pc' := 119) xD_132 rfl rfl (by first | rfl | assumption) rfl (by assumption) rfl ?_
              refine y_loc (pc' := 121) xD_132 rfl rfl rfl rfl ?_
              refine y_ci (pc' := 122) (2) xD_132 rfl rfl rfl rfl ?_
              refine y_op (pc' := 123) xD_132 rfl rfl rfl rfl ?_
              refine m_iald (pc' := 124) (h / 2) xD_132 rfl (by first | rfl | assumption) (by first | assumption | omega) (by first | decide | assumption) (by first | decide | omega) (hdv h h24) rfl ?_
              refine y_op (pc' := 125) xD_132 rfl rfl rfl rfl ?_
              refine y_loc (pc' := 127) xD_132 rfl rfl rfl rfl ?_
              refine y_inc (pc' := 130) (nI (h + 1)) xD_132 rfl rfl rfl e5 rfl rfl ?_
              refine y_goto (pc' := 46) xD_132 rfl rfl ?_
              first
              | (rw [q_in_a h64] at step; exact step)
              | (rw [q_in_b h64 (lg_lt.mp h76)] at step; exact step)
              | (rw [q_in_c h64 (fun q => h76 (lg_lt.mpr q)) (lg_lt.mp h83)] at step; exact step)
              | (rw [q_in_d h64 (fun q => h83 (lg_lt.mpr q)) (Int64.not_lt.mpr ((lg_cmp_ge _ _).mp h96))] at step; exact step)
              | (rw [q_in_e h64 (fun q => h76 (lg_lt.mpr q)) (Int64.not_le.mp (fun q => h96 ((lg_cmp_ge _ _).mpr q)))] at step; exact step)
            · skip
              refine y_loc (pc' := 87) xD_132 rfl rfl rfl rfl ?_
              first | refine m_getR (pc' := 90) xD_132 rfl rfl rfl rfl (hR.1 _ _ _ rfl) rfl ?_ | refine m_getR (pc' := 90) xD_132 rfl rfl (by first | rfl | assumption) rfl (by assumption) rfl ?_
              refine y_loc (pc' := 92) xD_132 rfl rfl rfl rfl ?_
              refine m_jald (pc' := 93) (h) xD_132 rfl (by first | rfl | assumption) (by first | assumption | omega) (by first | decide | assumption) (by first | rfl | assumption) rfl ?_
              refine y_loc (pc' := 95) xD_132 rfl rfl rfl rfl ?_
              refine y_op (pc' := 96) xD_132 rfl rfl rfl rfl ?_
              refine y_ifge (pt := 109) (pf := 99) xD_132 rfl rfl rfl (fun h96 => ?_) (fun h96 => ?_)
              · skip
                refine y_loc (pc' := 111) xD_132 rfl rfl rfl rfl ?_
                refine y_loc (pc' := 113) xD_132 rfl rfl rfl rfl ?_
                refine y_loc (pc' := 115) xD_132 rfl rfl rfl rfl ?_
                refine y_loc (pc' := 116) xD_132 rfl rfl rfl rfl ?_
                first | refine m_getR (pc' := 119) xD_132 rfl rfl rfl rfl (hR.1 _ _ _ rfl) rfl ?_ | refine m_getR (pc' := 119) xD_132 rfl rfl (by first | rfl | assumption) rfl (by assumption) rfl ?_
                refine y_loc (pc' := 121) xD_132 rfl rfl rfl rfl ?_
                refine y_ci (pc' := 122) (2) xD_132 rfl rfl rfl rfl ?_
                refine y_op (pc' := 123) xD_132 rfl rfl rfl rfl ?_
                refine m_iald (pc' := 124) (h / 2) xD_132 rfl (by first | rfl | assumption) (by first | assumption | omega) (by first | decide | assumption) (by first | decide | omega) (hdv h h24) rfl ?_
                refine y_op (pc' := 125) xD_132 rfl rfl rfl rfl ?_
                refine y_loc (pc' := 127) xD_132 rfl rfl rfl rfl ?_
                refine y_inc (pc' := 130) (nI (h + 1)) xD_132 rfl rfl rfl e5 rfl rfl ?_
                refine y_goto (pc' := 46) xD_132 rfl rfl ?_
                first
                | (rw [q_in_a h64] at step; exact step)
                | (rw [q_in_b h64 (lg_lt.mp h76)] at step; exact step)
                | (rw [q_in_c h64 (fun q => h76 (lg_lt.mpr q)) (lg_lt.mp h83)] at step; exact step)
                | (rw [q_in_d h64 (fun q => h83 (lg_lt.mpr q)) (Int64.not_lt.mpr ((lg_cmp_ge _ _).mp h96))] at step; exact step)
                | (rw [q_in_e h64 (fun q => h76 (lg_lt.mpr q)) (Int64.not_le.mp (fun q => h96 ((lg_cmp_ge _ _).mpr q)))] at step; exact step)
              · skip
                refine y_loc (pc' := 100) xD_132 rfl rfl rfl rfl ?_
                first | refine m_getR (pc' := 103) xD_132 rfl rfl rfl rfl (hR.1 _ _ _ rfl) rfl ?_ | refine m_getR (pc' := 103) xD_132 rfl rfl (by first | rfl | assumption) rfl (by assumption) rfl ?_
                refine y_loc (pc' := 105) xD_132 rfl rfl rfl rfl ?_
                refine m_jald (pc' := 106) (h) xD_132 rfl (by first | rfl | assumption) (by first | assumption | omega) (by first | decide | assumption) (by first | rfl | assumption) rfl ?_
                refine y_goto (pc' := 111) xD_132 rfl rfl ?_
                refine y_loc (pc' := 113) xD_132 rfl rfl rfl rfl ?_
                refine y_loc (pc' := 115) xD_132 rfl rfl rfl rfl ?_
                refine y_loc (pc' := 116) xD_132 rfl rfl rfl rfl ?_
                first | refine m_getR (pc' := 119) xD_132 rfl rfl rfl rfl (hR.1 _ _ _ rfl) rfl ?_ | refine m_getR (pc' := 119) xD_132 rfl rfl (by first | rfl | assumption) rfl (by assumption) rfl ?_
                refine y_loc (pc' := 121) xD_132 rfl rfl rfl rfl ?_
                refine y_ci (pc' := 122) (2) xD_132 rfl rfl rfl rfl ?_
                refine y_op (pc' := 123) xD_132 rfl rfl rfl rfl ?_
                refine m_iald (pc' := 124) (h / 2) xD_132 rfl (by first | rfl | assumption) (by first | assumption | omega) (by first | decide | assumption) (by first | decide | omega) (hdv h h24) rfl ?_
                refine y_op (pc' := 125) xD_132 rfl rfl rfl rfl ?_
                refine y_loc (pc' := 127) xD_132 rfl rfl rfl rfl ?_
                refine y_inc (pc' := 130) (nI (h + 1)) xD_132 rfl rfl rfl e5 rfl rfl ?_
                refine y_goto (pc' := 46) xD_132 rfl rfl ?_
                first
                | (rw [q_in_a h64] at step; exact step)
                | (rw [q_in_b h64 (lg_lt.mp h76)] at step; exact step)
                | (rw [q_in_c h64 (fun q => h76 (lg_lt.mpr q)) (lg_lt.mp h83)] at step; exact step)
                | (rw [q_in_d h64 (fun q => h83 (lg_lt.mpr q)) (Int64.not_lt.mpr ((lg_cmp_ge _ _).mp h96))] at step; exact step)
                | (rw [q_in_e h64 (fun q => h76 (lg_lt.mpr q)) (Int64.not_le.mp (fun q => h96 ((lg_cmp_ge _ _).mpr q)))] at step; exact step)
  have outer : ∀ (f k : Nat) (gs : Int32) (q4 q5 q6 q7 : Option Value), k + f = 25 → XP S d 132 29 [some (.ref 261), some (.int xg), some (.int gs), some (.int (nI k)), q4, q5, q6, q7] [] (hh I J R) (rJ (q_lvl (J 273) (I 269) nb f k gs) (hh I J R)) := by
    intro f
    induction f with
    | zero =>
      intro k gs q4 q5 q6 q7 hk
      refine y_loc (pc' := 30) xD_132 rfl rfl rfl rfl ?_
      refine y_ci (pc' := 32) (24) xD_132 rfl rfl rfl rfl ?_
      refine y_icgt (pt := 159) (pf := 35) xD_132 rfl rfl rfl (fun h32 => ?_) (fun h32 => ?_)
      · skip
        refine y_ldc (pc' := 162) xD_132 rfl rfl rfl rfl ?_
        refine y_retJ xD_132 rfl rfl ?_
        exact rJ_e rfl
      · exact absurd (show (24 : Int32) < nI k by rw [show k = 25 by omega]; decide) h32
    | succ f ih =>
      intro k gs q4 q5 q6 q7 hk
      have e5 : nI k + 1 = nI (k + 1) := nI_1 k
      refine y_loc (pc' := 30) xD_132 rfl rfl rfl rfl ?_
      refine y_ci (pc' := 32) (24) xD_132 rfl rfl rfl rfl ?_
      refine y_icgt (pt := 159) (pf := 35) xD_132 rfl rfl rfl (fun h32 => ?_) (fun h32 => ?_)
      · exact absurd h32 (Int32.not_lt.mpr (nI_le (b := 24) (by omega) (by omega)))
      · skip
        refine y_ldc (pc' := 38) xD_132 rfl rfl rfl rfl ?_
        refine y_loc (pc' := 40) xD_132 rfl rfl rfl rfl ?_
        refine y_ci (pc' := 41) (0) xD_132 rfl rfl rfl rfl ?_
        refine y_loc (pc' := 43) xD_132 rfl rfl rfl rfl ?_
        refine y_ci (pc' := 44) (0) xD_132 rfl rfl rfl rfl ?_
        refine y_loc (pc' := 46) xD_132 rfl rfl rfl rfl ?_
        refine inner gs k _ ?_ (2 * nb) 0 (by omega)
        refine y_loc (pc' := 135) xD_132 rfl rfl rfl rfl ?_
        refine y_cj (pc' := 136) (0) xD_132 rfl rfl rfl rfl ?_
        refine y_op (pc' := 137) xD_132 rfl rfl rfl rfl ?_
        refine y_iflt (pt := 150) (pf := 140) xD_132 rfl rfl rfl (fun h137 => ?_) (fun h137 => ?_)
        · skip
          refine y_loc (pc' := 152) xD_132 rfl rfl rfl rfl ?_
          refine y_loc (pc' := 153) xD_132 rfl rfl rfl rfl ?_
          refine y_inc (pc' := 156) (nI (k + 1)) xD_132 rfl rfl rfl e5 rfl rfl ?_
          refine y_goto (pc' := 29) xD_132 rfl rfl ?_
          (rw [show q_lvl (J 273) (I 269) nb (f + 1) k gs = q_lvl (J 273) (I 269) nb f (k + 1) (q_in (J 273) (I 269) gs (2 * nb)).2 by simp only [q_lvl]; rw [if_neg (Int64.not_le.mpr (lg_lt.mp h137))]]; exact ih (k + 1) _ _ _ _ _ (by omega))
        · skip
          refine y_loc (pc' := 141) xD_132 rfl rfl rfl rfl ?_
          refine y_op (pc' := 142) xD_132 rfl rfl rfl rfl ?_
          refine y_ldc (pc' := 145) xD_132 rfl rfl rfl rfl ?_
          refine y_op (pc' := 146) xD_132 rfl rfl rfl rfl ?_
          refine y_loc (pc' := 148) xD_132 rfl rfl rfl rfl ?_
          refine y_op (pc' := 149) xD_132 rfl rfl rfl rfl ?_
          rw [show q_lvl (J 273) (I 269) nb (f + 1) k gs = (nI k).toInt64 * 8589934592 + (q_in (J 273) (I 269) gs (2 * nb)).1 by simp only [q_lvl]; rw [if_pos (Int64.not_lt.mp (fun q => h137 (lg_lt.mpr q)))]]
          refine y_retJ xD_132 rfl rfl ?_
          exact rJ_e rfl
  refine y_loc (pc' := 1) xD_132 rfl rfl rfl rfl ?_
  first | refine m_getR (pc' := 4) xD_132 rfl rfl rfl rfl (hR.1 _ _ _ rfl) rfl ?_ | refine m_getR (pc' := 4) xD_132 rfl rfl (by first | rfl | assumption) rfl (by assumption) rfl ?_
  refine y_loc (pc' := 5) xD_132 rfl rfl rfl rfl ?_
  refine m_jald (pc' := 6) (g) xD_132 rfl (by first | rfl | assumption) (by first | assumption | omega) (by first | decide | assumption) (by first | rfl | assumption) rfl ?_
  refine y_cj (pc' := 7) (0) xD_132 rfl rfl rfl rfl ?_
  refine y_op (pc' := 8) xD_132 rfl rfl rfl rfl ?_
  refine y_iflt (pt := 18) (pf := 11) xD_132 rfl rfl rfl (fun h8 => ?_) (fun h8 => ?_)
  · skip
    refine y_loc (pc' := 19) xD_132 rfl rfl rfl rfl ?_
    first | refine m_getR (pc' := 22) xD_132 rfl rfl rfl rfl (hR.1 _ _ _ rfl) rfl ?_ | refine m_getR (pc' := 22) xD_132 rfl rfl (by first | rfl | assumption) rfl (by assumption) rfl ?_
    refine y_loc (pc' := 23) xD_132 rfl rfl rfl rfl ?_
    refine y_ci (pc' := 24) (2) xD_132 rfl rfl rfl rfl ?_
    refine y_op (pc' := 25) xD_132 rfl rfl rfl rfl ?_
    refine m_iald (pc' := 26) (g / 2) xD_132 rfl (by first | rfl | assumption) (by omega) (by first | decide | assumption) (by first | decide | omega) (by rw [e1]; exact hdv g hg) rfl ?_
    refine y_loc (pc' := 27) xD_132 rfl rfl rfl rfl ?_
    refine y_ci (pc' := 28) (1) xD_132 rfl rfl rfl rfl ?_
    refine y_loc (pc' := 29) xD_132 rfl rfl rfl rfl ?_
    rw [show q_level (J 273) (I 269) nb g = q_lvl (J 273) (I 269) nb 24 1 (I 269 (g / 2)) by unfold q_level; rw [if_neg (Int64.not_le.mpr (lg_lt.mp h8))]]
    exact outer 24 1 _ _ _ _ _ (by omega)
  · skip
    refine y_loc (pc' := 12) xD_132 rfl rfl rfl rfl ?_
    first | refine m_getR (pc' := 15) xD_132 rfl rfl rfl rfl (hR.1 _ _ _ rfl) rfl ?_ | refine m_getR (pc' := 15) xD_132 rfl rfl (by first | rfl | assumption) rfl (by assumption) rfl ?_
    refine y_loc (pc' := 16) xD_132 rfl rfl rfl rfl ?_
    refine m_jald (pc' := 17) (g) xD_132 rfl (by first | rfl | assumption) (by first | assumption | omega) (by first | decide | assumption) (by first | rfl | assumption) rfl ?_
    rw [show q_level (J 273) (I 269) nb g = J 273 g by unfold q_level; rw [if_pos (Int64.not_lt.mp (fun q => h8 (lg_lt.mpr q)))]]
    refine y_retJ xD_132 rfl rfl ?_
    exact rJ_e rfl
end ML

