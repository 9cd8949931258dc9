/-! line: the model; both sides. -/
section ML
variable {S : XS} {d m n : Nat} {I : Nat → Nat → Int32} {J : Nat → Nat → Int64} {R : Nat → Nat → Option Nat} {o a b c xm : Int32}
theorem v7 {x : Int32} : ((0 : Int32) ≤ x ∧ x ≤ 7) ↔ ∃ t, t < 8 ∧ x = nI t := by
  rw [← var_iff, Int32.le_iff_toInt_le, Int32.le_iff_toInt_le, Int32.lt_iff_toInt_lt]
  show ((0 : Int) ≤ _ ∧ x.toInt ≤ 7) ↔ ((0 : Int) ≤ _ ∧ x.toInt < 8)
  omega
theorem s_mline (hR : RF R) (hst : I 261 9 = 0) (hm : m < 2) (hn : I 265 m = nI n) (hn2 : n ≤ 10) :
    XP S (d + 1) 99 0 (xent [.ref 261, .int (nI m), .int o, .int a, .int b, .int c] 11) [] (hh I J R) (fun v h' => (¬ (n < 10 ∧ AL o a b c) ∧ v = some (.int 0) ∧ h' = hh I J R) ∨ (n < 10 ∧ AL o a b c ∧ v = some (.int 1) ∧ h' = hh (xu (xrow I 264 (w4 (I 264) (40 * m + 4 * n) o a b c)) 265 m (nI (n + 1))) J R)) := by
  have n10 : nI n = 10 ↔ n = 10 := nI_eq (b := 10) (by omega) (by decide)
  have w9 : ((0 : Int32) ≤ o ∧ o ≤ 9) ↔ ∃ t, t < 10 ∧ o = nI t := by
    constructor
    · rintro ⟨a, b⟩
      obtain ⟨j, -, hj, e⟩ := i32_range (a := 0) (b := 10) (by decide) a (Int32.lt_of_le_of_lt b (by decide)) (by decide)
      exact ⟨j, hj, e⟩
    · rintro ⟨j, hj, rfl⟩
      exact ⟨nI_pos' (by omega), nI_le (b := 9) (by omega) (by decide)⟩
  have fin : ∀ f6 f7 f8 f9 : Bool, n < 10 → AL o a b c → XP S (d + 1) 99 176 [some (.ref 261), some (.int (nI m)), some (.int o), some (.int a), some (.int b), some (.int c), some (.int (zB f6)), some (.int (zB f7)), some (.int (zB f8)), some (.int (zB f9)), none] [] (hh I J R) (fun v h' => (¬ (n < 10 ∧ AL o a b c) ∧ v = some (.int 0) ∧ h' = hh I J R) ∨ (n < 10 ∧ AL o a b c ∧ v = some (.int 1) ∧ h' = hh (xu (xrow I 264 (w4 (I 264) (40 * m + 4 * n) o a b c)) 265 m (nI (n + 1))) J R)) := by
    intro f6 f7 f8 f9 hn10 hal
    have e40 : nI m * 40 = nI (m * 40) := pk_mul m 40
    have e4 : nI n * 4 = nI (n * 4) := pk_mul n 4
    have ek : nI (m * 40) + nI (n * 4) = nI (40 * m + 4 * n) := by rw [nI_add, Nat.mul_comm m, Nat.mul_comm n]
    have k1 : nI (40 * m + 4 * n) + 1 = nI (40 * m + 4 * n + 1) := nI_1 _
    have k2 : nI (40 * m + 4 * n) + 2 = nI (40 * m + 4 * n + 2) := nI_add _ 2
    have k3 : nI (40 * m + 4 * n) + 3 = nI (40 * m + 4 * n + 3) := nI_add _ 3
    have e5 : xu (xu (xu (xu I 264 (40 * m + 4 * n) o) 264 (40 * m + 4 * n + 1) a) 264 (40 * m + 4 * n + 2) b) 264 (40 * m + 4 * n + 3) c 265 m = nI n := by rw [xu_ne (by decide), xu_ne (by decide), xu_ne (by decide), xu_ne (by decide)]; exact hn
    refine y_loc (pc' := 177) xD_99 rfl rfl rfl rfl ?_
    refine y_ci (pc' := 179) (40) xD_99 rfl rfl rfl rfl ?_
    refine y_imul (pc' := 180) xD_99 rfl (e40) rfl ?_
    refine y_loc (pc' := 181) xD_99 rfl rfl rfl rfl ?_
    first | refine m_getR (pc' := 184) xD_99 rfl rfl rfl rfl (hR.1 _ _ _ rfl) rfl ?_ | refine m_getR (pc' := 184) xD_99 rfl rfl (by first | rfl | assumption) rfl (by assumption) rfl ?_
    refine y_loc (pc' := 185) xD_99 rfl rfl rfl rfl ?_
    refine m_iald (pc' := 186) (m) xD_99 rfl (by first | rfl | assumption) (by first | assumption | omega) (by first | decide | assumption) (by first | decide | omega) (by first | rfl | assumption) rfl ?_
    rw [hn]
    refine y_ci (pc' := 187) (4) xD_99 rfl rfl rfl rfl ?_
    refine y_imul (pc' := 188) xD_99 rfl (e4) rfl ?_
    refine y_iadd (pc' := 189) xD_99 rfl (ek) rfl ?_
    refine y_loc (pc' := 191) xD_99 rfl rfl rfl rfl ?_
    refine y_loc (pc' := 192) xD_99 rfl rfl rfl rfl ?_
    first | refine m_getR (pc' := 195) xD_99 rfl rfl rfl rfl (hR.1 _ _ _ rfl) rfl ?_ | refine m_getR (pc' := 195) xD_99 rfl rfl (by first | rfl | assumption) rfl (by assumption) rfl ?_
    refine y_loc (pc' := 197) xD_99 rfl rfl rfl rfl ?_
    refine y_loc (pc' := 198) xD_99 rfl rfl rfl rfl ?_
    refine m_iast (pc' := 199) ((40 * m + 4 * n)) xD_99 rfl (by first | rfl | assumption) (by first | assumption | omega) (by first | decide | assumption) (by first | rfl | assumption) rfl ?_
    refine y_loc (pc' := 200) xD_99 rfl rfl rfl rfl ?_
    first | refine m_getR (pc' := 203) xD_99 rfl rfl rfl rfl (hR.1 _ _ _ rfl) rfl ?_ | refine m_getR (pc' := 203) xD_99 rfl rfl (by first | rfl | assumption) rfl (by assumption) rfl ?_
    refine y_loc (pc' := 205) xD_99 rfl rfl rfl rfl ?_
    refine y_ci (pc' := 206) (1) xD_99 rfl rfl rfl rfl ?_
    refine y_iadd (pc' := 207) xD_99 rfl (k1) rfl ?_
    refine y_loc (pc' := 208) xD_99 rfl rfl rfl rfl ?_
    refine m_iast (pc' := 209) ((40 * m + 4 * n + 1)) xD_99 rfl (by first | rfl | assumption) (by first | assumption | omega) (by first | decide | assumption) (by first | rfl | assumption) rfl ?_
    refine y_loc (pc' := 210) xD_99 rfl rfl rfl rfl ?_
    first | refine m_getR (pc' := 213) xD_99 rfl rfl rfl rfl (hR.1 _ _ _ rfl) rfl ?_ | refine m_getR (pc' := 213) xD_99 rfl rfl (by first | rfl | assumption) rfl (by assumption) rfl ?_
    refine y_loc (pc' := 215) xD_99 rfl rfl rfl rfl ?_
    refine y_ci (pc' := 216) (2) xD_99 rfl rfl rfl rfl ?_
    refine y_iadd (pc' := 217) xD_99 rfl (k2) rfl ?_
    refine y_loc (pc' := 219) xD_99 rfl rfl rfl rfl ?_
    refine m_iast (pc' := 220) ((40 * m + 4 * n + 2)) xD_99 rfl (by first | rfl | assumption) (by first | assumption | omega) (by first | decide | assumption) (by first | rfl | assumption) rfl ?_
    refine y_loc (pc' := 221) xD_99 rfl rfl rfl rfl ?_
    first | refine m_getR (pc' := 224) xD_99 rfl rfl rfl rfl (hR.1 _ _ _ rfl) rfl ?_ | refine m_getR (pc' := 224) xD_99 rfl rfl (by first | rfl | assumption) rfl (by assumption) rfl ?_
    refine y_loc (pc' := 226) xD_99 rfl rfl rfl rfl ?_
    refine y_ci (pc' := 227) (3) xD_99 rfl rfl rfl rfl ?_
    refine y_iadd (pc' := 228) xD_99 rfl (k3) rfl ?_
    refine y_loc (pc' := 230) xD_99 rfl rfl rfl rfl ?_
    refine m_iast (pc' := 231) ((40 * m + 4 * n + 3)) xD_99 rfl (by first | rfl | assumption) (by first | assumption | omega) (by first | decide | assumption) (by first | rfl | assumption) rfl ?_
    refine y_loc (pc' := 232) xD_99 rfl rfl rfl rfl ?_
    first | refine m_getR (pc' := 235) xD_99 rfl rfl rfl rfl (hR.1 _ _ _ rfl) rfl ?_ | refine m_getR (pc' := 235) xD_99 rfl rfl (by first | rfl | assumption) rfl (by assumption) rfl ?_
    refine y_loc (pc' := 236) xD_99 rfl rfl rfl rfl ?_
    refine y_op (pc' := 237) xD_99 rfl rfl rfl rfl ?_
    refine m_iald (pc' := 238) (m) xD_99 rfl (by first | rfl | assumption) (by first | assumption | omega) (by first | decide | assumption) (by first | decide | omega) (by first | rfl | assumption) rfl ?_
    rw [e5]
    refine y_ci (pc' := 239) (1) xD_99 rfl rfl rfl rfl ?_
    refine y_iadd (pc' := 240) xD_99 rfl (nI_1 n) rfl ?_
    refine m_iast (pc' := 241) (m) xD_99 rfl (by first | rfl | assumption) (by first | assumption | omega) (by first | decide | assumption) (by first | rfl | assumption) rfl ?_
    rw [xu4]
    refine y_ci (pc' := 242) (1) xD_99 rfl rfl rfl rfl ?_
    refine y_retZ xD_99 rfl rfl (by first | decide | assumption) ?_
    exact Or.inr ⟨hn10, hal, rfl, rfl⟩
  have no : ∀ f6 f7 f8 f9 : Bool, ¬ AL o a b c → XP S (d + 1) 99 174 [some (.ref 261), some (.int (nI m)), some (.int o), some (.int a), some (.int b), some (.int c), some (.int (zB f6)), some (.int (zB f7)), some (.int (zB f8)), some (.int (zB f9)), none] [] (hh I J R) (fun v h' => (¬ (n < 10 ∧ AL o a b c) ∧ v = some (.int 0) ∧ h' = hh I J R) ∨ (n < 10 ∧ AL o a b c ∧ v = some (.int 1) ∧ h' = hh (xu (xrow I 264 (w4 (I 264) (40 * m + 4 * n) o a b c)) 265 m (nI (n + 1))) J R)) := by
    intro f6 f7 f8 f9 q
    refine y_ci (pc' := 175) (0) xD_99 rfl rfl rfl rfl ?_
    refine y_retZ xD_99 rfl rfl (by first | decide | assumption) ?_
    exact Or.inl ⟨fun t => q t.2, rfl, rfl⟩
  have u9 : ∀ f6 f7 f8 f9 : Bool, n < 10 → ((AL o a b c) ↔ (f9 = true → ∃ t, t ≤ 10 ∧ c = nI t)) → XP S (d + 1) 99 158 [some (.ref 261), some (.int (nI m)), some (.int o), some (.int a), some (.int b), some (.int c), some (.int (zB f6)), some (.int (zB f7)), some (.int (zB f8)), some (.int (zB f9)), none] [] (hh I J R) (fun v h' => (¬ (n < 10 ∧ AL o a b c) ∧ v = some (.int 0) ∧ h' = hh I J R) ∨ (n < 10 ∧ AL o a b c ∧ v = some (.int 1) ∧ h' = hh (xu (xrow I 264 (w4 (I 264) (40 * m + 4 * n) o a b c)) 265 m (nI (n + 1))) J R)) := by
    intro f6 f7 f8 f9 hn10 hal
    refine y_loc (pc' := 160) xD_99 rfl rfl rfl rfl ?_
    refine y_ifeq (pt := 176) (pf := 163) xD_99 rfl rfl rfl (fun h160 => ?_) (fun h160 => ?_)
    · skip
      exact fin f6 f7 f8 f9 hn10 (hal.mpr (fun q => by rw [zB_f.mp h160] at q; exact absurd q (by decide)))
    · skip
      refine y_loc (pc' := 165) xD_99 rfl rfl rfl rfl ?_
      refine y_ci (pc' := 166) (0) xD_99 rfl rfl rfl rfl ?_
      refine y_ci (pc' := 168) (10) xD_99 rfl rfl rfl rfl ?_
      refine y_callS xD_99 rfl rfl rfl rfl rfl rfl rfl rfl (s_within) (fun v h' hq => ?_)
      obtain ⟨rfl, rfl⟩ := hq
      refine y_ifne (pt := 176) (pf := 174) xD_99 rfl rfl rfl (fun h171 => ?_) (fun h171 => ?_)
      · skip
        exact fin f6 f7 f8 f9 hn10 (hal.mpr (fun _ => tgt_iff.mp (zB_n0.mp h171)))
      · skip
        exact no f6 f7 f8 f9 (fun q => zB_0.mp h171 (tgt_iff.mpr (hal.mp q (by rw [zB_f, Bool.not_eq_false] at h160; exact h160))))
  have u8 : ∀ f6 f7 f8 f9 : Bool, n < 10 → ((AL o a b c) ↔ (f8 = true → ∃ t, t < 8 ∧ c = nI t) ∧ (f9 = true → ∃ t, t ≤ 10 ∧ c = nI t)) → XP S (d + 1) 99 142 [some (.ref 261), some (.int (nI m)), some (.int o), some (.int a), some (.int b), some (.int c), some (.int (zB f6)), some (.int (zB f7)), some (.int (zB f8)), some (.int (zB f9)), none] [] (hh I J R) (fun v h' => (¬ (n < 10 ∧ AL o a b c) ∧ v = some (.int 0) ∧ h' = hh I J R) ∨ (n < 10 ∧ AL o a b c ∧ v = some (.int 1) ∧ h' = hh (xu (xrow I 264 (w4 (I 264) (40 * m + 4 * n) o a b c)) 265 m (nI (n + 1))) J R)) := by
    intro f6 f7 f8 f9 hn10 hal
    refine y_loc (pc' := 144) xD_99 rfl rfl rfl rfl ?_
    refine y_ifeq (pt := 158) (pf := 147) xD_99 rfl rfl rfl (fun h144 => ?_) (fun h144 => ?_)
    · skip
      exact u9 f6 f7 f8 f9 hn10 (hal.trans ⟨fun q => q.2, fun q => ⟨fun t => by rw [zB_f.mp h144] at t; exact absurd t (by decide), q⟩⟩)
    · skip
      refine y_loc (pc' := 149) xD_99 rfl rfl rfl rfl ?_
      refine y_ci (pc' := 150) (0) xD_99 rfl rfl rfl rfl ?_
      refine y_ci (pc' := 152) (7) xD_99 rfl rfl rfl rfl ?_
      refine y_callS xD_99 rfl rfl rfl rfl rfl rfl rfl rfl (s_within) (fun v h' hq => ?_)
      obtain ⟨rfl, rfl⟩ := hq
      refine y_ifeq (pt := 174) (pf := 158) xD_99 rfl rfl rfl (fun h155 => ?_) (fun h155 => ?_)
      · skip
        exact no f6 f7 f8 f9 (fun q => zB_0.mp h155 (v7.mpr ((hal.mp q).1 (by rw [zB_f, Bool.not_eq_false] at h144; exact h144))))
      · skip
        exact u9 f6 f7 f8 f9 hn10 (hal.trans ⟨fun q => q.2, fun q => ⟨fun _ => v7.mp (zB_n0.mp h155), q⟩⟩)
  have u7 : ∀ f6 f7 f8 f9 : Bool, n < 10 → ((AL o a b c) ↔ (f7 = true → ∃ t, t < 8 ∧ b = nI t) ∧ (f8 = true → ∃ t, t < 8 ∧ c = nI t) ∧ (f9 = true → ∃ t, t ≤ 10 ∧ c = nI t)) → XP S (d + 1) 99 126 [some (.ref 261), some (.int (nI m)), some (.int o), some (.int a), some (.int b), some (.int c), some (.int (zB f6)), some (.int (zB f7)), some (.int (zB f8)), some (.int (zB f9)), none] [] (hh I J R) (fun v h' => (¬ (n < 10 ∧ AL o a b c) ∧ v = some (.int 0) ∧ h' = hh I J R) ∨ (n < 10 ∧ AL o a b c ∧ v = some (.int 1) ∧ h' = hh (xu (xrow I 264 (w4 (I 264) (40 * m + 4 * n) o a b c)) 265 m (nI (n + 1))) J R)) := by
    intro f6 f7 f8 f9 hn10 hal
    refine y_loc (pc' := 128) xD_99 rfl rfl rfl rfl ?_
    refine y_ifeq (pt := 142) (pf := 131) xD_99 rfl rfl rfl (fun h128 => ?_) (fun h128 => ?_)
    · skip
      exact u8 f6 f7 f8 f9 hn10 (hal.trans ⟨fun q => q.2, fun q => ⟨fun t => by rw [zB_f.mp h128] at t; exact absurd t (by decide), q⟩⟩)
    · skip
      refine y_loc (pc' := 133) xD_99 rfl rfl rfl rfl ?_
      refine y_ci (pc' := 134) (0) xD_99 rfl rfl rfl rfl ?_
      refine y_ci (pc' := 136) (7) xD_99 rfl rfl rfl rfl ?_
      refine y_callS xD_99 rfl rfl rfl rfl rfl rfl rfl rfl (s_within) (fun v h' hq => ?_)
      obtain ⟨rfl, rfl⟩ := hq
      refine y_ifeq (pt := 174) (pf := 142) xD_99 rfl rfl rfl (fun h139 => ?_) (fun h139 => ?_)
      · skip
        exact no f6 f7 f8 f9 (fun q => zB_0.mp h139 (v7.mpr ((hal.mp q).1 (by rw [zB_f, Bool.not_eq_false] at h128; exact h128))))
      · skip
        exact u8 f6 f7 f8 f9 hn10 (hal.trans ⟨fun q => q.2, fun q => ⟨fun _ => v7.mp (zB_n0.mp h139), q⟩⟩)
  have u6 : ∀ f6 f7 f8 f9 : Bool, n < 10 → ((AL o a b c) ↔ (f6 = true → ∃ t, t < 8 ∧ a = nI t) ∧ (f7 = true → ∃ t, t < 8 ∧ b = nI t) ∧ (f8 = true → ∃ t, t < 8 ∧ c = nI t) ∧ (f9 = true → ∃ t, t ≤ 10 ∧ c = nI t)) → XP S (d + 1) 99 111 [some (.ref 261), some (.int (nI m)), some (.int o), some (.int a), some (.int b), some (.int c), some (.int (zB f6)), some (.int (zB f7)), some (.int (zB f8)), some (.int (zB f9)), none] [] (hh I J R) (fun v h' => (¬ (n < 10 ∧ AL o a b c) ∧ v = some (.int 0) ∧ h' = hh I J R) ∨ (n < 10 ∧ AL o a b c ∧ v = some (.int 1) ∧ h' = hh (xu (xrow I 264 (w4 (I 264) (40 * m + 4 * n) o a b c)) 265 m (nI (n + 1))) J R)) := by
    intro f6 f7 f8 f9 hn10 hal
    refine y_loc (pc' := 113) xD_99 rfl rfl rfl rfl ?_
    refine y_ifeq (pt := 126) (pf := 116) xD_99 rfl rfl rfl (fun h113 => ?_) (fun h113 => ?_)
    · skip
      exact u7 f6 f7 f8 f9 hn10 (hal.trans ⟨fun q => q.2, fun q => ⟨fun t => by rw [zB_f.mp h113] at t; exact absurd t (by decide), q⟩⟩)
    · skip
      refine y_loc (pc' := 117) xD_99 rfl rfl rfl rfl ?_
      refine y_ci (pc' := 118) (0) xD_99 rfl rfl rfl rfl ?_
      refine y_ci (pc' := 120) (7) xD_99 rfl rfl rfl rfl ?_
      refine y_callS xD_99 rfl rfl rfl rfl rfl rfl rfl rfl (s_within) (fun v h' hq => ?_)
      obtain ⟨rfl, rfl⟩ := hq
      refine y_ifeq (pt := 174) (pf := 126) xD_99 rfl rfl rfl (fun h123 => ?_) (fun h123 => ?_)
      · skip
        exact no f6 f7 f8 f9 (fun q => zB_0.mp h123 (v7.mpr ((hal.mp q).1 (by rw [zB_f, Bool.not_eq_false] at h113; exact h113))))
      · skip
        exact u7 f6 f7 f8 f9 hn10 (hal.trans ⟨fun q => q.2, fun q => ⟨fun _ => v7.mp (zB_n0.mp h123), q⟩⟩)
  have t9 : ∀ f6 f7 f8 : Bool, n < 10 → (∃ t, t < 10 ∧ o = nI t) → (f6 = true ↔ (o ≤ 6 ∨ o = 8)) → (f7 = true ↔ (1 ≤ o ∧ o ≤ 6)) → (f8 = true ↔ (1 ≤ o ∧ o ≤ 4)) → XP S (d + 1) 99 93 [some (.ref 261), some (.int (nI m)), some (.int o), some (.int a), some (.int b), some (.int c), some (.int (zB f6)), some (.int (zB f7)), some (.int (zB f8)), none, none] [] (hh I J R) (fun v h' => (¬ (n < 10 ∧ AL o a b c) ∧ v = some (.int 0) ∧ h' = hh I J R) ∨ (n < 10 ∧ AL o a b c ∧ v = some (.int 1) ∧ h' = hh (xu (xrow I 264 (w4 (I 264) (40 * m + 4 * n) o a b c)) 265 m (nI (n + 1))) J R)) := by
    intro f6 f7 f8 hn10 ho e6 e7 e8
    have key : ∀ f9 : Bool, (f9 = true ↔ (5 ≤ o ∧ o ≤ 7)) → ((AL o a b c) ↔ (f6 = true → ∃ t, t < 8 ∧ a = nI t) ∧ (f7 = true → ∃ t, t < 8 ∧ b = nI t) ∧ (f8 = true → ∃ t, t < 8 ∧ c = nI t) ∧ (f9 = true → ∃ t, t ≤ 10 ∧ c = nI t)) := fun f9 e9 => by
      have q5 : (o = 5 ∨ o = 6 ∨ o = 7) ↔ (5 ≤ o ∧ o ≤ 7) := by
        constructor
        · rintro (rfl | rfl | rfl) <;> decide
        · rintro ⟨x, y⟩
          obtain ⟨j, a, b, e⟩ := i32_range (a := 5) (b := 8) (by decide) x (Int32.lt_of_le_of_lt y (by decide)) (by decide)
          rcases (show j = 5 ∨ j = 6 ∨ j = 7 by omega) with rfl | rfl | rfl
          · exact Or.inl e
          · exact Or.inr (Or.inl e)
          · exact Or.inr (Or.inr e)
      rw [AL_iff, e6, e7, e8, e9, q5]
      exact ⟨fun q => ⟨q.2.2.1, q.2.2.2.1, q.2.2.2.2, q.2.1⟩, fun q => ⟨ho, q.2.2.2, q.1, q.2.1, q.2.2.1⟩⟩
    refine y_loc (pc' := 94) xD_99 rfl rfl rfl rfl ?_
    refine y_ci (pc' := 95) (5) xD_99 rfl rfl rfl rfl ?_
    refine y_iclt (pt := 108) (pf := 98) xD_99 rfl rfl rfl (fun h95 => ?_) (fun h95 => ?_)
    · skip
      refine y_ci (pc' := 109) (0) xD_99 rfl rfl rfl rfl ?_
      refine y_loc (pc' := 111) xD_99 rfl rfl rfl rfl ?_
      exact u6 f6 f7 f8 false hn10 (key false ⟨fun q => absurd q (by decide), fun q => absurd q.1 (Int32.not_le.mpr h95)⟩)
    · skip
      refine y_loc (pc' := 99) xD_99 rfl rfl rfl rfl ?_
      refine y_ci (pc' := 101) (7) xD_99 rfl rfl rfl rfl ?_
      refine y_icgt (pt := 108) (pf := 104) xD_99 rfl rfl rfl (fun h101 => ?_) (fun h101 => ?_)
      · skip
        refine y_ci (pc' := 109) (0) xD_99 rfl rfl rfl rfl ?_
        refine y_loc (pc' := 111) xD_99 rfl rfl rfl rfl ?_
        exact u6 f6 f7 f8 false hn10 (key false ⟨fun q => absurd q (by decide), fun q => absurd q.2 (Int32.not_le.mpr h101)⟩)
      · skip
        refine y_ci (pc' := 105) (1) xD_99 rfl rfl rfl rfl ?_
        refine y_goto (pc' := 109) xD_99 rfl rfl ?_
        refine y_loc (pc' := 111) xD_99 rfl rfl rfl rfl ?_
        exact u6 f6 f7 f8 true hn10 (key true ⟨fun _ => ⟨Int32.not_lt.mp h95, Int32.not_lt.mp h101⟩, fun _ => rfl⟩)
  have t8 : ∀ f6 f7 : Bool, n < 10 → (∃ t, t < 10 ∧ o = nI t) → (f6 = true ↔ (o ≤ 6 ∨ o = 8)) → (f7 = true ↔ (1 ≤ o ∧ o ≤ 6)) → XP S (d + 1) 99 76 [some (.ref 261), some (.int (nI m)), some (.int o), some (.int a), some (.int b), some (.int c), some (.int (zB f6)), some (.int (zB f7)), none, none, none] [] (hh I J R) (fun v h' => (¬ (n < 10 ∧ AL o a b c) ∧ v = some (.int 0) ∧ h' = hh I J R) ∨ (n < 10 ∧ AL o a b c ∧ v = some (.int 1) ∧ h' = hh (xu (xrow I 264 (w4 (I 264) (40 * m + 4 * n) o a b c)) 265 m (nI (n + 1))) J R)) := by
    intro f6 f7 hn10 ho e6 e7
    refine y_loc (pc' := 77) xD_99 rfl rfl rfl rfl ?_
    refine y_ci (pc' := 78) (1) xD_99 rfl rfl rfl rfl ?_
    refine y_iclt (pt := 90) (pf := 81) xD_99 rfl rfl rfl (fun h78 => ?_) (fun h78 => ?_)
    · skip
      refine y_ci (pc' := 91) (0) xD_99 rfl rfl rfl rfl ?_
      refine y_loc (pc' := 93) xD_99 rfl rfl rfl rfl ?_
      exact t9 f6 f7 false hn10 ho e6 e7 ⟨fun q => absurd q (by decide), fun q => absurd q.1 (Int32.not_le.mpr h78)⟩
    · skip
      refine y_loc (pc' := 82) xD_99 rfl rfl rfl rfl ?_
      refine y_ci (pc' := 83) (4) xD_99 rfl rfl rfl rfl ?_
      refine y_icgt (pt := 90) (pf := 86) xD_99 rfl rfl rfl (fun h83 => ?_) (fun h83 => ?_)
      · skip
        refine y_ci (pc' := 91) (0) xD_99 rfl rfl rfl rfl ?_
        refine y_loc (pc' := 93) xD_99 rfl rfl rfl rfl ?_
        exact t9 f6 f7 false hn10 ho e6 e7 ⟨fun q => absurd q (by decide), fun q => absurd q.2 (Int32.not_le.mpr h83)⟩
      · skip
        refine y_ci (pc' := 87) (1) xD_99 rfl rfl rfl rfl ?_
        refine y_goto (pc' := 91) xD_99 rfl rfl ?_
        refine y_loc (pc' := 93) xD_99 rfl rfl rfl rfl ?_
        exact t9 f6 f7 true hn10 ho e6 e7 ⟨fun _ => ⟨Int32.not_lt.mp h78, Int32.not_lt.mp h83⟩, fun _ => rfl⟩
  have t7 : ∀ f6 : Bool, n < 10 → (∃ t, t < 10 ∧ o = nI t) → (f6 = true ↔ (o ≤ 6 ∨ o = 8)) → XP S (d + 1) 99 58 [some (.ref 261), some (.int (nI m)), some (.int o), some (.int a), some (.int b), some (.int c), some (.int (zB f6)), none, none, none, none] [] (hh I J R) (fun v h' => (¬ (n < 10 ∧ AL o a b c) ∧ v = some (.int 0) ∧ h' = hh I J R) ∨ (n < 10 ∧ AL o a b c ∧ v = some (.int 1) ∧ h' = hh (xu (xrow I 264 (w4 (I 264) (40 * m + 4 * n) o a b c)) 265 m (nI (n + 1))) J R)) := by
    intro f6 hn10 ho e6
    refine y_loc (pc' := 59) xD_99 rfl rfl rfl rfl ?_
    refine y_ci (pc' := 60) (1) xD_99 rfl rfl rfl rfl ?_
    refine y_iclt (pt := 73) (pf := 63) xD_99 rfl rfl rfl (fun h60 => ?_) (fun h60 => ?_)
    · skip
      refine y_ci (pc' := 74) (0) xD_99 rfl rfl rfl rfl ?_
      refine y_loc (pc' := 76) xD_99 rfl rfl rfl rfl ?_
      exact t8 f6 false hn10 ho e6 ⟨fun q => absurd q (by decide), fun q => absurd q.1 (Int32.not_le.mpr h60)⟩
    · skip
      refine y_loc (pc' := 64) xD_99 rfl rfl rfl rfl ?_
      refine y_ci (pc' := 66) (6) xD_99 rfl rfl rfl rfl ?_
      refine y_icgt (pt := 73) (pf := 69) xD_99 rfl rfl rfl (fun h66 => ?_) (fun h66 => ?_)
      · skip
        refine y_ci (pc' := 74) (0) xD_99 rfl rfl rfl rfl ?_
        refine y_loc (pc' := 76) xD_99 rfl rfl rfl rfl ?_
        exact t8 f6 false hn10 ho e6 ⟨fun q => absurd q (by decide), fun q => absurd q.2 (Int32.not_le.mpr h66)⟩
      · skip
        refine y_ci (pc' := 70) (1) xD_99 rfl rfl rfl rfl ?_
        refine y_goto (pc' := 74) xD_99 rfl rfl ?_
        refine y_loc (pc' := 76) xD_99 rfl rfl rfl rfl ?_
        exact t8 f6 true hn10 ho e6 ⟨fun _ => ⟨Int32.not_lt.mp h60, Int32.not_lt.mp h66⟩, fun _ => rfl⟩
  refine y_loc (pc' := 1) xD_99 rfl rfl rfl rfl ?_
  refine m_getZ (pc' := 4) xD_99 rfl rfl rfl (by first | rfl | assumption) (hst) rfl ?_
  refine y_ifne (pt := 37) (pf := 7) xD_99 rfl rfl rfl (fun h4 => ?_) (fun h4 => ?_)
  · exact absurd rfl h4
  · skip
    refine y_loc (pc' := 8) xD_99 rfl rfl rfl rfl ?_
    refine y_ci (pc' := 9) (0) xD_99 rfl rfl rfl rfl ?_
    refine y_ci (pc' := 10) (1) xD_99 rfl rfl rfl rfl ?_
    refine y_callS xD_99 rfl rfl rfl rfl rfl rfl rfl rfl (s_within) (fun v h' hq => ?_)
    obtain ⟨rfl, rfl⟩ := hq
    refine y_ifeq (pt := 37) (pf := 16) xD_99 rfl rfl rfl (fun h13 => ?_) (fun h13 => ?_)
    · exact absurd ⟨nI_pos' (by omega), nI_le (b := 1) (by omega) (by decide)⟩ (zB_0.mp h13)
    · skip
      refine y_loc (pc' := 17) xD_99 rfl rfl rfl rfl ?_
      refine y_ci (pc' := 18) (0) xD_99 rfl rfl rfl rfl ?_
      refine y_ci (pc' := 20) (9) xD_99 rfl rfl rfl rfl ?_
      refine y_callS xD_99 rfl rfl rfl rfl rfl rfl rfl rfl (s_within) (fun v h' hq => ?_)
      obtain ⟨rfl, rfl⟩ := hq
      refine y_ifeq (pt := 37) (pf := 26) xD_99 rfl rfl rfl (fun h23 => ?_) (fun h23 => ?_)
      · skip
        refine y_ci (pc' := 38) (0) xD_99 rfl rfl rfl rfl ?_
        refine y_retZ xD_99 rfl rfl (by first | decide | assumption) ?_
        exact Or.inl ⟨fun q => zB_0.mp h23 (w9.mpr (AL_iff.mp q.2).1), rfl, rfl⟩
      · skip
        have ho := w9.mp (zB_n0.mp h23)
        refine y_loc (pc' := 27) xD_99 rfl rfl rfl rfl ?_
        first | refine m_getR (pc' := 30) xD_99 rfl rfl rfl rfl (hR.1 _ _ _ rfl) rfl ?_ | refine m_getR (pc' := 30) xD_99 rfl rfl (by first | rfl | assumption) rfl (by assumption) rfl ?_
        refine y_loc (pc' := 31) xD_99 rfl rfl rfl rfl ?_
        refine m_iald (pc' := 32) (m) xD_99 rfl (by first | rfl | assumption) (by first | assumption | omega) (by first | decide | assumption) (by first | decide | omega) (by first | rfl | assumption) rfl ?_
        rw [hn]
        refine y_ci (pc' := 34) (10) xD_99 rfl rfl rfl rfl ?_
        refine y_icne (pt := 39) (pf := 37) xD_99 rfl rfl rfl (fun h34 => ?_) (fun h34 => ?_)
        · skip
          have hn10 : n < 10 := by
            have : ¬ n = 10 := fun q => h34 (n10.mpr q)
            omega
          refine y_loc (pc' := 40) xD_99 rfl rfl rfl rfl ?_
          refine y_ci (pc' := 42) (6) xD_99 rfl rfl rfl rfl ?_
          refine y_icle (pt := 51) (pf := 45) xD_99 rfl rfl rfl (fun h42 => ?_) (fun h42 => ?_)
          · skip
            refine y_ci (pc' := 52) (1) xD_99 rfl rfl rfl rfl ?_
            refine y_goto (pc' := 56) xD_99 rfl rfl ?_
            refine y_loc (pc' := 58) xD_99 rfl rfl rfl rfl ?_
            exact t7 true hn10 ho ⟨fun _ => Or.inl h42, fun _ => rfl⟩
          · skip
            refine y_loc (pc' := 46) xD_99 rfl rfl rfl rfl ?_
            refine y_ci (pc' := 48) (8) xD_99 rfl rfl rfl rfl ?_
            refine y_icne (pt := 55) (pf := 51) xD_99 rfl rfl rfl (fun h48 => ?_) (fun h48 => ?_)
            · skip
              refine y_ci (pc' := 56) (0) xD_99 rfl rfl rfl rfl ?_
              refine y_loc (pc' := 58) xD_99 rfl rfl rfl rfl ?_
              exact t7 false hn10 ho ⟨fun q => absurd q (by decide), fun q => absurd q (fun t => t.elim h42 h48)⟩
            · skip
              refine y_ci (pc' := 52) (1) xD_99 rfl rfl rfl rfl ?_
              refine y_goto (pc' := 56) xD_99 rfl rfl ?_
              refine y_loc (pc' := 58) xD_99 rfl rfl rfl rfl ?_
              exact t7 true hn10 ho ⟨fun _ => Or.inr h48, fun _ => rfl⟩
        · skip
          refine y_ci (pc' := 38) (0) xD_99 rfl rfl rfl rfl ?_
          refine y_retZ xD_99 rfl rfl (by first | decide | assumption) ?_
          exact Or.inl ⟨fun q => by have := n10.mp h34; have := q.1; omega, rfl, rfl⟩
end ML

