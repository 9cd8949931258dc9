/-! Draws and the writing of steps. -/
def dn (b : Int64) : Int64 := b * 25214903917 + 11 &&& 281474976710655
def du (b : Int64) : Int64 := (b.toUInt64 >>> ((17 : Int32).toInt64.toUInt64 &&& Int64.toUInt64 63)).toInt64
def dv (b : Int64) (n : Nat) : Nat := (du b).toInt.toNat % n
theorem bm64 {x : Int} (h0 : 0 ≤ x) (h1 : x < 4611686018427387904) : x.bmod (2 ^ 64) = x := by
  rw [Int.bmod_def, show (((2 ^ 64 : Nat)) : Int) = 18446744073709551616 from rfl]
  omega
theorem bm32 {x : Int} (h0 : 0 ≤ x) (h1 : x < 1073741824) : x.bmod (2 ^ 32) = x := by
  rw [Int.bmod_def, show (((2 ^ 32 : Nat)) : Int) = 4294967296 from rfl]
  omega
theorem du_b (b : Int64) : 0 ≤ (du b).toInt ∧ (du b).toInt < 2 ^ 47 := by
  have e : (du b).toInt = (b.toUInt64.toBitVec >>> (17 : Nat)).toInt := by rfl
  have h := b.toUInt64.toBitVec.isLt
  rw [e, BitVec.toInt_eq_toNat_cond, BitVec.toNat_ushiftRight, Nat.shiftRight_eq_div_pow]
  omega
theorem dv_lt (b : Int64) {n : Nat} (hn : 0 < n) : dv b n < n := Nat.mod_lt _ hn
theorem nI64 {n : Nat} (h : n < 2000) : (nI n).toInt64.toInt = n := by
  rw [Int32.toInt_toInt64]
  exact nI_toInt (by omega)
theorem dv_e (b : Int64) {n : Nat} (hn : 0 < n) (hn2 : n < 2000) : (du b - du b / (nI n).toInt64 * (nI n).toInt64).toInt32 = nI (dv b n) := by
  obtain ⟨h0, h1⟩ := du_b b
  have hm : dv b n < n := dv_lt b hn
  have hy := nI64 hn2
  apply Int32.toInt_inj.mp
  obtain ⟨m, em⟩ : ∃ m : Nat, (du b).toInt = (m : Int) := ⟨(du b).toInt.toNat, by omega⟩
  have ed : dv b n = m % n := by unfold dv; rw [em]; rfl
  have hq : m / n * n ≤ m := Nat.div_mul_le_self m n
  have hr : m % n = m - m / n * n := by have := Nat.div_add_mod m n; rw [Nat.mul_comm] at this; omega
  have e1 : (du b / (nI n).toInt64).toInt = ((m / n : Nat) : Int) := by
    rw [Int64.toInt_div, em, hy, ← Int.ofNat_tdiv]
    have : m / n ≤ m := Nat.div_le_self m n
    exact bm64 (Int.natCast_nonneg _) (Int.lt_of_le_of_lt (Int.ofNat_le.mpr this) (by omega))
  have e2 : (du b / (nI n).toInt64 * (nI n).toInt64).toInt = ((m / n * n : Nat) : Int) := by
    rw [Int64.toInt_mul, e1, hy, ← Int.natCast_mul]
    exact bm64 (by omega) (by omega)
  rw [Int64.toInt_toInt32, Int64.toInt_sub, e2, em, nI_toInt (by omega), ed, hr, ← Int.ofNat_sub hq, bm64 (by omega) (by omega)]
  exact bm32 (by omega) (by omega)
theorem nI64_0 {n : Nat} (hn : 0 < n) (h : n < 2000) : ¬ (nI n).toInt64 = 0 := fun e => by
  have := nI64 h
  rw [e] at this
  have h2 : (0 : Int64).toInt = 0 := rfl
  omega

/-- four parts written from place b on -/
def w4 (f : Nat → Int32) (b : Nat) (k x y r : Int32) : Nat → Int32 := upd (upd (upd (upd f b k) (b + 1) x) (b + 2) y) (b + 3) r
def w2 (f : Nat → Int32) (b : Nat) (y r : Int32) : Nat → Int32 := upd (upd f (b + 2) y) (b + 3) r
theorem xu4 {I : Nat → Nat → Int32} {a b : Nat} {k x y r : Int32} : xu (xu (xu (xu I a b k) a (b + 1) x) a (b + 2) y) a (b + 3) r = xrow I a (w4 (I a) b k x y r) := by
  simp only [xu_rowI, xrow_row, xrow_at]; rfl
theorem xu2 {I : Nat → Nat → Int32} {a b : Nat} {y r : Int32} : xu (xu I a (b + 2) y) a (b + 3) r = xrow I a (w2 (I a) b y r) := by
  simp only [xu_rowI, xrow_row, xrow_at]; rfl
section DR
variable {S : XS} {d a s : Nat} {I : Nat → Nat → Int32} {J : Nat → Nat → Int64} {R : Nat → Nat → Option Nat}
/-- Draws.draw -/
theorem s_draw (n : Nat) (hn : 0 < n) (hn2 : n < 2000) {x : Int32} (e1 : x = nI n) : XP S d 29 0 (xent [.ref 18, .int x] 2) [] (hh I J R) (rI (nI (dv (dn (J 18 2)) n)) (hh I (xu J 18 2 (dn (J 18 2))) R)) := by
  subst e1
  refine y_loc (pc' := 1) xD_29 rfl rfl rfl rfl ?_
  refine y_loc (pc' := 2) xD_29 rfl rfl rfl rfl ?_
  refine m_get (pc' := 5) xD_29 rfl rfl (by first | rfl | assumption) rfl rfl ?_
  refine y_ldc (pc' := 8) xD_29 rfl rfl rfl rfl ?_
  refine y_op (pc' := 9) xD_29 rfl rfl rfl rfl ?_
  refine y_ldc (pc' := 12) xD_29 rfl rfl rfl rfl ?_
  refine y_op (pc' := 13) xD_29 rfl rfl rfl rfl ?_
  refine y_ldc (pc' := 16) xD_29 rfl rfl rfl rfl ?_
  refine y_op (pc' := 17) xD_29 rfl rfl rfl rfl ?_
  refine m_putJ (pc' := 20) xD_29 rfl rfl (by first | rfl | assumption) rfl rfl rfl ?_
  refine y_loc (pc' := 21) xD_29 rfl rfl rfl rfl ?_
  refine y_ci (pc' := 22) (1) xD_29 rfl rfl rfl rfl ?_
  refine y_icge (pt := 29) (pf := 25) xD_29 rfl rfl rfl (fun h22 => ?_) (fun h22 => ?_)
  · skip
    refine y_loc (pc' := 30) xD_29 rfl rfl rfl rfl ?_
    refine m_get (pc' := 33) xD_29 rfl rfl (by first | rfl | assumption) rfl rfl ?_
    refine y_ci (pc' := 35) (17) xD_29 rfl rfl rfl rfl ?_
    refine y_op (pc' := 36) xD_29 rfl rfl rfl rfl ?_
    refine y_loc (pc' := 37) xD_29 rfl rfl rfl rfl ?_
    refine y_op (pc' := 38) xD_29 rfl rfl rfl rfl ?_
    refine y_op (pc' := 39) xD_29 rfl rfl (show (if (nI n).toInt64 = 0 then none else some _) = some _ from if_neg (nI64_0 hn hn2)) rfl ?_
    refine y_op (pc' := 40) xD_29 rfl rfl rfl rfl ?_
    refine y_retI xD_29 rfl rfl ?_
    refine rI_e ?_
    rw [xu_at]
    exact dv_e _ hn hn2
  · exact absurd ((nI_leI (a := 1) (by omega) (by omega)).mpr hn) h22
/-- the model's draw -/
theorem s_mdraw (n : Nat) (hn : 0 < n) (hn2 : n < 2000) {x : Int32} (e1 : x = nI n) : XP S d 118 0 (xent [.ref 261, .int x] 2) [] (hh I J R) (rI (nI (dv (dn (J 261 14)) n)) (hh I (xu J 261 14 (dn (J 261 14))) R)) := by
  subst e1
  refine y_loc (pc' := 1) xD_118 rfl rfl rfl rfl ?_
  refine y_loc (pc' := 2) xD_118 rfl rfl rfl rfl ?_
  refine m_get (pc' := 5) xD_118 rfl rfl (by first | rfl | assumption) rfl rfl ?_
  refine y_ldc (pc' := 8) xD_118 rfl rfl rfl rfl ?_
  refine y_op (pc' := 9) xD_118 rfl rfl rfl rfl ?_
  refine y_ldc (pc' := 12) xD_118 rfl rfl rfl rfl ?_
  refine y_op (pc' := 13) xD_118 rfl rfl rfl rfl ?_
  refine y_ldc (pc' := 16) xD_118 rfl rfl rfl rfl ?_
  refine y_op (pc' := 17) xD_118 rfl rfl rfl rfl ?_
  refine m_putJ (pc' := 20) xD_118 rfl rfl (by first | rfl | assumption) rfl rfl rfl ?_
  refine y_loc (pc' := 21) xD_118 rfl rfl rfl rfl ?_
  refine m_get (pc' := 24) xD_118 rfl rfl (by first | rfl | assumption) rfl rfl ?_
  refine y_ci (pc' := 26) (17) xD_118 rfl rfl rfl rfl ?_
  refine y_op (pc' := 27) xD_118 rfl rfl rfl rfl ?_
  refine y_loc (pc' := 28) xD_118 rfl rfl rfl rfl ?_
  refine y_op (pc' := 29) xD_118 rfl rfl rfl rfl ?_
  refine y_op (pc' := 30) xD_118 rfl rfl (show (if (nI n).toInt64 = 0 then none else some _) = some _ from if_neg (nI64_0 hn hn2)) rfl ?_
  refine y_op (pc' := 31) xD_118 rfl rfl rfl rfl ?_
  refine y_retI xD_118 rfl rfl ?_
  refine rI_e ?_
  rw [xu_at]
  exact dv_e _ hn hn2
/-- Case.write -/
theorem s_write (hR : RF R) (hc : isCase a) (j : Nat) (hj : j < 6) {xj k x y r : Int32} (e1 : xj = nI j) : XP S d 32 0 (xent [.ref a, .int xj, .int k, .int x, .int y, .int r] 6) [] (hh I J R) (rV (hh (xrow I (a + 1) (w4 (I (a + 1)) (4 * j) k x y r)) J R)) := by
  have hk0 := (kCase hc).1
  have hk1 := (kCase hc).2.1
  have hr0 := (hR.2 a hc).1
  have e4 : ∀ p, p < 4 → xj * 4 + nI p = nI (4 * j + p) := fun p _ => by rw [e1]; show nI j * nI 4 + nI p = _; rw [pk_mul, nI_add, Nat.mul_comm]
  rw [← xu4]
  refine y_loc (pc' := 1) xD_32 rfl rfl rfl rfl ?_
  first | refine m_getR (pc' := 4) xD_32 rfl rfl rfl rfl (hR.1 _ _ _ rfl) rfl ?_ | refine m_getR (pc' := 4) xD_32 rfl rfl (by first | rfl | assumption) rfl (by assumption) rfl ?_
  refine y_loc (pc' := 5) xD_32 rfl rfl rfl rfl ?_
  refine y_ci (pc' := 6) (4) xD_32 rfl rfl rfl rfl ?_
  refine y_op (pc' := 7) xD_32 rfl rfl rfl rfl ?_
  refine y_ci (pc' := 8) (0) xD_32 rfl rfl rfl rfl ?_
  refine y_op (pc' := 9) xD_32 rfl rfl rfl rfl ?_
  refine y_loc (pc' := 10) xD_32 rfl rfl rfl rfl ?_
  refine m_iast (pc' := 11) (4 * j) xD_32 rfl (by first | rfl | assumption) (by first | assumption | omega) (by first | decide | assumption) (e4 0 (by decide)) rfl ?_
  refine y_loc (pc' := 12) xD_32 rfl rfl rfl rfl ?_
  first | refine m_getR (pc' := 15) xD_32 rfl rfl rfl rfl (hR.1 _ _ _ rfl) rfl ?_ | refine m_getR (pc' := 15) xD_32 rfl rfl (by first | rfl | assumption) rfl (by assumption) rfl ?_
  refine y_loc (pc' := 16) xD_32 rfl rfl rfl rfl ?_
  refine y_ci (pc' := 17) (4) xD_32 rfl rfl rfl rfl ?_
  refine y_op (pc' := 18) xD_32 rfl rfl rfl rfl ?_
  refine y_ci (pc' := 19) (1) xD_32 rfl rfl rfl rfl ?_
  refine y_op (pc' := 20) xD_32 rfl rfl rfl rfl ?_
  refine y_loc (pc' := 21) xD_32 rfl rfl rfl rfl ?_
  refine m_iast (pc' := 22) (4 * j + 1) xD_32 rfl (by first | rfl | assumption) (by first | assumption | omega) (by first | decide | assumption) (e4 1 (by decide)) rfl ?_
  refine y_loc (pc' := 23) xD_32 rfl rfl rfl rfl ?_
  first | refine m_getR (pc' := 26) xD_32 rfl rfl rfl rfl (hR.1 _ _ _ rfl) rfl ?_ | refine m_getR (pc' := 26) xD_32 rfl rfl (by first | rfl | assumption) rfl (by assumption) rfl ?_
  refine y_loc (pc' := 27) xD_32 rfl rfl rfl rfl ?_
  refine y_ci (pc' := 28) (4) xD_32 rfl rfl rfl rfl ?_
  refine y_op (pc' := 29) xD_32 rfl rfl rfl rfl ?_
  refine y_ci (pc' := 30) (2) xD_32 rfl rfl rfl rfl ?_
  refine y_op (pc' := 31) xD_32 rfl rfl rfl rfl ?_
  refine y_loc (pc' := 33) xD_32 rfl rfl rfl rfl ?_
  refine m_iast (pc' := 34) (4 * j + 2) xD_32 rfl (by first | rfl | assumption) (by first | assumption | omega) (by first | decide | assumption) (e4 2 (by decide)) rfl ?_
  refine y_loc (pc' := 35) xD_32 rfl rfl rfl rfl ?_
  first | refine m_getR (pc' := 38) xD_32 rfl rfl rfl rfl (hR.1 _ _ _ rfl) rfl ?_ | refine m_getR (pc' := 38) xD_32 rfl rfl (by first | rfl | assumption) rfl (by assumption) rfl ?_
  refine y_loc (pc' := 39) xD_32 rfl rfl rfl rfl ?_
  refine y_ci (pc' := 40) (4) xD_32 rfl rfl rfl rfl ?_
  refine y_op (pc' := 41) xD_32 rfl rfl rfl rfl ?_
  refine y_ci (pc' := 42) (3) xD_32 rfl rfl rfl rfl ?_
  refine y_op (pc' := 43) xD_32 rfl rfl rfl rfl ?_
  refine y_loc (pc' := 45) xD_32 rfl rfl rfl rfl ?_
  refine m_iast (pc' := 46) (4 * j + 3) xD_32 rfl (by first | rfl | assumption) (by first | assumption | omega) (by first | decide | assumption) (e4 3 (by decide)) rfl ?_
  refine y_retV xD_32 rfl rfl ?_
  exact ⟨rfl, rfl⟩
/-- the model's write -/
theorem s_mwrite (hR : RF R) (hs : s < 67) (j : Nat) (hj : j < 6) {xs xj k x : Int32} (e0 : xs = nI s) (e1 : xj = nI j) : XP S d 105 0 (xent [.ref 261, .int xs, .int xj, .int k, .int x] 6) [] (hh I J R) (rV (hh (xrow I 262 (w4 (I 262) (24 * s + 4 * j) k x 0 (-1))) J R)) := by
  have e5 : xs * 24 + xj * 4 = nI (24 * s + 4 * j) := by rw [e0, e1]; show nI s * nI 24 + nI j * nI 4 = _; rw [pk_mul, pk_mul, nI_add, Nat.mul_comm s, Nat.mul_comm j]
  have e4 : ∀ p, p < 4 → xs * 24 + xj * 4 + nI p = nI (24 * s + 4 * j + p) := fun p _ => by rw [e5, nI_add]
  rw [← xu4]
  refine y_loc (pc' := 1) xD_105 rfl rfl rfl rfl ?_
  refine y_ci (pc' := 3) (24) xD_105 rfl rfl rfl rfl ?_
  refine y_op (pc' := 4) xD_105 rfl rfl rfl rfl ?_
  refine y_loc (pc' := 5) xD_105 rfl rfl rfl rfl ?_
  refine y_ci (pc' := 6) (4) xD_105 rfl rfl rfl rfl ?_
  refine y_op (pc' := 7) xD_105 rfl rfl rfl rfl ?_
  refine y_op (pc' := 8) xD_105 rfl rfl rfl rfl ?_
  refine y_loc (pc' := 10) xD_105 rfl rfl rfl rfl ?_
  refine y_loc (pc' := 11) xD_105 rfl rfl rfl rfl ?_
  first | refine m_getR (pc' := 14) xD_105 rfl rfl rfl rfl (hR.1 _ _ _ rfl) rfl ?_ | refine m_getR (pc' := 14) xD_105 rfl rfl (by first | rfl | assumption) rfl (by assumption) rfl ?_
  refine y_loc (pc' := 16) xD_105 rfl rfl rfl rfl ?_
  refine y_loc (pc' := 17) xD_105 rfl rfl rfl rfl ?_
  refine m_iast (pc' := 18) (24 * s + 4 * j) xD_105 rfl (by first | rfl | assumption) (by first | assumption | omega) (by first | decide | assumption) e5 rfl ?_
  refine y_loc (pc' := 19) xD_105 rfl rfl rfl rfl ?_
  first | refine m_getR (pc' := 22) xD_105 rfl rfl rfl rfl (hR.1 _ _ _ rfl) rfl ?_ | refine m_getR (pc' := 22) xD_105 rfl rfl (by first | rfl | assumption) rfl (by assumption) rfl ?_
  refine y_loc (pc' := 24) xD_105 rfl rfl rfl rfl ?_
  refine y_ci (pc' := 25) (1) xD_105 rfl rfl rfl rfl ?_
  refine y_op (pc' := 26) xD_105 rfl rfl rfl rfl ?_
  refine y_loc (pc' := 28) xD_105 rfl rfl rfl rfl ?_
  refine m_iast (pc' := 29) (24 * s + 4 * j + 1) xD_105 rfl (by first | rfl | assumption) (by first | assumption | omega) (by first | decide | assumption) (e4 1 (by decide)) rfl ?_
  refine y_loc (pc' := 30) xD_105 rfl rfl rfl rfl ?_
  first | refine m_getR (pc' := 33) xD_105 rfl rfl rfl rfl (hR.1 _ _ _ rfl) rfl ?_ | refine m_getR (pc' := 33) xD_105 rfl rfl (by first | rfl | assumption) rfl (by assumption) rfl ?_
  refine y_loc (pc' := 35) xD_105 rfl rfl rfl rfl ?_
  refine y_ci (pc' := 36) (2) xD_105 rfl rfl rfl rfl ?_
  refine y_op (pc' := 37) xD_105 rfl rfl rfl rfl ?_
  refine y_ci (pc' := 38) (0) xD_105 rfl rfl rfl rfl ?_
  refine m_iast (pc' := 39) (24 * s + 4 * j + 2) xD_105 rfl (by first | rfl | assumption) (by first | assumption | omega) (by first | decide | assumption) (e4 2 (by decide)) rfl ?_
  refine y_loc (pc' := 40) xD_105 rfl rfl rfl rfl ?_
  first | refine m_getR (pc' := 43) xD_105 rfl rfl rfl rfl (hR.1 _ _ _ rfl) rfl ?_ | refine m_getR (pc' := 43) xD_105 rfl rfl (by first | rfl | assumption) rfl (by assumption) rfl ?_
  refine y_loc (pc' := 45) xD_105 rfl rfl rfl rfl ?_
  refine y_ci (pc' := 46) (3) xD_105 rfl rfl rfl rfl ?_
  refine y_op (pc' := 47) xD_105 rfl rfl rfl rfl ?_
  refine y_ci (pc' := 48) (-1) xD_105 rfl rfl rfl rfl ?_
  refine m_iast (pc' := 49) (24 * s + 4 * j + 3) xD_105 rfl (by first | rfl | assumption) (by first | assumption | omega) (by first | decide | assumption) (e4 3 (by decide)) rfl ?_
  refine y_retV xD_105 rfl rfl ?_
  exact ⟨rfl, rfl⟩
/-- the model's second -/
theorem s_msecond (hR : RF R) (hs : s < 67) (j : Nat) (hj : j < 6) {xs xj y r : Int32} (e0 : xs = nI s) (e1 : xj = nI j) : XP S d 106 0 (xent [.ref 261, .int xs, .int xj, .int y, .int r] 5) [] (hh I J R) (rV (hh (xrow I 262 (w2 (I 262) (24 * s + 4 * j) (if r < 0 then y else 0) r)) J R)) := by
  have e5 : xs * 24 + xj * 4 = nI (24 * s + 4 * j) := by rw [e0, e1]; show nI s * nI 24 + nI j * nI 4 = _; rw [pk_mul, pk_mul, nI_add, Nat.mul_comm s, Nat.mul_comm j]
  have e4 : ∀ p, p < 4 → xs * 24 + xj * 4 + nI p = nI (24 * s + 4 * j + p) := fun p _ => by rw [e5, nI_add]
  rw [← xu2]
  refine y_loc (pc' := 1) xD_106 rfl rfl rfl rfl ?_
  first | refine m_getR (pc' := 4) xD_106 rfl rfl rfl rfl (hR.1 _ _ _ rfl) rfl ?_ | refine m_getR (pc' := 4) xD_106 rfl rfl (by first | rfl | assumption) rfl (by assumption) rfl ?_
  refine y_loc (pc' := 5) xD_106 rfl rfl rfl rfl ?_
  refine y_ci (pc' := 7) (24) xD_106 rfl rfl rfl rfl ?_
  refine y_op (pc' := 8) xD_106 rfl rfl rfl rfl ?_
  refine y_loc (pc' := 9) xD_106 rfl rfl rfl rfl ?_
  refine y_ci (pc' := 10) (4) xD_106 rfl rfl rfl rfl ?_
  refine y_op (pc' := 11) xD_106 rfl rfl rfl rfl ?_
  refine y_op (pc' := 12) xD_106 rfl rfl rfl rfl ?_
  refine y_ci (pc' := 13) (2) xD_106 rfl rfl rfl rfl ?_
  refine y_op (pc' := 14) xD_106 rfl rfl rfl rfl ?_
  refine y_loc (pc' := 16) xD_106 rfl rfl rfl rfl ?_
  refine y_ifge (pt := 23) (pf := 19) xD_106 rfl rfl rfl (fun h16 => ?_) (fun h16 => ?_)
  · skip
    refine y_ci (pc' := 24) (0) xD_106 rfl rfl rfl rfl ?_
    first | rw [if_neg (Int32.not_lt.mpr h16)] | rw [if_pos (Int32.not_le.mp h16)]
    refine m_iast (pc' := 25) (24 * s + 4 * j + 2) xD_106 rfl (by first | rfl | assumption) (by first | assumption | omega) (by first | decide | assumption) (e4 2 (by decide)) rfl ?_
    refine y_loc (pc' := 26) xD_106 rfl rfl rfl rfl ?_
    first | refine m_getR (pc' := 29) xD_106 rfl rfl rfl rfl (hR.1 _ _ _ rfl) rfl ?_ | refine m_getR (pc' := 29) xD_106 rfl rfl (by first | rfl | assumption) rfl (by assumption) rfl ?_
    refine y_loc (pc' := 30) xD_106 rfl rfl rfl rfl ?_
    refine y_ci (pc' := 32) (24) xD_106 rfl rfl rfl rfl ?_
    refine y_op (pc' := 33) xD_106 rfl rfl rfl rfl ?_
    refine y_loc (pc' := 34) xD_106 rfl rfl rfl rfl ?_
    refine y_ci (pc' := 35) (4) xD_106 rfl rfl rfl rfl ?_
    refine y_op (pc' := 36) xD_106 rfl rfl rfl rfl ?_
    refine y_op (pc' := 37) xD_106 rfl rfl rfl rfl ?_
    refine y_ci (pc' := 38) (3) xD_106 rfl rfl rfl rfl ?_
    refine y_op (pc' := 39) xD_106 rfl rfl rfl rfl ?_
    refine y_loc (pc' := 41) xD_106 rfl rfl rfl rfl ?_
    refine m_iast (pc' := 42) (24 * s + 4 * j + 3) xD_106 rfl (by first | rfl | assumption) (by first | assumption | omega) (by first | decide | assumption) (e4 3 (by decide)) rfl ?_
    refine y_retV xD_106 rfl rfl ?_
    exact ⟨rfl, rfl⟩
  · skip
    refine y_loc (pc' := 20) xD_106 rfl rfl rfl rfl ?_
    refine y_goto (pc' := 24) xD_106 rfl rfl ?_
    first | rw [if_neg (Int32.not_lt.mpr h16)] | rw [if_pos (Int32.not_le.mp h16)]
    refine m_iast (pc' := 25) (24 * s + 4 * j + 2) xD_106 rfl (by first | rfl | assumption) (by first | assumption | omega) (by first | decide | assumption) (e4 2 (by decide)) rfl ?_
    refine y_loc (pc' := 26) xD_106 rfl rfl rfl rfl ?_
    first | refine m_getR (pc' := 29) xD_106 rfl rfl rfl rfl (hR.1 _ _ _ rfl) rfl ?_ | refine m_getR (pc' := 29) xD_106 rfl rfl (by first | rfl | assumption) rfl (by assumption) rfl ?_
    refine y_loc (pc' := 30) xD_106 rfl rfl rfl rfl ?_
    refine y_ci (pc' := 32) (24) xD_106 rfl rfl rfl rfl ?_
    refine y_op (pc' := 33) xD_106 rfl rfl rfl rfl ?_
    refine y_loc (pc' := 34) xD_106 rfl rfl rfl rfl ?_
    refine y_ci (pc' := 35) (4) xD_106 rfl rfl rfl rfl ?_
    refine y_op (pc' := 36) xD_106 rfl rfl rfl rfl ?_
    refine y_op (pc' := 37) xD_106 rfl rfl rfl rfl ?_
    refine y_ci (pc' := 38) (3) xD_106 rfl rfl rfl rfl ?_
    refine y_op (pc' := 39) xD_106 rfl rfl rfl rfl ?_
    refine y_loc (pc' := 41) xD_106 rfl rfl rfl rfl ?_
    refine m_iast (pc' := 42) (24 * s + 4 * j + 3) xD_106 rfl (by first | rfl | assumption) (by first | assumption | omega) (by first | decide | assumption) (e4 3 (by decide)) rfl ?_
    refine y_retV xD_106 rfl rfl ?_
    exact ⟨rfl, rfl⟩
end DR

