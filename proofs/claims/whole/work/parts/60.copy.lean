/-! Copies of cases. -/
theorem cpy_lt {α : Type} {f g : Nat → α} {n i : Nat} (h : i < n) : va_cpy f g 0 0 n i = f i := by
  rw [pk_cpy_in (Nat.zero_le _) (by omega)]
  congr 1
  omega
theorem case_1 {a o : Nat} (h : isCase a) (h' : isCase o) : o ≠ a + 1 ∧ o ≠ a + 2 ∧ o ≠ a + 3 := by
  unfold isCase at h h'
  omega
/-- slot s holds g -/
def sl1 (f : Nat → Int32) (s : Nat) (g : Nat → Int32) : Nat → Int32 := fun i => if i / 24 = s then g (i % 24) else f i
theorem sl1_at {f : Nat → Int32} {s : Nat} {g : Nat → Int32} {q : Nat} (hq : q < 24) : sl1 f s g (24 * s + q) = g q := by
  unfold sl1
  rw [if_pos (by omega)]
  congr 1
  omega
theorem sl1_ne {f : Nat → Int32} {s t : Nat} {g : Nat → Int32} {q : Nat} (hq : q < 24) (h : t ≠ s) : sl1 f s g (24 * t + q) = f (24 * t + q) := by
  unfold sl1
  rw [if_neg (by omega)]
theorem sl1_sl1 {f : Nat → Int32} {s : Nat} {g k : Nat → Int32} : sl1 (sl1 f s g) s k = sl1 f s k := by
  funext i
  unfold sl1
  by_cases h : i / 24 = s
  · rw [if_pos h, if_pos h]
  · rw [if_neg h, if_neg h, if_neg h]
theorem sl1_upd {f : Nat → Int32} {s q : Nat} {x : Int32} (hq : q < 24) : upd f (24 * s + q) x = sl1 f s (upd (fun j => f (24 * s + j)) q x) := by
  funext i
  unfold sl1
  by_cases h : i = 24 * s + q
  · subst h
    rw [pk_us, if_pos (by omega), show (24 * s + q) % 24 = q by omega, pk_us]
  · rw [pk_un h]
    by_cases h2 : i / 24 = s
    · rw [if_pos h2, pk_un (by omega)]
      congr 1
      omega
    · rw [if_neg h2]
theorem sl1_ext {f : Nat → Int32} {s : Nat} {g k : Nat → Int32} (h : ∀ q, q < 24 → g q = k q) : sl1 f s g = sl1 f s k := by
  funext i
  unfold sl1
  by_cases h2 : i / 24 = s
  · rw [if_pos h2, if_pos h2]; exact h _ (by omega)
  · rw [if_neg h2, if_neg h2]
theorem sl1_upd2 {f : Nat → Int32} {s q : Nat} {g : Nat → Int32} {x : Int32} (hq : q < 24) : upd (sl1 f s g) (24 * s + q) x = sl1 f s (upd g q x) := by
  rw [sl1_upd hq, sl1_sl1]
  refine sl1_ext (fun j hj => ?_)
  by_cases h : j = q
  · subst h; rw [pk_us, pk_us]
  · rw [pk_un h, pk_un h]; exact sl1_at hj
theorem w4_sl1 {f : Nat → Int32} {s j : Nat} {k x y r : Int32} (hj : j < 6) : w4 f (24 * s + 4 * j) k x y r = sl1 f s (w4 (fun q => f (24 * s + q)) (4 * j) k x y r) := by
  unfold w4
  rw [Nat.add_assoc, Nat.add_assoc, Nat.add_assoc, sl1_upd (show 4 * j < 24 by omega), sl1_upd2 (by omega), sl1_upd2 (by omega), sl1_upd2 (by omega)]
theorem w2_sl1 {f : Nat → Int32} {s j : Nat} {y r : Int32} (hj : j < 6) : w2 f (24 * s + 4 * j) y r = sl1 f s (w2 (fun q => f (24 * s + q)) (4 * j) y r) := by
  unfold w2
  rw [Nat.add_assoc, Nat.add_assoc, sl1_upd (show 4 * j + 2 < 24 by omega), sl1_upd2 (by omega)]
section CP
variable {S : XS} {d a o s t : Nat} {I : Nat → Nat → Int32} {J : Nat → Nat → Int64} {R : Nat → Nat → Option Nat}
/-- Case.copySteps -/
theorem s_copySteps (hR : RF R) (hc : isCase a) (ho : isCase o) : XP S (d + 1) 53 0 (xent [.ref a, .ref o] 2) [] (hh I J R) (rV (hh (xu (xrow I (a + 1) (va_cpy (I (o + 1)) (I (a + 1)) 0 0 24)) a 3 (I o 3)) J R)) := by
  have ka := (kCase hc).1
  have ka1 := (kCase hc).2.1
  have ko := (kCase ho).1
  have ko1 := (kCase ho).2.1
  have ra := (hR.2 a hc).1
  have ro := (hR.2 o ho).1
  have hne := (case_1 hc ho).1
  refine y_loc (pc' := 1) xD_53 rfl rfl rfl rfl ?_
  first | refine m_getR (pc' := 4) xD_53 rfl rfl rfl rfl (hR.1 _ _ _ rfl) rfl ?_ | refine m_getR (pc' := 4) xD_53 rfl rfl (by first | rfl | assumption) rfl (by assumption) rfl ?_
  refine y_ci (pc' := 5) (0) xD_53 rfl rfl rfl rfl ?_
  refine y_loc (pc' := 6) xD_53 rfl rfl rfl rfl ?_
  first | refine m_getR (pc' := 9) xD_53 rfl rfl rfl rfl (hR.1 _ _ _ rfl) rfl ?_ | refine m_getR (pc' := 9) xD_53 rfl rfl (by first | rfl | assumption) rfl (by assumption) rfl ?_
  refine y_ci (pc' := 10) (0) xD_53 rfl rfl rfl rfl ?_
  refine y_ci (pc' := 12) (24) xD_53 rfl rfl rfl rfl ?_
  refine m_cpyI (pc' := 15) 0 0 24 xD_53 rfl rfl rfl rfl ko1 ka1 (by decide) (by decide) (by decide) (by decide) rfl rfl rfl rfl ?_
  refine y_loc (pc' := 16) xD_53 rfl rfl rfl rfl ?_
  refine y_loc (pc' := 17) xD_53 rfl rfl rfl rfl ?_
  refine m_get (pc' := 20) xD_53 rfl rfl (by first | rfl | assumption) rfl rfl ?_
  refine m_putI (pc' := 23) xD_53 rfl rfl (by first | rfl | assumption) rfl rfl rfl ?_
  refine y_retV xD_53 rfl rfl ?_
  refine ⟨rfl, ?_⟩
  rw [xrow_ne hne]
/-- Case.copy -/
theorem s_copy (hR : RF R) (hc : isCase a) (ho : isCase o) : XP S (d + 2) 52 0 (xent [.ref a, .ref o] 2) [] (hh I J R) (rV (hh (xu (xu (xrow I (a + 1) (va_cpy (I (o + 1)) (I (a + 1)) 0 0 24)) a 3 (I o 3)) a 4 (I o 4)) (xrow (xrow J (a + 2) (va_cpy (J (o + 2)) (J (a + 2)) 0 0 6)) (a + 3) (va_cpy (J (o + 3)) (J (a + 3)) 0 0 24)) R)) := by
  have ka := (kCase hc).1
  have ka2 := (kCase hc).2.2.1
  have ka3 := (kCase hc).2.2.2
  have ko := (kCase ho).1
  have ko2 := (kCase ho).2.2.1
  have ko3 := (kCase ho).2.2.2
  have ra1 := (hR.2 a hc).2.1
  have ro1 := (hR.2 o ho).2.1
  have ra2 := (hR.2 a hc).2.2
  have ro2 := (hR.2 o ho).2.2
  have hne := (case_1 hc ho).1
  have hne2 := (case_1 ho hc).1
  refine y_loc (pc' := 1) xD_52 rfl rfl rfl rfl ?_
  refine y_loc (pc' := 2) xD_52 rfl rfl rfl rfl ?_
  refine y_callV xD_52 rfl rfl rfl rfl (by first | rfl | assumption) rfl rfl rfl rfl (s_copySteps (d := d) hR hc ho) (fun v h' hq => ?_)
  obtain ⟨rfl, rfl⟩ := hq
  refine y_loc (pc' := 6) xD_52 rfl rfl rfl rfl ?_
  first | refine m_getR (pc' := 9) xD_52 rfl rfl rfl rfl (hR.1 _ _ _ rfl) rfl ?_ | refine m_getR (pc' := 9) xD_52 rfl rfl (by first | rfl | assumption) rfl (by assumption) rfl ?_
  refine y_ci (pc' := 10) (0) xD_52 rfl rfl rfl rfl ?_
  refine y_loc (pc' := 11) xD_52 rfl rfl rfl rfl ?_
  first | refine m_getR (pc' := 14) xD_52 rfl rfl rfl rfl (hR.1 _ _ _ rfl) rfl ?_ | refine m_getR (pc' := 14) xD_52 rfl rfl (by first | rfl | assumption) rfl (by assumption) rfl ?_
  refine y_ci (pc' := 15) (0) xD_52 rfl rfl rfl rfl ?_
  refine y_ci (pc' := 17) (6) xD_52 rfl rfl rfl rfl ?_
  refine m_cpyJ (pc' := 20) 0 0 6 xD_52 rfl rfl rfl rfl ko2 ka2 (by decide) (by decide) (by decide) (by decide) rfl rfl rfl rfl ?_
  refine y_loc (pc' := 21) xD_52 rfl rfl rfl rfl ?_
  first | refine m_getR (pc' := 24) xD_52 rfl rfl rfl rfl (hR.1 _ _ _ rfl) rfl ?_ | refine m_getR (pc' := 24) xD_52 rfl rfl (by first | rfl | assumption) rfl (by assumption) rfl ?_
  refine y_ci (pc' := 25) (0) xD_52 rfl rfl rfl rfl ?_
  refine y_loc (pc' := 26) xD_52 rfl rfl rfl rfl ?_
  first | refine m_getR (pc' := 29) xD_52 rfl rfl rfl rfl (hR.1 _ _ _ rfl) rfl ?_ | refine m_getR (pc' := 29) xD_52 rfl rfl (by first | rfl | assumption) rfl (by assumption) rfl ?_
  refine y_ci (pc' := 30) (0) xD_52 rfl rfl rfl rfl ?_
  refine y_ci (pc' := 32) (24) xD_52 rfl rfl rfl rfl ?_
  refine m_cpyJ (pc' := 35) 0 0 24 xD_52 rfl rfl rfl rfl ko3 ka3 (by decide) (by decide) (by decide) (by decide) rfl rfl rfl rfl ?_
  refine y_loc (pc' := 36) xD_52 rfl rfl rfl rfl ?_
  refine y_loc (pc' := 37) xD_52 rfl rfl rfl rfl ?_
  refine m_get (pc' := 40) xD_52 rfl rfl (by first | rfl | assumption) rfl rfl ?_
  refine m_putI (pc' := 43) xD_52 rfl rfl (by first | rfl | assumption) rfl rfl rfl ?_
  refine y_retV xD_52 rfl rfl ?_
  refine ⟨rfl, ?_⟩
  have e1 : xu (xrow I (a + 1) (va_cpy (I (o + 1)) (I (a + 1)) 0 0 24)) a 3 (I o 3) o 4 = I o 4 := by
    unfold xu
    rw [if_neg (fun q => absurd q.2 (by decide)), xrow_ne hne]
  rw [e1, xrow_ne (show o + 3 ≠ a + 2 by omega), xrow_ne (show a + 3 ≠ a + 2 by omega)]
/-- the model's copy -/
theorem s_mcopy (hR : RF R) (hs : s < 67) (ht : t < 67) (hst : s ≠ t) {xs xt : Int32} (e0 : xs = nI s) (e1 : xt = nI t) : XP S d 130 0 (xent [.ref 261, .int xs, .int xt] 4) [] (hh I J R) (rV (hh (xu (xrow I 262 (sl1 (I 262) t (slM I s))) 263 t (I 263 s)) J R)) := by
  subst e0; subst e1
  have loop : ∀ (f k : Nat), k + f = 24 → XP S d 130 2 [some (.ref 261), some (.int (nI s)), some (.int (nI t)), some (.int (nI k))] [] (hh (xrow I 262 (fun i => if i / 24 = t ∧ i % 24 < k then slM I s (i % 24) else I 262 i)) J R) (rV (hh (xu (xrow I 262 (sl1 (I 262) t (slM I s))) 263 t (I 263 s)) J R)) := by
    intro f
    induction f with
    | zero =>
      intro k hk
      have hk : k = 24 := by omega
      subst hk
      refine y_loc (pc' := 3) xD_130 rfl rfl rfl rfl ?_
      refine y_ci (pc' := 5) (24) xD_130 rfl rfl rfl rfl ?_
      refine y_icge (pt := 36) (pf := 8) xD_130 rfl rfl rfl (fun h5 => ?_) (fun h5 => ?_)
      · skip
        refine y_loc (pc' := 37) xD_130 rfl rfl rfl rfl ?_
        first | refine m_getR (pc' := 40) xD_130 rfl rfl rfl rfl (hR.1 _ _ _ rfl) rfl ?_ | refine m_getR (pc' := 40) xD_130 rfl rfl (by first | rfl | assumption) rfl (by assumption) rfl ?_
        refine y_loc (pc' := 41) xD_130 rfl rfl rfl rfl ?_
        refine y_loc (pc' := 42) xD_130 rfl rfl rfl rfl ?_
        first | refine m_getR (pc' := 45) xD_130 rfl rfl rfl rfl (hR.1 _ _ _ rfl) rfl ?_ | refine m_getR (pc' := 45) xD_130 rfl rfl (by first | rfl | assumption) rfl (by assumption) rfl ?_
        refine y_loc (pc' := 46) xD_130 rfl rfl rfl rfl ?_
        refine m_iald (pc' := 47) (s) xD_130 rfl (by first | rfl | assumption) (by first | assumption | omega) (by first | decide | assumption) (by first | decide | omega) (by first | rfl | assumption) rfl ?_
        refine m_iast (pc' := 48) (t) xD_130 rfl (by first | rfl | assumption) (by first | assumption | omega) (by first | decide | assumption) (by first | rfl | assumption) rfl ?_
        refine y_retV xD_130 rfl rfl ?_
        refine ⟨rfl, ?_⟩
        rw [xrow_ne (show (263 : Nat) ≠ 262 by decide)]
        congr 3
        funext i
        unfold sl1
        by_cases h : i / 24 = t
        · rw [if_pos h, if_pos ⟨h, by omega⟩]
        · rw [if_neg h, if_neg (fun q => h q.1)]
      · skip
        exact absurd (Int32.le_refl _) h5
    | succ f ih =>
      intro k hk
      have e5 : nI k + 1 = nI (k + 1) := nI_1 k
      have step := ih (k + 1) (by omega)
      have ix : ∀ u : Nat, nI u * 24 + nI k = nI (24 * u + k) := fun u => by show nI u * nI 24 + nI k = _; rw [pk_mul, nI_add, Nat.mul_comm]
      have es : xu (xrow I 262 (fun i => if i / 24 = t ∧ i % 24 < k then slM I s (i % 24) else I 262 i)) 262 (24 * t + k) (xrow I 262 (fun i => if i / 24 = t ∧ i % 24 < k then slM I s (i % 24) else I 262 i) 262 (24 * s + k)) = xrow I 262 (fun i => if i / 24 = t ∧ i % 24 < k + 1 then slM I s (i % 24) else I 262 i) := by
        rw [xu_rowI, xrow_row, xrow_at]
        congr 1
        funext i
        by_cases h : i = 24 * t + k
        · subst h
          rw [pk_us, if_neg (by omega), if_pos (by omega), show (24 * t + k) % 24 = k by omega]
          rfl
        · rw [pk_un h]
          by_cases h2 : i / 24 = t ∧ i % 24 < k
          · rw [if_pos h2, if_pos (by omega)]
          · rw [if_neg h2, if_neg (by omega)]
      rw [← es] at step
      refine y_loc (pc' := 3) xD_130 rfl rfl rfl rfl ?_
      refine y_ci (pc' := 5) (24) xD_130 rfl rfl rfl rfl ?_
      refine y_icge (pt := 36) (pf := 8) xD_130 rfl rfl rfl (fun h5 => ?_) (fun h5 => ?_)
      · skip
        exact absurd h5 (nI_ge (b := 24) (by omega) (by decide))
      · skip
        refine y_loc (pc' := 9) xD_130 rfl rfl rfl rfl ?_
        first | refine m_getR (pc' := 12) xD_130 rfl rfl rfl rfl (hR.1 _ _ _ rfl) rfl ?_ | refine m_getR (pc' := 12) xD_130 rfl rfl (by first | rfl | assumption) rfl (by assumption) rfl ?_
        refine y_loc (pc' := 13) xD_130 rfl rfl rfl rfl ?_
        refine y_ci (pc' := 15) (24) xD_130 rfl rfl rfl rfl ?_
        refine y_op (pc' := 16) xD_130 rfl rfl rfl rfl ?_
        refine y_loc (pc' := 17) xD_130 rfl rfl rfl rfl ?_
        refine y_op (pc' := 18) xD_130 rfl rfl rfl rfl ?_
        refine y_loc (pc' := 19) xD_130 rfl rfl rfl rfl ?_
        first | refine m_getR (pc' := 22) xD_130 rfl rfl rfl rfl (hR.1 _ _ _ rfl) rfl ?_ | refine m_getR (pc' := 22) xD_130 rfl rfl (by first | rfl | assumption) rfl (by assumption) rfl ?_
        refine y_loc (pc' := 23) xD_130 rfl rfl rfl rfl ?_
        refine y_ci (pc' := 25) (24) xD_130 rfl rfl rfl rfl ?_
        refine y_op (pc' := 26) xD_130 rfl rfl rfl rfl ?_
        refine y_loc (pc' := 27) xD_130 rfl rfl rfl rfl ?_
        refine y_op (pc' := 28) xD_130 rfl rfl rfl rfl ?_
        refine m_iald (pc' := 29) (24 * s + k) xD_130 rfl (by first | rfl | assumption) (by first | assumption | omega) (by first | decide | assumption) (by first | decide | omega) (ix s) rfl ?_
        refine m_iast (pc' := 30) (24 * t + k) xD_130 rfl (by first | rfl | assumption) (by first | assumption | omega) (by first | decide | assumption) (ix t) rfl ?_
        refine y_inc (pc' := 33) (nI (k + 1)) xD_130 rfl rfl rfl e5 rfl rfl ?_
        refine y_goto (pc' := 2) xD_130 rfl rfl ?_
        exact step
        skip
  have key := loop 24 0 (by omega)
  have e : xrow I 262 (fun i => if i / 24 = t ∧ i % 24 < 0 then slM I s (i % 24) else I 262 i) = I := by
    refine Eq.trans ?_ (xrow_id (f := I) (a := 262))
    congr 1
    funext i
    rw [if_neg (by omega)]
  rw [e] at key
  refine y_ci (pc' := 1) (0) xD_130 rfl rfl rfl rfl ?_
  refine y_loc (pc' := 2) xD_130 rfl rfl rfl rfl ?_
  exact key
end CP

