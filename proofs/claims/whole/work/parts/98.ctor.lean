/-! The constructors of the class and of the model. -/
def sd (x : Int32) : Int64 := (x.toInt64 ^^^ 25214903917) &&& 281474976710655
def CR (R : Nat → Nat → Option Nat) (a : Nat) : Prop := R a 0 = some (a + 1) ∧ R a 1 = some (a + 2) ∧ R a 2 = some (a + 3)
def MR (R : Nat → Nat → Option Nat) (a : Nat) : Prop := R a 0 = some (a + 1) ∧ R a 1 = some (a + 2) ∧ R a 2 = some (a + 3) ∧ R a 3 = some (a + 4) ∧ R a 4 = some (a + 5)
theorem CR.fr {R R' : Nat → Nat → Option Nat} {a : Nat} (h : CR R a) (e : R' a = R a) : CR R' a := by unfold CR; rw [e]; exact h
theorem MR.fr {R R' : Nat → Nat → Option Nat} {a : Nat} (h : MR R a) (e : R' a = R a) : MR R' a := by unfold MR; rw [e]; exact h
section CT
variable {S : XS} {d A : Nat} {J : Nat → Nat → Int64} {R : Nat → Nat → Option Nat} {x : Int32}
theorem s_meth0 (hA : A = 4 ∨ A = 10) (hJ : ∀ x, A < x → ∀ i, J x i = 0) : XP S (d + 1) 2 0 (xent [.ref A] 1) [] (gh (A + 1) J R) (fun v h' => v = none ∧ ∃ R', h' = gh (A + 6) J R' ∧ MR R' A ∧ ∀ x, x < A → R' x = R x) := by
  obtain ⟨k0, k1, k2, k3, k4, k5⟩ := kMeth hA
  refine y_loc (pc' := 1) xD_2 rfl rfl rfl rfl ?_
  refine g_obj (pc' := 4) xD_2 rfl rfl rfl rfl rfl ?_
  refine y_loc (pc' := 5) xD_2 rfl rfl rfl rfl ?_
  refine y_ci (pc' := 7) (10) xD_2 rfl rfl rfl rfl ?_
  refine g_arr (pc' := 9) (10) xD_2 rfl rfl rfl (by first | decide | omega) (by first | rfl | assumption) (by first | decide | assumption | omega) rfl (by first | exact hJ _ (by first | decide | omega) | assumption) rfl ?_
  refine g_putR (pc' := 12) xD_2 rfl rfl (by first | decide | omega) (by first | decide | omega) (by first | rfl | assumption) rfl rfl rfl ?_
  refine y_loc (pc' := 13) xD_2 rfl rfl rfl rfl ?_
  refine y_ci (pc' := 15) (10) xD_2 rfl rfl rfl rfl ?_
  refine g_arr (pc' := 17) (10) xD_2 rfl rfl rfl (by first | decide | omega) (by first | rfl | assumption) (by first | decide | assumption | omega) rfl (by first | exact hJ _ (by first | decide | omega) | assumption) rfl ?_
  refine g_putR (pc' := 20) xD_2 rfl rfl (by first | decide | omega) (by first | decide | omega) (by first | rfl | assumption) rfl rfl rfl ?_
  refine y_loc (pc' := 21) xD_2 rfl rfl rfl rfl ?_
  refine y_ci (pc' := 23) (10) xD_2 rfl rfl rfl rfl ?_
  refine g_arr (pc' := 25) (10) xD_2 rfl rfl rfl (by first | decide | omega) (by first | rfl | assumption) (by first | decide | assumption | omega) rfl (by first | exact hJ _ (by first | decide | omega) | assumption) rfl ?_
  refine g_putR (pc' := 28) xD_2 rfl rfl (by first | decide | omega) (by first | decide | omega) (by first | rfl | assumption) rfl rfl rfl ?_
  refine y_loc (pc' := 29) xD_2 rfl rfl rfl rfl ?_
  refine y_ci (pc' := 31) (10) xD_2 rfl rfl rfl rfl ?_
  refine g_arr (pc' := 33) (10) xD_2 rfl rfl rfl (by first | decide | omega) (by first | rfl | assumption) (by first | decide | assumption | omega) rfl (by first | exact hJ _ (by first | decide | omega) | assumption) rfl ?_
  refine g_putR (pc' := 36) xD_2 rfl rfl (by first | decide | omega) (by first | decide | omega) (by first | rfl | assumption) rfl rfl rfl ?_
  refine y_loc (pc' := 37) xD_2 rfl rfl rfl rfl ?_
  refine y_ci (pc' := 39) (10) xD_2 rfl rfl rfl rfl ?_
  refine g_arr (pc' := 41) (10) xD_2 rfl rfl rfl (by first | decide | omega) (by first | rfl | assumption) (by first | decide | assumption | omega) rfl (by first | exact hJ _ (by first | decide | omega) | assumption) rfl ?_
  refine g_putR (pc' := 44) xD_2 rfl rfl (by first | decide | omega) (by first | decide | omega) (by first | rfl | assumption) rfl rfl rfl ?_
  refine y_loc (pc' := 45) xD_2 rfl rfl rfl rfl ?_
  refine y_ci (pc' := 46) (0) xD_2 rfl rfl rfl rfl ?_
  refine g_put0 (pc' := 49) xD_2 rfl rfl (by first | decide | omega) (by first | decide | omega) (by first | rfl | assumption) rfl (by decide) rfl ?_
  refine y_loc (pc' := 50) xD_2 rfl rfl rfl rfl ?_
  refine y_ci (pc' := 51) (0) xD_2 rfl rfl rfl rfl ?_
  refine g_put0 (pc' := 54) xD_2 rfl rfl (by first | decide | omega) (by first | decide | omega) (by first | rfl | assumption) rfl (by decide) rfl ?_
  refine y_retV xD_2 rfl rfl ?_
  refine ⟨rfl, _, rfl, ⟨?_, ?_, ?_, ?_, ?_⟩, fun x hx => ?_⟩
  · rcases hA with rfl | rfl <;> rfl
  · rcases hA with rfl | rfl <;> rfl
  · rcases hA with rfl | rfl <;> rfl
  · rcases hA with rfl | rfl <;> rfl
  · rcases hA with rfl | rfl <;> rfl
  · rw [xu_ne (by omega), xrow_ne (by omega), xu_ne (by omega), xrow_ne (by omega), xu_ne (by omega), xrow_ne (by omega), xu_ne (by omega), xrow_ne (by omega), xu_ne (by omega), xrow_ne (by omega)]
theorem s_prog0 (hJ : ∀ x, 2 < x → ∀ i, J x i = 0) : XP S (d + 2) 1 0 (xent [.ref 2] 1) [] (gh 3 J R) (fun v h' => v = none ∧ ∃ R', h' = gh 18 J R' ∧ (R' 2 0 = some 3 ∧ R' 2 1 = some 16 ∧ R' 2 2 = some 17 ∧ R' 3 0 = some 4 ∧ R' 3 1 = some 10) ∧ MR R' 4 ∧ MR R' 10 ∧ ∀ x, x < 2 → R' x = R x) := by
  refine y_loc (pc' := 1) xD_1 rfl rfl rfl rfl ?_
  refine g_obj (pc' := 4) xD_1 rfl rfl rfl rfl rfl ?_
  refine y_loc (pc' := 5) xD_1 rfl rfl rfl rfl ?_
  refine y_ci (pc' := 6) (2) xD_1 rfl rfl rfl rfl ?_
  refine g_arr (pc' := 9) (2) xD_1 rfl rfl rfl (by first | decide | omega) (by first | rfl | assumption) (by first | decide | assumption | omega) rfl (by first | exact hJ _ (by first | decide | omega) | assumption) rfl ?_
  refine y_op (pc' := 10) xD_1 rfl rfl rfl rfl ?_
  refine y_ci (pc' := 11) (0) xD_1 rfl rfl rfl rfl ?_
  refine g_new (pc' := 14) xD_1 rfl rfl (by first | decide | omega) (by first | rfl | assumption) (by first | exact hJ _ (by first | decide | omega) | assumption) rfl ?_
  refine y_op (pc' := 15) xD_1 rfl rfl rfl rfl ?_
  refine y_callI xD_1 rfl rfl rfl rfl rfl rfl rfl rfl (s_meth0 (d := d) (Or.inl rfl) (fun x hx => hJ x (by omega))) (fun v h' hq => ?_)
  obtain ⟨rfl, R1, rfl, m1, f1⟩ := hq
  refine g_aast (pc' := 19) (q := 1) 0 xD_1 rfl (by decide) (by decide) (by decide) rfl (by decide) (by decide) (by decide) rfl rfl rfl ?_
  refine y_op (pc' := 20) xD_1 rfl rfl rfl rfl ?_
  refine y_ci (pc' := 21) (1) xD_1 rfl rfl rfl rfl ?_
  refine g_new (pc' := 24) xD_1 rfl rfl (by first | decide | omega) (by first | rfl | assumption) (by first | exact hJ _ (by first | decide | omega) | assumption) rfl ?_
  refine y_op (pc' := 25) xD_1 rfl rfl rfl rfl ?_
  refine y_callI xD_1 rfl rfl rfl rfl rfl rfl rfl rfl (s_meth0 (d := d) (Or.inr rfl) (fun x hx => hJ x (by omega))) (fun v h' hq => ?_)
  obtain ⟨rfl, R2, rfl, m2, f2⟩ := hq
  refine g_aast (pc' := 29) (q := 1) 1 xD_1 rfl (by decide) (by decide) (by decide) rfl (by decide) (by decide) (by decide) rfl rfl rfl ?_
  refine g_putR (pc' := 32) xD_1 rfl rfl (by first | decide | omega) (by first | decide | omega) (by first | rfl | assumption) rfl rfl rfl ?_
  refine y_loc (pc' := 33) xD_1 rfl rfl rfl rfl ?_
  refine y_ci (pc' := 35) (12) xD_1 rfl rfl rfl rfl ?_
  refine g_arr (pc' := 37) (12) xD_1 rfl rfl rfl (by first | decide | omega) (by first | rfl | assumption) (by first | decide | assumption | omega) rfl (by first | exact hJ _ (by first | decide | omega) | assumption) rfl ?_
  refine g_putR (pc' := 40) xD_1 rfl rfl (by first | decide | omega) (by first | decide | omega) (by first | rfl | assumption) rfl rfl rfl ?_
  refine y_loc (pc' := 41) xD_1 rfl rfl rfl rfl ?_
  refine y_ci (pc' := 43) (12) xD_1 rfl rfl rfl rfl ?_
  refine g_arr (pc' := 45) (12) xD_1 rfl rfl rfl (by first | decide | omega) (by first | rfl | assumption) (by first | decide | assumption | omega) rfl (by first | exact hJ _ (by first | decide | omega) | assumption) rfl ?_
  refine g_putR (pc' := 48) xD_1 rfl rfl (by first | decide | omega) (by first | decide | omega) (by first | rfl | assumption) rfl rfl rfl ?_
  refine y_loc (pc' := 49) xD_1 rfl rfl rfl rfl ?_
  refine y_ci (pc' := 50) (0) xD_1 rfl rfl rfl rfl ?_
  refine g_put0 (pc' := 53) xD_1 rfl rfl (by first | decide | omega) (by first | decide | omega) (by first | rfl | assumption) rfl (by decide) rfl ?_
  refine y_retV xD_1 rfl rfl ?_
  refine ⟨rfl, _, rfl, ⟨?_, ?_, ?_, ?_, ?_⟩, ?_, ?_, fun x hx => ?_⟩
  · rfl
  · rfl
  · rfl
  · rw [xu_ne (by decide), xrow_ne (by decide), xu_ne (by decide), xrow_ne (by decide), xu_ne (by decide), xu_at, if_neg (by decide), f2 3 (by decide), xrow_ne (by decide), xu_ii]
  · rw [xu_ne (by decide), xrow_ne (by decide), xu_ne (by decide), xrow_ne (by decide), xu_ne (by decide), xu_ii]
  · refine m1.fr ?_
    rw [xu_ne (by decide), xrow_ne (by decide), xu_ne (by decide), xrow_ne (by decide), xu_ne (by decide), xu_ne (by decide), f2 4 (by decide), xrow_ne (by decide), xu_ne (by decide)]
  · refine m2.fr ?_
    rw [xu_ne (by decide), xrow_ne (by decide), xu_ne (by decide), xrow_ne (by decide), xu_ne (by decide), xu_ne (by decide)]
  · rw [xu_ne (by omega), xrow_ne (by omega), xu_ne (by omega), xrow_ne (by omega), xu_ne (by omega), xu_ne (by omega), f2 x (by omega), xrow_ne (by omega), xu_ne (by omega), f1 x (by omega), xrow_ne (by omega), xrow_ne (by omega)]
theorem s_draws0 (hJ : ∀ x, 18 < x → ∀ i, J x i = 0) : XP S (d + 1) 3 0 (xent [.ref 18, .int x] 2) [] (gh 19 J R) (fun v h' => v = none ∧ ∃ R', h' = gh 20 (xu J 18 2 (sd x)) R' ∧ R' 18 0 = some 19 ∧ ∀ x, x < 18 → R' x = R x) := by
  refine y_loc (pc' := 1) xD_3 rfl rfl rfl rfl ?_
  refine g_obj (pc' := 4) xD_3 rfl rfl rfl rfl rfl ?_
  refine y_loc (pc' := 5) xD_3 rfl rfl rfl rfl ?_
  refine y_ci (pc' := 7) (20) xD_3 rfl rfl rfl rfl ?_
  refine g_arr (pc' := 9) (20) xD_3 rfl rfl rfl (by first | decide | omega) (by first | rfl | assumption) (by first | decide | assumption | omega) rfl (by first | exact hJ _ (by first | decide | omega) | assumption) rfl ?_
  refine g_putR (pc' := 12) xD_3 rfl rfl (by first | decide | omega) (by first | decide | omega) (by first | rfl | assumption) rfl rfl rfl ?_
  refine y_loc (pc' := 13) xD_3 rfl rfl rfl rfl ?_
  refine y_ci (pc' := 14) (0) xD_3 rfl rfl rfl rfl ?_
  refine g_put0 (pc' := 17) xD_3 rfl rfl (by first | decide | omega) (by first | decide | omega) (by first | rfl | assumption) rfl (by decide) rfl ?_
  refine y_loc (pc' := 18) xD_3 rfl rfl rfl rfl ?_
  refine y_loc (pc' := 19) xD_3 rfl rfl rfl rfl ?_
  refine y_op (pc' := 20) xD_3 rfl rfl rfl rfl ?_
  refine y_ldc (pc' := 23) xD_3 rfl rfl rfl rfl ?_
  refine y_op (pc' := 24) xD_3 rfl rfl rfl rfl ?_
  refine y_ldc (pc' := 27) xD_3 rfl rfl rfl rfl ?_
  refine y_op (pc' := 28) xD_3 rfl rfl rfl rfl ?_
  refine g_putJ (pc' := 31) xD_3 rfl rfl (by first | decide | omega) (by first | decide | omega) (by first | rfl | assumption) rfl rfl rfl ?_
  refine y_retV xD_3 rfl rfl ?_
  refine ⟨rfl, _, rfl, rfl, fun x hx => ?_⟩
  rw [xu_ne (by omega), xrow_ne (by omega)]
theorem s_runner0 (hJ : ∀ x, 20 < x → ∀ i, J x i = 0) : XP S (d + 1) 4 0 (xent [.ref 20] 1) [] (gh 21 J R) (fun v h' => v = none ∧ ∃ R', h' = gh 23 J R' ∧ (R' 20 0 = some 21 ∧ R' 20 1 = some 22) ∧ ∀ x, x < 20 → R' x = R x) := by
  refine y_loc (pc' := 1) xD_4 rfl rfl rfl rfl ?_
  refine g_obj (pc' := 4) xD_4 rfl rfl rfl rfl rfl ?_
  refine y_loc (pc' := 5) xD_4 rfl rfl rfl rfl ?_
  refine y_ci (pc' := 7) (8) xD_4 rfl rfl rfl rfl ?_
  refine g_arr (pc' := 9) (8) xD_4 rfl rfl rfl (by first | decide | omega) (by first | rfl | assumption) (by first | decide | assumption | omega) rfl (by first | exact hJ _ (by first | decide | omega) | assumption) rfl ?_
  refine g_putR (pc' := 12) xD_4 rfl rfl (by first | decide | omega) (by first | decide | omega) (by first | rfl | assumption) rfl rfl rfl ?_
  refine y_loc (pc' := 13) xD_4 rfl rfl rfl rfl ?_
  refine y_ci (pc' := 15) (24) xD_4 rfl rfl rfl rfl ?_
  refine g_arr (pc' := 17) (24) xD_4 rfl rfl rfl (by first | decide | omega) (by first | rfl | assumption) (by first | decide | assumption | omega) rfl (by first | exact hJ _ (by first | decide | omega) | assumption) rfl ?_
  refine g_putR (pc' := 20) xD_4 rfl rfl (by first | decide | omega) (by first | decide | omega) (by first | rfl | assumption) rfl rfl rfl ?_
  refine y_loc (pc' := 21) xD_4 rfl rfl rfl rfl ?_
  refine y_ci (pc' := 22) (0) xD_4 rfl rfl rfl rfl ?_
  refine g_put0 (pc' := 25) xD_4 rfl rfl (by first | decide | omega) (by first | decide | omega) (by first | rfl | assumption) rfl (by decide) rfl ?_
  refine y_retV xD_4 rfl rfl ?_
  refine ⟨rfl, _, rfl, ⟨rfl, rfl⟩, fun x hx => ?_⟩
  rw [xu_ne (by omega), xrow_ne (by omega), xu_ne (by omega), xrow_ne (by omega)]
theorem isC24 {i : Nat} (h : i < 24) : isCase (24 + 1 + 4 * i) := Or.inl (by omega)
theorem isC122 {i : Nat} (h : i < 7) : isCase (122 + 1 + 4 * i) := Or.inr (Or.inl (by omega))
theorem isC152 {i : Nat} (h : i < 24) : isCase (152 + 1 + 4 * i) := Or.inr (Or.inr (by omega))
theorem s_arch0 (hJ : ∀ x, 23 < x → ∀ i, J x i = 0) : XP S (d + 3) 5 0 (xent [.ref 23] 1) [] (gh 24 J R) (fun v h' => v = none ∧ ∃ R', h' = gh 121 J R' ∧ R' 23 0 = some 24 ∧ (∀ i, i < 24 → R' 24 i = some (24 + 1 + 4 * i)) ∧ (∀ i, i < 24 → CR R' (24 + 1 + 4 * i)) ∧ ∀ x, x < 23 → R' x = R x) := by
  refine y_loc (pc' := 1) xD_5 rfl rfl rfl rfl ?_
  refine g_obj (pc' := 4) xD_5 rfl rfl rfl rfl rfl ?_
  refine y_loc (pc' := 5) xD_5 rfl rfl rfl rfl ?_
  refine y_ci (pc' := 7) (24) xD_5 rfl rfl rfl rfl ?_
  refine y_callS xD_5 rfl rfl rfl rfl rfl rfl rfl rfl (s_cases (d := d) (z := 24) (n := 24) (by decide) rfl (fun i hi => isC24 hi) (fun x hx => hJ x (by omega))) (fun v h' hq => ?_)
  obtain ⟨rfl, R1, rfl, c1, c2, f1⟩ := hq
  refine g_putR (pc' := 13) xD_5 rfl rfl (by first | decide | omega) (by first | decide | omega) (by first | rfl | assumption) rfl rfl rfl ?_
  refine y_loc (pc' := 14) xD_5 rfl rfl rfl rfl ?_
  refine y_ci (pc' := 15) (0) xD_5 rfl rfl rfl rfl ?_
  refine g_put0 (pc' := 18) xD_5 rfl rfl (by first | decide | omega) (by first | decide | omega) (by first | rfl | assumption) rfl (by decide) rfl ?_
  refine y_retV xD_5 rfl rfl ?_
  refine ⟨rfl, _, rfl, rfl, fun i hi => ?_, fun i hi => ?_, fun x hx => ?_⟩
  · rw [xu_ne (by decide)]; exact c1 i hi
  · exact CR.fr (c2 i hi) (xu_ne (by omega))
  · rw [xu_ne (by omega), f1 x (by omega)]
theorem s_popu0 (hJ : ∀ x, 121 < x → ∀ i, J x i = 0) : XP S (d + 3) 8 0 (xent [.ref 121] 1) [] (gh 122 J R) (fun v h' => v = none ∧ ∃ R', h' = gh 151 J R' ∧ R' 121 0 = some 122 ∧ (∀ i, i < 7 → R' 122 i = some (122 + 1 + 4 * i)) ∧ (∀ i, i < 7 → CR R' (122 + 1 + 4 * i)) ∧ ∀ x, x < 121 → R' x = R x) := by
  refine y_loc (pc' := 1) xD_8 rfl rfl rfl rfl ?_
  refine g_obj (pc' := 4) xD_8 rfl rfl rfl rfl rfl ?_
  refine y_loc (pc' := 5) xD_8 rfl rfl rfl rfl ?_
  refine y_ci (pc' := 7) (7) xD_8 rfl rfl rfl rfl ?_
  refine y_callS xD_8 rfl rfl rfl rfl rfl rfl rfl rfl (s_cases (d := d) (z := 122) (n := 7) (by decide) rfl (fun i hi => isC122 hi) (fun x hx => hJ x (by omega))) (fun v h' hq => ?_)
  obtain ⟨rfl, R1, rfl, c1, c2, f1⟩ := hq
  refine g_putR (pc' := 13) xD_8 rfl rfl (by first | decide | omega) (by first | decide | omega) (by first | rfl | assumption) rfl rfl rfl ?_
  refine y_loc (pc' := 14) xD_8 rfl rfl rfl rfl ?_
  refine y_ci (pc' := 15) (0) xD_8 rfl rfl rfl rfl ?_
  refine g_put0 (pc' := 18) xD_8 rfl rfl (by first | decide | omega) (by first | decide | omega) (by first | rfl | assumption) rfl (by decide) rfl ?_
  refine y_retV xD_8 rfl rfl ?_
  refine ⟨rfl, _, rfl, rfl, fun i hi => ?_, fun i hi => ?_, fun x hx => ?_⟩
  · rw [xu_ne (by decide)]; exact c1 i hi
  · exact CR.fr (c2 i hi) (xu_ne (by omega))
  · rw [xu_ne (by omega), f1 x (by omega)]
theorem s_suite0 (hJ : ∀ x, 151 < x → ∀ i, J x i = 0) : XP S (d + 3) 9 0 (xent [.ref 151] 1) [] (gh 152 J R) (fun v h' => v = none ∧ ∃ R', h' = gh 253 J R' ∧ (R' 151 0 = some 152 ∧ R' 151 1 = some 249) ∧ (∀ i, i < 24 → R' 152 i = some (152 + 1 + 4 * i)) ∧ (∀ i, i < 24 → CR R' (152 + 1 + 4 * i)) ∧ CR R' 249 ∧ ∀ x, x < 151 → R' x = R x) := by
  refine y_loc (pc' := 1) xD_9 rfl rfl rfl rfl ?_
  refine g_obj (pc' := 4) xD_9 rfl rfl rfl rfl rfl ?_
  refine y_loc (pc' := 5) xD_9 rfl rfl rfl rfl ?_
  refine y_ci (pc' := 7) (24) xD_9 rfl rfl rfl rfl ?_
  refine y_callS xD_9 rfl rfl rfl rfl rfl rfl rfl rfl (s_cases (d := d) (z := 152) (n := 24) (by decide) rfl (fun i hi => isC152 hi) (fun x hx => hJ x (by omega))) (fun v h' hq => ?_)
  obtain ⟨rfl, R1, rfl, c1, c2, f1⟩ := hq
  refine g_putR (pc' := 13) xD_9 rfl rfl (by first | decide | omega) (by first | decide | omega) (by first | rfl | assumption) rfl rfl rfl ?_
  refine y_loc (pc' := 14) xD_9 rfl rfl rfl rfl ?_
  refine g_new (pc' := 17) xD_9 rfl rfl (by first | decide | omega) (by first | rfl | assumption) (by first | exact hJ _ (by first | decide | omega) | assumption) rfl ?_
  refine y_op (pc' := 18) xD_9 rfl rfl rfl rfl ?_
  refine y_callI xD_9 rfl rfl rfl rfl rfl rfl rfl rfl (s_case (d := d + 1) (a := 249) (Or.inr (Or.inr (by decide))) (fun x hx => hJ x (by omega))) (fun v h' hq => ?_)
  obtain ⟨rfl, R2, rfl, c3, f2⟩ := hq
  refine g_putR (pc' := 24) xD_9 rfl rfl (by first | decide | omega) (by first | decide | omega) (by first | rfl | assumption) rfl rfl rfl ?_
  refine y_loc (pc' := 25) xD_9 rfl rfl rfl rfl ?_
  refine y_ci (pc' := 26) (0) xD_9 rfl rfl rfl rfl ?_
  refine g_put0 (pc' := 29) xD_9 rfl rfl (by first | decide | omega) (by first | decide | omega) (by first | rfl | assumption) rfl (by decide) rfl ?_
  refine y_retV xD_9 rfl rfl ?_
  refine ⟨rfl, _, rfl, ⟨?_, rfl⟩, fun i hi => ?_, fun i hi => ?_, ?_, fun x hx => ?_⟩
  · rw [xu_at, if_neg (by decide), f2 151 (by decide), xrow_ne (by decide), xu_ii]
  · rw [xu_ne (by decide), f2 152 (by decide), xrow_ne (by decide), xu_ne (by decide)]; exact c1 i hi
  · exact CR.fr (c2 i hi) (by rw [xu_ne (by omega), f2 _ (by omega), xrow_ne (by omega), xu_ne (by omega)])
  · exact CR.fr c3 (xu_ne (by omega))
  · rw [xu_ne (by omega), f2 x (by omega), xrow_ne (by omega), xu_ne (by omega), f1 x (by omega)]
/-- what the class's constructor leaves of references -/
def CF (R : Nat → Nat → Option Nat) : Prop := (R 1 0 = some 2 ∧ R 1 1 = some 18 ∧ R 1 2 = some 20 ∧ R 1 3 = some 23 ∧ R 1 4 = some 121 ∧ R 1 5 = some 151 ∧ R 1 6 = some 253 ∧ R 1 7 = some 257) ∧ ((R 2 0 = some 3 ∧ R 2 1 = some 16 ∧ R 2 2 = some 17 ∧ R 3 0 = some 4 ∧ R 3 1 = some 10) ∧ MR R 4 ∧ MR R 10) ∧ R 18 0 = some 19 ∧ (R 20 0 = some 21 ∧ R 20 1 = some 22) ∧ (R 23 0 = some 24 ∧ (∀ i, i < 24 → R 24 i = some (24 + 1 + 4 * i)) ∧ ∀ i, i < 24 → CR R (24 + 1 + 4 * i)) ∧ (R 121 0 = some 122 ∧ (∀ i, i < 7 → R 122 i = some (122 + 1 + 4 * i)) ∧ ∀ i, i < 7 → CR R (122 + 1 + 4 * i)) ∧ ((R 151 0 = some 152 ∧ R 151 1 = some 249) ∧ (∀ i, i < 24 → R 152 i = some (152 + 1 + 4 * i)) ∧ (∀ i, i < 24 → CR R (152 + 1 + 4 * i)) ∧ CR R 249) ∧ CR R 253 ∧ CR R 257
theorem s_class0 (hJ : ∀ x i, J x i = 0) : XP S (d + 4) 0 0 (xent [.ref 1, .int x] 2) [] (gh 2 J R) (fun v h' => v = none ∧ ∃ R', h' = gh 261 (xu J 18 2 (sd x)) R' ∧ CF R') := by
  have hJ' : ∀ y, 18 < y → ∀ i, xu J 18 2 (sd x) y i = 0 := fun y hy i => by rw [xu_ne (by omega)]; exact hJ y i
  refine y_loc (pc' := 1) xD_0 rfl rfl rfl rfl ?_
  refine g_obj (pc' := 4) xD_0 rfl rfl rfl rfl rfl ?_
  refine y_loc (pc' := 5) xD_0 rfl rfl rfl rfl ?_
  refine g_new (pc' := 8) xD_0 rfl rfl (by first | decide | omega) (by first | rfl | assumption) (hJ _) rfl ?_
  refine y_op (pc' := 9) xD_0 rfl rfl rfl rfl ?_
  refine y_callI xD_0 rfl rfl rfl rfl rfl rfl rfl rfl (s_prog0 (d := d + 1) (fun x _ => hJ x)) (fun v h' hq => ?_)
  obtain ⟨rfl, R1, rfl, p1, p2, p3, f1⟩ := hq
  refine g_putR (pc' := 15) xD_0 rfl rfl (by first | decide | omega) (by first | decide | omega) (by first | rfl | assumption) rfl rfl rfl ?_
  refine y_loc (pc' := 16) xD_0 rfl rfl rfl rfl ?_
  refine g_new (pc' := 19) xD_0 rfl rfl (by first | decide | omega) (by first | rfl | assumption) (hJ _) rfl ?_
  refine y_op (pc' := 20) xD_0 rfl rfl rfl rfl ?_
  refine y_loc (pc' := 21) xD_0 rfl rfl rfl rfl ?_
  refine y_callI xD_0 rfl rfl rfl rfl rfl rfl rfl rfl (s_draws0 (d := d + 2) (fun x _ => hJ x)) (fun v h' hq => ?_)
  obtain ⟨rfl, R2, rfl, d1, f2⟩ := hq
  refine g_putR (pc' := 27) xD_0 rfl rfl (by first | decide | omega) (by first | decide | omega) (by first | rfl | assumption) rfl rfl rfl ?_
  refine y_loc (pc' := 28) xD_0 rfl rfl rfl rfl ?_
  refine g_new (pc' := 31) xD_0 rfl rfl (by first | decide | omega) (by first | rfl | assumption) (hJ' _ (by decide)) rfl ?_
  refine y_op (pc' := 32) xD_0 rfl rfl rfl rfl ?_
  refine y_callI xD_0 rfl rfl rfl rfl rfl rfl rfl rfl (s_runner0 (d := d + 2) (fun x hx => hJ' x (by omega))) (fun v h' hq => ?_)
  obtain ⟨rfl, R3, rfl, r1, f3⟩ := hq
  refine g_putR (pc' := 38) xD_0 rfl rfl (by first | decide | omega) (by first | decide | omega) (by first | rfl | assumption) rfl rfl rfl ?_
  refine y_loc (pc' := 39) xD_0 rfl rfl rfl rfl ?_
  refine g_new (pc' := 42) xD_0 rfl rfl (by first | decide | omega) (by first | rfl | assumption) (hJ' _ (by decide)) rfl ?_
  refine y_op (pc' := 43) xD_0 rfl rfl rfl rfl ?_
  refine y_callI xD_0 rfl rfl rfl rfl rfl rfl rfl rfl (s_arch0 (d := d) (fun x hx => hJ' x (by omega))) (fun v h' hq => ?_)
  obtain ⟨rfl, R4, rfl, a1, a2, a3, f4⟩ := hq
  refine g_putR (pc' := 49) xD_0 rfl rfl (by first | decide | omega) (by first | decide | omega) (by first | rfl | assumption) rfl rfl rfl ?_
  refine y_loc (pc' := 50) xD_0 rfl rfl rfl rfl ?_
  refine g_new (pc' := 53) xD_0 rfl rfl (by first | decide | omega) (by first | rfl | assumption) (hJ' _ (by decide)) rfl ?_
  refine y_op (pc' := 54) xD_0 rfl rfl rfl rfl ?_
  refine y_callI xD_0 rfl rfl rfl rfl rfl rfl rfl rfl (s_popu0 (d := d) (fun x hx => hJ' x (by omega))) (fun v h' hq => ?_)
  obtain ⟨rfl, R5, rfl, o1, o2, o3, f5⟩ := hq
  refine g_putR (pc' := 60) xD_0 rfl rfl (by first | decide | omega) (by first | decide | omega) (by first | rfl | assumption) rfl rfl rfl ?_
  refine y_loc (pc' := 61) xD_0 rfl rfl rfl rfl ?_
  refine g_new (pc' := 64) xD_0 rfl rfl (by first | decide | omega) (by first | rfl | assumption) (hJ' _ (by decide)) rfl ?_
  refine y_op (pc' := 65) xD_0 rfl rfl rfl rfl ?_
  refine y_callI xD_0 rfl rfl rfl rfl rfl rfl rfl rfl (s_suite0 (d := d) (fun x hx => hJ' x (by omega))) (fun v h' hq => ?_)
  obtain ⟨rfl, R6, rfl, u1, u2, u3, u4, f6⟩ := hq
  refine g_putR (pc' := 71) xD_0 rfl rfl (by first | decide | omega) (by first | decide | omega) (by first | rfl | assumption) rfl rfl rfl ?_
  refine y_loc (pc' := 72) xD_0 rfl rfl rfl rfl ?_
  refine g_new (pc' := 75) xD_0 rfl rfl (by first | decide | omega) (by first | rfl | assumption) (hJ' _ (by decide)) rfl ?_
  refine y_op (pc' := 76) xD_0 rfl rfl rfl rfl ?_
  refine y_callI xD_0 rfl rfl rfl rfl rfl rfl rfl rfl (s_case (d := d + 2) (a := 253) (Or.inr (Or.inr (by decide))) (fun x hx => hJ' x (by omega))) (fun v h' hq => ?_)
  obtain ⟨rfl, R7, rfl, c7, f7⟩ := hq
  refine g_putR (pc' := 82) xD_0 rfl rfl (by first | decide | omega) (by first | decide | omega) (by first | rfl | assumption) rfl rfl rfl ?_
  refine y_loc (pc' := 83) xD_0 rfl rfl rfl rfl ?_
  refine g_new (pc' := 86) xD_0 rfl rfl (by first | decide | omega) (by first | rfl | assumption) (hJ' _ (by decide)) rfl ?_
  refine y_op (pc' := 87) xD_0 rfl rfl rfl rfl ?_
  refine y_callI xD_0 rfl rfl rfl rfl rfl rfl rfl rfl (s_case (d := d + 2) (a := 257) (Or.inr (Or.inr (by decide))) (fun x hx => hJ' x (by omega))) (fun v h' hq => ?_)
  obtain ⟨rfl, R8, rfl, c8, f8⟩ := hq
  refine g_putR (pc' := 93) xD_0 rfl rfl (by first | decide | omega) (by first | decide | omega) (by first | rfl | assumption) rfl rfl rfl ?_
  refine y_loc (pc' := 94) xD_0 rfl rfl rfl rfl ?_
  refine y_ci (pc' := 95) (0) xD_0 rfl rfl rfl rfl ?_
  refine g_put0 (pc' := 98) xD_0 rfl rfl (by first | decide | omega) (by first | decide | omega) (by first | rfl | assumption) rfl (by decide) rfl ?_
  refine y_retV xD_0 rfl rfl ?_
  obtain ⟨Rf, eR⟩ : ∃ r, r = xu R8 1 7 (some 257) := ⟨_, rfl⟩
  have e8 : ∀ x, x ≠ 1 → Rf x = R8 x := fun x a => by rw [eR, xu_ne a]
  have e7 : ∀ x, x ≠ 1 → x < 257 → Rf x = R7 x := fun x a b => by rw [e8 x a, f8 x b, xrow_ne (by omega), xu_ne a]
  have e6 : ∀ x, x ≠ 1 → x < 253 → Rf x = R6 x := fun x a b => by rw [e7 x a (by omega), f7 x b, xrow_ne (by omega), xu_ne a]
  have e5 : ∀ x, x ≠ 1 → x < 151 → Rf x = R5 x := fun x a b => by rw [e6 x a (by omega), f6 x b, xrow_ne (by omega), xu_ne a]
  have e4 : ∀ x, x ≠ 1 → x < 121 → Rf x = R4 x := fun x a b => by rw [e5 x a (by omega), f5 x b, xrow_ne (by omega), xu_ne a]
  have e3 : ∀ x, x ≠ 1 → x < 23 → Rf x = R3 x := fun x a b => by rw [e4 x a (by omega), f4 x b, xrow_ne (by omega), xu_ne a]
  have e2 : ∀ x, x ≠ 1 → x < 20 → Rf x = R2 x := fun x a b => by rw [e3 x a (by omega), f3 x b, xrow_ne (by omega), xu_ne a]
  have e1 : ∀ x, x ≠ 1 → x < 18 → Rf x = R1 x := fun x a b => by rw [e2 x a (by omega), f2 x b, xrow_ne (by omega), xu_ne a]
  have w : ∀ j, Rf 1 j = if j = 7 then some 257 else if j = 6 then some 253 else if j = 5 then some 151 else if j = 4 then some 121 else if j = 3 then some 23 else if j = 2 then some 20 else if j = 1 then some 18 else if j = 0 then some 2 else R1 1 j := fun j => by
    rw [eR, xu_at, f8 1 (by decide), xrow_ne (by decide), xu_at, f7 1 (by decide), xrow_ne (by decide), xu_at, f6 1 (by decide), xrow_ne (by decide), xu_at, f5 1 (by decide), xrow_ne (by decide), xu_at, f4 1 (by decide), xrow_ne (by decide), xu_at, f3 1 (by decide), xrow_ne (by decide), xu_at, f2 1 (by decide), xrow_ne (by decide), xu_at]
  refine ⟨rfl, Rf, by rw [eR], ⟨w 0, w 1, w 2, w 3, w 4, w 5, w 6, w 7⟩, ⟨?_, p2.fr (e1 4 (by decide) (by decide)), p3.fr (e1 10 (by decide) (by decide))⟩, ?_, ?_, ⟨?_, fun i hi => ?_, fun i hi => (a3 i hi).fr (e4 _ (by omega) (by omega))⟩, ⟨?_, fun i hi => ?_, fun i hi => (o3 i hi).fr (e5 _ (by omega) (by omega))⟩, ⟨?_, fun i hi => ?_, fun i hi => (u3 i hi).fr (e6 _ (by omega) (by omega)), u4.fr (e6 _ (by decide) (by decide))⟩, CR.fr c7 (e7 _ (by decide) (by decide)), CR.fr c8 (e8 _ (by decide))⟩
  · rw [e1 2 (by decide) (by decide), e1 3 (by decide) (by decide)]; exact p1
  · rw [e2 18 (by decide) (by decide)]; exact d1
  · rw [e3 20 (by decide) (by decide)]; exact r1
  · rw [e4 23 (by decide) (by decide)]; exact a1
  · rw [e4 24 (by decide) (by decide)]; exact a2 i hi
  · rw [e5 121 (by decide) (by decide)]; exact o1
  · rw [e5 122 (by decide) (by decide)]; exact o2 i hi
  · rw [e6 151 (by decide) (by decide)]; exact u1
  · rw [e6 152 (by decide) (by decide)]; exact u2 i hi
/-- what the model's constructor leaves of references -/
def MF (R : Nat → Nat → Option Nat) : Prop := (R 261 0 = some 262 ∧ R 261 1 = some 263 ∧ R 261 2 = some 264 ∧ R 261 3 = some 265 ∧ R 261 4 = some 266 ∧ R 261 5 = some 267 ∧ R 261 6 = some 268 ∧ R 261 7 = some 269) ∧ R 261 8 = some 270 ∧ R 261 15 = some 271 ∧ R 261 16 = some 272 ∧ R 261 17 = some 273 ∧ R 261 18 = some 274 ∧ R 261 19 = some 275 ∧ R 261 20 = some 276 ∧ R 261 21 = some 277
theorem s_model0 (hJ : ∀ x, 261 < x → ∀ i, J x i = 0) : XP S (d + 1) 98 0 (xent [.ref 261, .int x] 2) [] (gh 262 J R) (fun v h' => v = none ∧ ∃ R', h' = gh 278 (xu J 261 14 (sd x)) R' ∧ MF R' ∧ ∀ x, x < 261 → R' x = R x) := by
  refine y_loc (pc' := 1) xD_98 rfl rfl rfl rfl ?_
  refine g_obj (pc' := 4) xD_98 rfl rfl rfl rfl rfl ?_
  refine y_loc (pc' := 5) xD_98 rfl rfl rfl rfl ?_
  refine y_ci (pc' := 8) (1608) xD_98 rfl rfl rfl rfl ?_
  refine g_arr (pc' := 10) (1608) xD_98 rfl rfl rfl (by first | decide | omega) (by first | rfl | assumption) (by first | decide | assumption | omega) rfl (by first | exact hJ _ (by first | decide | omega) | assumption) rfl ?_
  refine g_putR (pc' := 13) xD_98 rfl rfl (by first | decide | omega) (by first | decide | omega) (by first | rfl | assumption) rfl rfl rfl ?_
  refine y_loc (pc' := 14) xD_98 rfl rfl rfl rfl ?_
  refine y_ci (pc' := 16) (67) xD_98 rfl rfl rfl rfl ?_
  refine g_arr (pc' := 18) (67) xD_98 rfl rfl rfl (by first | decide | omega) (by first | rfl | assumption) (by first | decide | assumption | omega) rfl (by first | exact hJ _ (by first | decide | omega) | assumption) rfl ?_
  refine g_putR (pc' := 21) xD_98 rfl rfl (by first | decide | omega) (by first | decide | omega) (by first | rfl | assumption) rfl rfl rfl ?_
  refine y_loc (pc' := 22) xD_98 rfl rfl rfl rfl ?_
  refine y_ci (pc' := 24) (80) xD_98 rfl rfl rfl rfl ?_
  refine g_arr (pc' := 26) (80) xD_98 rfl rfl rfl (by first | decide | omega) (by first | rfl | assumption) (by first | decide | assumption | omega) rfl (by first | exact hJ _ (by first | decide | omega) | assumption) rfl ?_
  refine g_putR (pc' := 29) xD_98 rfl rfl (by first | decide | omega) (by first | decide | omega) (by first | rfl | assumption) rfl rfl rfl ?_
  refine y_loc (pc' := 30) xD_98 rfl rfl rfl rfl ?_
  refine y_ci (pc' := 31) (2) xD_98 rfl rfl rfl rfl ?_
  refine g_arr (pc' := 33) (2) xD_98 rfl rfl rfl (by first | decide | omega) (by first | rfl | assumption) (by first | decide | assumption | omega) rfl (by first | exact hJ _ (by first | decide | omega) | assumption) rfl ?_
  refine g_putR (pc' := 36) xD_98 rfl rfl (by first | decide | omega) (by first | decide | omega) (by first | rfl | assumption) rfl rfl rfl ?_
  refine y_loc (pc' := 37) xD_98 rfl rfl rfl rfl ?_
  refine y_ci (pc' := 38) (2) xD_98 rfl rfl rfl rfl ?_
  refine g_arr (pc' := 40) (2) xD_98 rfl rfl rfl (by first | decide | omega) (by first | rfl | assumption) (by first | decide | assumption | omega) rfl (by first | exact hJ _ (by first | decide | omega) | assumption) rfl ?_
  refine g_putR (pc' := 43) xD_98 rfl rfl (by first | decide | omega) (by first | decide | omega) (by first | rfl | assumption) rfl rfl rfl ?_
  refine y_loc (pc' := 44) xD_98 rfl rfl rfl rfl ?_
  refine y_ci (pc' := 46) (12) xD_98 rfl rfl rfl rfl ?_
  refine g_arr (pc' := 48) (12) xD_98 rfl rfl rfl (by first | decide | omega) (by first | rfl | assumption) (by first | decide | assumption | omega) rfl (by first | exact hJ _ (by first | decide | omega) | assumption) rfl ?_
  refine g_putR (pc' := 51) xD_98 rfl rfl (by first | decide | omega) (by first | decide | omega) (by first | rfl | assumption) rfl rfl rfl ?_
  refine y_loc (pc' := 52) xD_98 rfl rfl rfl rfl ?_
  refine y_ci (pc' := 54) (12) xD_98 rfl rfl rfl rfl ?_
  refine g_arr (pc' := 56) (12) xD_98 rfl rfl rfl (by first | decide | omega) (by first | rfl | assumption) (by first | decide | assumption | omega) rfl (by first | exact hJ _ (by first | decide | omega) | assumption) rfl ?_
  refine g_putR (pc' := 59) xD_98 rfl rfl (by first | decide | omega) (by first | decide | omega) (by first | rfl | assumption) rfl rfl rfl ?_
  refine y_loc (pc' := 60) xD_98 rfl rfl rfl rfl ?_
  refine y_ci (pc' := 62) (12) xD_98 rfl rfl rfl rfl ?_
  refine g_arr (pc' := 64) (12) xD_98 rfl rfl rfl (by first | decide | omega) (by first | rfl | assumption) (by first | decide | assumption | omega) rfl (by first | exact hJ _ (by first | decide | omega) | assumption) rfl ?_
  refine g_putR (pc' := 67) xD_98 rfl rfl (by first | decide | omega) (by first | decide | omega) (by first | rfl | assumption) rfl rfl rfl ?_
  refine y_loc (pc' := 68) xD_98 rfl rfl rfl rfl ?_
  refine y_ci (pc' := 70) (12) xD_98 rfl rfl rfl rfl ?_
  refine g_arr (pc' := 72) (12) xD_98 rfl rfl rfl (by first | decide | omega) (by first | rfl | assumption) (by first | decide | assumption | omega) rfl (by first | exact hJ _ (by first | decide | omega) | assumption) rfl ?_
  refine g_putR (pc' := 75) xD_98 rfl rfl (by first | decide | omega) (by first | decide | omega) (by first | rfl | assumption) rfl rfl rfl ?_
  refine y_loc (pc' := 76) xD_98 rfl rfl rfl rfl ?_
  refine y_ci (pc' := 78) (8) xD_98 rfl rfl rfl rfl ?_
  refine g_arr (pc' := 80) (8) xD_98 rfl rfl rfl (by first | decide | omega) (by first | rfl | assumption) (by first | decide | assumption | omega) rfl (by first | exact hJ _ (by first | decide | omega) | assumption) rfl ?_
  refine g_putR (pc' := 83) xD_98 rfl rfl (by first | decide | omega) (by first | decide | omega) (by first | rfl | assumption) rfl rfl rfl ?_
  refine y_loc (pc' := 84) xD_98 rfl rfl rfl rfl ?_
  refine y_ci (pc' := 86) (6) xD_98 rfl rfl rfl rfl ?_
  refine g_arr (pc' := 88) (6) xD_98 rfl rfl rfl (by first | decide | omega) (by first | rfl | assumption) (by first | decide | assumption | omega) rfl (by first | exact hJ _ (by first | decide | omega) | assumption) rfl ?_
  refine g_putR (pc' := 91) xD_98 rfl rfl (by first | decide | omega) (by first | decide | omega) (by first | rfl | assumption) rfl rfl rfl ?_
  refine y_loc (pc' := 92) xD_98 rfl rfl rfl rfl ?_
  refine y_ci (pc' := 94) (24) xD_98 rfl rfl rfl rfl ?_
  refine g_arr (pc' := 96) (24) xD_98 rfl rfl rfl (by first | decide | omega) (by first | rfl | assumption) (by first | decide | assumption | omega) rfl (by first | exact hJ _ (by first | decide | omega) | assumption) rfl ?_
  refine g_putR (pc' := 99) xD_98 rfl rfl (by first | decide | omega) (by first | decide | omega) (by first | rfl | assumption) rfl rfl rfl ?_
  refine y_loc (pc' := 100) xD_98 rfl rfl rfl rfl ?_
  refine y_ci (pc' := 103) (168) xD_98 rfl rfl rfl rfl ?_
  refine g_arr (pc' := 105) (168) xD_98 rfl rfl rfl (by first | decide | omega) (by first | rfl | assumption) (by first | decide | assumption | omega) rfl (by first | exact hJ _ (by first | decide | omega) | assumption) rfl ?_
  refine g_putR (pc' := 108) xD_98 rfl rfl (by first | decide | omega) (by first | decide | omega) (by first | rfl | assumption) rfl rfl rfl ?_
  refine y_loc (pc' := 109) xD_98 rfl rfl rfl rfl ?_
  refine y_ci (pc' := 111) (7) xD_98 rfl rfl rfl rfl ?_
  refine g_arr (pc' := 113) (7) xD_98 rfl rfl rfl (by first | decide | omega) (by first | rfl | assumption) (by first | decide | assumption | omega) rfl (by first | exact hJ _ (by first | decide | omega) | assumption) rfl ?_
  refine g_putR (pc' := 116) xD_98 rfl rfl (by first | decide | omega) (by first | decide | omega) (by first | rfl | assumption) rfl rfl rfl ?_
  refine y_loc (pc' := 117) xD_98 rfl rfl rfl rfl ?_
  refine y_ci (pc' := 119) (7) xD_98 rfl rfl rfl rfl ?_
  refine g_arr (pc' := 121) (7) xD_98 rfl rfl rfl (by first | decide | omega) (by first | rfl | assumption) (by first | decide | assumption | omega) rfl (by first | exact hJ _ (by first | decide | omega) | assumption) rfl ?_
  refine g_putR (pc' := 124) xD_98 rfl rfl (by first | decide | omega) (by first | decide | omega) (by first | rfl | assumption) rfl rfl rfl ?_
  refine y_loc (pc' := 125) xD_98 rfl rfl rfl rfl ?_
  refine y_ci (pc' := 127) (24) xD_98 rfl rfl rfl rfl ?_
  refine g_arr (pc' := 129) (24) xD_98 rfl rfl rfl (by first | decide | omega) (by first | rfl | assumption) (by first | decide | assumption | omega) rfl (by first | exact hJ _ (by first | decide | omega) | assumption) rfl ?_
  refine g_putR (pc' := 132) xD_98 rfl rfl (by first | decide | omega) (by first | decide | omega) (by first | rfl | assumption) rfl rfl rfl ?_
  refine y_loc (pc' := 133) xD_98 rfl rfl rfl rfl ?_
  refine y_loc (pc' := 134) xD_98 rfl rfl rfl rfl ?_
  refine y_op (pc' := 135) xD_98 rfl rfl rfl rfl ?_
  refine y_ldc (pc' := 138) xD_98 rfl rfl rfl rfl ?_
  refine y_op (pc' := 139) xD_98 rfl rfl rfl rfl ?_
  refine y_ldc (pc' := 142) xD_98 rfl rfl rfl rfl ?_
  refine y_op (pc' := 143) xD_98 rfl rfl rfl rfl ?_
  refine g_putJ (pc' := 146) xD_98 rfl rfl (by first | decide | omega) (by first | decide | omega) (by first | rfl | assumption) rfl rfl rfl ?_
  refine y_retV xD_98 rfl rfl ?_
  refine ⟨rfl, _, rfl, ⟨⟨rfl, rfl, rfl, rfl, rfl, rfl, rfl, rfl⟩, rfl, rfl, rfl, rfl, rfl, rfl, rfl, rfl⟩, fun x hx => ?_⟩
  rw [xu_ne (by omega), xrow_ne (by omega), xu_ne (by omega), xrow_ne (by omega), xu_ne (by omega), xrow_ne (by omega), xu_ne (by omega), xrow_ne (by omega), xu_ne (by omega), xrow_ne (by omega), xu_ne (by omega), xrow_ne (by omega), xu_ne (by omega), xrow_ne (by omega), xu_ne (by omega), xrow_ne (by omega), xu_ne (by omega), xrow_ne (by omega), xu_ne (by omega), xrow_ne (by omega), xu_ne (by omega), xrow_ne (by omega), xu_ne (by omega), xrow_ne (by omega), xu_ne (by omega), xrow_ne (by omega), xu_ne (by omega), xrow_ne (by omega), xu_ne (by omega), xrow_ne (by omega), xu_ne (by omega), xrow_ne (by omega)]
end CT
theorem CF.fr {R R' : Nat → Nat → Option Nat} (h : CF R) (e : ∀ x, x < 261 → R' x = R x) : CF R' := by
  obtain ⟨h1, ⟨h2, h3, h4⟩, h5, h6, ⟨h7, h8, h9⟩, ⟨h10, h11, h12⟩, ⟨h13, h14, h15, h16⟩, h17, h18⟩ := h
  refine ⟨by rw [e 1 (by decide)]; exact h1, ⟨by rw [e 2 (by decide), e 3 (by decide)]; exact h2, h3.fr (e _ (by decide)), h4.fr (e _ (by decide))⟩, by rw [e 18 (by decide)]; exact h5, by rw [e 20 (by decide)]; exact h6, ⟨by rw [e 23 (by decide)]; exact h7, by rw [e 24 (by decide)]; exact h8, fun i hi => (h9 i hi).fr (e _ (by omega))⟩, ⟨by rw [e 121 (by decide)]; exact h10, by rw [e 122 (by decide)]; exact h11, fun i hi => (h12 i hi).fr (e _ (by omega))⟩, ⟨by rw [e 151 (by decide)]; exact h13, by rw [e 152 (by decide)]; exact h14, fun i hi => (h15 i hi).fr (e _ (by omega)), h16.fr (e _ (by decide))⟩, h17.fr (e _ (by decide)), h18.fr (e _ (by decide))⟩
theorem RF_of {R : Nat → Nat → Option Nat} (h : CF R) (h' : MF R) : RF R := by
  obtain ⟨⟨b0, b1, b2, b3, b4, b5, b6, b7⟩, ⟨⟨p0, p1, p2, q0, q1⟩, m4, m10⟩, dr, ⟨ru0, ru1⟩, ⟨ac, a24, c24⟩, ⟨po, a122, c122⟩, ⟨⟨su0, su1⟩, a152, c152, c249⟩, c253, c257⟩ := h
  obtain ⟨⟨mo0, mo1, mo2, mo3, mo4, mo5, mo6, mo7⟩, mo8, mo15, mo16, mo17, mo18, mo19, mo20, mo21⟩ := h'
  have key : ∀ q ∈ rfT, R q.1 q.2.1 = some q.2.2 := List.forall_mem_cons.mpr ⟨b0, List.forall_mem_cons.mpr ⟨p0, List.forall_mem_cons.mpr ⟨m4.1, List.forall_mem_cons.mpr ⟨m4.2.1, List.forall_mem_cons.mpr ⟨m4.2.2.1, List.forall_mem_cons.mpr ⟨m4.2.2.2.1, List.forall_mem_cons.mpr ⟨m4.2.2.2.2, List.forall_mem_cons.mpr ⟨q0, List.forall_mem_cons.mpr ⟨m10.1, List.forall_mem_cons.mpr ⟨m10.2.1, List.forall_mem_cons.mpr ⟨m10.2.2.1, List.forall_mem_cons.mpr ⟨m10.2.2.2.1, List.forall_mem_cons.mpr ⟨m10.2.2.2.2, List.forall_mem_cons.mpr ⟨q1, List.forall_mem_cons.mpr ⟨p1, List.forall_mem_cons.mpr ⟨p2, List.forall_mem_cons.mpr ⟨b1, List.forall_mem_cons.mpr ⟨dr, List.forall_mem_cons.mpr ⟨b2, List.forall_mem_cons.mpr ⟨ru0, List.forall_mem_cons.mpr ⟨ru1, List.forall_mem_cons.mpr ⟨b3, List.forall_mem_cons.mpr ⟨ac, List.forall_mem_cons.mpr ⟨a24 0 (by decide), List.forall_mem_cons.mpr ⟨a24 1 (by decide), List.forall_mem_cons.mpr ⟨a24 2 (by decide), List.forall_mem_cons.mpr ⟨a24 3 (by decide), List.forall_mem_cons.mpr ⟨a24 4 (by decide), List.forall_mem_cons.mpr ⟨a24 5 (by decide), List.forall_mem_cons.mpr ⟨a24 6 (by decide), List.forall_mem_cons.mpr ⟨a24 7 (by decide), List.forall_mem_cons.mpr ⟨a24 8 (by decide), List.forall_mem_cons.mpr ⟨a24 9 (by decide), List.forall_mem_cons.mpr ⟨a24 10 (by decide), List.forall_mem_cons.mpr ⟨a24 11 (by decide), List.forall_mem_cons.mpr ⟨a24 12 (by decide), List.forall_mem_cons.mpr ⟨a24 13 (by decide), List.forall_mem_cons.mpr ⟨a24 14 (by decide), List.forall_mem_cons.mpr ⟨a24 15 (by decide), List.forall_mem_cons.mpr ⟨a24 16 (by decide), List.forall_mem_cons.mpr ⟨a24 17 (by decide), List.forall_mem_cons.mpr ⟨a24 18 (by decide), List.forall_mem_cons.mpr ⟨a24 19 (by decide), List.forall_mem_cons.mpr ⟨a24 20 (by decide), List.forall_mem_cons.mpr ⟨a24 21 (by decide), List.forall_mem_cons.mpr ⟨a24 22 (by decide), List.forall_mem_cons.mpr ⟨a24 23 (by decide), List.forall_mem_cons.mpr ⟨b4, List.forall_mem_cons.mpr ⟨po, List.forall_mem_cons.mpr ⟨b5, List.forall_mem_cons.mpr ⟨su0, List.forall_mem_cons.mpr ⟨su1, List.forall_mem_cons.mpr ⟨b6, List.forall_mem_cons.mpr ⟨b7, List.forall_mem_cons.mpr ⟨mo0, List.forall_mem_cons.mpr ⟨mo1, List.forall_mem_cons.mpr ⟨mo2, List.forall_mem_cons.mpr ⟨mo3, List.forall_mem_cons.mpr ⟨mo4, List.forall_mem_cons.mpr ⟨mo5, List.forall_mem_cons.mpr ⟨mo6, List.forall_mem_cons.mpr ⟨mo7, List.forall_mem_cons.mpr ⟨mo8, List.forall_mem_cons.mpr ⟨mo15, List.forall_mem_cons.mpr ⟨mo16, List.forall_mem_cons.mpr ⟨mo17, List.forall_mem_cons.mpr ⟨mo18, List.forall_mem_cons.mpr ⟨mo19, List.forall_mem_cons.mpr ⟨mo20, List.forall_mem_cons.mpr ⟨mo21, fun q hq => absurd hq List.not_mem_nil⟩⟩⟩⟩⟩⟩⟩⟩⟩⟩⟩⟩⟩⟩⟩⟩⟩⟩⟩⟩⟩⟩⟩⟩⟩⟩⟩⟩⟩⟩⟩⟩⟩⟩⟩⟩⟩⟩⟩⟩⟩⟩⟩⟩⟩⟩⟩⟩⟩⟩⟩⟩⟩⟩⟩⟩⟩⟩⟩⟩⟩⟩⟩⟩⟩⟩⟩⟩⟩⟩
  refine ⟨fun a j t hr => ?_, fun a ha => ?_⟩
  · unfold rfF at hr
    rw [Option.map_eq_some_iff] at hr
    obtain ⟨q, hq, e⟩ := hr
    have hm := List.mem_of_find?_eq_some hq
    have hp := List.find?_some hq
    rw [Bool.and_eq_true, beq_iff_eq, beq_iff_eq] at hp
    rw [← hp.1, ← hp.2, ← e]
    exact key q hm
  · rcases ha with ⟨l, u, m⟩ | ⟨l, u, m⟩ | ⟨l, u, m⟩
    · have := c24 ((a - 25) / 4) (by omega)
      rw [show 24 + 1 + 4 * ((a - 25) / 4) = a by omega] at this
      exact this
    · have := c122 ((a - 123) / 4) (by omega)
      rw [show 122 + 1 + 4 * ((a - 123) / 4) = a by omega] at this
      exact this
    · by_cases e : a < 249
      · have := c152 ((a - 153) / 4) (by omega)
        rw [show 152 + 1 + 4 * ((a - 153) / 4) = a by omega] at this
        exact this
      · rcases (show a = 249 ∨ a = 253 ∨ a = 257 by omega) with rfl | rfl | rfl
        · exact c249
        · exact c253
        · exact c257
theorem inv_0 {R : Nat → Nat → Option Nat} {s : Int64} (h : CF R) (h' : MF R) : Inv (fun _ _ => 0) (xu (xu (fun _ _ => 0) 18 2 s) 261 14 s) R := by
  obtain ⟨-, -, -, -, -, ⟨-, a122, -⟩, ⟨-, a152, -, -⟩, -, -⟩ := id h
  have c7 : C7 R (fun i => 122 + 1 + 4 * i) := fun i hi => ⟨a122 i hi, isC122 hi, (by show 123 ≤ 122 + 1 + 4 * i; omega), (by show 122 + 1 + 4 * i < 151; omega), fun j hj e => (by have e : 122 + 1 + 4 * i = 122 + 1 + 4 * j := e; omega)⟩
  have c24 : C24 R (fun i => 152 + 1 + 4 * i) := fun i hi => ⟨a152 i hi, isC152 hi, (by show 153 ≤ 152 + 1 + 4 * i; omega), (by show 152 + 1 + 4 * i < 249; omega), fun j hj e => (by have e : 152 + 1 + 4 * i = 152 + 1 + 4 * j := e; omega)⟩
  have w0 : WC (0, fun _ => 0) := ⟨by decide, fun j hj => absurd hj (Nat.not_lt_zero _)⟩
  have rc0 : ∀ a, RC (fun _ _ => 0) a (0, fun _ => 0) := fun a => ⟨rfl, fun i hi => absurd hi (Nat.not_lt_zero _)⟩
  have rm0 : ∀ a, RM (fun _ _ => 0) a (0, fun _ => 0) := fun a => ⟨rfl, fun i hi => absurd hi (Nat.not_lt_zero _)⟩
  have pg : PG0 (fun _ _ => 0) := fun m hm => by
    have e : lnM (fun _ _ => 0) m = 0 := rfl
    rw [e]
    exact ⟨rfl, by decide, fun p hp => absurd hp (Nat.not_lt_zero _), rfl, fun p hp => absurd hp (Nat.not_lt_zero _), fun p hp => absurd hp (Nat.not_lt_zero _)⟩
  refine ⟨false, fun _ _ => 0, 0, fun i => 122 + 1 + 4 * i, 0, fun _ => (0, fun _ => 0), fun _ => (0, fun _ => 0), fun i => 152 + 1 + 4 * i, 0, fun _ => (0, fun _ => 0), (0, fun _ => 0), (0, fun _ => 0), 0, RF_of h h', ?_, rfl, ⟨rfl, rfl⟩, pg_prog pg rfl rfl (fun _ => rfl) (fun _ => rfl), fun m hm => ⟨rfl, Or.inl rfl⟩, fun k hk => absurd hk (Nat.not_lt_zero _), fun q => absurd q (by decide), fun _ => ⟨rfl, rfl, rfl, rfl, fun _ => rfl, pg, fun _ => rfl, fun _ => rfl, rfl⟩, ⟨⟨c7, rfl, by decide, fun k hk => absurd hk (Nat.not_lt_zero _)⟩, rfl, by decide, fun k hk => absurd hk (Nat.not_lt_zero _)⟩, ⟨⟨fun g hg => ⟨fun q => ?_, fun q => absurd q.2 (Nat.lt_irrefl _)⟩, fun g hg => ⟨w0, rc0 _, fun q => absurd q (Nat.lt_irrefl _)⟩⟩, fun g hg => ⟨w0, rm0 _⟩, fun _ _ => rfl⟩, ⟨⟨c24, rfl, by decide, fun k hk => absurd hk (Nat.not_lt_zero _)⟩, rfl, by decide, fun k hk => absurd hk (Nat.not_lt_zero _)⟩, ⟨w0, rc0 _, rm0 _, fun q => absurd q (Nat.lt_irrefl _)⟩, w0, rc0 _, rm0 _⟩
  · rw [xu_ne (by decide), xu_ii, xu_ii]
  · rw [ib_0] at q; cases q

