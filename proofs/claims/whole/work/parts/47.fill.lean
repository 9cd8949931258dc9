/-! Arrays.fill; the steps of a case, one after the other. -/
section FI
variable {S : XS} {d a : Nat} {I : Nat → Nat → Int32} {J : Nat → Nat → Int64} {R : Nat → Nat → Option Nat}
theorem y_alen {k pc pc' n : Nat} {L : XL} {r : List Value} {Q : Option Value → XH → Prop} {T : List (Nat × Instr × Nat)} (hD : XDec k T) (hd : xat T pc = some (.arraylength, 1)) (hk : kq a = (100, n) ∨ kq a = (101, n)) (ha : a ≠ 0) (hp : pc + 1 = pc') (K : XP S d k pc' L (.int (nI n) :: r) (hh I J R) Q) : XP S d k pc L (.ref a :: r) (hh I J R) Q := by
  refine y_ldc hD hd rfl ?_ hp K
  show xalen S (hh I J R) (.ref a :: r) = _
  unfold xalen
  rcases hk with hk | hk <;> simp only [if_neg ha, xkd_hh, hk] <;> rfl
theorem s_fillI (n : Nat) (hk : kq a = (100, n)) (hn : n < 2000) (ha : a ≠ 0) {x : Int32} : XP S d 35 0 (xent [.ref a, .int x] 4) [] (hh I J R) (rV (hh (xrow I a (fun i => if i < n then x else I a i)) J R)) := by
  have loop : ∀ (f k : Nat), k + f = n → XP S d 35 5 [some (.ref a), some (.int x), some (.int (nI k)), some (.int (nI n))] [] (hh (xrow I a (fun i => if i < k then x else I a i)) J R) (rV (hh (xrow I a (fun i => if i < n then x else I a i)) J R)) := by
    intro f
    induction f with
    | zero =>
      intro k hkn
      refine y_loc (pc' := 6) xD_35 rfl rfl rfl rfl ?_
      refine y_loc (pc' := 7) xD_35 rfl rfl rfl rfl ?_
      refine y_icge (pt := 20) (pf := 10) xD_35 rfl rfl rfl (fun h7 => ?_) (fun h7 => ?_)
      · skip
        refine y_retV xD_35 rfl rfl ?_
        exact ⟨rfl, by rw [show k = n by omega]⟩
      · skip
        exact absurd (nI_le (by omega) (by omega)) h7
    | succ f ih =>
      intro k hkn
      have e1 : nI k + 1 = nI (k + 1) := nI_1 k
      have e2 : xu (xrow I a (fun i => if i < k then x else I a i)) a k x = xrow I a (fun i => if i < k + 1 then x else I a i) := by
        rw [xu_row, xrow_row]
        congr 1
        funext i
        rw [xrow_at]
        by_cases h1 : i = k
        · rw [if_pos h1, if_pos (by omega)]
        · rw [if_neg h1]
          by_cases h2 : i < k
          · rw [if_pos h2, if_pos (by omega)]
          · rw [if_neg h2, if_neg (by omega)]
      refine y_loc (pc' := 6) xD_35 rfl rfl rfl rfl ?_
      refine y_loc (pc' := 7) xD_35 rfl rfl rfl rfl ?_
      refine y_icge (pt := 20) (pf := 10) xD_35 rfl rfl rfl (fun h7 => ?_) (fun h7 => ?_)
      · skip
        exact absurd h7 (nI_ge (by omega) (by omega))
      · skip
        refine y_loc (pc' := 11) xD_35 rfl rfl rfl rfl ?_
        refine y_loc (pc' := 12) xD_35 rfl rfl rfl rfl ?_
        refine y_loc (pc' := 13) xD_35 rfl rfl rfl rfl ?_
        refine m_iast (pc' := 14) (k) xD_35 rfl (by first | rfl | assumption) (by first | assumption | omega) (by first | decide | assumption) (by first | rfl | assumption) rfl ?_
        rw [e2]
        refine y_inc (pc' := 17) (nI (k + 1)) xD_35 rfl rfl rfl e1 rfl rfl ?_
        refine y_goto (pc' := 5) xD_35 rfl rfl ?_
        exact ih (k + 1) (by omega)
  have key := loop n 0 (by omega)
  rw [show (fun i => if i < 0 then x else I a i) = I a from by funext i; rw [if_neg (by omega)], xrow_id] at key
  refine y_ci (pc' := 1) (0) xD_35 rfl rfl rfl rfl ?_
  refine y_loc (pc' := 2) xD_35 rfl rfl rfl rfl ?_
  refine y_loc (pc' := 3) xD_35 rfl rfl rfl rfl ?_
  refine y_alen (pc' := 4) (n := n) xD_35 rfl (Or.inl hk) ha rfl ?_
  refine y_loc (pc' := 5) xD_35 rfl rfl rfl rfl ?_
  exact key
theorem s_fillJ (n : Nat) (hk : kq a = (101, n)) (hn : n < 2000) (ha : a ≠ 0) {x : Int64} : XP S d 36 0 (xent [.ref a, .long x] 5) [] (hh I J R) (rV (hh I (xrow J a (fun i => if i < n then x else J a i)) R)) := by
  have loop : ∀ (f k : Nat), k + f = n → XP S d 36 6 [some (.ref a), some (.long x), none, some (.int (nI k)), some (.int (nI n))] [] (hh I (xrow J a (fun i => if i < k then x else J a i)) R) (rV (hh I (xrow J a (fun i => if i < n then x else J a i)) R)) := by
    intro f
    induction f with
    | zero =>
      intro k hkn
      refine y_loc (pc' := 7) xD_36 rfl rfl rfl rfl ?_
      refine y_loc (pc' := 9) xD_36 rfl rfl rfl rfl ?_
      refine y_icge (pt := 22) (pf := 12) xD_36 rfl rfl rfl (fun h9 => ?_) (fun h9 => ?_)
      · skip
        refine y_retV xD_36 rfl rfl ?_
        exact ⟨rfl, by rw [show k = n by omega]⟩
      · skip
        exact absurd (nI_le (by omega) (by omega)) h9
    | succ f ih =>
      intro k hkn
      have e1 : nI k + 1 = nI (k + 1) := nI_1 k
      have e2 : xu (xrow J a (fun i => if i < k then x else J a i)) a k x = xrow J a (fun i => if i < k + 1 then x else J a i) := by
        rw [xu_row, xrow_row]
        congr 1
        funext i
        rw [xrow_at]
        by_cases h1 : i = k
        · rw [if_pos h1, if_pos (by omega)]
        · rw [if_neg h1]
          by_cases h2 : i < k
          · rw [if_pos h2, if_pos (by omega)]
          · rw [if_neg h2, if_neg (by omega)]
      refine y_loc (pc' := 7) xD_36 rfl rfl rfl rfl ?_
      refine y_loc (pc' := 9) xD_36 rfl rfl rfl rfl ?_
      refine y_icge (pt := 22) (pf := 12) xD_36 rfl rfl rfl (fun h9 => ?_) (fun h9 => ?_)
      · skip
        exact absurd h9 (nI_ge (by omega) (by omega))
      · skip
        refine y_loc (pc' := 13) xD_36 rfl rfl rfl rfl ?_
        refine y_loc (pc' := 14) xD_36 rfl rfl rfl rfl ?_
        refine y_loc (pc' := 15) xD_36 rfl rfl rfl rfl ?_
        refine m_jast (pc' := 16) (k) xD_36 rfl (by first | rfl | assumption) (by first | assumption | omega) (by first | decide | assumption) (by first | rfl | assumption) rfl ?_
        rw [e2]
        refine y_inc (pc' := 19) (nI (k + 1)) xD_36 rfl rfl rfl e1 rfl rfl ?_
        refine y_goto (pc' := 6) xD_36 rfl rfl ?_
        exact ih (k + 1) (by omega)
  have key := loop n 0 (by omega)
  rw [show (fun i => if i < 0 then x else J a i) = J a from by funext i; rw [if_neg (by omega)], xrow_id] at key
  refine y_ci (pc' := 1) (0) xD_36 rfl rfl rfl rfl ?_
  refine y_loc (pc' := 2) xD_36 rfl rfl rfl rfl ?_
  refine y_loc (pc' := 3) xD_36 rfl rfl rfl rfl ?_
  refine y_alen (pc' := 4) (n := n) xD_36 rfl (Or.inr hk) ha rfl ?_
  refine y_loc (pc' := 6) xD_36 rfl rfl rfl rfl ?_
  exact key
end FI
/-- the steps of a case, j of them done: variables, distances, results, whether it is over -/
def q_rs (U : Nat → Int64 → Int64 → (Nat → Int64) → Nat → Int64) (cdf : Nat → Nat → Nat → Int32) (bnf : Nat → Nat → Option Nat) (ln : Nat → Nat) (f : Nat → Int32) (v : Nat → Int32) (N res : Nat → Int64) : Nat → (Nat → Int32) × (Nat → Int64) × (Nat → Int64) × Bool
  | 0 => (v, N, res, false)
  | j + 1 => if (q_rs U cdf bnf ln f v N res j).2.2.2 = true then ((q_rs U cdf bnf ln f v N res j).1, (q_rs U cdf bnf ln f v N res j).2.1, vp_updL (q_rs U cdf bnf ln f v N res j).2.2.1 j 4294967296, true)
    else ((q_do U cdf bnf ln f j (q_rs U cdf bnf ln f v N res j).1 (q_rs U cdf bnf ln f v N res j).2.1 (q_rs U cdf bnf ln f v N res j).2.2.1).2.1, (q_do U cdf bnf ln f j (q_rs U cdf bnf ln f v N res j).1 (q_rs U cdf bnf ln f v N res j).2.1 (q_rs U cdf bnf ln f v N res j).2.2.1).2.2, vp_updL (q_rs U cdf bnf ln f v N res j).2.2.1 j (q_do U cdf bnf ln f j (q_rs U cdf bnf ln f v N res j).1 (q_rs U cdf bnf ln f v N res j).2.1 (q_rs U cdf bnf ln f v N res j).2.2.1).1, decide ((q_do U cdf bnf ln f j (q_rs U cdf bnf ln f v N res j).1 (q_rs U cdf bnf ln f v N res j).2.1 (q_rs U cdf bnf ln f v N res j).2.2.1).1 = 4294967299))
section QR
variable {U : Nat → Int64 → Int64 → (Nat → Int64) → Nat → Int64} {cdf : Nat → Nat → Nat → Int32} {bnf : Nat → Nat → Option Nat} {ln : Nat → Nat} {f : Nat → Int32} {v : Nat → Int32} {N res : Nat → Int64} {j : Nat}
theorem q_rs_t (h : (q_rs U cdf bnf ln f v N res j).2.2.2 = true) : q_rs U cdf bnf ln f v N res (j + 1) = ((q_rs U cdf bnf ln f v N res j).1, (q_rs U cdf bnf ln f v N res j).2.1, vp_updL (q_rs U cdf bnf ln f v N res j).2.2.1 j 4294967296, true) := by
  simp only [q_rs]
  rw [if_pos h]
theorem q_rs_f (h : (q_rs U cdf bnf ln f v N res j).2.2.2 = false) : q_rs U cdf bnf ln f v N res (j + 1) = ((q_do U cdf bnf ln f j (q_rs U cdf bnf ln f v N res j).1 (q_rs U cdf bnf ln f v N res j).2.1 (q_rs U cdf bnf ln f v N res j).2.2.1).2.1, (q_do U cdf bnf ln f j (q_rs U cdf bnf ln f v N res j).1 (q_rs U cdf bnf ln f v N res j).2.1 (q_rs U cdf bnf ln f v N res j).2.2.1).2.2, vp_updL (q_rs U cdf bnf ln f v N res j).2.2.1 j (q_do U cdf bnf ln f j (q_rs U cdf bnf ln f v N res j).1 (q_rs U cdf bnf ln f v N res j).2.1 (q_rs U cdf bnf ln f v N res j).2.2.1).1, decide ((q_do U cdf bnf ln f j (q_rs U cdf bnf ln f v N res j).1 (q_rs U cdf bnf ln f v N res j).2.1 (q_rs U cdf bnf ln f v N res j).2.2.1).1 = 4294967299)) := by
  simp only [q_rs]
  rw [if_neg (by rw [h]; decide)]
end QR

