/-! The class's perform, whole. -/
def q_set (N : Nat → Int64) : Nat → Int32
  | 0 => 0
  | k + 1 => if N k = 0 then q_set N k ||| (1 <<< (nI k &&& 31)) else q_set N k
theorem xu_xu {α : Type} {f : Nat → Nat → α} {a i : Nat} {v w : α} : xu (xu f a i v) a i w = xu f a i w := by
  funext x y
  unfold xu
  split <;> rfl
def v0C (I : Nat → Nat → Int32) : Nat → Int32 := fun i => if i < 8 then 0 else I 21 i
def n0C (J : Nat → Nat → Int64) : Nat → Int64 := fun i => if i < 24 then 8589934592 else J 22 i
/-- what the class's perform comes to -/
def rnC (I : Nat → Nat → Int32) (J : Nat → Nat → Int64) (a n : Nat) : (Nat → Int32) × (Nat → Int64) × (Nat → Int64) × Bool := rsC I a (v0C I) (n0C J) (J (a + 2)) n
def ftC (I : Nat → Nat → Int32) (N : Nat → Int64) (nb : Nat) (old : Nat → Int64) (k : Nat) : Nat → Int64 := fun g => if g < k then q_fit N (I 16) nb 13 0 (1 <<< (nI g &&& 31)) else old g
theorem q_rs_eq {U : Nat → Int64 → Int64 → (Nat → Int64) → Nat → Int64} {cdf cdf' : Nat → Nat → Nat → Int32} {bnf bnf' : Nat → Nat → Option Nat} {ln ln' : Nat → Nat} {f : Nat → Int32} {v : Nat → Int32} {N res : Nat → Int64} (h : ∀ m, m < 2 → ln' m = ln m ∧ cdf' m = cdf m ∧ bnf' m = bnf m) : ∀ (n : Nat), (∀ j, j < n → VS f j) → q_rs U cdf' bnf' ln' f v N res n = q_rs U cdf bnf ln f v N res n
  | 0, _ => rfl
  | n + 1, hV => by
    have ih := q_rs_eq (U := U) (v := v) (N := N) (res := res) h n (fun j hj => hV j (by omega))
    cases ho : (q_rs U cdf bnf ln f v N res n).2.2.2 with
    | true => rw [q_rs_t ho, q_rs_t (by rw [ih]; exact ho), ih]
    | false => rw [q_rs_f ho, q_rs_f (by rw [ih]; exact ho), ih, q_do_eq (hV n (by omega)) h]
section PW
variable {S : XS} {d a nb : Nat} {I : Nat → Nat → Int32} {J : Nat → Nat → Int64} {R : Nat → Nat → Option Nat}
theorem s_perf_goals (hR : RF R) (hc : isCase a) (hnb : I 2 3 = nI nb) (hnb2 : nb ≤ 12) : ∀ (f k : Nat) (q3 : Option Value), k + f = 2 * nb →
    XP S (d + 5) 34 105 [some (.ref 20), some (.ref a), some (.ref 2), q3, some (.int (nI k))] [] (hh (xu I a 4 (q_set (J 22) k)) (xrow J (a + 3) (ftC I (J 22) nb (J (a + 3)) k)) R) (rV (hh (xu I a 4 (q_set (J 22) (2 * nb))) (xrow J (a + 3) (ftC I (J 22) nb (J (a + 3)) (2 * nb))) R)) := by
  have ca := hc
  obtain ⟨hk0, hk1, hk2, hk3⟩ := kCase hc
  obtain ⟨hr0, hr1, hr2⟩ := hR.2 a hc
  have x2 : (2 : Nat) ≠ a := by unfold isCase at ca; omega
  have x16 : (16 : Nat) ≠ a := by unfold isCase at ca; omega
  have x22 : (22 : Nat) ≠ a + 3 := by unfold isCase at ca; omega
  have g2 : ∀ x : Int32, xu I a 4 x 2 = I 2 := fun x => xu_ne x2
  have hgc : ∀ x : Int32, (2 : Int32) * xu I a 4 x 2 3 = nI (2 * nb) := fun x => by rw [g2, hnb]; exact pk_mul 2 nb
  intro f
  induction f with
  | zero =>
    intro k q3 hk
    have hk : k = 2 * nb := by omega
    subst hk
    refine y_loc (pc' := 107) xD_34 rfl rfl rfl rfl ?_
    refine y_loc (pc' := 108) xD_34 rfl rfl rfl rfl ?_
    refine y_callV xD_34 rfl rfl rfl rfl (by first | rfl | assumption) rfl rfl rfl rfl (s_goalCount) (fun v h' hq => ?_)
    obtain ⟨rfl, rfl⟩ := hq
    refine y_icge (pt := 163) (pf := 114) xD_34 rfl rfl rfl (fun h111 => ?_) (fun h111 => ?_)
    · skip
      refine y_retV xD_34 rfl rfl ?_
      exact ⟨rfl, rfl⟩
    · skip
      exact absurd (show (2 : Int32) * xu I a 4 _ 2 3 ≤ nI (2 * nb) by rw [hgc]; exact Int32.le_refl _) h111
  | succ f ih =>
    intro k q3 hk
    have e5 : nI k + 1 = nI (k + 1) := nI_1 k
    have step := fun q3 => ih (k + 1) q3 (by omega)
    have eJ : xu (xrow J (a + 3) (ftC I (J 22) nb (J (a + 3)) k)) (a + 3) k (q_fit (J 22) (I 16) nb 13 0 (1 <<< (nI k &&& 31))) = xrow J (a + 3) (ftC I (J 22) nb (J (a + 3)) (k + 1)) := by
      refine row_ext (fun i => ?_)
      unfold ftC
      by_cases h1 : i = k
      · subst h1; rw [if_pos rfl, if_pos (by omega)]
      · rw [if_neg h1]
        by_cases h2 : i < k
        · rw [if_pos h2, if_pos (by omega)]
        · rw [if_neg h2, if_neg (by omega)]
    have tail : ∀ x : Int32, x = q_set (J 22) (k + 1) → XP S (d + 5) 34 143 [some (.ref 20), some (.ref a), some (.ref 2), q3, some (.int (nI k))] [] (hh (xu I a 4 x) (xrow J (a + 3) (ftC I (J 22) nb (J (a + 3)) k)) R) (rV (hh (xu I a 4 (q_set (J 22) (2 * nb))) (xrow J (a + 3) (ftC I (J 22) nb (J (a + 3)) (2 * nb))) R)) := by
      intro x hx
      subst hx
      refine y_loc (pc' := 144) xD_34 rfl rfl rfl rfl ?_
      first | refine m_getR (pc' := 147) xD_34 rfl rfl rfl rfl (hR.1 _ _ _ rfl) rfl ?_ | refine m_getR (pc' := 147) xD_34 rfl rfl (by first | rfl | assumption) rfl (by assumption) rfl ?_
      refine y_loc (pc' := 149) xD_34 rfl rfl rfl rfl ?_
      refine y_loc (pc' := 150) xD_34 rfl rfl rfl rfl ?_
      refine y_loc (pc' := 152) xD_34 rfl rfl rfl rfl ?_
      refine y_loc (pc' := 153) xD_34 rfl rfl rfl rfl ?_
      refine y_callV xD_34 rfl rfl rfl rfl (by first | rfl | assumption) rfl rfl rfl rfl (s_fitnessFor (nb := nb) hR (by rw [g2]; exact hnb) hnb2) (fun v h' hq => ?_)
      obtain ⟨rfl, rfl⟩ := hq
      rw [xrow_ne x22, xu_ne x16]
      refine m_jast (pc' := 157) (k) xD_34 rfl (by first | rfl | assumption) (by first | assumption | omega) (by first | decide | assumption) (by first | rfl | assumption) rfl ?_
      rw [eJ]
      refine y_inc (pc' := 160) (nI (k + 1)) xD_34 rfl rfl rfl e5 rfl rfl ?_
      refine y_goto (pc' := 105) xD_34 rfl rfl ?_
      exact step _
    refine y_loc (pc' := 107) xD_34 rfl rfl rfl rfl ?_
    refine y_loc (pc' := 108) xD_34 rfl rfl rfl rfl ?_
    refine y_callV xD_34 rfl rfl rfl rfl (by first | rfl | assumption) rfl rfl rfl rfl (s_goalCount) (fun v h' hq => ?_)
    obtain ⟨rfl, rfl⟩ := hq
    refine y_icge (pt := 163) (pf := 114) xD_34 rfl rfl rfl (fun h111 => ?_) (fun h111 => ?_)
    · skip
      exact absurd h111 (by rw [hgc]; exact nI_ge (by omega) (by omega))
    · skip
      refine y_loc (pc' := 115) xD_34 rfl rfl rfl rfl ?_
      refine y_op (pc' := 116) xD_34 rfl rfl rfl rfl ?_
      refine m_get (pc' := 119) xD_34 rfl rfl (by first | rfl | assumption) rfl rfl ?_
      refine y_loc (pc' := 120) xD_34 rfl rfl rfl rfl ?_
      first | refine m_getR (pc' := 123) xD_34 rfl rfl rfl rfl (hR.1 _ _ _ rfl) rfl ?_ | refine m_getR (pc' := 123) xD_34 rfl rfl (by first | rfl | assumption) rfl (by assumption) rfl ?_
      refine y_loc (pc' := 125) xD_34 rfl rfl rfl rfl ?_
      refine m_jald (pc' := 126) (k) xD_34 rfl (by first | rfl | assumption) (by first | assumption | omega) (by first | decide | assumption) (by first | rfl | assumption) rfl ?_
      rw [xrow_ne x22]
      refine y_cj (pc' := 127) (0) xD_34 rfl rfl rfl rfl ?_
      refine y_op (pc' := 128) xD_34 rfl rfl rfl rfl ?_
      refine y_ifne (pt := 138) (pf := 131) xD_34 rfl rfl rfl (fun h128 => ?_) (fun h128 => ?_)
      · skip
        refine y_ci (pc' := 139) (0) xD_34 rfl rfl rfl rfl ?_
        refine y_op (pc' := 140) xD_34 rfl rfl rfl rfl ?_
        refine m_putI (pc' := 143) xD_34 rfl rfl (by first | rfl | assumption) rfl rfl rfl ?_
        rw [xu_xu, xu_at, if_pos rfl]
        first
        | exact tail _ (by simp only [q_set]; rw [if_pos (lg_eq.mp h128)])
        | exact tail _ (by simp only [q_set]; rw [if_neg (fun q => h128 (lg_eq.mpr q)), Int32.or_zero])
      · skip
        refine y_ci (pc' := 132) (1) xD_34 rfl rfl rfl rfl ?_
        refine y_loc (pc' := 134) xD_34 rfl rfl rfl rfl ?_
        refine y_op (pc' := 135) xD_34 rfl rfl rfl rfl ?_
        refine y_goto (pc' := 139) xD_34 rfl rfl ?_
        refine y_op (pc' := 140) xD_34 rfl rfl rfl rfl ?_
        refine m_putI (pc' := 143) xD_34 rfl rfl (by first | rfl | assumption) rfl rfl rfl ?_
        rw [xu_xu, xu_at, if_pos rfl]
        first
        | exact tail _ (by simp only [q_set]; rw [if_pos (lg_eq.mp h128)])
        | exact tail _ (by simp only [q_set]; rw [if_neg (fun q => h128 (lg_eq.mpr q)), Int32.or_zero])
/-- Runner.perform -/
theorem s_perform (hR : RF R) (hc : isCase a) (hP : PC I) (hnb : I 2 3 = nI nb) (hnb2 : nb ≤ 12) {n : Nat} (hn : I a 3 = nI n) (hn6 : n ≤ 6) (hV : ∀ j, j < n → VS (I (a + 1)) j) :
    XP S (d + 5) 34 0 (xent [.ref 20, .ref a, .ref 2] 5) [] (hh I J R) (rV (hh (xu (xrow (xu I 20 2 (I 20 2 + 1)) 21 (rnC I J a n).1) a 4 (q_set (rnC I J a n).2.1 (2 * nb))) (xrow (xrow (xrow J 22 (rnC I J a n).2.1) (a + 2) (rnC I J a n).2.2.1) (a + 3) (ftC I (rnC I J a n).2.1 nb (J (a + 3)) (2 * nb))) R)) := by
  have ca := hc
  obtain ⟨hk0, hk1, hk2, hk3⟩ := kCase hc
  obtain ⟨hr0, hr1, hr2⟩ := hR.2 a hc
  have y0 : a ≠ 20 := by unfold isCase at ca; omega
  have y1 : a + 1 ≠ 20 := by unfold isCase at ca; omega
  have y2 : a + 2 ≠ 22 := by unfold isCase at ca; omega
  have y3 : a + 3 ≠ 22 := by unfold isCase at ca; omega
  have y4 : a + 3 ≠ a + 2 := by omega
  have y5 : (22 : Nat) ≠ a + 2 := by omega
  obtain ⟨hP1, hE⟩ := PC_eq (I' := xu I 20 2 (I 20 2 + 1)) (fun y hy => xu_ne (by omega)) hP
  have hrs : ∀ j, j ≤ n → rsC (xu I 20 2 (I 20 2 + 1)) a (v0C I) (n0C J) (J (a + 2)) j = rsC I a (v0C I) (n0C J) (J (a + 2)) j := by
    intro j hj
    unfold rsC
    rw [xu_ne y1]
    exact q_rs_eq hE j (fun i hi => hV i (by omega))
  have loop := fun Q K => s_perf_loop (S := S) (d := d) (I := xu I 20 2 (I 20 2 + 1)) (J := J) (Q := Q) hR hc hP1 (n := n) (by rw [xu_ne y0]; exact hn) hn6 (by rw [xu_ne y1]; exact hV) (v0C I) (n0C J) (J (a + 2)) K n 0 (by omega)
  have goals := fun q3 => s_perf_goals (S := S) (d := d) (nb := nb) (I := xrow (xu I 20 2 (I 20 2 + 1)) 21 (rnC I J a n).1) (J := xrow (xrow J 22 (rnC I J a n).2.1) (a + 2) (rnC I J a n).2.2.1) hR hc (by rw [xrow_ne (by decide), xu_ne (by decide)]; exact hnb) hnb2 (2 * nb) 0 q3 (by omega)
  have e22 : xrow (xrow J 22 (rnC I J a n).2.1) (a + 2) (rnC I J a n).2.2.1 22 = (rnC I J a n).2.1 := by rw [xrow_ne y5, xrow_at]
  have ea3 : xrow (xrow J 22 (rnC I J a n).2.1) (a + 2) (rnC I J a n).2.2.1 (a + 3) = J (a + 3) := by rw [xrow_ne y4, xrow_ne y3]
  rw [e22, ea3] at goals
  have eft : ∀ k, ftC (xrow (xu I 20 2 (I 20 2 + 1)) 21 (rnC I J a n).1) (rnC I J a n).2.1 nb (J (a + 3)) k = ftC I (rnC I J a n).2.1 nb (J (a + 3)) k := by
    intro k
    unfold ftC
    rw [xrow_ne (by decide), xu_ne (by decide)]
  simp only [eft] at goals
  have eft0 : xrow (xrow (xrow J 22 (rnC I J a n).2.1) (a + 2) (rnC I J a n).2.2.1) (a + 3) (ftC I (rnC I J a n).2.1 nb (J (a + 3)) 0) = xrow (xrow J 22 (rnC I J a n).2.1) (a + 2) (rnC I J a n).2.2.1 := by
    rw [show ftC I (rnC I J a n).2.1 nb (J (a + 3)) 0 = J (a + 3) from by funext g; unfold ftC; rw [if_neg (by omega)], ← ea3, xrow_id]
  rw [eft0] at goals
  have e0 : rsC (xu I 20 2 (I 20 2 + 1)) a (v0C I) (n0C J) (J (a + 2)) 0 = (v0C I, n0C J, J (a + 2), false) := rfl
  have en : rsC (xu I 20 2 (I 20 2 + 1)) a (v0C I) (n0C J) (J (a + 2)) n = rnC I J a n := hrs n (Nat.le_refl _)
  rw [e0, en] at loop
  have eJ0 : xrow (xrow J 22 (n0C J)) (a + 2) (J (a + 2)) = xrow J 22 (n0C J) := by
    have : xrow J 22 (n0C J) (a + 2) = J (a + 2) := xrow_ne y2
    rw [← this, xrow_id]
  have K97 : ∀ q : Option Value, XP S (d + 5) 34 97 [some (.ref 20), some (.ref a), some (.ref 2), q, some (.int (nI n))] [] (hh (xrow (xu I 20 2 (I 20 2 + 1)) 21 (rnC I J a n).1) (xrow (xrow J 22 (rnC I J a n).2.1) (a + 2) (rnC I J a n).2.2.1) R) (rV (hh (xu (xrow (xu I 20 2 (I 20 2 + 1)) 21 (rnC I J a n).1) a 4 (q_set (rnC I J a n).2.1 (2 * nb))) (xrow (xrow (xrow J 22 (rnC I J a n).2.1) (a + 2) (rnC I J a n).2.2.1) (a + 3) (ftC I (rnC I J a n).2.1 nb (J (a + 3)) (2 * nb))) R)) := by
    intro q
    refine y_loc (pc' := 98) xD_34 rfl rfl rfl rfl ?_
    refine y_ci (pc' := 99) (0) xD_34 rfl rfl rfl rfl ?_
    refine m_putI (pc' := 102) xD_34 rfl rfl (by first | rfl | assumption) rfl rfl rfl ?_
    refine y_ci (pc' := 103) (0) xD_34 rfl rfl rfl rfl ?_
    refine y_loc (pc' := 105) xD_34 rfl rfl rfl rfl ?_
    exact goals _
  have start := loop _ K97
  simp only [eJ0] at start
  refine y_loc (pc' := 1) xD_34 rfl rfl rfl rfl ?_
  refine y_op (pc' := 2) xD_34 rfl rfl rfl rfl ?_
  refine m_get (pc' := 5) xD_34 rfl rfl (by first | rfl | assumption) rfl rfl ?_
  refine y_ci (pc' := 6) (1) xD_34 rfl rfl rfl rfl ?_
  refine y_op (pc' := 7) xD_34 rfl rfl rfl rfl ?_
  refine m_putI (pc' := 10) xD_34 rfl rfl (by first | rfl | assumption) rfl rfl rfl ?_
  refine y_loc (pc' := 11) xD_34 rfl rfl rfl rfl ?_
  first | refine m_getR (pc' := 14) xD_34 rfl rfl rfl rfl (hR.1 _ _ _ rfl) rfl ?_ | refine m_getR (pc' := 14) xD_34 rfl rfl (by first | rfl | assumption) rfl (by assumption) rfl ?_
  refine y_ci (pc' := 15) (0) xD_34 rfl rfl rfl rfl ?_
  refine y_callS xD_34 rfl rfl rfl rfl rfl rfl rfl rfl (s_fillI 8 rfl (by decide) (by decide)) (fun v h' hq => ?_)
  obtain ⟨rfl, rfl⟩ := hq
  rw [xu_ne (show (21 : Nat) ≠ 20 by decide)]
  refine y_loc (pc' := 19) xD_34 rfl rfl rfl rfl ?_
  first | refine m_getR (pc' := 22) xD_34 rfl rfl rfl rfl (hR.1 _ _ _ rfl) rfl ?_ | refine m_getR (pc' := 22) xD_34 rfl rfl (by first | rfl | assumption) rfl (by assumption) rfl ?_
  refine y_ldc (pc' := 25) xD_34 rfl rfl rfl rfl ?_
  refine y_callS xD_34 rfl rfl rfl rfl rfl rfl rfl rfl (s_fillJ 24 rfl (by decide) (by decide)) (fun v h' hq => ?_)
  obtain ⟨rfl, rfl⟩ := hq
  refine y_ci (pc' := 29) (0) xD_34 rfl rfl rfl rfl ?_
  refine y_loc (pc' := 30) xD_34 rfl rfl rfl rfl ?_
  refine y_ci (pc' := 31) (0) xD_34 rfl rfl rfl rfl ?_
  refine y_loc (pc' := 33) xD_34 rfl rfl rfl rfl ?_
  exact start
end PW

