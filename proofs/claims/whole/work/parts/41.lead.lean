/-! Where a line leads: both sides. -/
theorem nI_min {t n : Nat} (ht : t ≤ 10) (hn : n ≤ 10) : (if nI t ≤ nI n then nI t else nI n) = nI (if n < t then n else t) := by
  by_cases hc : t ≤ n
  · rw [if_pos (nI_le hc (by omega)), if_neg (by omega)]
  · rw [if_neg (nI_ge (by omega) (by omega)), if_pos (by omega)]
section LD
variable {S : XS} {d a A m : Nat} {I : Nat → Nat → Int32} {J : Nat → Nat → Int64} {R : Nat → Nat → Option Nat} {h : XH}
/-- Method.placeAfter -/
theorem s_placeAfter (hR : RF R) (hA : A = 4 ∨ A = 10) {n : Nat} (hn : I A 5 = nI n) (hn2 : n ≤ 10) (i : Nat) (hi : i < n) (hV : VL (cdC I A) i) {x o : Int32} (hx : x = nI i) : XP S (d + 1) 23 0 (xent [.ref A, .int x, .int o] 3) [] (hh I J R) (rI (nI (q_lead (cdC I A) n i (decide (o = 1)))) (hh I J R)) := by
  obtain ⟨hk0, hk1, hk2, hk3, hk4, hk5⟩ := kMeth hA
  obtain ⟨hr0, hr1, hr2, hr3, hr4⟩ := rMeth hR hA
  obtain ⟨⟨t, ht, hop⟩, hV3, -⟩ := hV
  have hop2 : I (A + 1) i = nI t := hop
  have hi10 : i < 10 := by omega
  have hx1 : x + Int32.ofInt 1 = nI (i + 1) := by rw [hx]; exact nI_1 i
  have pl : ∀ (b : Bool) (w : Nat), q_to (cdC I A) i b = w → w ≤ n → nI w = nI (q_lead (cdC I A) n i b) := by
    intro b w hw hwn
    unfold q_lead
    rw [hw, if_neg (by omega)]
  have pm : ∀ (b : Bool) (w : Nat), q_to (cdC I A) i b = w → w ≤ 10 → (if nI w ≤ I A 5 then nI w else I A 5) = nI (q_lead (cdC I A) n i b) := by
    intro b w hw hwn
    rw [hn, nI_min hwn hn2]
    unfold q_lead
    rw [hw]
  refine y_loc (pc' := 1) xD_23 rfl rfl rfl rfl ?_
  first | refine m_getR (pc' := 4) xD_23 rfl rfl rfl rfl (hR.1 _ _ _ rfl) rfl ?_ | refine m_getR (pc' := 4) xD_23 rfl rfl (by first | rfl | assumption) rfl (by assumption) rfl ?_
  refine y_loc (pc' := 5) xD_23 rfl rfl rfl rfl ?_
  refine m_iald (pc' := 6) (i) xD_23 rfl (by first | rfl | assumption) (by first | assumption | omega) (by decide) (by first | decide | omega) (by first | rfl | assumption) rfl ?_
  rcases (show t < 5 ∨ (t = 5 ∨ t = 6) ∨ t = 7 ∨ (t = 8 ∨ t = 9) by omega) with h5 | h56 | h7 | h89
  · skip
    refine y_jmp (pc' := 84) xD_23 rfl (by rw [hop2]; rcases (show t = 0 ∨ t = 1 ∨ t = 2 ∨ t = 3 ∨ t = 4 by omega) with rfl | rfl | rfl | rfl | rfl <;> rfl) ?_
    refine y_loc (pc' := 85) xD_23 rfl rfl rfl rfl ?_
    refine y_ci (pc' := 86) (1) xD_23 rfl rfl rfl rfl ?_
    refine y_op (pc' := 87) xD_23 rfl rfl rfl rfl ?_
    refine y_retI xD_23 rfl rfl ?_
    exact rI_e (hx1.trans (pl _ _ (q_to_lt hop h5) (by omega)))
  · skip
    obtain ⟨w, hw, hcw⟩ := hV3 (by rcases h56 with rfl | rfl <;> first | exact Or.inl hop | exact Or.inr (Or.inl hop))
    have hcw2 : I (A + 4) i = nI w := hcw
    refine y_jmp (pc' := 40) xD_23 rfl (by rw [hop2]; rcases h56 with rfl | rfl <;> rfl) ?_
    refine y_loc (pc' := 41) xD_23 rfl rfl rfl rfl ?_
    refine y_ci (pc' := 42) (1) xD_23 rfl rfl rfl rfl ?_
    refine y_icne (pt := 61) (pf := 45) xD_23 rfl rfl rfl (fun h1 => ?_) (fun h1 => ?_)
    · skip
      have h1 : ¬ o = 1 := h1
      refine y_loc (pc' := 62) xD_23 rfl rfl rfl rfl ?_
      refine y_ci (pc' := 63) (1) xD_23 rfl rfl rfl rfl ?_
      refine y_op (pc' := 64) xD_23 rfl rfl rfl rfl ?_
      refine y_retI xD_23 rfl rfl ?_
      exact rI_e (hx1.trans (pl _ _ (by rw [q_to_br hop h56 hcw hw]; simp [h1]) (by omega)))
    · skip
      have h1 : o = 1 := h1
      refine y_loc (pc' := 46) xD_23 rfl rfl rfl rfl ?_
      first | refine m_getR (pc' := 49) xD_23 rfl rfl rfl rfl (hR.1 _ _ _ rfl) rfl ?_ | refine m_getR (pc' := 49) xD_23 rfl rfl (by first | rfl | assumption) rfl (by assumption) rfl ?_
      refine y_loc (pc' := 50) xD_23 rfl rfl rfl rfl ?_
      refine m_iald (pc' := 51) (i) xD_23 rfl (by first | rfl | assumption) (by first | assumption | omega) (by decide) (by first | decide | omega) (by first | rfl | assumption) rfl ?_
      refine y_loc (pc' := 52) xD_23 rfl rfl rfl rfl ?_
      refine m_get (pc' := 55) xD_23 rfl rfl (by first | rfl | assumption) rfl rfl ?_
      refine y_callS xD_23 rfl rfl rfl rfl rfl rfl rfl rfl (s_min) (fun v h' hq => ?_)
      obtain ⟨rfl, rfl⟩ := hq
      refine y_goto (pc' := 64) xD_23 rfl rfl ?_
      refine y_retI xD_23 rfl rfl ?_
      rw [hcw2]
      exact rI_e (pm _ w (by rw [q_to_br hop h56 hcw hw]; simp [h1]) hw)
  · skip
    subst h7
    obtain ⟨w, hw, hcw⟩ := hV3 (Or.inr (Or.inr hop))
    have hcw2 : I (A + 4) i = nI w := hcw
    refine y_jmp (pc' := 65) xD_23 rfl (by rw [hop2]; rfl) ?_
    refine y_loc (pc' := 66) xD_23 rfl rfl rfl rfl ?_
    first | refine m_getR (pc' := 69) xD_23 rfl rfl rfl rfl (hR.1 _ _ _ rfl) rfl ?_ | refine m_getR (pc' := 69) xD_23 rfl rfl (by first | rfl | assumption) rfl (by assumption) rfl ?_
    refine y_loc (pc' := 70) xD_23 rfl rfl rfl rfl ?_
    refine m_iald (pc' := 71) (i) xD_23 rfl (by first | rfl | assumption) (by first | assumption | omega) (by decide) (by first | decide | omega) (by first | rfl | assumption) rfl ?_
    refine y_loc (pc' := 72) xD_23 rfl rfl rfl rfl ?_
    refine m_get (pc' := 75) xD_23 rfl rfl (by first | rfl | assumption) rfl rfl ?_
    refine y_callS xD_23 rfl rfl rfl rfl rfl rfl rfl rfl (s_min) (fun v h' hq => ?_)
    obtain ⟨rfl, rfl⟩ := hq
    skip
    refine y_retI xD_23 rfl rfl ?_
    rw [hcw2]
    exact rI_e (pm _ w (q_to_go hop hcw hw) hw)
  · skip
    refine y_jmp (pc' := 79) xD_23 rfl (by rw [hop2]; rcases h89 with rfl | rfl <;> rfl) ?_
    refine y_loc (pc' := 80) xD_23 rfl rfl rfl rfl ?_
    refine m_get (pc' := 83) xD_23 rfl rfl (by first | rfl | assumption) rfl rfl ?_
    refine y_retI xD_23 rfl rfl ?_
    refine rI_e ?_
    rw [hn]
    unfold q_lead
    rw [q_to_end hop h89]
    split <;> congr 1
    omega
theorem kMod : kq 261 = (9, 22) ∧ kq 262 = (100, 1608) ∧ kq 263 = (100, 67) ∧ kq 264 = (100, 80) ∧ kq 265 = (100, 2) := ⟨rfl, rfl, rfl, rfl, rfl⟩
/-- code(m, p, part) -/
theorem s_code (hR : RF R) (hm : m < 2) (p q : Nat) (hp : p < 10) (hq : q < 4) {xm xp xq : Int32} (e1 : xm = nI m) (e2 : xp = nI p) (e3 : xq = nI q) : XP S d 112 0 (xent [.ref 261, .int xm, .int xp, .int xq] 4) [] (hh I J R) (rI (cdM I m p q) (hh I J R)) := by
  refine y_loc (pc' := 1) xD_112 rfl rfl rfl rfl ?_
  first | refine m_getR (pc' := 4) xD_112 rfl rfl rfl rfl (hR.1 _ _ _ rfl) rfl ?_ | refine m_getR (pc' := 4) xD_112 rfl rfl (by first | rfl | assumption) rfl (by assumption) rfl ?_
  refine y_loc (pc' := 5) xD_112 rfl rfl rfl rfl ?_
  refine y_ci (pc' := 7) (40) xD_112 rfl rfl rfl rfl ?_
  refine y_op (pc' := 8) xD_112 rfl rfl rfl rfl ?_
  refine y_loc (pc' := 9) xD_112 rfl rfl rfl rfl ?_
  refine y_ci (pc' := 10) (4) xD_112 rfl rfl rfl rfl ?_
  refine y_op (pc' := 11) xD_112 rfl rfl rfl rfl ?_
  refine y_op (pc' := 12) xD_112 rfl rfl rfl rfl ?_
  refine y_loc (pc' := 13) xD_112 rfl rfl rfl rfl ?_
  refine y_op (pc' := 14) xD_112 rfl rfl rfl rfl ?_
  refine m_iald (pc' := 15) (40 * m + 4 * p + q) xD_112 rfl (by first | rfl | assumption) (by first | assumption | omega) (by decide) (by first | decide | omega) (by rw [e1, e2, e3]; show nI m * nI 40 + nI p * nI 4 + nI q = _; rw [pk_mul, pk_mul, nI_add, nI_add, Nat.mul_comm m, Nat.mul_comm p]) rfl ?_
  skip
  refine y_retI xD_112 rfl rfl ?_
  exact ⟨rfl, rfl⟩
theorem s_branchAt (hR : RF R) (hm : m < 2) (p : Nat) (hp : p < 10) {xm xp : Int32} (e1 : xm = nI m) (e2 : xp = nI p) : XP S (d + 1) 111 0 (xent [.ref 261, .int xm, .int xp] 3) [] (hh I J R) (rI (zB (decide (cdM I m p 0 = 5 ∨ cdM I m p 0 = 6))) (hh I J R)) := by
  refine y_loc (pc' := 1) xD_111 rfl rfl rfl rfl ?_
  refine y_loc (pc' := 2) xD_111 rfl rfl rfl rfl ?_
  refine y_loc (pc' := 3) xD_111 rfl rfl rfl rfl ?_
  refine y_ci (pc' := 4) (0) xD_111 rfl rfl rfl rfl ?_
  refine y_callV xD_111 rfl rfl rfl rfl (by first | rfl | assumption) rfl rfl rfl rfl (s_code hR hm p 0 hp (by decide) e1 e2 rfl) (fun v h' hq => ?_)
  obtain ⟨rfl, rfl⟩ := hq
  refine y_ci (pc' := 8) (5) xD_111 rfl rfl rfl rfl ?_
  refine y_iceq (pt := 23) (pf := 11) xD_111 rfl rfl rfl (fun h8 => ?_) (fun h8 => ?_)
  · skip
    refine y_ci (pc' := 24) (1) xD_111 rfl rfl rfl rfl ?_
    refine y_goto (pc' := 28) xD_111 rfl rfl ?_
    refine y_retZ xD_111 rfl rfl (by first | decide | assumption) ?_
    first | exact rI_t (by simp_all) | exact rI_f (by simp_all)
  · skip
    refine y_loc (pc' := 12) xD_111 rfl rfl rfl rfl ?_
    refine y_loc (pc' := 13) xD_111 rfl rfl rfl rfl ?_
    refine y_loc (pc' := 14) xD_111 rfl rfl rfl rfl ?_
    refine y_ci (pc' := 15) (0) xD_111 rfl rfl rfl rfl ?_
    refine y_callV xD_111 rfl rfl rfl rfl (by first | rfl | assumption) rfl rfl rfl rfl (s_code hR hm p 0 hp (by decide) e1 e2 rfl) (fun v h' hq => ?_)
    obtain ⟨rfl, rfl⟩ := hq
    refine y_ci (pc' := 20) (6) xD_111 rfl rfl rfl rfl ?_
    refine y_icne (pt := 27) (pf := 23) xD_111 rfl rfl rfl (fun h20 => ?_) (fun h20 => ?_)
    · skip
      refine y_ci (pc' := 28) (0) xD_111 rfl rfl rfl rfl ?_
      refine y_retZ xD_111 rfl rfl (by first | decide | assumption) ?_
      first | exact rI_t (by simp_all) | exact rI_f (by simp_all)
    · skip
      refine y_ci (pc' := 24) (1) xD_111 rfl rfl rfl rfl ?_
      refine y_goto (pc' := 28) xD_111 rfl rfl ?_
      refine y_retZ xD_111 rfl rfl (by first | decide | assumption) ?_
      first | exact rI_t (by simp_all) | exact rI_f (by simp_all)
/-- lead(m, p, outcome): the target at place 55 on -/
theorem s_lead_end (hR : RF R) (hm : m < 2) {n : Nat} (hn : I 265 m = nI n) (hn2 : n ≤ 10) (w : Nat) (hw : w ≤ 10) {xm xp xo xw : Int32} {xp' : Int32} (e1 : xm = nI m) (ew : xw = nI w) {q5 : Option Value} : XP S d 116 55 [some (.ref 261), some (.int xm), some (.int xp), some (.int xo), some (.int xp'), q5] [.int xw] (hh I J R) (rI (nI (if n < w then n else w)) (hh I J R)) := by
  refine y_loc (pc' := 57) xD_116 rfl rfl rfl rfl ?_
  refine y_loc (pc' := 59) xD_116 rfl rfl rfl rfl ?_
  refine y_loc (pc' := 60) xD_116 rfl rfl rfl rfl ?_
  first | refine m_getR (pc' := 63) xD_116 rfl rfl rfl rfl (hR.1 _ _ _ rfl) rfl ?_ | refine m_getR (pc' := 63) xD_116 rfl rfl (by first | rfl | assumption) rfl (by assumption) rfl ?_
  refine y_loc (pc' := 64) xD_116 rfl rfl rfl rfl ?_
  refine m_iald (pc' := 65) (m) xD_116 rfl (by first | rfl | assumption) (by first | assumption | omega) (by decide) (by first | decide | omega) (by first | rfl | assumption) rfl ?_
  skip
  refine y_icle (pt := 77) (pf := 68) xD_116 rfl rfl rfl (fun h1 => ?_) (fun h1 => ?_)
  · skip
    refine y_loc (pc' := 79) xD_116 rfl rfl rfl rfl ?_
    refine y_retI xD_116 rfl rfl ?_
    refine rI_e ?_
    rw [ew, hn] at h1
    rw [ew, if_neg (fun q => absurd (nI_ge q (by omega)) (fun z => z h1))]
  · skip
    refine y_loc (pc' := 69) xD_116 rfl rfl rfl rfl ?_
    first | refine m_getR (pc' := 72) xD_116 rfl rfl rfl rfl (hR.1 _ _ _ rfl) rfl ?_ | refine m_getR (pc' := 72) xD_116 rfl rfl (by first | rfl | assumption) rfl (by assumption) rfl ?_
    refine y_loc (pc' := 73) xD_116 rfl rfl rfl rfl ?_
    refine m_iald (pc' := 74) (m) xD_116 rfl (by first | rfl | assumption) (by first | assumption | omega) (by decide) (by first | decide | omega) (by first | rfl | assumption) rfl ?_
    refine y_goto (pc' := 79) xD_116 rfl rfl ?_
    refine y_retI xD_116 rfl rfl ?_
    refine rI_e ?_
    rw [ew, hn] at h1
    rw [hn, if_pos (Nat.lt_of_not_le (fun q => h1 (nI_le q (by omega))))]
/-- lead(m, p, outcome) -/
theorem s_lead (hR : RF R) (hm : m < 2) {n : Nat} (hn : I 265 m = nI n) (hn2 : n ≤ 10) (p : Nat) (hp : p < n) (hV : VL (cdM I m) p) {xm xp xo : Int32} (e1 : xm = nI m) (e2 : xp = nI p) : XP S (d + 2) 116 0 (xent [.ref 261, .int xm, .int xp, .int xo] 6) [] (hh I J R) (rI (nI (q_lead (cdM I m) n p (decide (xo = 1)))) (hh I J R)) := by
  obtain ⟨⟨t, ht, hop⟩, hV3, -⟩ := hV
  have e3 : xp + 1 = nI (p + 1) := by rw [e2]; exact nI_1 p
  have fin : ∀ (w : Nat) (xw : Int32), q_to (cdM I m) p (decide (xo = 1)) = w → w ≤ 10 → xw = nI w → XP S (d + 2) 116 55 [some (.ref 261), some (.int xm), some (.int xp), some (.int xo), some (.int (cdM I m p 0)), none] [.int xw] (hh I J R) (rI (nI (q_lead (cdM I m) n p (decide (xo = 1)))) (hh I J R)) := by
    intro w xw hq hw ew
    have := s_lead_end (S := S) (d := d + 2) (J := J) (q5 := none) (xp := xp) (xo := xo) (xp' := cdM I m p 0) hR hm hn hn2 w hw e1 ew
    rw [show (if n < w then n else w) = q_lead (cdM I m) n p (decide (xo = 1)) by unfold q_lead; rw [hq]] at this
    exact this
  have hbr : (cdM I m p 0 = 5 ∨ cdM I m p 0 = 6) → t = 5 ∨ t = 6 := by
    intro q
    rw [hop] at q
    rcases q with q | q
    · exact Or.inl ((nI_eq (b := 5) (by omega) (by omega)).mp q)
    · exact Or.inr ((nI_eq (b := 6) (by omega) (by omega)).mp q)
  refine y_loc (pc' := 1) xD_116 rfl rfl rfl rfl ?_
  refine y_loc (pc' := 2) xD_116 rfl rfl rfl rfl ?_
  refine y_loc (pc' := 3) xD_116 rfl rfl rfl rfl ?_
  refine y_ci (pc' := 4) (0) xD_116 rfl rfl rfl rfl ?_
  refine y_callV xD_116 rfl rfl rfl rfl (by first | rfl | assumption) rfl rfl rfl rfl (s_code hR hm p 0 (by omega) (by decide) e1 e2 rfl) (fun v h' hq => ?_)
  obtain ⟨rfl, rfl⟩ := hq
  refine y_loc (pc' := 9) xD_116 rfl rfl rfl rfl ?_
  refine y_loc (pc' := 11) xD_116 rfl rfl rfl rfl ?_
  refine y_ci (pc' := 13) (7) xD_116 rfl rfl rfl rfl ?_
  refine y_iceq (pt := 30) (pf := 16) xD_116 rfl rfl rfl (fun h13 => ?_) (fun h13 => ?_)
  · skip
    refine y_loc (pc' := 31) xD_116 rfl rfl rfl rfl ?_
    refine y_loc (pc' := 32) xD_116 rfl rfl rfl rfl ?_
    refine y_loc (pc' := 33) xD_116 rfl rfl rfl rfl ?_
    refine y_ci (pc' := 34) (3) xD_116 rfl rfl rfl rfl ?_
    refine y_callV xD_116 rfl rfl rfl rfl (by first | rfl | assumption) rfl rfl rfl rfl (s_code hR hm p 3 (by omega) (by decide) e1 e2 rfl) (fun v h' hq => ?_)
    obtain ⟨rfl, rfl⟩ := hq
    refine y_goto (pc' := 55) xD_116 rfl rfl ?_
    first
    | (obtain ⟨w, hw, hcw⟩ := hV3 (Or.inr (Or.inr h13)); exact fin w _ (q_to_go h13 hcw hw) hw hcw)
    | (obtain ⟨w, hw, hcw⟩ := hV3 ((zB_n0.mp h22).elim Or.inl (fun q => Or.inr (Or.inl q))); exact fin w _ (by rw [q_to_br hop (hbr (zB_n0.mp h22)) hcw hw]; simp [h27]) hw hcw)
    | exact fin (p + 1) _ (q_to_next h13 (fun q => zB_0.mp h22 q.1) (Int32.not_le.mpr h44)) (by omega) e3
    | exact fin (p + 1) _ (q_to_next h13 (fun q => h27 (of_decide_eq_true q.2)) (Int32.not_le.mpr h44)) (by omega) e3
    | exact fin 10 _ (q_to_10 h13 (fun q => zB_0.mp h22 q.1) (Int32.not_lt.mp h44)) (by omega) rfl
    | exact fin 10 _ (q_to_10 h13 (fun q => h27 (of_decide_eq_true q.2)) (Int32.not_lt.mp h44)) (by omega) rfl
  · skip
    refine y_loc (pc' := 17) xD_116 rfl rfl rfl rfl ?_
    refine y_loc (pc' := 18) xD_116 rfl rfl rfl rfl ?_
    refine y_loc (pc' := 19) xD_116 rfl rfl rfl rfl ?_
    refine y_callV xD_116 rfl rfl rfl rfl (by first | rfl | assumption) rfl rfl rfl rfl (s_branchAt hR hm p (by omega) e1 e2) (fun v h' hq => ?_)
    obtain ⟨rfl, rfl⟩ := hq
    refine y_ifeq (pt := 40) (pf := 25) xD_116 rfl rfl rfl (fun h22 => ?_) (fun h22 => ?_)
    · skip
      refine y_loc (pc' := 42) xD_116 rfl rfl rfl rfl ?_
      refine y_ci (pc' := 44) (8) xD_116 rfl rfl rfl rfl ?_
      refine y_iclt (pt := 52) (pf := 47) xD_116 rfl rfl rfl (fun h44 => ?_) (fun h44 => ?_)
      · skip
        refine y_loc (pc' := 53) xD_116 rfl rfl rfl rfl ?_
        refine y_ci (pc' := 54) (1) xD_116 rfl rfl rfl rfl ?_
        refine y_op (pc' := 55) xD_116 rfl rfl rfl rfl ?_
        first
        | (obtain ⟨w, hw, hcw⟩ := hV3 (Or.inr (Or.inr h13)); exact fin w _ (q_to_go h13 hcw hw) hw hcw)
        | (obtain ⟨w, hw, hcw⟩ := hV3 ((zB_n0.mp h22).elim Or.inl (fun q => Or.inr (Or.inl q))); exact fin w _ (by rw [q_to_br hop (hbr (zB_n0.mp h22)) hcw hw]; simp [h27]) hw hcw)
        | exact fin (p + 1) _ (q_to_next h13 (fun q => zB_0.mp h22 q.1) (Int32.not_le.mpr h44)) (by omega) e3
        | exact fin (p + 1) _ (q_to_next h13 (fun q => h27 (of_decide_eq_true q.2)) (Int32.not_le.mpr h44)) (by omega) e3
        | exact fin 10 _ (q_to_10 h13 (fun q => zB_0.mp h22 q.1) (Int32.not_lt.mp h44)) (by omega) rfl
        | exact fin 10 _ (q_to_10 h13 (fun q => h27 (of_decide_eq_true q.2)) (Int32.not_lt.mp h44)) (by omega) rfl
      · skip
        refine y_ci (pc' := 49) (10) xD_116 rfl rfl rfl rfl ?_
        refine y_goto (pc' := 55) xD_116 rfl rfl ?_
        first
        | (obtain ⟨w, hw, hcw⟩ := hV3 (Or.inr (Or.inr h13)); exact fin w _ (q_to_go h13 hcw hw) hw hcw)
        | (obtain ⟨w, hw, hcw⟩ := hV3 ((zB_n0.mp h22).elim Or.inl (fun q => Or.inr (Or.inl q))); exact fin w _ (by rw [q_to_br hop (hbr (zB_n0.mp h22)) hcw hw]; simp [h27]) hw hcw)
        | exact fin (p + 1) _ (q_to_next h13 (fun q => zB_0.mp h22 q.1) (Int32.not_le.mpr h44)) (by omega) e3
        | exact fin (p + 1) _ (q_to_next h13 (fun q => h27 (of_decide_eq_true q.2)) (Int32.not_le.mpr h44)) (by omega) e3
        | exact fin 10 _ (q_to_10 h13 (fun q => zB_0.mp h22 q.1) (Int32.not_lt.mp h44)) (by omega) rfl
        | exact fin 10 _ (q_to_10 h13 (fun q => h27 (of_decide_eq_true q.2)) (Int32.not_lt.mp h44)) (by omega) rfl
    · skip
      refine y_loc (pc' := 26) xD_116 rfl rfl rfl rfl ?_
      refine y_ci (pc' := 27) (1) xD_116 rfl rfl rfl rfl ?_
      refine y_icne (pt := 40) (pf := 30) xD_116 rfl rfl rfl (fun h27 => ?_) (fun h27 => ?_)
      · skip
        refine y_loc (pc' := 42) xD_116 rfl rfl rfl rfl ?_
        refine y_ci (pc' := 44) (8) xD_116 rfl rfl rfl rfl ?_
        refine y_iclt (pt := 52) (pf := 47) xD_116 rfl rfl rfl (fun h44 => ?_) (fun h44 => ?_)
        · skip
          refine y_loc (pc' := 53) xD_116 rfl rfl rfl rfl ?_
          refine y_ci (pc' := 54) (1) xD_116 rfl rfl rfl rfl ?_
          refine y_op (pc' := 55) xD_116 rfl rfl rfl rfl ?_
          first
          | (obtain ⟨w, hw, hcw⟩ := hV3 (Or.inr (Or.inr h13)); exact fin w _ (q_to_go h13 hcw hw) hw hcw)
          | (obtain ⟨w, hw, hcw⟩ := hV3 ((zB_n0.mp h22).elim Or.inl (fun q => Or.inr (Or.inl q))); exact fin w _ (by rw [q_to_br hop (hbr (zB_n0.mp h22)) hcw hw]; simp [h27]) hw hcw)
          | exact fin (p + 1) _ (q_to_next h13 (fun q => zB_0.mp h22 q.1) (Int32.not_le.mpr h44)) (by omega) e3
          | exact fin (p + 1) _ (q_to_next h13 (fun q => h27 (of_decide_eq_true q.2)) (Int32.not_le.mpr h44)) (by omega) e3
          | exact fin 10 _ (q_to_10 h13 (fun q => zB_0.mp h22 q.1) (Int32.not_lt.mp h44)) (by omega) rfl
          | exact fin 10 _ (q_to_10 h13 (fun q => h27 (of_decide_eq_true q.2)) (Int32.not_lt.mp h44)) (by omega) rfl
        · skip
          refine y_ci (pc' := 49) (10) xD_116 rfl rfl rfl rfl ?_
          refine y_goto (pc' := 55) xD_116 rfl rfl ?_
          first
          | (obtain ⟨w, hw, hcw⟩ := hV3 (Or.inr (Or.inr h13)); exact fin w _ (q_to_go h13 hcw hw) hw hcw)
          | (obtain ⟨w, hw, hcw⟩ := hV3 ((zB_n0.mp h22).elim Or.inl (fun q => Or.inr (Or.inl q))); exact fin w _ (by rw [q_to_br hop (hbr (zB_n0.mp h22)) hcw hw]; simp [h27]) hw hcw)
          | exact fin (p + 1) _ (q_to_next h13 (fun q => zB_0.mp h22 q.1) (Int32.not_le.mpr h44)) (by omega) e3
          | exact fin (p + 1) _ (q_to_next h13 (fun q => h27 (of_decide_eq_true q.2)) (Int32.not_le.mpr h44)) (by omega) e3
          | exact fin 10 _ (q_to_10 h13 (fun q => zB_0.mp h22 q.1) (Int32.not_lt.mp h44)) (by omega) rfl
          | exact fin 10 _ (q_to_10 h13 (fun q => h27 (of_decide_eq_true q.2)) (Int32.not_lt.mp h44)) (by omega) rfl
      · skip
        refine y_loc (pc' := 31) xD_116 rfl rfl rfl rfl ?_
        refine y_loc (pc' := 32) xD_116 rfl rfl rfl rfl ?_
        refine y_loc (pc' := 33) xD_116 rfl rfl rfl rfl ?_
        refine y_ci (pc' := 34) (3) xD_116 rfl rfl rfl rfl ?_
        refine y_callV xD_116 rfl rfl rfl rfl (by first | rfl | assumption) rfl rfl rfl rfl (s_code hR hm p 3 (by omega) (by decide) e1 e2 rfl) (fun v h' hq => ?_)
        obtain ⟨rfl, rfl⟩ := hq
        refine y_goto (pc' := 55) xD_116 rfl rfl ?_
        first
        | (obtain ⟨w, hw, hcw⟩ := hV3 (Or.inr (Or.inr h13)); exact fin w _ (q_to_go h13 hcw hw) hw hcw)
        | (obtain ⟨w, hw, hcw⟩ := hV3 ((zB_n0.mp h22).elim Or.inl (fun q => Or.inr (Or.inl q))); exact fin w _ (by rw [q_to_br hop (hbr (zB_n0.mp h22)) hcw hw]; simp [h27]) hw hcw)
        | exact fin (p + 1) _ (q_to_next h13 (fun q => zB_0.mp h22 q.1) (Int32.not_le.mpr h44)) (by omega) e3
        | exact fin (p + 1) _ (q_to_next h13 (fun q => h27 (of_decide_eq_true q.2)) (Int32.not_le.mpr h44)) (by omega) e3
        | exact fin 10 _ (q_to_10 h13 (fun q => zB_0.mp h22 q.1) (Int32.not_lt.mp h44)) (by omega) rfl
        | exact fin 10 _ (q_to_10 h13 (fun q => h27 (of_decide_eq_true q.2)) (Int32.not_lt.mp h44)) (by omega) rfl
end LD

