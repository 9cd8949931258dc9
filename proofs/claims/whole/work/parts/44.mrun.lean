/-! The model: a branch, a line, a call. -/
def q_find (I : Nat → Nat → Int32) (m p : Nat) : Nat → Nat → Option Nat
  | 0, _ => none
  | f + 1, k => if I 267 k = nI m ∧ I 268 k = nI p then some k else q_find I m p f (k + 1)
def bnM (I : Nat → Nat → Int32) (m nb : Nat) : Nat → Option Nat := fun p => q_find I m p nb 0
theorem UM_row {J : Nat → Nat → Int64} {k : Nat} {no yes n1 n2 : Int64} (h1 : n1 = if J 273 (2 * k) < 0 ∨ no < J 273 (2 * k) then no else J 273 (2 * k)) (h2 : n2 = if J 273 (2 * k + 1) < 0 ∨ yes < J 273 (2 * k + 1) then yes else J 273 (2 * k + 1)) : xu (xu J 273 (2 * k) n1) 273 (2 * k + 1) n2 = xrow J 273 (UM k no yes (J 273)) := by
  subst h1; subst h2
  rw [xu_row, xu_row, xrow_row]
  congr 1
section MN
variable {S : XS} {d m : Nat} {I : Nat → Nat → Int32} {J : Nat → Nat → Int64} {R : Nat → Nat → Option Nat}
theorem s_note_body (hR : RF R) (hm : m < 2) (p : Nat) (hp : p < 10) (a b k : Nat) (ha : a < 8) (hb : b < 8) (hk : k < 12) {nb : Nat} (hnb : I 261 10 = nI nb) (hnb2 : nb ≤ 12) (hkn : k < nb) {xm xp xa xb : Int32} (e1 : xm = nI m) (e2 : xp = nI p) (e3 : xa = nI a) (e4 : xb = nI b) :
    XP S (d + 1) 129 40 [some (.ref 261), some (.int xm), some (.int xp), some (.int xa), some (.int xb), some (.int (nI k)), none, none, none, none, none, none, none, none, none] [] (hh I J R) (rV (hh I (xrow J 273 (UM k (q_no (decide (cdM I m p 0 = 5)) (I 271 a).toInt64 (I 271 b).toInt64) (q_yes (decide (cdM I m p 0 = 5)) (I 271 a).toInt64 (I 271 b).toInt64) (J 273))) R)) := by
  have e5 : (2 : Int32) * nI k = nI (2 * k) := pk_mul 2 k
  have e6 : (2 : Int32) * nI k + 1 = nI (2 * k + 1) := by rw [e5]; exact nI_1 _
  have st2 : ∀ (no yes n1 w u : Int64) (z : Int32), n1 = (if J 273 (2 * k) < 0 ∨ no < J 273 (2 * k) then no else J 273 (2 * k)) → XP S (d + 1) 129 229 [some (.ref 261), some (.int xm), some (.int xp), some (.int xa), some (.int xb), some (.int (nI k)), some (.long w), none, some (.long u), none, some (.int z), some (.long yes), none, some (.long no), none] [] (hh I (xu J 273 (2 * k) n1) R) (rV (hh I (xrow J 273 (UM k no yes (J 273))) R)) := by
    intro no yes n1 w u z hn1
    have hj : xu J 273 (2 * k) n1 273 (2 * k + 1) = J 273 (2 * k + 1) := by rw [xu_at, if_neg (by omega)]
    refine y_loc (pc' := 230) xD_129 rfl rfl rfl rfl ?_
    first | refine m_getR (pc' := 233) xD_129 rfl rfl rfl rfl (hR.1 _ _ _ rfl) rfl ?_ | refine m_getR (pc' := 233) xD_129 rfl rfl (by first | rfl | assumption) rfl (by assumption) rfl ?_
    refine y_ci (pc' := 234) (2) xD_129 rfl rfl rfl rfl ?_
    refine y_loc (pc' := 236) xD_129 rfl rfl rfl rfl ?_
    refine y_op (pc' := 237) xD_129 rfl rfl rfl rfl ?_
    refine y_ci (pc' := 238) (1) xD_129 rfl rfl rfl rfl ?_
    refine y_op (pc' := 239) xD_129 rfl rfl rfl rfl ?_
    refine y_loc (pc' := 240) xD_129 rfl rfl rfl rfl ?_
    first | refine m_getR (pc' := 243) xD_129 rfl rfl rfl rfl (hR.1 _ _ _ rfl) rfl ?_ | refine m_getR (pc' := 243) xD_129 rfl rfl (by first | rfl | assumption) rfl (by assumption) rfl ?_
    refine y_ci (pc' := 244) (2) xD_129 rfl rfl rfl rfl ?_
    refine y_loc (pc' := 246) xD_129 rfl rfl rfl rfl ?_
    refine y_op (pc' := 247) xD_129 rfl rfl rfl rfl ?_
    refine y_ci (pc' := 248) (1) xD_129 rfl rfl rfl rfl ?_
    refine y_op (pc' := 249) xD_129 rfl rfl rfl rfl ?_
    refine m_jald (pc' := 250) (2 * k + 1) xD_129 rfl (by first | rfl | assumption) (by first | assumption | omega) (by decide) (by first | rfl | assumption) rfl ?_
    refine y_cj (pc' := 251) (0) xD_129 rfl rfl rfl rfl ?_
    refine y_op (pc' := 252) xD_129 rfl rfl rfl rfl ?_
    refine y_iflt (pt := 272) (pf := 255) xD_129 rfl rfl rfl (fun h252 => ?_) (fun h252 => ?_)
    · skip
      refine y_loc (pc' := 274) xD_129 rfl rfl rfl rfl ?_
      refine y_goto (pc' := 288) xD_129 rfl rfl ?_
      refine m_jast (pc' := 289) (2 * k + 1) xD_129 rfl (by first | rfl | assumption) (by first | assumption | omega) (by decide) (by first | rfl | assumption) rfl ?_
      rw [UM_row (yes := yes) hn1 (by rw [hj] at *; first | (rw [if_pos (Or.inl (lg_lt.mp h252))]) | (rw [if_pos (Or.inr (Int64.not_le.mp (fun q => h269 ((lg_cmp_ge _ _).mpr q))))]) | (rw [if_neg (fun q => q.elim (fun z => h252 (lg_lt.mpr z)) (fun z => absurd z (Int64.not_lt.mpr ((lg_cmp_ge _ _).mp h269))))]))]
      refine y_retV xD_129 rfl rfl ?_
      exact ⟨rfl, rfl⟩
    · skip
      refine y_loc (pc' := 257) xD_129 rfl rfl rfl rfl ?_
      refine y_loc (pc' := 258) xD_129 rfl rfl rfl rfl ?_
      first | refine m_getR (pc' := 261) xD_129 rfl rfl rfl rfl (hR.1 _ _ _ rfl) rfl ?_ | refine m_getR (pc' := 261) xD_129 rfl rfl (by first | rfl | assumption) rfl (by assumption) rfl ?_
      refine y_ci (pc' := 262) (2) xD_129 rfl rfl rfl rfl ?_
      refine y_loc (pc' := 264) xD_129 rfl rfl rfl rfl ?_
      refine y_op (pc' := 265) xD_129 rfl rfl rfl rfl ?_
      refine y_ci (pc' := 266) (1) xD_129 rfl rfl rfl rfl ?_
      refine y_op (pc' := 267) xD_129 rfl rfl rfl rfl ?_
      refine m_jald (pc' := 268) (2 * k + 1) xD_129 rfl (by first | rfl | assumption) (by first | assumption | omega) (by decide) (by first | rfl | assumption) rfl ?_
      refine y_op (pc' := 269) xD_129 rfl rfl rfl rfl ?_
      refine y_ifge (pt := 277) (pf := 272) xD_129 rfl rfl rfl (fun h269 => ?_) (fun h269 => ?_)
      · skip
        refine y_loc (pc' := 278) xD_129 rfl rfl rfl rfl ?_
        first | refine m_getR (pc' := 281) xD_129 rfl rfl rfl rfl (hR.1 _ _ _ rfl) rfl ?_ | refine m_getR (pc' := 281) xD_129 rfl rfl (by first | rfl | assumption) rfl (by assumption) rfl ?_
        refine y_ci (pc' := 282) (2) xD_129 rfl rfl rfl rfl ?_
        refine y_loc (pc' := 284) xD_129 rfl rfl rfl rfl ?_
        refine y_op (pc' := 285) xD_129 rfl rfl rfl rfl ?_
        refine y_ci (pc' := 286) (1) xD_129 rfl rfl rfl rfl ?_
        refine y_op (pc' := 287) xD_129 rfl rfl rfl rfl ?_
        refine m_jald (pc' := 288) (2 * k + 1) xD_129 rfl (by first | rfl | assumption) (by first | assumption | omega) (by decide) (by first | rfl | assumption) rfl ?_
        refine m_jast (pc' := 289) (2 * k + 1) xD_129 rfl (by first | rfl | assumption) (by first | assumption | omega) (by decide) (by first | rfl | assumption) rfl ?_
        rw [UM_row (yes := yes) hn1 (by rw [hj] at *; first | (rw [if_pos (Or.inl (lg_lt.mp h252))]) | (rw [if_pos (Or.inr (Int64.not_le.mp (fun q => h269 ((lg_cmp_ge _ _).mpr q))))]) | (rw [if_neg (fun q => q.elim (fun z => h252 (lg_lt.mpr z)) (fun z => absurd z (Int64.not_lt.mpr ((lg_cmp_ge _ _).mp h269))))]))]
        refine y_retV xD_129 rfl rfl ?_
        exact ⟨rfl, rfl⟩
      · skip
        refine y_loc (pc' := 274) xD_129 rfl rfl rfl rfl ?_
        refine y_goto (pc' := 288) xD_129 rfl rfl ?_
        refine m_jast (pc' := 289) (2 * k + 1) xD_129 rfl (by first | rfl | assumption) (by first | assumption | omega) (by decide) (by first | rfl | assumption) rfl ?_
        rw [UM_row (yes := yes) hn1 (by rw [hj] at *; first | (rw [if_pos (Or.inl (lg_lt.mp h252))]) | (rw [if_pos (Or.inr (Int64.not_le.mp (fun q => h269 ((lg_cmp_ge _ _).mpr q))))]) | (rw [if_neg (fun q => q.elim (fun z => h252 (lg_lt.mpr z)) (fun z => absurd z (Int64.not_lt.mpr ((lg_cmp_ge _ _).mp h269))))]))]
        refine y_retV xD_129 rfl rfl ?_
        exact ⟨rfl, rfl⟩
  have st1 : ∀ (no yes w u : Int64) (z : Int32), XP S (d + 1) 129 177 [some (.ref 261), some (.int xm), some (.int xp), some (.int xa), some (.int xb), some (.int (nI k)), some (.long w), none, some (.long u), none, some (.int z), some (.long yes), none, some (.long no), none] [] (hh I J R) (rV (hh I (xrow J 273 (UM k no yes (J 273))) R)) := by
    intro no yes w u z
    refine y_loc (pc' := 178) xD_129 rfl rfl rfl rfl ?_
    first | refine m_getR (pc' := 181) xD_129 rfl rfl rfl rfl (hR.1 _ _ _ rfl) rfl ?_ | refine m_getR (pc' := 181) xD_129 rfl rfl (by first | rfl | assumption) rfl (by assumption) rfl ?_
    refine y_ci (pc' := 182) (2) xD_129 rfl rfl rfl rfl ?_
    refine y_loc (pc' := 184) xD_129 rfl rfl rfl rfl ?_
    refine y_op (pc' := 185) xD_129 rfl rfl rfl rfl ?_
    refine y_loc (pc' := 186) xD_129 rfl rfl rfl rfl ?_
    first | refine m_getR (pc' := 189) xD_129 rfl rfl rfl rfl (hR.1 _ _ _ rfl) rfl ?_ | refine m_getR (pc' := 189) xD_129 rfl rfl (by first | rfl | assumption) rfl (by assumption) rfl ?_
    refine y_ci (pc' := 190) (2) xD_129 rfl rfl rfl rfl ?_
    refine y_loc (pc' := 192) xD_129 rfl rfl rfl rfl ?_
    refine y_op (pc' := 193) xD_129 rfl rfl rfl rfl ?_
    refine m_jald (pc' := 194) (2 * k) xD_129 rfl (by first | rfl | assumption) (by first | assumption | omega) (by decide) (by first | rfl | assumption) rfl ?_
    refine y_cj (pc' := 195) (0) xD_129 rfl rfl rfl rfl ?_
    refine y_op (pc' := 196) xD_129 rfl rfl rfl rfl ?_
    refine y_iflt (pt := 214) (pf := 199) xD_129 rfl rfl rfl (fun h196 => ?_) (fun h196 => ?_)
    · skip
      refine y_loc (pc' := 216) xD_129 rfl rfl rfl rfl ?_
      refine y_goto (pc' := 228) xD_129 rfl rfl ?_
      refine m_jast (pc' := 229) (2 * k) xD_129 rfl (by first | rfl | assumption) (by first | assumption | omega) (by decide) (by first | rfl | assumption) rfl ?_
      exact st2 _ _ _ _ _ _ (by first | (rw [if_pos (Or.inl (lg_lt.mp h196))]) | (rw [if_pos (Or.inr (Int64.not_le.mp (fun q => h211 ((lg_cmp_ge _ _).mpr q))))]) | (rw [if_neg (fun q => q.elim (fun z => h196 (lg_lt.mpr z)) (fun z => absurd z (Int64.not_lt.mpr ((lg_cmp_ge _ _).mp h211))))]))
    · skip
      refine y_loc (pc' := 201) xD_129 rfl rfl rfl rfl ?_
      refine y_loc (pc' := 202) xD_129 rfl rfl rfl rfl ?_
      first | refine m_getR (pc' := 205) xD_129 rfl rfl rfl rfl (hR.1 _ _ _ rfl) rfl ?_ | refine m_getR (pc' := 205) xD_129 rfl rfl (by first | rfl | assumption) rfl (by assumption) rfl ?_
      refine y_ci (pc' := 206) (2) xD_129 rfl rfl rfl rfl ?_
      refine y_loc (pc' := 208) xD_129 rfl rfl rfl rfl ?_
      refine y_op (pc' := 209) xD_129 rfl rfl rfl rfl ?_
      refine m_jald (pc' := 210) (2 * k) xD_129 rfl (by first | rfl | assumption) (by first | assumption | omega) (by decide) (by first | rfl | assumption) rfl ?_
      refine y_op (pc' := 211) xD_129 rfl rfl rfl rfl ?_
      refine y_ifge (pt := 219) (pf := 214) xD_129 rfl rfl rfl (fun h211 => ?_) (fun h211 => ?_)
      · skip
        refine y_loc (pc' := 220) xD_129 rfl rfl rfl rfl ?_
        first | refine m_getR (pc' := 223) xD_129 rfl rfl rfl rfl (hR.1 _ _ _ rfl) rfl ?_ | refine m_getR (pc' := 223) xD_129 rfl rfl (by first | rfl | assumption) rfl (by assumption) rfl ?_
        refine y_ci (pc' := 224) (2) xD_129 rfl rfl rfl rfl ?_
        refine y_loc (pc' := 226) xD_129 rfl rfl rfl rfl ?_
        refine y_op (pc' := 227) xD_129 rfl rfl rfl rfl ?_
        refine m_jald (pc' := 228) (2 * k) xD_129 rfl (by first | rfl | assumption) (by first | assumption | omega) (by decide) (by first | rfl | assumption) rfl ?_
        refine m_jast (pc' := 229) (2 * k) xD_129 rfl (by first | rfl | assumption) (by first | assumption | omega) (by decide) (by first | rfl | assumption) rfl ?_
        exact st2 _ _ _ _ _ _ (by first | (rw [if_pos (Or.inl (lg_lt.mp h196))]) | (rw [if_pos (Or.inr (Int64.not_le.mp (fun q => h211 ((lg_cmp_ge _ _).mpr q))))]) | (rw [if_neg (fun q => q.elim (fun z => h196 (lg_lt.mpr z)) (fun z => absurd z (Int64.not_lt.mpr ((lg_cmp_ge _ _).mp h211))))]))
      · skip
        refine y_loc (pc' := 216) xD_129 rfl rfl rfl rfl ?_
        refine y_goto (pc' := 228) xD_129 rfl rfl ?_
        refine m_jast (pc' := 229) (2 * k) xD_129 rfl (by first | rfl | assumption) (by first | assumption | omega) (by decide) (by first | rfl | assumption) rfl ?_
        exact st2 _ _ _ _ _ _ (by first | (rw [if_pos (Or.inl (lg_lt.mp h196))]) | (rw [if_pos (Or.inr (Int64.not_le.mp (fun q => h211 ((lg_cmp_ge _ _).mpr q))))]) | (rw [if_neg (fun q => q.elim (fun z => h196 (lg_lt.mpr z)) (fun z => absurd z (Int64.not_lt.mpr ((lg_cmp_ge _ _).mp h211))))]))
  have st0 : ∀ (yes : Int64) (z : Int32), (z = 1 ∧ cdM I m p 0 = 5 ∨ z = 0 ∧ ¬ cdM I m p 0 = 5) → q_yes (decide (cdM I m p 0 = 5)) (I 271 a).toInt64 (I 271 b).toInt64 = yes → XP S (d + 1) 129 137 [some (.ref 261), some (.int xm), some (.int xp), some (.int xa), some (.int xb), some (.int (nI k)), some (.long (I 271 a).toInt64), none, some (.long (I 271 b).toInt64), none, some (.int z), some (.long yes), none, none, none] [] (hh I J R) (rV (hh I (xrow J 273 (UM k (q_no (decide (cdM I m p 0 = 5)) (I 271 a).toInt64 (I 271 b).toInt64) (q_yes (decide (cdM I m p 0 = 5)) (I 271 a).toInt64 (I 271 b).toInt64) (J 273))) R)) := by
    intro yes z hz hy
    have fin : ∀ (no : Int64), q_no (decide (cdM I m p 0 = 5)) (I 271 a).toInt64 (I 271 b).toInt64 = no → XP S (d + 1) 129 177 [some (.ref 261), some (.int xm), some (.int xp), some (.int xa), some (.int xb), some (.int (nI k)), some (.long (I 271 a).toInt64), none, some (.long (I 271 b).toInt64), none, some (.int z), some (.long yes), none, some (.long no), none] [] (hh I J R) (rV (hh I (xrow J 273 (UM k (q_no (decide (cdM I m p 0 = 5)) (I 271 a).toInt64 (I 271 b).toInt64) (q_yes (decide (cdM I m p 0 = 5)) (I 271 a).toInt64 (I 271 b).toInt64) (J 273))) R)) := by
      intro no hno
      rw [hno, hy]
      exact st1 _ _ _ _ _
    have hz5 : ¬ z = 0 → cdM I m p 0 = 5 := fun q => hz.elim (fun r => r.2) (fun r => absurd r.1 q)
    have hzn : z = 0 → ¬ cdM I m p 0 = 5 := fun q => hz.elim (fun r => by rw [q] at r; exact absurd r.1 (by decide)) (fun r => r.2)
    refine y_loc (pc' := 139) xD_129 rfl rfl rfl rfl ?_
    refine y_ifeq (pt := 158) (pf := 142) xD_129 rfl rfl rfl (fun h139 => ?_) (fun h139 => ?_)
    · skip
      refine y_loc (pc' := 160) xD_129 rfl rfl rfl rfl ?_
      refine y_loc (pc' := 162) xD_129 rfl rfl rfl rfl ?_
      refine y_op (pc' := 163) xD_129 rfl rfl rfl rfl ?_
      refine y_ifge (pt := 174) (pf := 166) xD_129 rfl rfl rfl (fun h163 => ?_) (fun h163 => ?_)
      · skip
        refine y_cj (pc' := 175) (0) xD_129 rfl rfl rfl rfl ?_
        refine y_loc (pc' := 177) xD_129 rfl rfl rfl rfl ?_
        first
        | exact fin _ (qn1 (hz5 h139) (lg_eq.mp h147))
        | exact fin _ (qn0 (hz5 h139) (fun q => h147 (lg_eq.mpr q)))
        | exact fin _ (qng (hzn h139) (Int64.not_lt.mpr ((lg_cmp_ge _ _).mp h163)))
        | exact fin _ (qnl (hzn h139) (Int64.not_le.mp (fun q => h163 ((lg_cmp_ge _ _).mpr q))))
      · skip
        refine y_loc (pc' := 168) xD_129 rfl rfl rfl rfl ?_
        refine y_loc (pc' := 170) xD_129 rfl rfl rfl rfl ?_
        refine y_op (pc' := 171) xD_129 rfl rfl rfl rfl ?_
        refine y_goto (pc' := 175) xD_129 rfl rfl ?_
        refine y_loc (pc' := 177) xD_129 rfl rfl rfl rfl ?_
        first
        | exact fin _ (qn1 (hz5 h139) (lg_eq.mp h147))
        | exact fin _ (qn0 (hz5 h139) (fun q => h147 (lg_eq.mpr q)))
        | exact fin _ (qng (hzn h139) (Int64.not_lt.mpr ((lg_cmp_ge _ _).mp h163)))
        | exact fin _ (qnl (hzn h139) (Int64.not_le.mp (fun q => h163 ((lg_cmp_ge _ _).mpr q))))
    · skip
      refine y_loc (pc' := 144) xD_129 rfl rfl rfl rfl ?_
      refine y_loc (pc' := 146) xD_129 rfl rfl rfl rfl ?_
      refine y_op (pc' := 147) xD_129 rfl rfl rfl rfl ?_
      refine y_ifne (pt := 154) (pf := 150) xD_129 rfl rfl rfl (fun h147 => ?_) (fun h147 => ?_)
      · skip
        refine y_cj (pc' := 155) (0) xD_129 rfl rfl rfl rfl ?_
        refine y_goto (pc' := 175) xD_129 rfl rfl ?_
        refine y_loc (pc' := 177) xD_129 rfl rfl rfl rfl ?_
        first
        | exact fin _ (qn1 (hz5 h139) (lg_eq.mp h147))
        | exact fin _ (qn0 (hz5 h139) (fun q => h147 (lg_eq.mpr q)))
        | exact fin _ (qng (hzn h139) (Int64.not_lt.mpr ((lg_cmp_ge _ _).mp h163)))
        | exact fin _ (qnl (hzn h139) (Int64.not_le.mp (fun q => h163 ((lg_cmp_ge _ _).mpr q))))
      · skip
        refine y_cj (pc' := 151) (1) xD_129 rfl rfl rfl rfl ?_
        refine y_goto (pc' := 175) xD_129 rfl rfl ?_
        refine y_loc (pc' := 177) xD_129 rfl rfl rfl rfl ?_
        first
        | exact fin _ (qn1 (hz5 h139) (lg_eq.mp h147))
        | exact fin _ (qn0 (hz5 h139) (fun q => h147 (lg_eq.mpr q)))
        | exact fin _ (qng (hzn h139) (Int64.not_lt.mpr ((lg_cmp_ge _ _).mp h163)))
        | exact fin _ (qnl (hzn h139) (Int64.not_le.mp (fun q => h163 ((lg_cmp_ge _ _).mpr q))))
  refine y_loc (pc' := 42) xD_129 rfl rfl rfl rfl ?_
  refine y_loc (pc' := 43) xD_129 rfl rfl rfl rfl ?_
  refine m_get (pc' := 46) xD_129 rfl rfl (by first | rfl | assumption) rfl rfl ?_
  refine y_icne (pt := 50) (pf := 49) xD_129 rfl rfl rfl (fun h46 => ?_) (fun h46 => ?_)
  · skip
    refine y_loc (pc' := 51) xD_129 rfl rfl rfl rfl ?_
    first | refine m_getR (pc' := 54) xD_129 rfl rfl rfl rfl (hR.1 _ _ _ rfl) rfl ?_ | refine m_getR (pc' := 54) xD_129 rfl rfl (by first | rfl | assumption) rfl (by assumption) rfl ?_
    refine y_loc (pc' := 55) xD_129 rfl rfl rfl rfl ?_
    refine m_iald (pc' := 56) (a) xD_129 rfl (by first | rfl | assumption) (by first | assumption | omega) (by decide) (by first | decide | omega) (by first | rfl | assumption) rfl ?_
    refine y_op (pc' := 57) xD_129 rfl rfl rfl rfl ?_
    refine y_loc (pc' := 59) xD_129 rfl rfl rfl rfl ?_
    refine y_loc (pc' := 60) xD_129 rfl rfl rfl rfl ?_
    first | refine m_getR (pc' := 63) xD_129 rfl rfl rfl rfl (hR.1 _ _ _ rfl) rfl ?_ | refine m_getR (pc' := 63) xD_129 rfl rfl (by first | rfl | assumption) rfl (by assumption) rfl ?_
    refine y_loc (pc' := 65) xD_129 rfl rfl rfl rfl ?_
    refine m_iald (pc' := 66) (b) xD_129 rfl (by first | rfl | assumption) (by first | assumption | omega) (by decide) (by first | decide | omega) (by first | rfl | assumption) rfl ?_
    refine y_op (pc' := 67) xD_129 rfl rfl rfl rfl ?_
    refine y_loc (pc' := 69) xD_129 rfl rfl rfl rfl ?_
    refine y_loc (pc' := 70) xD_129 rfl rfl rfl rfl ?_
    refine y_loc (pc' := 71) xD_129 rfl rfl rfl rfl ?_
    refine y_loc (pc' := 72) xD_129 rfl rfl rfl rfl ?_
    refine y_ci (pc' := 73) (0) xD_129 rfl rfl rfl rfl ?_
    refine y_callV xD_129 rfl rfl rfl rfl (by first | rfl | assumption) rfl rfl rfl rfl (s_code hR hm p 0 hp (by decide) e1 e2 rfl) (fun v h' hq => ?_)
    obtain ⟨rfl, rfl⟩ := hq
    refine y_ci (pc' := 77) (5) xD_129 rfl rfl rfl rfl ?_
    refine y_icne (pt := 84) (pf := 80) xD_129 rfl rfl rfl (fun h77 => ?_) (fun h77 => ?_)
    · skip
      refine y_ci (pc' := 85) (0) xD_129 rfl rfl rfl rfl ?_
      refine y_loc (pc' := 87) xD_129 rfl rfl rfl rfl ?_
      refine y_loc (pc' := 89) xD_129 rfl rfl rfl rfl ?_
      refine y_ifeq (pt := 116) (pf := 92) xD_129 rfl rfl rfl (fun h89 => ?_) (fun h89 => ?_)
      · skip
        refine y_loc (pc' := 118) xD_129 rfl rfl rfl rfl ?_
        refine y_loc (pc' := 120) xD_129 rfl rfl rfl rfl ?_
        refine y_op (pc' := 121) xD_129 rfl rfl rfl rfl ?_
        refine y_ifge (pt := 128) (pf := 124) xD_129 rfl rfl rfl (fun h121 => ?_) (fun h121 => ?_)
        · skip
          refine y_loc (pc' := 130) xD_129 rfl rfl rfl rfl ?_
          refine y_loc (pc' := 132) xD_129 rfl rfl rfl rfl ?_
          refine y_op (pc' := 133) xD_129 rfl rfl rfl rfl ?_
          refine y_cj (pc' := 134) (1) xD_129 rfl rfl rfl rfl ?_
          refine y_op (pc' := 135) xD_129 rfl rfl rfl rfl ?_
          refine y_loc (pc' := 137) xD_129 rfl rfl rfl rfl ?_
          first
          | exact st0 _ _ (Or.inl ⟨rfl, h77⟩) (qy1 h77 (lg_gt.mp (Int32.not_le.mp h97)))
          | exact st0 _ _ (Or.inl ⟨rfl, h77⟩) (qy2 h77 (fun q => absurd (lg_gt.mpr q) (Int32.not_lt.mpr h97)))
          | exact st0 _ _ (Or.inr ⟨rfl, h77⟩) (qyg h77 (Int64.not_lt.mpr ((lg_cmp_ge _ _).mp h121)))
          | exact st0 _ _ (Or.inr ⟨rfl, h77⟩) (qyl h77 (Int64.not_le.mp (fun q => h121 ((lg_cmp_ge _ _).mpr q))))
          | exact absurd h89 (by decide)
        · skip
          refine y_cj (pc' := 125) (0) xD_129 rfl rfl rfl rfl ?_
          refine y_goto (pc' := 135) xD_129 rfl rfl ?_
          refine y_loc (pc' := 137) xD_129 rfl rfl rfl rfl ?_
          first
          | exact st0 _ _ (Or.inl ⟨rfl, h77⟩) (qy1 h77 (lg_gt.mp (Int32.not_le.mp h97)))
          | exact st0 _ _ (Or.inl ⟨rfl, h77⟩) (qy2 h77 (fun q => absurd (lg_gt.mpr q) (Int32.not_lt.mpr h97)))
          | exact st0 _ _ (Or.inr ⟨rfl, h77⟩) (qyg h77 (Int64.not_lt.mpr ((lg_cmp_ge _ _).mp h121)))
          | exact st0 _ _ (Or.inr ⟨rfl, h77⟩) (qyl h77 (Int64.not_le.mp (fun q => h121 ((lg_cmp_ge _ _).mpr q))))
          | exact absurd h89 (by decide)
      · skip
        refine y_loc (pc' := 94) xD_129 rfl rfl rfl rfl ?_
        refine y_loc (pc' := 96) xD_129 rfl rfl rfl rfl ?_
        refine y_op (pc' := 97) xD_129 rfl rfl rfl rfl ?_
        refine y_ifle (pt := 108) (pf := 100) xD_129 rfl rfl rfl (fun h97 => ?_) (fun h97 => ?_)
        · skip
          refine y_loc (pc' := 110) xD_129 rfl rfl rfl rfl ?_
          refine y_loc (pc' := 112) xD_129 rfl rfl rfl rfl ?_
          refine y_op (pc' := 113) xD_129 rfl rfl rfl rfl ?_
          refine y_goto (pc' := 135) xD_129 rfl rfl ?_
          refine y_loc (pc' := 137) xD_129 rfl rfl rfl rfl ?_
          first
          | exact st0 _ _ (Or.inl ⟨rfl, h77⟩) (qy1 h77 (lg_gt.mp (Int32.not_le.mp h97)))
          | exact st0 _ _ (Or.inl ⟨rfl, h77⟩) (qy2 h77 (fun q => absurd (lg_gt.mpr q) (Int32.not_lt.mpr h97)))
          | exact st0 _ _ (Or.inr ⟨rfl, h77⟩) (qyg h77 (Int64.not_lt.mpr ((lg_cmp_ge _ _).mp h121)))
          | exact st0 _ _ (Or.inr ⟨rfl, h77⟩) (qyl h77 (Int64.not_le.mp (fun q => h121 ((lg_cmp_ge _ _).mpr q))))
          | exact absurd h89 (by decide)
        · skip
          refine y_loc (pc' := 102) xD_129 rfl rfl rfl rfl ?_
          refine y_loc (pc' := 104) xD_129 rfl rfl rfl rfl ?_
          refine y_op (pc' := 105) xD_129 rfl rfl rfl rfl ?_
          refine y_goto (pc' := 135) xD_129 rfl rfl ?_
          refine y_loc (pc' := 137) xD_129 rfl rfl rfl rfl ?_
          first
          | exact st0 _ _ (Or.inl ⟨rfl, h77⟩) (qy1 h77 (lg_gt.mp (Int32.not_le.mp h97)))
          | exact st0 _ _ (Or.inl ⟨rfl, h77⟩) (qy2 h77 (fun q => absurd (lg_gt.mpr q) (Int32.not_lt.mpr h97)))
          | exact st0 _ _ (Or.inr ⟨rfl, h77⟩) (qyg h77 (Int64.not_lt.mpr ((lg_cmp_ge _ _).mp h121)))
          | exact st0 _ _ (Or.inr ⟨rfl, h77⟩) (qyl h77 (Int64.not_le.mp (fun q => h121 ((lg_cmp_ge _ _).mpr q))))
          | exact absurd h89 (by decide)
    · skip
      refine y_ci (pc' := 81) (1) xD_129 rfl rfl rfl rfl ?_
      refine y_goto (pc' := 85) xD_129 rfl rfl ?_
      refine y_loc (pc' := 87) xD_129 rfl rfl rfl rfl ?_
      refine y_loc (pc' := 89) xD_129 rfl rfl rfl rfl ?_
      refine y_ifeq (pt := 116) (pf := 92) xD_129 rfl rfl rfl (fun h89 => ?_) (fun h89 => ?_)
      · skip
        refine y_loc (pc' := 118) xD_129 rfl rfl rfl rfl ?_
        refine y_loc (pc' := 120) xD_129 rfl rfl rfl rfl ?_
        refine y_op (pc' := 121) xD_129 rfl rfl rfl rfl ?_
        refine y_ifge (pt := 128) (pf := 124) xD_129 rfl rfl rfl (fun h121 => ?_) (fun h121 => ?_)
        · skip
          refine y_loc (pc' := 130) xD_129 rfl rfl rfl rfl ?_
          refine y_loc (pc' := 132) xD_129 rfl rfl rfl rfl ?_
          refine y_op (pc' := 133) xD_129 rfl rfl rfl rfl ?_
          refine y_cj (pc' := 134) (1) xD_129 rfl rfl rfl rfl ?_
          refine y_op (pc' := 135) xD_129 rfl rfl rfl rfl ?_
          refine y_loc (pc' := 137) xD_129 rfl rfl rfl rfl ?_
          first
          | exact st0 _ _ (Or.inl ⟨rfl, h77⟩) (qy1 h77 (lg_gt.mp (Int32.not_le.mp h97)))
          | exact st0 _ _ (Or.inl ⟨rfl, h77⟩) (qy2 h77 (fun q => absurd (lg_gt.mpr q) (Int32.not_lt.mpr h97)))
          | exact st0 _ _ (Or.inr ⟨rfl, h77⟩) (qyg h77 (Int64.not_lt.mpr ((lg_cmp_ge _ _).mp h121)))
          | exact st0 _ _ (Or.inr ⟨rfl, h77⟩) (qyl h77 (Int64.not_le.mp (fun q => h121 ((lg_cmp_ge _ _).mpr q))))
          | exact absurd h89 (by decide)
        · skip
          refine y_cj (pc' := 125) (0) xD_129 rfl rfl rfl rfl ?_
          refine y_goto (pc' := 135) xD_129 rfl rfl ?_
          refine y_loc (pc' := 137) xD_129 rfl rfl rfl rfl ?_
          first
          | exact st0 _ _ (Or.inl ⟨rfl, h77⟩) (qy1 h77 (lg_gt.mp (Int32.not_le.mp h97)))
          | exact st0 _ _ (Or.inl ⟨rfl, h77⟩) (qy2 h77 (fun q => absurd (lg_gt.mpr q) (Int32.not_lt.mpr h97)))
          | exact st0 _ _ (Or.inr ⟨rfl, h77⟩) (qyg h77 (Int64.not_lt.mpr ((lg_cmp_ge _ _).mp h121)))
          | exact st0 _ _ (Or.inr ⟨rfl, h77⟩) (qyl h77 (Int64.not_le.mp (fun q => h121 ((lg_cmp_ge _ _).mpr q))))
          | exact absurd h89 (by decide)
      · skip
        refine y_loc (pc' := 94) xD_129 rfl rfl rfl rfl ?_
        refine y_loc (pc' := 96) xD_129 rfl rfl rfl rfl ?_
        refine y_op (pc' := 97) xD_129 rfl rfl rfl rfl ?_
        refine y_ifle (pt := 108) (pf := 100) xD_129 rfl rfl rfl (fun h97 => ?_) (fun h97 => ?_)
        · skip
          refine y_loc (pc' := 110) xD_129 rfl rfl rfl rfl ?_
          refine y_loc (pc' := 112) xD_129 rfl rfl rfl rfl ?_
          refine y_op (pc' := 113) xD_129 rfl rfl rfl rfl ?_
          refine y_goto (pc' := 135) xD_129 rfl rfl ?_
          refine y_loc (pc' := 137) xD_129 rfl rfl rfl rfl ?_
          first
          | exact st0 _ _ (Or.inl ⟨rfl, h77⟩) (qy1 h77 (lg_gt.mp (Int32.not_le.mp h97)))
          | exact st0 _ _ (Or.inl ⟨rfl, h77⟩) (qy2 h77 (fun q => absurd (lg_gt.mpr q) (Int32.not_lt.mpr h97)))
          | exact st0 _ _ (Or.inr ⟨rfl, h77⟩) (qyg h77 (Int64.not_lt.mpr ((lg_cmp_ge _ _).mp h121)))
          | exact st0 _ _ (Or.inr ⟨rfl, h77⟩) (qyl h77 (Int64.not_le.mp (fun q => h121 ((lg_cmp_ge _ _).mpr q))))
          | exact absurd h89 (by decide)
        · skip
          refine y_loc (pc' := 102) xD_129 rfl rfl rfl rfl ?_
          refine y_loc (pc' := 104) xD_129 rfl rfl rfl rfl ?_
          refine y_op (pc' := 105) xD_129 rfl rfl rfl rfl ?_
          refine y_goto (pc' := 135) xD_129 rfl rfl ?_
          refine y_loc (pc' := 137) xD_129 rfl rfl rfl rfl ?_
          first
          | exact st0 _ _ (Or.inl ⟨rfl, h77⟩) (qy1 h77 (lg_gt.mp (Int32.not_le.mp h97)))
          | exact st0 _ _ (Or.inl ⟨rfl, h77⟩) (qy2 h77 (fun q => absurd (lg_gt.mpr q) (Int32.not_lt.mpr h97)))
          | exact st0 _ _ (Or.inr ⟨rfl, h77⟩) (qyg h77 (Int64.not_lt.mpr ((lg_cmp_ge _ _).mp h121)))
          | exact st0 _ _ (Or.inr ⟨rfl, h77⟩) (qyl h77 (Int64.not_le.mp (fun q => h121 ((lg_cmp_ge _ _).mpr q))))
          | exact absurd h89 (by decide)
  · skip
    exact absurd h46 (by rw [hnb]; exact fun q => absurd ((nI_eq (by omega) (by omega)).mp q) (by omega))
/-- note(m, p, a, b) -/
theorem s_note (hR : RF R) (hm : m < 2) (p : Nat) (hp : p < 10) (a b : Nat) (ha : a < 8) (hb : b < 8) {nb : Nat} (hnb : I 261 10 = nI nb) (hnb2 : nb ≤ 12) {xm xp xa xb : Int32} (e1 : xm = nI m) (e2 : xp = nI p) (e3 : xa = nI a) (e4 : xb = nI b) :
    XP S (d + 1) 129 0 (xent [.ref 261, .int xm, .int xp, .int xa, .int xb] 15) [] (hh I J R) (rV (hh I (xrow J 273 (q_u UM (bnM I m nb p) (q_no (decide (cdM I m p 0 = 5)) (I 271 a).toInt64 (I 271 b).toInt64) (q_yes (decide (cdM I m p 0 = 5)) (I 271 a).toInt64 (I 271 b).toInt64) (J 273))) R)) := by
  have loop : ∀ (f k : Nat), k + f = nb → XP S (d + 1) 129 3 [some (.ref 261), some (.int xm), some (.int xp), some (.int xa), some (.int xb), some (.int (nI k)), none, none, none, none, none, none, none, none, none] [] (hh I J R) (rV (hh I (xrow J 273 (q_u UM (q_find I m p f k) (q_no (decide (cdM I m p 0 = 5)) (I 271 a).toInt64 (I 271 b).toInt64) (q_yes (decide (cdM I m p 0 = 5)) (I 271 a).toInt64 (I 271 b).toInt64) (J 273))) R)) := by
    intro f
    induction f with
    | zero =>
      intro k hk
      have hk2 : I 261 10 ≤ nI k := by rw [hnb]; exact nI_le (by omega) (by omega)
      refine y_loc (pc' := 5) xD_129 rfl rfl rfl rfl ?_
      refine y_loc (pc' := 6) xD_129 rfl rfl rfl rfl ?_
      refine m_get (pc' := 9) xD_129 rfl rfl (by first | rfl | assumption) rfl rfl ?_
      refine y_icge (pt := 40) (pf := 12) xD_129 rfl rfl rfl (fun h9 => ?_) (fun h9 => ?_)
      · skip
        refine y_loc (pc' := 42) xD_129 rfl rfl rfl rfl ?_
        refine y_loc (pc' := 43) xD_129 rfl rfl rfl rfl ?_
        refine m_get (pc' := 46) xD_129 rfl rfl (by first | rfl | assumption) rfl rfl ?_
        refine y_icne (pt := 50) (pf := 49) xD_129 rfl rfl rfl (fun h46 => ?_) (fun h46 => ?_)
        · skip
          exact absurd (show nI k = I 261 10 by rw [hnb, show k = nb by omega]) h46
        · skip
          refine y_retV xD_129 rfl rfl ?_
          exact ⟨rfl, by rw [show q_find I m p 0 k = none from rfl]; show hh I J R = hh I (xrow J 273 (J 273)) R; rw [xrow_id]⟩
      · exact absurd hk2 h9
    | succ f ih =>
      intro k hk
      have hk2 : ¬ I 261 10 ≤ nI k := by rw [hnb]; exact nI_ge (by omega) (by omega)
      have e5 : nI k + 1 = nI (k + 1) := nI_1 k
      have found : I 267 k = nI m → I 268 k = nI p → q_find I m p (f + 1) k = some k := fun q1 q2 => by simp only [q_find, if_pos (And.intro q1 q2)]
      have nfound : ¬ (I 267 k = nI m ∧ I 268 k = nI p) → q_find I m p (f + 1) k = q_find I m p f (k + 1) := fun q => by simp only [q_find, if_neg q]
      refine y_loc (pc' := 5) xD_129 rfl rfl rfl rfl ?_
      refine y_loc (pc' := 6) xD_129 rfl rfl rfl rfl ?_
      refine m_get (pc' := 9) xD_129 rfl rfl (by first | rfl | assumption) rfl rfl ?_
      refine y_icge (pt := 40) (pf := 12) xD_129 rfl rfl rfl (fun h9 => ?_) (fun h9 => ?_)
      · skip
        first
        | exact absurd h9 hk2
        | (rw [found (h20.trans e1) (h31.trans e2)]; exact s_note_body hR hm p hp a b k ha hb (by omega) hnb hnb2 (by omega) e1 e2 e3 e4)
      · skip
        refine y_loc (pc' := 13) xD_129 rfl rfl rfl rfl ?_
        first | refine m_getR (pc' := 16) xD_129 rfl rfl rfl rfl (hR.1 _ _ _ rfl) rfl ?_ | refine m_getR (pc' := 16) xD_129 rfl rfl (by first | rfl | assumption) rfl (by assumption) rfl ?_
        refine y_loc (pc' := 18) xD_129 rfl rfl rfl rfl ?_
        refine m_iald (pc' := 19) (k) xD_129 rfl (by first | rfl | assumption) (by first | assumption | omega) (by decide) (by first | decide | omega) (by first | rfl | assumption) rfl ?_
        refine y_loc (pc' := 20) xD_129 rfl rfl rfl rfl ?_
        refine y_icne (pt := 34) (pf := 23) xD_129 rfl rfl rfl (fun h20 => ?_) (fun h20 => ?_)
        · skip
          refine y_inc (pc' := 37) (nI (k + 1)) xD_129 rfl rfl rfl e5 rfl rfl ?_
          refine y_goto (pc' := 3) xD_129 rfl rfl ?_
          first | (rw [nfound (fun q => h20 (q.1.trans e1.symm))]; exact ih (k + 1) (by omega)) | (rw [nfound (fun q => h31 (q.2.trans e2.symm))]; exact ih (k + 1) (by omega))
        · skip
          refine y_loc (pc' := 24) xD_129 rfl rfl rfl rfl ?_
          first | refine m_getR (pc' := 27) xD_129 rfl rfl rfl rfl (hR.1 _ _ _ rfl) rfl ?_ | refine m_getR (pc' := 27) xD_129 rfl rfl (by first | rfl | assumption) rfl (by assumption) rfl ?_
          refine y_loc (pc' := 29) xD_129 rfl rfl rfl rfl ?_
          refine m_iald (pc' := 30) (k) xD_129 rfl (by first | rfl | assumption) (by first | assumption | omega) (by decide) (by first | decide | omega) (by first | rfl | assumption) rfl ?_
          refine y_loc (pc' := 31) xD_129 rfl rfl rfl rfl ?_
          refine y_iceq (pt := 40) (pf := 34) xD_129 rfl rfl rfl (fun h31 => ?_) (fun h31 => ?_)
          · skip
            first
            | exact absurd h9 hk2
            | (rw [found (h20.trans e1) (h31.trans e2)]; exact s_note_body hR hm p hp a b k ha hb (by omega) hnb hnb2 (by omega) e1 e2 e3 e4)
          · skip
            refine y_inc (pc' := 37) (nI (k + 1)) xD_129 rfl rfl rfl e5 rfl rfl ?_
            refine y_goto (pc' := 3) xD_129 rfl rfl ?_
            first | (rw [nfound (fun q => h20 (q.1.trans e1.symm))]; exact ih (k + 1) (by omega)) | (rw [nfound (fun q => h31 (q.2.trans e2.symm))]; exact ih (k + 1) (by omega))
  refine y_ci (pc' := 1) (0) xD_129 rfl rfl rfl rfl ?_
  refine y_loc (pc' := 3) xD_129 rfl rfl rfl rfl ?_
  exact loop nb 0 (by omega)
/-- go(m, p): a line -/
theorem s_go (hR : RF R) (hm : m < 2) {n : Nat} (hn : I 265 m = nI n) (hn2 : n ≤ 10) (p : Nat) (hp : p < n) (hV : VL (cdM I m) p) {nb : Nat} (hnb : I 261 10 = nI nb) (hnb2 : nb ≤ 12) (hdiv : ¬ (cdM I m p 0 = 4 ∧ I 271 (cdM I m p 3).toNatClampNeg = 0)) {xm xp : Int32} (e1 : xm = nI m) (e2 : xp = nI p) :
    XP S (d + 3) 128 0 (xent [.ref 261, .int xm, .int xp] 9) [] (hh I J R) (rI (nI (q_line UM (cdM I m) (bnM I m nb) n p (I 271) (J 273)).1) (hh (xrow I 271 (q_line UM (cdM I m) (bnM I m nb) n p (I 271) (J 273)).2.1) (xrow J 273 (q_line UM (cdM I m) (bnM I m nb) n p (I 271) (J 273)).2.2) R)) := by
  have hV0 := hV
  obtain ⟨⟨t, ht, hop⟩, hV3, hVa, hVb, hVc⟩ := hV
  obtain ⟨n5, n6, n0, n4, n66, -⟩ := nI_5 ht
  have hp10 : p < 10 := Nat.lt_of_lt_of_le hp hn2
  have tail : ∀ (I' : Nat → Nat → Int32) (q3 q4 q5 q6 q7 q8 : Option Value), (∀ y, y ≠ 271 → I' y = I y) → ¬ t = 5 → ¬ t = 6 → XP S (d + 3) 128 215 [some (.ref 261), some (.int xm), some (.int xp), q3, q4, q5, q6, q7, q8] [] (hh I' J R) (rI (nI (q_lead (cdM I m) n p false)) (hh I' J R)) := by
    intro I' q3 q4 q5 q6 q7 q8 hI h5 h6
    have hcd : cdM I' m = cdM I m := by
      funext x y
      unfold cdM
      rw [hI 264 (by decide)]
    refine y_loc (pc' := 216) xD_128 rfl rfl rfl rfl ?_
    refine y_loc (pc' := 217) xD_128 rfl rfl rfl rfl ?_
    refine y_loc (pc' := 218) xD_128 rfl rfl rfl rfl ?_
    refine y_ci (pc' := 219) (0) xD_128 rfl rfl rfl rfl ?_
    refine y_callV xD_128 rfl rfl rfl rfl (by first | rfl | assumption) rfl rfl rfl rfl (s_lead hR hm (by rw [hI 265 (by decide)]; exact hn) hn2 p hp (by rw [hcd]; exact hV0) e1 e2) (fun v h' hq => ?_)
    obtain ⟨rfl, rfl⟩ := hq
    refine y_retI xD_128 rfl rfl ?_
    exact rI_e (by rw [hcd]; rfl)
  have hia : (cdM I m p 0 ≤ 6 ∨ cdM I m p 0 = 8) → ∃ a, a < 8 ∧ cdM I m p 1 = nI a ∧ (cdM I m p 1).toNatClampNeg = a := fun q => by
    obtain ⟨a, ha, ea⟩ := hVa q
    exact ⟨a, ha, ea, by rw [ea, nI_cl (by omega)]⟩
  rcases (show t = 0 ∨ (1 ≤ t ∧ t ≤ 4) ∨ (t = 5 ∨ t = 6) ∨ 7 ≤ t by omega) with h0 | h14 | h56 | h7
  · obtain ⟨a, ha, ea, ca⟩ := hia (Or.inl (by rw [hop, n66]; omega))
    have hq : q_line UM (cdM I m) (bnM I m nb) n p (I 271) (J 273) = (q_lead (cdM I m) n p false, upd (I 271) a (cdM I m p 3), J 273) := by
      unfold q_line
      rw [if_pos (by rw [hop, n0]; exact h0), ca]
    rw [hq, xrow_id]
    refine y_loc (pc' := 1) xD_128 rfl rfl rfl rfl ?_
    refine y_loc (pc' := 2) xD_128 rfl rfl rfl rfl ?_
    refine y_loc (pc' := 3) xD_128 rfl rfl rfl rfl ?_
    refine y_ci (pc' := 4) (0) xD_128 rfl rfl rfl rfl ?_
    refine y_callV xD_128 rfl rfl rfl rfl (by first | rfl | assumption) rfl rfl rfl rfl (s_code hR hm p 0 hp10 (by decide) e1 e2 rfl) (fun v h' hq => ?_)
    obtain ⟨rfl, rfl⟩ := hq
    refine y_loc (pc' := 8) xD_128 rfl rfl rfl rfl ?_
    refine y_loc (pc' := 9) xD_128 rfl rfl rfl rfl ?_
    refine y_loc (pc' := 10) xD_128 rfl rfl rfl rfl ?_
    refine y_loc (pc' := 11) xD_128 rfl rfl rfl rfl ?_
    refine y_ci (pc' := 12) (1) xD_128 rfl rfl rfl rfl ?_
    refine y_callV xD_128 rfl rfl rfl rfl (by first | rfl | assumption) rfl rfl rfl rfl (s_code hR hm p 1 hp10 (by decide) e1 e2 rfl) (fun v h' hq => ?_)
    obtain ⟨rfl, rfl⟩ := hq
    refine y_loc (pc' := 17) xD_128 rfl rfl rfl rfl ?_
    refine y_loc (pc' := 18) xD_128 rfl rfl rfl rfl ?_
    refine y_loc (pc' := 19) xD_128 rfl rfl rfl rfl ?_
    refine y_loc (pc' := 20) xD_128 rfl rfl rfl rfl ?_
    refine y_ci (pc' := 21) (2) xD_128 rfl rfl rfl rfl ?_
    refine y_callV xD_128 rfl rfl rfl rfl (by first | rfl | assumption) rfl rfl rfl rfl (s_code hR hm p 2 hp10 (by decide) e1 e2 rfl) (fun v h' hq => ?_)
    obtain ⟨rfl, rfl⟩ := hq
    refine y_loc (pc' := 26) xD_128 rfl rfl rfl rfl ?_
    refine y_loc (pc' := 27) xD_128 rfl rfl rfl rfl ?_
    refine y_loc (pc' := 28) xD_128 rfl rfl rfl rfl ?_
    refine y_loc (pc' := 29) xD_128 rfl rfl rfl rfl ?_
    refine y_ci (pc' := 30) (3) xD_128 rfl rfl rfl rfl ?_
    refine y_callV xD_128 rfl rfl rfl rfl (by first | rfl | assumption) rfl rfl rfl rfl (s_code hR hm p 3 hp10 (by decide) e1 e2 rfl) (fun v h' hq => ?_)
    obtain ⟨rfl, rfl⟩ := hq
    refine y_loc (pc' := 35) xD_128 rfl rfl rfl rfl ?_
    refine y_loc (pc' := 36) xD_128 rfl rfl rfl rfl ?_
    refine y_ifne (pt := 51) (pf := 39) xD_128 rfl rfl rfl (fun h36 => ?_) (fun h36 => ?_)
    · skip
      exact absurd (show cdM I m p 0 = 0 by rw [hop, n0]; exact h0) h36
    · skip
      refine y_loc (pc' := 40) xD_128 rfl rfl rfl rfl ?_
      first | refine m_getR (pc' := 43) xD_128 rfl rfl rfl rfl (hR.1 _ _ _ rfl) rfl ?_ | refine m_getR (pc' := 43) xD_128 rfl rfl (by first | rfl | assumption) rfl (by assumption) rfl ?_
      refine y_loc (pc' := 45) xD_128 rfl rfl rfl rfl ?_
      refine y_loc (pc' := 47) xD_128 rfl rfl rfl rfl ?_
      refine m_iast (pc' := 48) (a) xD_128 rfl (by first | rfl | assumption) (by first | assumption | omega) (by decide) (by first | rfl | assumption) rfl ?_
      rw [xu_rowI]
      refine y_goto (pc' := 215) xD_128 rfl rfl ?_
      exact tail _ _ _ _ _ _ _ (fun y hy => xrow_ne hy) (by omega) (by omega)
  · obtain ⟨a, ha, ea, ca⟩ := hia (Or.inl (by rw [hop, n66]; omega))
    have h1 : 1 ≤ cdM I m p 0 := by rw [hop]; exact (nI_leI (a := 1) (by omega) (by omega)).mpr h14.1
    obtain ⟨b, hb, eb⟩ := hVb ⟨h1, by rw [hop, n66]; omega⟩
    obtain ⟨c, hc, ec⟩ := hVc ⟨h1, by rw [hop, n4]; omega⟩
    have hq : q_line UM (cdM I m) (bnM I m nb) n p (I 271) (J 273) = (q_lead (cdM I m) n p false, upd (I 271) a (q_calc (cdM I m p 0) (I 271 b) (I 271 c)), J 273) := by
      unfold q_line
      rw [if_neg (by rw [hop, n0]; omega), if_pos (by rw [hop, n4]; omega), ca, eb, ec, nI_cl (by omega), nI_cl (by omega)]
    rw [hq, xrow_id]
    have hdz : cdM I m p 0 = 4 → ¬ I 271 c = 0 := fun q r => hdiv ⟨q, by rw [ec, nI_cl (by omega)]; exact r⟩
    have hop4 : ¬ cdM I m p 0 = 1 → ¬ cdM I m p 0 = 2 → ¬ cdM I m p 0 = 3 → cdM I m p 0 = 4 := by
      intro q1 q2 q3
      rw [hop] at q1 q2 q3 ⊢
      rcases (show t = 1 ∨ t = 2 ∨ t = 3 ∨ t = 4 by omega) with rfl | rfl | rfl | rfl
      · exact absurd rfl q1
      · exact absurd rfl q2
      · exact absurd rfl q3
      · rfl
    refine y_loc (pc' := 1) xD_128 rfl rfl rfl rfl ?_
    refine y_loc (pc' := 2) xD_128 rfl rfl rfl rfl ?_
    refine y_loc (pc' := 3) xD_128 rfl rfl rfl rfl ?_
    refine y_ci (pc' := 4) (0) xD_128 rfl rfl rfl rfl ?_
    refine y_callV xD_128 rfl rfl rfl rfl (by first | rfl | assumption) rfl rfl rfl rfl (s_code hR hm p 0 hp10 (by decide) e1 e2 rfl) (fun v h' hq => ?_)
    obtain ⟨rfl, rfl⟩ := hq
    refine y_loc (pc' := 8) xD_128 rfl rfl rfl rfl ?_
    refine y_loc (pc' := 9) xD_128 rfl rfl rfl rfl ?_
    refine y_loc (pc' := 10) xD_128 rfl rfl rfl rfl ?_
    refine y_loc (pc' := 11) xD_128 rfl rfl rfl rfl ?_
    refine y_ci (pc' := 12) (1) xD_128 rfl rfl rfl rfl ?_
    refine y_callV xD_128 rfl rfl rfl rfl (by first | rfl | assumption) rfl rfl rfl rfl (s_code hR hm p 1 hp10 (by decide) e1 e2 rfl) (fun v h' hq => ?_)
    obtain ⟨rfl, rfl⟩ := hq
    refine y_loc (pc' := 17) xD_128 rfl rfl rfl rfl ?_
    refine y_loc (pc' := 18) xD_128 rfl rfl rfl rfl ?_
    refine y_loc (pc' := 19) xD_128 rfl rfl rfl rfl ?_
    refine y_loc (pc' := 20) xD_128 rfl rfl rfl rfl ?_
    refine y_ci (pc' := 21) (2) xD_128 rfl rfl rfl rfl ?_
    refine y_callV xD_128 rfl rfl rfl rfl (by first | rfl | assumption) rfl rfl rfl rfl (s_code hR hm p 2 hp10 (by decide) e1 e2 rfl) (fun v h' hq => ?_)
    obtain ⟨rfl, rfl⟩ := hq
    refine y_loc (pc' := 26) xD_128 rfl rfl rfl rfl ?_
    refine y_loc (pc' := 27) xD_128 rfl rfl rfl rfl ?_
    refine y_loc (pc' := 28) xD_128 rfl rfl rfl rfl ?_
    refine y_loc (pc' := 29) xD_128 rfl rfl rfl rfl ?_
    refine y_ci (pc' := 30) (3) xD_128 rfl rfl rfl rfl ?_
    refine y_callV xD_128 rfl rfl rfl rfl (by first | rfl | assumption) rfl rfl rfl rfl (s_code hR hm p 3 hp10 (by decide) e1 e2 rfl) (fun v h' hq => ?_)
    obtain ⟨rfl, rfl⟩ := hq
    refine y_loc (pc' := 35) xD_128 rfl rfl rfl rfl ?_
    refine y_loc (pc' := 36) xD_128 rfl rfl rfl rfl ?_
    refine y_ifne (pt := 51) (pf := 39) xD_128 rfl rfl rfl (fun h36 => ?_) (fun h36 => ?_)
    · skip
      refine y_loc (pc' := 52) xD_128 rfl rfl rfl rfl ?_
      refine y_ci (pc' := 53) (4) xD_128 rfl rfl rfl rfl ?_
      refine y_icgt (pt := 128) (pf := 56) xD_128 rfl rfl rfl (fun h53 => ?_) (fun h53 => ?_)
      · skip
        exact absurd h53 (Int32.not_lt.mpr (by rw [hop]; exact n4.mpr h14.2))
      · skip
        refine y_loc (pc' := 57) xD_128 rfl rfl rfl rfl ?_
        first | refine m_getR (pc' := 60) xD_128 rfl rfl rfl rfl (hR.1 _ _ _ rfl) rfl ?_ | refine m_getR (pc' := 60) xD_128 rfl rfl (by first | rfl | assumption) rfl (by assumption) rfl ?_
        refine y_loc (pc' := 62) xD_128 rfl rfl rfl rfl ?_
        refine m_iald (pc' := 63) (b) xD_128 rfl (by first | rfl | assumption) (by first | assumption | omega) (by decide) (by first | decide | omega) (by first | rfl | assumption) rfl ?_
        refine y_loc (pc' := 65) xD_128 rfl rfl rfl rfl ?_
        refine y_loc (pc' := 66) xD_128 rfl rfl rfl rfl ?_
        first | refine m_getR (pc' := 69) xD_128 rfl rfl rfl rfl (hR.1 _ _ _ rfl) rfl ?_ | refine m_getR (pc' := 69) xD_128 rfl rfl (by first | rfl | assumption) rfl (by assumption) rfl ?_
        refine y_loc (pc' := 71) xD_128 rfl rfl rfl rfl ?_
        refine m_iald (pc' := 72) (c) xD_128 rfl (by first | rfl | assumption) (by first | assumption | omega) (by decide) (by first | decide | omega) (by first | rfl | assumption) rfl ?_
        refine y_loc (pc' := 74) xD_128 rfl rfl rfl rfl ?_
        refine y_loc (pc' := 75) xD_128 rfl rfl rfl rfl ?_
        first | refine m_getR (pc' := 78) xD_128 rfl rfl rfl rfl (hR.1 _ _ _ rfl) rfl ?_ | refine m_getR (pc' := 78) xD_128 rfl rfl (by first | rfl | assumption) rfl (by assumption) rfl ?_
        refine y_loc (pc' := 80) xD_128 rfl rfl rfl rfl ?_
        refine y_loc (pc' := 81) xD_128 rfl rfl rfl rfl ?_
        refine y_ci (pc' := 82) (1) xD_128 rfl rfl rfl rfl ?_
        refine y_icne (pt := 93) (pf := 85) xD_128 rfl rfl rfl (fun h82 => ?_) (fun h82 => ?_)
        · skip
          refine y_loc (pc' := 94) xD_128 rfl rfl rfl rfl ?_
          refine y_ci (pc' := 95) (2) xD_128 rfl rfl rfl rfl ?_
          refine y_icne (pt := 106) (pf := 98) xD_128 rfl rfl rfl (fun h95 => ?_) (fun h95 => ?_)
          · skip
            refine y_loc (pc' := 107) xD_128 rfl rfl rfl rfl ?_
            refine y_ci (pc' := 108) (3) xD_128 rfl rfl rfl rfl ?_
            refine y_icne (pt := 119) (pf := 111) xD_128 rfl rfl rfl (fun h108 => ?_) (fun h108 => ?_)
            · skip
              refine y_loc (pc' := 121) xD_128 rfl rfl rfl rfl ?_
              refine y_loc (pc' := 123) xD_128 rfl rfl rfl rfl ?_
              refine y_op (pc' := 124) xD_128 rfl rfl (show (if I 271 c = 0 then none else some _) = some _ from if_neg (hdz (hop4 h82 h95 h108))) rfl ?_
              refine m_iast (pc' := 125) (a) xD_128 rfl (by first | rfl | assumption) (by first | assumption | omega) (by decide) (by first | rfl | assumption) rfl ?_
              rw [xu_rowI]
              refine y_goto (pc' := 215) xD_128 rfl rfl ?_
              first
              | (rw [show q_calc (cdM I m p 0) (I 271 b) (I 271 c) = I 271 b + I 271 c by unfold q_calc; rw [if_pos h82]]; exact tail _ _ _ _ _ _ _ (fun y hy => xrow_ne hy) (by omega) (by omega))
              | (rw [show q_calc (cdM I m p 0) (I 271 b) (I 271 c) = I 271 b - I 271 c by unfold q_calc; rw [if_neg h82, if_pos h95]]; exact tail _ _ _ _ _ _ _ (fun y hy => xrow_ne hy) (by omega) (by omega))
              | (rw [show q_calc (cdM I m p 0) (I 271 b) (I 271 c) = I 271 b * I 271 c by unfold q_calc; rw [if_neg h82, if_neg h95, if_pos h108]]; exact tail _ _ _ _ _ _ _ (fun y hy => xrow_ne hy) (by omega) (by omega))
              | (rw [show q_calc (cdM I m p 0) (I 271 b) (I 271 c) = I 271 b / I 271 c by unfold q_calc; rw [if_neg h82, if_neg h95, if_neg h108, if_neg (hdz (hop4 h82 h95 h108))]]; exact tail _ _ _ _ _ _ _ (fun y hy => xrow_ne hy) (by omega) (by omega))
            · skip
              refine y_loc (pc' := 113) xD_128 rfl rfl rfl rfl ?_
              refine y_loc (pc' := 115) xD_128 rfl rfl rfl rfl ?_
              refine y_op (pc' := 116) xD_128 rfl rfl rfl rfl ?_
              refine y_goto (pc' := 124) xD_128 rfl rfl ?_
              refine m_iast (pc' := 125) (a) xD_128 rfl (by first | rfl | assumption) (by first | assumption | omega) (by decide) (by first | rfl | assumption) rfl ?_
              rw [xu_rowI]
              refine y_goto (pc' := 215) xD_128 rfl rfl ?_
              first
              | (rw [show q_calc (cdM I m p 0) (I 271 b) (I 271 c) = I 271 b + I 271 c by unfold q_calc; rw [if_pos h82]]; exact tail _ _ _ _ _ _ _ (fun y hy => xrow_ne hy) (by omega) (by omega))
              | (rw [show q_calc (cdM I m p 0) (I 271 b) (I 271 c) = I 271 b - I 271 c by unfold q_calc; rw [if_neg h82, if_pos h95]]; exact tail _ _ _ _ _ _ _ (fun y hy => xrow_ne hy) (by omega) (by omega))
              | (rw [show q_calc (cdM I m p 0) (I 271 b) (I 271 c) = I 271 b * I 271 c by unfold q_calc; rw [if_neg h82, if_neg h95, if_pos h108]]; exact tail _ _ _ _ _ _ _ (fun y hy => xrow_ne hy) (by omega) (by omega))
              | (rw [show q_calc (cdM I m p 0) (I 271 b) (I 271 c) = I 271 b / I 271 c by unfold q_calc; rw [if_neg h82, if_neg h95, if_neg h108, if_neg (hdz (hop4 h82 h95 h108))]]; exact tail _ _ _ _ _ _ _ (fun y hy => xrow_ne hy) (by omega) (by omega))
          · skip
            refine y_loc (pc' := 100) xD_128 rfl rfl rfl rfl ?_
            refine y_loc (pc' := 102) xD_128 rfl rfl rfl rfl ?_
            refine y_op (pc' := 103) xD_128 rfl rfl rfl rfl ?_
            refine y_goto (pc' := 124) xD_128 rfl rfl ?_
            refine m_iast (pc' := 125) (a) xD_128 rfl (by first | rfl | assumption) (by first | assumption | omega) (by decide) (by first | rfl | assumption) rfl ?_
            rw [xu_rowI]
            refine y_goto (pc' := 215) xD_128 rfl rfl ?_
            first
            | (rw [show q_calc (cdM I m p 0) (I 271 b) (I 271 c) = I 271 b + I 271 c by unfold q_calc; rw [if_pos h82]]; exact tail _ _ _ _ _ _ _ (fun y hy => xrow_ne hy) (by omega) (by omega))
            | (rw [show q_calc (cdM I m p 0) (I 271 b) (I 271 c) = I 271 b - I 271 c by unfold q_calc; rw [if_neg h82, if_pos h95]]; exact tail _ _ _ _ _ _ _ (fun y hy => xrow_ne hy) (by omega) (by omega))
            | (rw [show q_calc (cdM I m p 0) (I 271 b) (I 271 c) = I 271 b * I 271 c by unfold q_calc; rw [if_neg h82, if_neg h95, if_pos h108]]; exact tail _ _ _ _ _ _ _ (fun y hy => xrow_ne hy) (by omega) (by omega))
            | (rw [show q_calc (cdM I m p 0) (I 271 b) (I 271 c) = I 271 b / I 271 c by unfold q_calc; rw [if_neg h82, if_neg h95, if_neg h108, if_neg (hdz (hop4 h82 h95 h108))]]; exact tail _ _ _ _ _ _ _ (fun y hy => xrow_ne hy) (by omega) (by omega))
        · skip
          refine y_loc (pc' := 87) xD_128 rfl rfl rfl rfl ?_
          refine y_loc (pc' := 89) xD_128 rfl rfl rfl rfl ?_
          refine y_op (pc' := 90) xD_128 rfl rfl rfl rfl ?_
          refine y_goto (pc' := 124) xD_128 rfl rfl ?_
          refine m_iast (pc' := 125) (a) xD_128 rfl (by first | rfl | assumption) (by first | assumption | omega) (by decide) (by first | rfl | assumption) rfl ?_
          rw [xu_rowI]
          refine y_goto (pc' := 215) xD_128 rfl rfl ?_
          first
          | (rw [show q_calc (cdM I m p 0) (I 271 b) (I 271 c) = I 271 b + I 271 c by unfold q_calc; rw [if_pos h82]]; exact tail _ _ _ _ _ _ _ (fun y hy => xrow_ne hy) (by omega) (by omega))
          | (rw [show q_calc (cdM I m p 0) (I 271 b) (I 271 c) = I 271 b - I 271 c by unfold q_calc; rw [if_neg h82, if_pos h95]]; exact tail _ _ _ _ _ _ _ (fun y hy => xrow_ne hy) (by omega) (by omega))
          | (rw [show q_calc (cdM I m p 0) (I 271 b) (I 271 c) = I 271 b * I 271 c by unfold q_calc; rw [if_neg h82, if_neg h95, if_pos h108]]; exact tail _ _ _ _ _ _ _ (fun y hy => xrow_ne hy) (by omega) (by omega))
          | (rw [show q_calc (cdM I m p 0) (I 271 b) (I 271 c) = I 271 b / I 271 c by unfold q_calc; rw [if_neg h82, if_neg h95, if_neg h108, if_neg (hdz (hop4 h82 h95 h108))]]; exact tail _ _ _ _ _ _ _ (fun y hy => xrow_ne hy) (by omega) (by omega))
    · skip
      exact absurd (show t = 0 from n0.mp (by rw [← hop]; exact h36)) (by omega)
  · obtain ⟨a, ha, ea, ca⟩ := hia (Or.inl (by rw [hop, n66]; omega))
    have h1 : 1 ≤ cdM I m p 0 := by rw [hop]; exact (nI_leI (a := 1) (by omega) (by omega)).mpr (by omega)
    obtain ⟨b, hb, eb⟩ := hVb ⟨h1, by rw [hop, n66]; omega⟩
    have hq : q_line UM (cdM I m) (bnM I m nb) n p (I 271) (J 273) = (q_lead (cdM I m) n p (decide (q_yes (decide (cdM I m p 0 = 5)) (I 271 a).toInt64 (I 271 b).toInt64 = 0)), I 271, q_u UM (bnM I m nb p) (q_no (decide (cdM I m p 0 = 5)) (I 271 a).toInt64 (I 271 b).toInt64) (q_yes (decide (cdM I m p 0 = 5)) (I 271 a).toInt64 (I 271 b).toInt64) (J 273)) := by
      unfold q_line
      rw [if_neg (by rw [hop, n0]; omega), if_neg (by rw [hop, n4]; omega), if_pos (by rw [hop, n66]; omega), ca, eb, nI_cl (by omega)]
    rw [hq, xrow_id]
    have fin : ∀ (J' : Nat → Nat → Int64) (z : Int32) (q3 q4 q5 q6 q8 : Option Value), decide (z = 1) = decide (q_yes (decide (cdM I m p 0 = 5)) (I 271 a).toInt64 (I 271 b).toInt64 = 0) → (z = 0 ∨ z = 1) → XP S (d + 3) 128 198 [some (.ref 261), some (.int xm), some (.int xp), q3, q4, q5, q6, some (.int z), q8] [] (hh I J' R) (rI (nI (q_lead (cdM I m) n p (decide (q_yes (decide (cdM I m p 0 = 5)) (I 271 a).toInt64 (I 271 b).toInt64 = 0)))) (hh I J' R)) := by
      intro J' z q3 q4 q5 q6 q8 hz hz2
      rw [← hz]
      refine y_loc (pc' := 199) xD_128 rfl rfl rfl rfl ?_
      refine y_loc (pc' := 200) xD_128 rfl rfl rfl rfl ?_
      refine y_loc (pc' := 201) xD_128 rfl rfl rfl rfl ?_
      refine y_loc (pc' := 203) xD_128 rfl rfl rfl rfl ?_
      refine y_ifeq (pt := 210) (pf := 206) xD_128 rfl rfl rfl (fun h203 => ?_) (fun h203 => ?_)
      · skip
        refine y_ci (pc' := 211) (0) xD_128 rfl rfl rfl rfl ?_
        refine y_callV xD_128 rfl rfl rfl rfl (by first | rfl | assumption) rfl rfl rfl rfl (s_lead hR hm hn hn2 p hp hV0 e1 e2) (fun v h' hq => ?_)
        obtain ⟨rfl, rfl⟩ := hq
        refine y_retI xD_128 rfl rfl ?_
        first | (rw [show decide (z = 1) = decide ((0 : Int32) = 1) by rw [h203]]; exact rI_e rfl) | (rw [show decide (z = 1) = decide ((1 : Int32) = 1) by rw [hz2.resolve_left h203]]; exact rI_e rfl)
      · skip
        refine y_ci (pc' := 207) (1) xD_128 rfl rfl rfl rfl ?_
        refine y_goto (pc' := 211) xD_128 rfl rfl ?_
        refine y_callV xD_128 rfl rfl rfl rfl (by first | rfl | assumption) rfl rfl rfl rfl (s_lead hR hm hn hn2 p hp hV0 e1 e2) (fun v h' hq => ?_)
        obtain ⟨rfl, rfl⟩ := hq
        refine y_retI xD_128 rfl rfl ?_
        first | (rw [show decide (z = 1) = decide ((0 : Int32) = 1) by rw [h203]]; exact rI_e rfl) | (rw [show decide (z = 1) = decide ((1 : Int32) = 1) by rw [hz2.resolve_left h203]]; exact rI_e rfl)
    refine y_loc (pc' := 1) xD_128 rfl rfl rfl rfl ?_
    refine y_loc (pc' := 2) xD_128 rfl rfl rfl rfl ?_
    refine y_loc (pc' := 3) xD_128 rfl rfl rfl rfl ?_
    refine y_ci (pc' := 4) (0) xD_128 rfl rfl rfl rfl ?_
    refine y_callV xD_128 rfl rfl rfl rfl (by first | rfl | assumption) rfl rfl rfl rfl (s_code hR hm p 0 hp10 (by decide) e1 e2 rfl) (fun v h' hq => ?_)
    obtain ⟨rfl, rfl⟩ := hq
    refine y_loc (pc' := 8) xD_128 rfl rfl rfl rfl ?_
    refine y_loc (pc' := 9) xD_128 rfl rfl rfl rfl ?_
    refine y_loc (pc' := 10) xD_128 rfl rfl rfl rfl ?_
    refine y_loc (pc' := 11) xD_128 rfl rfl rfl rfl ?_
    refine y_ci (pc' := 12) (1) xD_128 rfl rfl rfl rfl ?_
    refine y_callV xD_128 rfl rfl rfl rfl (by first | rfl | assumption) rfl rfl rfl rfl (s_code hR hm p 1 hp10 (by decide) e1 e2 rfl) (fun v h' hq => ?_)
    obtain ⟨rfl, rfl⟩ := hq
    refine y_loc (pc' := 17) xD_128 rfl rfl rfl rfl ?_
    refine y_loc (pc' := 18) xD_128 rfl rfl rfl rfl ?_
    refine y_loc (pc' := 19) xD_128 rfl rfl rfl rfl ?_
    refine y_loc (pc' := 20) xD_128 rfl rfl rfl rfl ?_
    refine y_ci (pc' := 21) (2) xD_128 rfl rfl rfl rfl ?_
    refine y_callV xD_128 rfl rfl rfl rfl (by first | rfl | assumption) rfl rfl rfl rfl (s_code hR hm p 2 hp10 (by decide) e1 e2 rfl) (fun v h' hq => ?_)
    obtain ⟨rfl, rfl⟩ := hq
    refine y_loc (pc' := 26) xD_128 rfl rfl rfl rfl ?_
    refine y_loc (pc' := 27) xD_128 rfl rfl rfl rfl ?_
    refine y_loc (pc' := 28) xD_128 rfl rfl rfl rfl ?_
    refine y_loc (pc' := 29) xD_128 rfl rfl rfl rfl ?_
    refine y_ci (pc' := 30) (3) xD_128 rfl rfl rfl rfl ?_
    refine y_callV xD_128 rfl rfl rfl rfl (by first | rfl | assumption) rfl rfl rfl rfl (s_code hR hm p 3 hp10 (by decide) e1 e2 rfl) (fun v h' hq => ?_)
    obtain ⟨rfl, rfl⟩ := hq
    refine y_loc (pc' := 35) xD_128 rfl rfl rfl rfl ?_
    refine y_loc (pc' := 36) xD_128 rfl rfl rfl rfl ?_
    refine y_ifne (pt := 51) (pf := 39) xD_128 rfl rfl rfl (fun h36 => ?_) (fun h36 => ?_)
    · skip
      refine y_loc (pc' := 52) xD_128 rfl rfl rfl rfl ?_
      refine y_ci (pc' := 53) (4) xD_128 rfl rfl rfl rfl ?_
      refine y_icgt (pt := 128) (pf := 56) xD_128 rfl rfl rfl (fun h53 => ?_) (fun h53 => ?_)
      · skip
        refine y_loc (pc' := 129) xD_128 rfl rfl rfl rfl ?_
        refine y_ci (pc' := 131) (6) xD_128 rfl rfl rfl rfl ?_
        refine y_icgt (pt := 215) (pf := 134) xD_128 rfl rfl rfl (fun h131 => ?_) (fun h131 => ?_)
        · skip
          exact absurd h131 (Int32.not_lt.mpr (by rw [hop]; exact n66.mpr (by omega)))
        · skip
          refine y_loc (pc' := 135) xD_128 rfl rfl rfl rfl ?_
          refine y_loc (pc' := 136) xD_128 rfl rfl rfl rfl ?_
          refine y_loc (pc' := 137) xD_128 rfl rfl rfl rfl ?_
          refine y_loc (pc' := 139) xD_128 rfl rfl rfl rfl ?_
          refine y_loc (pc' := 141) xD_128 rfl rfl rfl rfl ?_
          refine y_callV xD_128 rfl rfl rfl rfl (by first | rfl | assumption) rfl rfl rfl rfl (s_note hR hm p hp10 a b ha hb hnb hnb2 e1 e2 ea eb) (fun v h' hq => ?_)
          obtain ⟨rfl, rfl⟩ := hq
          refine y_loc (pc' := 145) xD_128 rfl rfl rfl rfl ?_
          refine y_ci (pc' := 146) (5) xD_128 rfl rfl rfl rfl ?_
          refine y_icne (pt := 174) (pf := 149) xD_128 rfl rfl rfl (fun h146 => ?_) (fun h146 => ?_)
          · skip
            refine y_loc (pc' := 175) xD_128 rfl rfl rfl rfl ?_
            first | refine m_getR (pc' := 178) xD_128 rfl rfl rfl rfl (hR.1 _ _ _ rfl) rfl ?_ | refine m_getR (pc' := 178) xD_128 rfl rfl (by first | rfl | assumption) rfl (by assumption) rfl ?_
            refine y_loc (pc' := 180) xD_128 rfl rfl rfl rfl ?_
            refine m_iald (pc' := 181) (a) xD_128 rfl (by first | rfl | assumption) (by first | assumption | omega) (by decide) (by first | decide | omega) (by first | rfl | assumption) rfl ?_
            refine y_loc (pc' := 182) xD_128 rfl rfl rfl rfl ?_
            first | refine m_getR (pc' := 185) xD_128 rfl rfl rfl rfl (hR.1 _ _ _ rfl) rfl ?_ | refine m_getR (pc' := 185) xD_128 rfl rfl (by first | rfl | assumption) rfl (by assumption) rfl ?_
            refine y_loc (pc' := 187) xD_128 rfl rfl rfl rfl ?_
            refine m_iald (pc' := 188) (b) xD_128 rfl (by first | rfl | assumption) (by first | assumption | omega) (by decide) (by first | decide | omega) (by first | rfl | assumption) rfl ?_
            refine y_icge (pt := 195) (pf := 191) xD_128 rfl rfl rfl (fun h188 => ?_) (fun h188 => ?_)
            · skip
              refine y_ci (pc' := 196) (0) xD_128 rfl rfl rfl rfl ?_
              refine y_loc (pc' := 198) xD_128 rfl rfl rfl rfl ?_
              first
              | exact fin _ 1 _ _ _ _ _ (by rw [Bool.eq_iff_iff]; simp only [decide_eq_true_eq]; exact ⟨fun _ => qz_eq h146 h163, fun _ => by first | rfl | trivial⟩) (Or.inr rfl)
              | exact fin _ 0 _ _ _ _ _ (by rw [Bool.eq_iff_iff]; simp only [decide_eq_true_eq]; exact ⟨fun q => absurd q (by decide), fun q => absurd (qz_eq' h146 q) h163⟩) (Or.inl rfl)
              | exact fin _ 1 _ _ _ _ _ (by rw [Bool.eq_iff_iff]; simp only [decide_eq_true_eq]; exact ⟨fun _ => qz_lt h146 (Int32.not_le.mp h188), fun _ => by first | rfl | trivial⟩) (Or.inr rfl)
              | exact fin _ 0 _ _ _ _ _ (by rw [Bool.eq_iff_iff]; simp only [decide_eq_true_eq]; exact ⟨fun q => absurd q (by decide), fun q => absurd (qz_lt' h146 q) (Int32.not_lt.mpr h188)⟩) (Or.inl rfl)
            · skip
              refine y_ci (pc' := 192) (1) xD_128 rfl rfl rfl rfl ?_
              refine y_goto (pc' := 196) xD_128 rfl rfl ?_
              refine y_loc (pc' := 198) xD_128 rfl rfl rfl rfl ?_
              first
              | exact fin _ 1 _ _ _ _ _ (by rw [Bool.eq_iff_iff]; simp only [decide_eq_true_eq]; exact ⟨fun _ => qz_eq h146 h163, fun _ => by first | rfl | trivial⟩) (Or.inr rfl)
              | exact fin _ 0 _ _ _ _ _ (by rw [Bool.eq_iff_iff]; simp only [decide_eq_true_eq]; exact ⟨fun q => absurd q (by decide), fun q => absurd (qz_eq' h146 q) h163⟩) (Or.inl rfl)
              | exact fin _ 1 _ _ _ _ _ (by rw [Bool.eq_iff_iff]; simp only [decide_eq_true_eq]; exact ⟨fun _ => qz_lt h146 (Int32.not_le.mp h188), fun _ => by first | rfl | trivial⟩) (Or.inr rfl)
              | exact fin _ 0 _ _ _ _ _ (by rw [Bool.eq_iff_iff]; simp only [decide_eq_true_eq]; exact ⟨fun q => absurd q (by decide), fun q => absurd (qz_lt' h146 q) (Int32.not_lt.mpr h188)⟩) (Or.inl rfl)
          · skip
            refine y_loc (pc' := 150) xD_128 rfl rfl rfl rfl ?_
            first | refine m_getR (pc' := 153) xD_128 rfl rfl rfl rfl (hR.1 _ _ _ rfl) rfl ?_ | refine m_getR (pc' := 153) xD_128 rfl rfl (by first | rfl | assumption) rfl (by assumption) rfl ?_
            refine y_loc (pc' := 155) xD_128 rfl rfl rfl rfl ?_
            refine m_iald (pc' := 156) (a) xD_128 rfl (by first | rfl | assumption) (by first | assumption | omega) (by decide) (by first | decide | omega) (by first | rfl | assumption) rfl ?_
            refine y_loc (pc' := 157) xD_128 rfl rfl rfl rfl ?_
            first | refine m_getR (pc' := 160) xD_128 rfl rfl rfl rfl (hR.1 _ _ _ rfl) rfl ?_ | refine m_getR (pc' := 160) xD_128 rfl rfl (by first | rfl | assumption) rfl (by assumption) rfl ?_
            refine y_loc (pc' := 162) xD_128 rfl rfl rfl rfl ?_
            refine m_iald (pc' := 163) (b) xD_128 rfl (by first | rfl | assumption) (by first | assumption | omega) (by decide) (by first | decide | omega) (by first | rfl | assumption) rfl ?_
            refine y_icne (pt := 170) (pf := 166) xD_128 rfl rfl rfl (fun h163 => ?_) (fun h163 => ?_)
            · skip
              refine y_ci (pc' := 171) (0) xD_128 rfl rfl rfl rfl ?_
              refine y_goto (pc' := 196) xD_128 rfl rfl ?_
              refine y_loc (pc' := 198) xD_128 rfl rfl rfl rfl ?_
              first
              | exact fin _ 1 _ _ _ _ _ (by rw [Bool.eq_iff_iff]; simp only [decide_eq_true_eq]; exact ⟨fun _ => qz_eq h146 h163, fun _ => by first | rfl | trivial⟩) (Or.inr rfl)
              | exact fin _ 0 _ _ _ _ _ (by rw [Bool.eq_iff_iff]; simp only [decide_eq_true_eq]; exact ⟨fun q => absurd q (by decide), fun q => absurd (qz_eq' h146 q) h163⟩) (Or.inl rfl)
              | exact fin _ 1 _ _ _ _ _ (by rw [Bool.eq_iff_iff]; simp only [decide_eq_true_eq]; exact ⟨fun _ => qz_lt h146 (Int32.not_le.mp h188), fun _ => by first | rfl | trivial⟩) (Or.inr rfl)
              | exact fin _ 0 _ _ _ _ _ (by rw [Bool.eq_iff_iff]; simp only [decide_eq_true_eq]; exact ⟨fun q => absurd q (by decide), fun q => absurd (qz_lt' h146 q) (Int32.not_lt.mpr h188)⟩) (Or.inl rfl)
            · skip
              refine y_ci (pc' := 167) (1) xD_128 rfl rfl rfl rfl ?_
              refine y_goto (pc' := 196) xD_128 rfl rfl ?_
              refine y_loc (pc' := 198) xD_128 rfl rfl rfl rfl ?_
              first
              | exact fin _ 1 _ _ _ _ _ (by rw [Bool.eq_iff_iff]; simp only [decide_eq_true_eq]; exact ⟨fun _ => qz_eq h146 h163, fun _ => by first | rfl | trivial⟩) (Or.inr rfl)
              | exact fin _ 0 _ _ _ _ _ (by rw [Bool.eq_iff_iff]; simp only [decide_eq_true_eq]; exact ⟨fun q => absurd q (by decide), fun q => absurd (qz_eq' h146 q) h163⟩) (Or.inl rfl)
              | exact fin _ 1 _ _ _ _ _ (by rw [Bool.eq_iff_iff]; simp only [decide_eq_true_eq]; exact ⟨fun _ => qz_lt h146 (Int32.not_le.mp h188), fun _ => by first | rfl | trivial⟩) (Or.inr rfl)
              | exact fin _ 0 _ _ _ _ _ (by rw [Bool.eq_iff_iff]; simp only [decide_eq_true_eq]; exact ⟨fun q => absurd q (by decide), fun q => absurd (qz_lt' h146 q) (Int32.not_lt.mpr h188)⟩) (Or.inl rfl)
      · skip
        exact absurd (Int32.not_lt.mp h53) (by rw [hop]; exact fun q => absurd (n4.mp q) (by omega))
    · skip
      exact absurd (show t = 0 from n0.mp (by rw [← hop]; exact h36)) (by omega)
  · have hq : q_line UM (cdM I m) (bnM I m nb) n p (I 271) (J 273) = (q_lead (cdM I m) n p false, I 271, J 273) := by
      unfold q_line
      rw [if_neg (by rw [hop, n0]; omega), if_neg (by rw [hop, n4]; omega), if_neg (by rw [hop, n66]; omega)]
    rw [hq, xrow_id, xrow_id]
    refine y_loc (pc' := 1) xD_128 rfl rfl rfl rfl ?_
    refine y_loc (pc' := 2) xD_128 rfl rfl rfl rfl ?_
    refine y_loc (pc' := 3) xD_128 rfl rfl rfl rfl ?_
    refine y_ci (pc' := 4) (0) xD_128 rfl rfl rfl rfl ?_
    refine y_callV xD_128 rfl rfl rfl rfl (by first | rfl | assumption) rfl rfl rfl rfl (s_code hR hm p 0 hp10 (by decide) e1 e2 rfl) (fun v h' hq => ?_)
    obtain ⟨rfl, rfl⟩ := hq
    refine y_loc (pc' := 8) xD_128 rfl rfl rfl rfl ?_
    refine y_loc (pc' := 9) xD_128 rfl rfl rfl rfl ?_
    refine y_loc (pc' := 10) xD_128 rfl rfl rfl rfl ?_
    refine y_loc (pc' := 11) xD_128 rfl rfl rfl rfl ?_
    refine y_ci (pc' := 12) (1) xD_128 rfl rfl rfl rfl ?_
    refine y_callV xD_128 rfl rfl rfl rfl (by first | rfl | assumption) rfl rfl rfl rfl (s_code hR hm p 1 hp10 (by decide) e1 e2 rfl) (fun v h' hq => ?_)
    obtain ⟨rfl, rfl⟩ := hq
    refine y_loc (pc' := 17) xD_128 rfl rfl rfl rfl ?_
    refine y_loc (pc' := 18) xD_128 rfl rfl rfl rfl ?_
    refine y_loc (pc' := 19) xD_128 rfl rfl rfl rfl ?_
    refine y_loc (pc' := 20) xD_128 rfl rfl rfl rfl ?_
    refine y_ci (pc' := 21) (2) xD_128 rfl rfl rfl rfl ?_
    refine y_callV xD_128 rfl rfl rfl rfl (by first | rfl | assumption) rfl rfl rfl rfl (s_code hR hm p 2 hp10 (by decide) e1 e2 rfl) (fun v h' hq => ?_)
    obtain ⟨rfl, rfl⟩ := hq
    refine y_loc (pc' := 26) xD_128 rfl rfl rfl rfl ?_
    refine y_loc (pc' := 27) xD_128 rfl rfl rfl rfl ?_
    refine y_loc (pc' := 28) xD_128 rfl rfl rfl rfl ?_
    refine y_loc (pc' := 29) xD_128 rfl rfl rfl rfl ?_
    refine y_ci (pc' := 30) (3) xD_128 rfl rfl rfl rfl ?_
    refine y_callV xD_128 rfl rfl rfl rfl (by first | rfl | assumption) rfl rfl rfl rfl (s_code hR hm p 3 hp10 (by decide) e1 e2 rfl) (fun v h' hq => ?_)
    obtain ⟨rfl, rfl⟩ := hq
    refine y_loc (pc' := 35) xD_128 rfl rfl rfl rfl ?_
    refine y_loc (pc' := 36) xD_128 rfl rfl rfl rfl ?_
    refine y_ifne (pt := 51) (pf := 39) xD_128 rfl rfl rfl (fun h36 => ?_) (fun h36 => ?_)
    · skip
      refine y_loc (pc' := 52) xD_128 rfl rfl rfl rfl ?_
      refine y_ci (pc' := 53) (4) xD_128 rfl rfl rfl rfl ?_
      refine y_icgt (pt := 128) (pf := 56) xD_128 rfl rfl rfl (fun h53 => ?_) (fun h53 => ?_)
      · skip
        refine y_loc (pc' := 129) xD_128 rfl rfl rfl rfl ?_
        refine y_ci (pc' := 131) (6) xD_128 rfl rfl rfl rfl ?_
        refine y_icgt (pt := 215) (pf := 134) xD_128 rfl rfl rfl (fun h131 => ?_) (fun h131 => ?_)
        · skip
          exact tail _ _ _ _ _ _ _ (fun y hy => rfl) (by omega) (by omega)
        · skip
          exact absurd (Int32.not_lt.mp h131) (by rw [hop]; exact fun q => absurd (n66.mp q) (by omega))
      · skip
        exact absurd (Int32.not_lt.mp h53) (by rw [hop]; exact fun q => absurd (n4.mp q) (by omega))
    · skip
      exact absurd (show t = 0 from n0.mp (by rw [← hop]; exact h36)) (by omega)
end MN

