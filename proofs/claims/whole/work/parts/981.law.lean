/-! The law: its constructors, its loop. -/
theorem PrI.deep {S : XS} {d d' k1 l1 k2 l2 : Nat} {a1 a2 : List Value} {I : Nat → Nat → Int32} {J : Nat → Nat → Int64} {R : Nat → Nat → Option Nat} (h : PrI S d k1 l1 a1 k2 l2 a2 I J R) (hd : d ≤ d') : PrI S d' k1 l1 a1 k2 l2 a2 I J R := XP.deep hd (XP.conseq h (fun v h' q => by
  obtain ⟨e, I1, J1, R1, e1, m⟩ := q
  exact ⟨e, I1, J1, R1, e1, XP.deep hd m⟩))
theorem PrJ.deep {S : XS} {d d' k1 l1 k2 l2 : Nat} {a1 a2 : List Value} {I : Nat → Nat → Int32} {J : Nat → Nat → Int64} {R : Nat → Nat → Option Nat} (h : PrJ S d k1 l1 a1 k2 l2 a2 I J R) (hd : d ≤ d') : PrJ S d' k1 l1 a1 k2 l2 a2 I J R := XP.deep hd (XP.conseq h (fun v h' q => by
  obtain ⟨e, I1, J1, R1, e1, m⟩ := q
  exact ⟨e, I1, J1, R1, e1, XP.deep hd m⟩))
theorem lg_self (w : Int64) : lg_cmp w w = 0 := by
  unfold lg_cmp
  rw [if_neg (Int64.lt_irrefl), if_pos rfl]
/-- what the law comes to: 1, and the memory in its shape -/
def LQ (v : Option Value) (h : XH) : Prop := v = some (.int 1) ∧ ∃ I J R, h = hh I J R
section LW
variable {S : XS} {d k pc pc' : Nat} {L : XL} {r : List Value} {h : XH} {Q : Option Value → XH → Prop} {T : List (Nat × Instr × Nat)} {x : Int32} {I : Nat → Nat → Int32} {J : Nat → Nat → Int64} {R : Nat → Nat → Option Nat}
theorem l_ald (j : Nat) (hD : XDec k T) (hd : xat T pc = some (.iaload, 1)) (hj : j < S.1) (hN : S.1 < 2 ^ 31) (hx : x = nI j) (hp : pc + 1 = pc') (K : XP S d k pc' L (.int (S.2 j) :: r) h Q) : XP S d k pc L (.int x :: .ref 0 :: r) h Q := by
  subst hx
  refine y_ldc hD hd rfl ?_ hp K
  show xiald S h (.int (nI j) :: .ref 0 :: r) = _
  unfold xiald
  have e : xinb (nI j) S.1 = true := decide_eq_true (nI_in hj hN)
  simp only [e, nI_clamp (Nat.lt_trans hj hN)]
  rfl
theorem l_len (hD : XDec k T) (hd : xat T pc = some (.arraylength, 1)) (hp : pc + 1 = pc') (K : XP S d k pc' L (.int (nI S.1) :: r) h Q) : XP S d k pc L (.ref 0 :: r) h Q := by
  refine y_ldc hD hd rfl ?_ hp K
  show xalen S h (.ref 0 :: r) = _
  unfold xalen
  rfl
theorem s_cell (hN : S.1 < 2 ^ 31) : XP S d 97 0 (xent [.ref 0, .int 0] 2) [] h (rI (if 0 < S.1 then S.2 0 else 0) h) := by
  refine y_loc (pc' := 1) xD_97 rfl rfl rfl rfl ?_
  refine y_loc (pc' := 2) xD_97 rfl rfl rfl rfl ?_
  refine l_len (pc' := 3) xD_97 rfl rfl ?_
  refine y_icge (pt := 12) (pf := 6) xD_97 rfl rfl rfl (fun h3 => ?_) (fun h3 => ?_)
  · skip
    refine y_ci (pc' := 13) (0) xD_97 rfl rfl rfl rfl ?_
    refine y_retI xD_97 rfl rfl ?_
    have z : ¬ 0 < S.1 := fun q => absurd h3 (Int32.not_le.mpr (nI_lt (a := 0) q hN))
    exact ⟨by rw [if_neg z], rfl⟩
  · skip
    have z : 0 < S.1 := Nat.pos_of_ne_zero (fun q => h3 (by rw [q]; exact Int32.le_refl _))
    refine y_loc (pc' := 7) xD_97 rfl rfl rfl rfl ?_
    refine y_loc (pc' := 8) xD_97 rfl rfl rfl rfl ?_
    refine l_ald (pc' := 9) 0 xD_97 rfl z hN rfl rfl ?_
    refine y_goto (pc' := 13) xD_97 rfl rfl ?_
    refine y_retI xD_97 rfl rfl ?_
    exact ⟨by rw [if_pos z], rfl⟩
theorem s_loop (hN : S.1 ≤ 3073) : ∀ (m i : Nat) (I : Nat → Nat → Int32) (J : Nat → Nat → Int64) (R : Nat → Nat → Option Nat), S.1 < i + 6 + 6 * m → i ≤ 3073 → Inv I J R → XP S 11 160 28 [some (.ref 0), some (.ref 1), some (.ref 261), some (.int (nI i))] [] (hh I J R) LQ := by
  intro m
  have gt : ∀ i : Nat, i ≤ 3073 → (nI S.1 - 6 < nI i ↔ S.1 < i + 6) := fun i hi => by
    rw [Int32.lt_iff_toInt_lt, Int32.toInt_sub, nI_toInt (by omega), nI_toInt (by omega)]
    show Int.bmod ((S.1 : Int) - 6) _ < (i : Int) ↔ _
    simp only [Int.bmod]
    omega
  have top : ∀ (i : Nat) (I : Nat → Nat → Int32) (J : Nat → Nat → Int64) (R : Nat → Nat → Option Nat), i ≤ 3073 → (i + 6 ≤ S.1 → XP S 11 160 37 [some (.ref 0), some (.ref 1), some (.ref 261), some (.int (nI i))] [] (hh I J R) LQ) → XP S 11 160 28 [some (.ref 0), some (.ref 1), some (.ref 261), some (.int (nI i))] [] (hh I J R) LQ := by
    intro i I J R hi K
    refine y_loc (pc' := 29) xD_160 rfl rfl rfl rfl ?_
    refine y_loc (pc' := 30) xD_160 rfl rfl rfl rfl ?_
    refine l_len (pc' := 31) xD_160 rfl rfl ?_
    refine y_ci (pc' := 33) (6) xD_160 rfl rfl rfl rfl ?_
    refine y_op (pc' := 34) xD_160 rfl rfl rfl rfl ?_
    refine y_icgt (pt := 581) (pf := 37) xD_160 rfl rfl rfl (fun h34 => ?_) (fun h34 => ?_)
    · skip
      refine y_ci (pc' := 582) (1) xD_160 rfl rfl rfl rfl ?_
      refine y_retZ xD_160 rfl rfl (by first | decide | assumption) ?_
      exact ⟨rfl, I, J, R, rfl⟩
    · exact K (by have := (not_congr (gt i hi)).mp h34; omega)
  induction m with
  | zero =>
    intro i I J R hm hi hI
    exact top i I J R hi (fun q => by omega)
  | succ m ih =>
  intro i I J R hm hi hI
  refine top i I J R hi (fun hi6 => ?_)
  have nx : ∀ I J R, Inv I J R → XP S 11 160 575 [some (.ref 0), some (.ref 1), some (.ref 261), some (.int (nI i))] [] (hh I J R) LQ := by
    intro I J R hI
    refine y_inc (pc' := 578) (nI (i + 6)) xD_160 rfl rfl rfl (nI_add i 6) rfl rfl ?_
    refine y_goto (pc' := 28) xD_160 rfl rfl ?_
    exact ih (i + 6) I J R (by omega) (by omega) hI
  have c0 : XP S 11 160 128 [some (.ref 0), some (.ref 1), some (.ref 261), some (.int (nI i))] [] (hh I J R) LQ := by
    refine y_loc (pc' := 129) xD_160 rfl rfl rfl rfl ?_
    refine y_loc (pc' := 130) xD_160 rfl rfl rfl rfl ?_
    refine y_loc (pc' := 131) xD_160 rfl rfl rfl rfl ?_
    refine y_ci (pc' := 132) (1) xD_160 rfl rfl rfl rfl ?_
    refine y_iadd (pc' := 133) xD_160 rfl (nI_1 i) rfl ?_
    refine l_ald (pc' := 134) (i + 1) xD_160 rfl (by omega) (by omega) rfl rfl ?_
    refine y_loc (pc' := 135) xD_160 rfl rfl rfl rfl ?_
    refine y_loc (pc' := 136) xD_160 rfl rfl rfl rfl ?_
    refine y_ci (pc' := 137) (2) xD_160 rfl rfl rfl rfl ?_
    refine y_iadd (pc' := 138) xD_160 rfl (nI_add i 2) rfl ?_
    refine l_ald (pc' := 139) (i + 2) xD_160 rfl (by omega) (by omega) rfl rfl ?_
    refine y_loc (pc' := 140) xD_160 rfl rfl rfl rfl ?_
    refine y_loc (pc' := 141) xD_160 rfl rfl rfl rfl ?_
    refine y_ci (pc' := 142) (3) xD_160 rfl rfl rfl rfl ?_
    refine y_iadd (pc' := 143) xD_160 rfl (nI_add i 3) rfl ?_
    refine l_ald (pc' := 144) (i + 3) xD_160 rfl (by omega) (by omega) rfl rfl ?_
    refine y_loc (pc' := 145) xD_160 rfl rfl rfl rfl ?_
    refine y_loc (pc' := 146) xD_160 rfl rfl rfl rfl ?_
    refine y_ci (pc' := 147) (4) xD_160 rfl rfl rfl rfl ?_
    refine y_iadd (pc' := 148) xD_160 rfl (nI_add i 4) rfl ?_
    refine l_ald (pc' := 149) (i + 4) xD_160 rfl (by omega) (by omega) rfl rfl ?_
    refine y_loc (pc' := 150) xD_160 rfl rfl rfl rfl ?_
    refine y_loc (pc' := 151) xD_160 rfl rfl rfl rfl ?_
    refine y_ci (pc' := 152) (5) xD_160 rfl rfl rfl rfl ?_
    refine y_iadd (pc' := 153) xD_160 rfl (nI_add i 5) rfl ?_
    refine l_ald (pc' := 154) (i + 5) xD_160 rfl (by omega) (by omega) rfl rfl ?_
    refine y_callV xD_160 rfl rfl rfl rfl (by first | rfl | assumption) rfl rfl rfl rfl ((p_line (d := 0) hI).deep (by decide)) (fun v h' hq => ?_)
    obtain ⟨⟨r, rfl⟩, I1, J1, R1, rfl, hm⟩ := hq
    refine y_loc (pc' := 158) xD_160 rfl rfl rfl rfl ?_
    refine y_loc (pc' := 159) xD_160 rfl rfl rfl rfl ?_
    refine y_loc (pc' := 160) xD_160 rfl rfl rfl rfl ?_
    refine y_ci (pc' := 161) (1) xD_160 rfl rfl rfl rfl ?_
    refine y_iadd (pc' := 162) xD_160 rfl (nI_1 i) rfl ?_
    refine l_ald (pc' := 163) (i + 1) xD_160 rfl (by omega) (by omega) rfl rfl ?_
    refine y_loc (pc' := 164) xD_160 rfl rfl rfl rfl ?_
    refine y_loc (pc' := 165) xD_160 rfl rfl rfl rfl ?_
    refine y_ci (pc' := 166) (2) xD_160 rfl rfl rfl rfl ?_
    refine y_iadd (pc' := 167) xD_160 rfl (nI_add i 2) rfl ?_
    refine l_ald (pc' := 168) (i + 2) xD_160 rfl (by omega) (by omega) rfl rfl ?_
    refine y_loc (pc' := 169) xD_160 rfl rfl rfl rfl ?_
    refine y_loc (pc' := 170) xD_160 rfl rfl rfl rfl ?_
    refine y_ci (pc' := 171) (3) xD_160 rfl rfl rfl rfl ?_
    refine y_iadd (pc' := 172) xD_160 rfl (nI_add i 3) rfl ?_
    refine l_ald (pc' := 173) (i + 3) xD_160 rfl (by omega) (by omega) rfl rfl ?_
    refine y_loc (pc' := 174) xD_160 rfl rfl rfl rfl ?_
    refine y_loc (pc' := 175) xD_160 rfl rfl rfl rfl ?_
    refine y_ci (pc' := 176) (4) xD_160 rfl rfl rfl rfl ?_
    refine y_iadd (pc' := 177) xD_160 rfl (nI_add i 4) rfl ?_
    refine l_ald (pc' := 178) (i + 4) xD_160 rfl (by omega) (by omega) rfl rfl ?_
    refine y_loc (pc' := 179) xD_160 rfl rfl rfl rfl ?_
    refine y_loc (pc' := 180) xD_160 rfl rfl rfl rfl ?_
    refine y_ci (pc' := 181) (5) xD_160 rfl rfl rfl rfl ?_
    refine y_iadd (pc' := 182) xD_160 rfl (nI_add i 5) rfl ?_
    refine l_ald (pc' := 183) (i + 5) xD_160 rfl (by omega) (by omega) rfl rfl ?_
    refine y_callV xD_160 rfl rfl rfl rfl (by first | rfl | assumption) rfl rfl rfl rfl (hm) (fun v h' hq => ?_)
    obtain ⟨rfl, I2, J2, R2, rfl, hI2⟩ := hq
    refine y_iceq (pt := 575) (pf := 189) xD_160 rfl rfl rfl (fun hc => ?_) (fun hc => ?_)
    · skip
      exact nx I2 J2 R2 hI2
    · exact absurd rfl hc
  have c1 : XP S 11 160 191 [some (.ref 0), some (.ref 1), some (.ref 261), some (.int (nI i))] [] (hh I J R) LQ := by
    refine y_loc (pc' := 192) xD_160 rfl rfl rfl rfl ?_
    refine y_callV xD_160 rfl rfl rfl rfl (by first | rfl | assumption) rfl rfl rfl rfl ((p_start (d := 0) hI).deep (by decide)) (fun v h' hq => ?_)
    obtain ⟨⟨r, rfl⟩, I1, J1, R1, rfl, hm⟩ := hq
    refine y_loc (pc' := 196) xD_160 rfl rfl rfl rfl ?_
    refine y_callV xD_160 rfl rfl rfl rfl (by first | rfl | assumption) rfl rfl rfl rfl (hm) (fun v h' hq => ?_)
    obtain ⟨rfl, I2, J2, R2, rfl, hI2⟩ := hq
    refine y_iceq (pt := 575) (pf := 202) xD_160 rfl rfl rfl (fun hc => ?_) (fun hc => ?_)
    · skip
      exact nx I2 J2 R2 hI2
    · exact absurd rfl hc
  have c2 : XP S 11 160 204 [some (.ref 0), some (.ref 1), some (.ref 261), some (.int (nI i))] [] (hh I J R) LQ := by
    refine y_loc (pc' := 205) xD_160 rfl rfl rfl rfl ?_
    refine y_loc (pc' := 206) xD_160 rfl rfl rfl rfl ?_
    refine y_loc (pc' := 207) xD_160 rfl rfl rfl rfl ?_
    refine y_ci (pc' := 208) (1) xD_160 rfl rfl rfl rfl ?_
    refine y_iadd (pc' := 209) xD_160 rfl (nI_1 i) rfl ?_
    refine l_ald (pc' := 210) (i + 1) xD_160 rfl (by omega) (by omega) rfl rfl ?_
    refine y_callV xD_160 rfl rfl rfl rfl (by first | rfl | assumption) rfl rfl rfl rfl ((p_watched (d := 0) hI).deep (by decide)) (fun v h' hq => ?_)
    obtain ⟨⟨r, rfl⟩, I1, J1, R1, rfl, hm⟩ := hq
    refine y_loc (pc' := 214) xD_160 rfl rfl rfl rfl ?_
    refine y_loc (pc' := 215) xD_160 rfl rfl rfl rfl ?_
    refine y_loc (pc' := 216) xD_160 rfl rfl rfl rfl ?_
    refine y_ci (pc' := 217) (1) xD_160 rfl rfl rfl rfl ?_
    refine y_iadd (pc' := 218) xD_160 rfl (nI_1 i) rfl ?_
    refine l_ald (pc' := 219) (i + 1) xD_160 rfl (by omega) (by omega) rfl rfl ?_
    refine y_callV xD_160 rfl rfl rfl rfl (by first | rfl | assumption) rfl rfl rfl rfl (hm) (fun v h' hq => ?_)
    obtain ⟨rfl, I2, J2, R2, rfl, hI2⟩ := hq
    refine y_iceq (pt := 575) (pf := 225) xD_160 rfl rfl rfl (fun hc => ?_) (fun hc => ?_)
    · skip
      exact nx I2 J2 R2 hI2
    · exact absurd rfl hc
  have c3 : XP S 11 160 227 [some (.ref 0), some (.ref 1), some (.ref 261), some (.int (nI i))] [] (hh I J R) LQ := by
    refine y_loc (pc' := 228) xD_160 rfl rfl rfl rfl ?_
    refine y_loc (pc' := 229) xD_160 rfl rfl rfl rfl ?_
    refine y_loc (pc' := 230) xD_160 rfl rfl rfl rfl ?_
    refine y_ci (pc' := 231) (1) xD_160 rfl rfl rfl rfl ?_
    refine y_iadd (pc' := 232) xD_160 rfl (nI_1 i) rfl ?_
    refine l_ald (pc' := 233) (i + 1) xD_160 rfl (by omega) (by omega) rfl rfl ?_
    refine y_loc (pc' := 234) xD_160 rfl rfl rfl rfl ?_
    refine y_loc (pc' := 235) xD_160 rfl rfl rfl rfl ?_
    refine y_ci (pc' := 236) (2) xD_160 rfl rfl rfl rfl ?_
    refine y_iadd (pc' := 237) xD_160 rfl (nI_add i 2) rfl ?_
    refine l_ald (pc' := 238) (i + 2) xD_160 rfl (by omega) (by omega) rfl rfl ?_
    refine y_callV xD_160 rfl rfl rfl rfl (by first | rfl | assumption) rfl rfl rfl rfl ((p_depends (d := 0) hI).deep (by decide)) (fun v h' hq => ?_)
    obtain ⟨⟨r, rfl⟩, I1, J1, R1, rfl, hm⟩ := hq
    refine y_loc (pc' := 242) xD_160 rfl rfl rfl rfl ?_
    refine y_loc (pc' := 243) xD_160 rfl rfl rfl rfl ?_
    refine y_loc (pc' := 244) xD_160 rfl rfl rfl rfl ?_
    refine y_ci (pc' := 245) (1) xD_160 rfl rfl rfl rfl ?_
    refine y_iadd (pc' := 246) xD_160 rfl (nI_1 i) rfl ?_
    refine l_ald (pc' := 247) (i + 1) xD_160 rfl (by omega) (by omega) rfl rfl ?_
    refine y_loc (pc' := 248) xD_160 rfl rfl rfl rfl ?_
    refine y_loc (pc' := 249) xD_160 rfl rfl rfl rfl ?_
    refine y_ci (pc' := 250) (2) xD_160 rfl rfl rfl rfl ?_
    refine y_iadd (pc' := 251) xD_160 rfl (nI_add i 2) rfl ?_
    refine l_ald (pc' := 252) (i + 2) xD_160 rfl (by omega) (by omega) rfl rfl ?_
    refine y_callV xD_160 rfl rfl rfl rfl (by first | rfl | assumption) rfl rfl rfl rfl (hm) (fun v h' hq => ?_)
    obtain ⟨rfl, I2, J2, R2, rfl, hI2⟩ := hq
    refine y_iceq (pt := 575) (pf := 258) xD_160 rfl rfl rfl (fun hc => ?_) (fun hc => ?_)
    · skip
      exact nx I2 J2 R2 hI2
    · exact absurd rfl hc
  have c4 : XP S 11 160 260 [some (.ref 0), some (.ref 1), some (.ref 261), some (.int (nI i))] [] (hh I J R) LQ := by
    refine y_loc (pc' := 261) xD_160 rfl rfl rfl rfl ?_
    refine y_loc (pc' := 262) xD_160 rfl rfl rfl rfl ?_
    refine y_loc (pc' := 263) xD_160 rfl rfl rfl rfl ?_
    refine y_ci (pc' := 264) (1) xD_160 rfl rfl rfl rfl ?_
    refine y_iadd (pc' := 265) xD_160 rfl (nI_1 i) rfl ?_
    refine l_ald (pc' := 266) (i + 1) xD_160 rfl (by omega) (by omega) rfl rfl ?_
    refine y_loc (pc' := 267) xD_160 rfl rfl rfl rfl ?_
    refine y_loc (pc' := 268) xD_160 rfl rfl rfl rfl ?_
    refine y_ci (pc' := 269) (2) xD_160 rfl rfl rfl rfl ?_
    refine y_iadd (pc' := 270) xD_160 rfl (nI_add i 2) rfl ?_
    refine l_ald (pc' := 271) (i + 2) xD_160 rfl (by omega) (by omega) rfl rfl ?_
    refine y_loc (pc' := 272) xD_160 rfl rfl rfl rfl ?_
    refine y_loc (pc' := 273) xD_160 rfl rfl rfl rfl ?_
    refine y_ci (pc' := 274) (3) xD_160 rfl rfl rfl rfl ?_
    refine y_iadd (pc' := 275) xD_160 rfl (nI_add i 3) rfl ?_
    refine l_ald (pc' := 276) (i + 3) xD_160 rfl (by omega) (by omega) rfl rfl ?_
    refine y_loc (pc' := 277) xD_160 rfl rfl rfl rfl ?_
    refine y_loc (pc' := 278) xD_160 rfl rfl rfl rfl ?_
    refine y_ci (pc' := 279) (4) xD_160 rfl rfl rfl rfl ?_
    refine y_iadd (pc' := 280) xD_160 rfl (nI_add i 4) rfl ?_
    refine l_ald (pc' := 281) (i + 4) xD_160 rfl (by omega) (by omega) rfl rfl ?_
    refine y_callV xD_160 rfl rfl rfl rfl (by first | rfl | assumption) rfl rfl rfl rfl ((p_put (d := 0) hI).deep (by decide)) (fun v h' hq => ?_)
    obtain ⟨⟨r, rfl⟩, I1, J1, R1, rfl, hm⟩ := hq
    refine y_loc (pc' := 285) xD_160 rfl rfl rfl rfl ?_
    refine y_loc (pc' := 286) xD_160 rfl rfl rfl rfl ?_
    refine y_loc (pc' := 287) xD_160 rfl rfl rfl rfl ?_
    refine y_ci (pc' := 288) (1) xD_160 rfl rfl rfl rfl ?_
    refine y_iadd (pc' := 289) xD_160 rfl (nI_1 i) rfl ?_
    refine l_ald (pc' := 290) (i + 1) xD_160 rfl (by omega) (by omega) rfl rfl ?_
    refine y_loc (pc' := 291) xD_160 rfl rfl rfl rfl ?_
    refine y_loc (pc' := 292) xD_160 rfl rfl rfl rfl ?_
    refine y_ci (pc' := 293) (2) xD_160 rfl rfl rfl rfl ?_
    refine y_iadd (pc' := 294) xD_160 rfl (nI_add i 2) rfl ?_
    refine l_ald (pc' := 295) (i + 2) xD_160 rfl (by omega) (by omega) rfl rfl ?_
    refine y_loc (pc' := 296) xD_160 rfl rfl rfl rfl ?_
    refine y_loc (pc' := 297) xD_160 rfl rfl rfl rfl ?_
    refine y_ci (pc' := 298) (3) xD_160 rfl rfl rfl rfl ?_
    refine y_iadd (pc' := 299) xD_160 rfl (nI_add i 3) rfl ?_
    refine l_ald (pc' := 300) (i + 3) xD_160 rfl (by omega) (by omega) rfl rfl ?_
    refine y_loc (pc' := 301) xD_160 rfl rfl rfl rfl ?_
    refine y_loc (pc' := 302) xD_160 rfl rfl rfl rfl ?_
    refine y_ci (pc' := 303) (4) xD_160 rfl rfl rfl rfl ?_
    refine y_iadd (pc' := 304) xD_160 rfl (nI_add i 4) rfl ?_
    refine l_ald (pc' := 305) (i + 4) xD_160 rfl (by omega) (by omega) rfl rfl ?_
    refine y_callV xD_160 rfl rfl rfl rfl (by first | rfl | assumption) rfl rfl rfl rfl (hm) (fun v h' hq => ?_)
    obtain ⟨rfl, I2, J2, R2, rfl, hI2⟩ := hq
    refine y_iceq (pt := 575) (pf := 311) xD_160 rfl rfl rfl (fun hc => ?_) (fun hc => ?_)
    · skip
      exact nx I2 J2 R2 hI2
    · exact absurd rfl hc
  have c5 : XP S 11 160 313 [some (.ref 0), some (.ref 1), some (.ref 261), some (.int (nI i))] [] (hh I J R) LQ := by
    refine y_loc (pc' := 314) xD_160 rfl rfl rfl rfl ?_
    refine y_callV xD_160 rfl rfl rfl rfl (by first | rfl | assumption) rfl rfl rfl rfl ((p_run (d := 0) hI).deep (by decide)) (fun v h' hq => ?_)
    obtain ⟨⟨r, rfl⟩, I1, J1, R1, rfl, hm⟩ := hq
    refine y_loc (pc' := 318) xD_160 rfl rfl rfl rfl ?_
    refine y_callV xD_160 rfl rfl rfl rfl (by first | rfl | assumption) rfl rfl rfl rfl (hm) (fun v h' hq => ?_)
    obtain ⟨rfl, I2, J2, R2, rfl, hI2⟩ := hq
    refine y_iceq (pt := 575) (pf := 324) xD_160 rfl rfl rfl (fun hc => ?_) (fun hc => ?_)
    · skip
      exact nx I2 J2 R2 hI2
    · exact absurd rfl hc
  have c6 : XP S 11 160 326 [some (.ref 0), some (.ref 1), some (.ref 261), some (.int (nI i))] [] (hh I J R) LQ := by
    refine y_loc (pc' := 327) xD_160 rfl rfl rfl rfl ?_
    refine y_callV xD_160 rfl rfl rfl rfl (by first | rfl | assumption) rfl rfl rfl rfl ((p_evolve (d := 0) hI).deep (by decide)) (fun v h' hq => ?_)
    obtain ⟨⟨r, rfl⟩, I1, J1, R1, rfl, hm⟩ := hq
    refine y_loc (pc' := 331) xD_160 rfl rfl rfl rfl ?_
    refine y_callV xD_160 rfl rfl rfl rfl (by first | rfl | assumption) rfl rfl rfl rfl (hm) (fun v h' hq => ?_)
    obtain ⟨rfl, I2, J2, R2, rfl, hI2⟩ := hq
    refine y_iceq (pt := 575) (pf := 337) xD_160 rfl rfl rfl (fun hc => ?_) (fun hc => ?_)
    · skip
      exact nx I2 J2 R2 hI2
    · exact absurd rfl hc
  have c7 : XP S 11 160 339 [some (.ref 0), some (.ref 1), some (.ref 261), some (.int (nI i))] [] (hh I J R) LQ := by
    refine y_loc (pc' := 340) xD_160 rfl rfl rfl rfl ?_
    refine y_callV xD_160 rfl rfl rfl rfl (by first | rfl | assumption) rfl rfl rfl rfl ((p_finish (d := 0) hI).deep (by decide)) (fun v h' hq => ?_)
    obtain ⟨⟨r, rfl⟩, I1, J1, R1, rfl, hm⟩ := hq
    refine y_loc (pc' := 344) xD_160 rfl rfl rfl rfl ?_
    refine y_callV xD_160 rfl rfl rfl rfl (by first | rfl | assumption) rfl rfl rfl rfl (hm) (fun v h' hq => ?_)
    obtain ⟨rfl, I2, J2, R2, rfl, hI2⟩ := hq
    refine y_iceq (pt := 575) (pf := 350) xD_160 rfl rfl rfl (fun hc => ?_) (fun hc => ?_)
    · skip
      exact nx I2 J2 R2 hI2
    · exact absurd rfl hc
  have c8 : XP S 11 160 352 [some (.ref 0), some (.ref 1), some (.ref 261), some (.int (nI i))] [] (hh I J R) LQ := by
    refine y_loc (pc' := 353) xD_160 rfl rfl rfl rfl ?_
    refine y_callV xD_160 rfl rfl rfl rfl (by first | rfl | assumption) rfl rfl rfl rfl ((p_found (d := 0) hI).deep (by decide)) (fun v h' hq => ?_)
    obtain ⟨⟨r, rfl⟩, I1, J1, R1, rfl, hm⟩ := hq
    refine y_loc (pc' := 357) xD_160 rfl rfl rfl rfl ?_
    refine y_callV xD_160 rfl rfl rfl rfl (by first | rfl | assumption) rfl rfl rfl rfl (hm) (fun v h' hq => ?_)
    obtain ⟨rfl, I2, J2, R2, rfl, hI2⟩ := hq
    refine y_iceq (pt := 575) (pf := 363) xD_160 rfl rfl rfl (fun hc => ?_) (fun hc => ?_)
    · skip
      exact nx I2 J2 R2 hI2
    · exact absurd rfl hc
  have c9 : XP S 11 160 365 [some (.ref 0), some (.ref 1), some (.ref 261), some (.int (nI i))] [] (hh I J R) LQ := by
    refine y_loc (pc' := 366) xD_160 rfl rfl rfl rfl ?_
    refine y_callV xD_160 rfl rfl rfl rfl (by first | rfl | assumption) rfl rfl rfl rfl ((p_active (d := 0) hI).deep (by decide)) (fun v h' hq => ?_)
    obtain ⟨⟨r, rfl⟩, I1, J1, R1, rfl, hm⟩ := hq
    refine y_loc (pc' := 370) xD_160 rfl rfl rfl rfl ?_
    refine y_callV xD_160 rfl rfl rfl rfl (by first | rfl | assumption) rfl rfl rfl rfl (hm) (fun v h' hq => ?_)
    obtain ⟨rfl, I2, J2, R2, rfl, hI2⟩ := hq
    refine y_iceq (pt := 575) (pf := 376) xD_160 rfl rfl rfl (fun hc => ?_) (fun hc => ?_)
    · skip
      exact nx I2 J2 R2 hI2
    · exact absurd rfl hc
  have c10 : XP S 11 160 378 [some (.ref 0), some (.ref 1), some (.ref 261), some (.int (nI i))] [] (hh I J R) LQ := by
    refine y_loc (pc' := 379) xD_160 rfl rfl rfl rfl ?_
    refine y_callV xD_160 rfl rfl rfl rfl (by first | rfl | assumption) rfl rfl rfl rfl ((p_reported (d := 0) hI).deep (by decide)) (fun v h' hq => ?_)
    obtain ⟨⟨r, rfl⟩, I1, J1, R1, rfl, hm⟩ := hq
    refine y_loc (pc' := 383) xD_160 rfl rfl rfl rfl ?_
    refine y_callV xD_160 rfl rfl rfl rfl (by first | rfl | assumption) rfl rfl rfl rfl (hm) (fun v h' hq => ?_)
    obtain ⟨rfl, I2, J2, R2, rfl, hI2⟩ := hq
    refine y_iceq (pt := 575) (pf := 389) xD_160 rfl rfl rfl (fun hc => ?_) (fun hc => ?_)
    · skip
      exact nx I2 J2 R2 hI2
    · exact absurd rfl hc
  have c11 : XP S 11 160 391 [some (.ref 0), some (.ref 1), some (.ref 261), some (.int (nI i))] [] (hh I J R) LQ := by
    refine y_loc (pc' := 392) xD_160 rfl rfl rfl rfl ?_
    refine y_loc (pc' := 393) xD_160 rfl rfl rfl rfl ?_
    refine y_loc (pc' := 394) xD_160 rfl rfl rfl rfl ?_
    refine y_ci (pc' := 395) (1) xD_160 rfl rfl rfl rfl ?_
    refine y_iadd (pc' := 396) xD_160 rfl (nI_1 i) rfl ?_
    refine l_ald (pc' := 397) (i + 1) xD_160 rfl (by omega) (by omega) rfl rfl ?_
    refine y_callV xD_160 rfl rfl rfl rfl (by first | rfl | assumption) rfl rfl rfl rfl ((p_length (d := 0) hI).deep (by decide)) (fun v h' hq => ?_)
    obtain ⟨⟨r, rfl⟩, I1, J1, R1, rfl, hm⟩ := hq
    refine y_loc (pc' := 401) xD_160 rfl rfl rfl rfl ?_
    refine y_loc (pc' := 402) xD_160 rfl rfl rfl rfl ?_
    refine y_loc (pc' := 403) xD_160 rfl rfl rfl rfl ?_
    refine y_ci (pc' := 404) (1) xD_160 rfl rfl rfl rfl ?_
    refine y_iadd (pc' := 405) xD_160 rfl (nI_1 i) rfl ?_
    refine l_ald (pc' := 406) (i + 1) xD_160 rfl (by omega) (by omega) rfl rfl ?_
    refine y_callV xD_160 rfl rfl rfl rfl (by first | rfl | assumption) rfl rfl rfl rfl (hm) (fun v h' hq => ?_)
    obtain ⟨rfl, I2, J2, R2, rfl, hI2⟩ := hq
    refine y_iceq (pt := 575) (pf := 412) xD_160 rfl rfl rfl (fun hc => ?_) (fun hc => ?_)
    · skip
      exact nx I2 J2 R2 hI2
    · exact absurd rfl hc
  have c12 : XP S 11 160 414 [some (.ref 0), some (.ref 1), some (.ref 261), some (.int (nI i))] [] (hh I J R) LQ := by
    refine y_loc (pc' := 415) xD_160 rfl rfl rfl rfl ?_
    refine y_loc (pc' := 416) xD_160 rfl rfl rfl rfl ?_
    refine y_loc (pc' := 417) xD_160 rfl rfl rfl rfl ?_
    refine y_ci (pc' := 418) (1) xD_160 rfl rfl rfl rfl ?_
    refine y_iadd (pc' := 419) xD_160 rfl (nI_1 i) rfl ?_
    refine l_ald (pc' := 420) (i + 1) xD_160 rfl (by omega) (by omega) rfl rfl ?_
    refine y_loc (pc' := 421) xD_160 rfl rfl rfl rfl ?_
    refine y_loc (pc' := 422) xD_160 rfl rfl rfl rfl ?_
    refine y_ci (pc' := 423) (2) xD_160 rfl rfl rfl rfl ?_
    refine y_iadd (pc' := 424) xD_160 rfl (nI_add i 2) rfl ?_
    refine l_ald (pc' := 425) (i + 2) xD_160 rfl (by omega) (by omega) rfl rfl ?_
    refine y_loc (pc' := 426) xD_160 rfl rfl rfl rfl ?_
    refine y_loc (pc' := 427) xD_160 rfl rfl rfl rfl ?_
    refine y_ci (pc' := 428) (3) xD_160 rfl rfl rfl rfl ?_
    refine y_iadd (pc' := 429) xD_160 rfl (nI_add i 3) rfl ?_
    refine l_ald (pc' := 430) (i + 3) xD_160 rfl (by omega) (by omega) rfl rfl ?_
    refine y_callV xD_160 rfl rfl rfl rfl (by first | rfl | assumption) rfl rfl rfl rfl ((p_step (d := 0) hI).deep (by decide)) (fun v h' hq => ?_)
    obtain ⟨⟨r, rfl⟩, I1, J1, R1, rfl, hm⟩ := hq
    refine y_loc (pc' := 434) xD_160 rfl rfl rfl rfl ?_
    refine y_loc (pc' := 435) xD_160 rfl rfl rfl rfl ?_
    refine y_loc (pc' := 436) xD_160 rfl rfl rfl rfl ?_
    refine y_ci (pc' := 437) (1) xD_160 rfl rfl rfl rfl ?_
    refine y_iadd (pc' := 438) xD_160 rfl (nI_1 i) rfl ?_
    refine l_ald (pc' := 439) (i + 1) xD_160 rfl (by omega) (by omega) rfl rfl ?_
    refine y_loc (pc' := 440) xD_160 rfl rfl rfl rfl ?_
    refine y_loc (pc' := 441) xD_160 rfl rfl rfl rfl ?_
    refine y_ci (pc' := 442) (2) xD_160 rfl rfl rfl rfl ?_
    refine y_iadd (pc' := 443) xD_160 rfl (nI_add i 2) rfl ?_
    refine l_ald (pc' := 444) (i + 2) xD_160 rfl (by omega) (by omega) rfl rfl ?_
    refine y_loc (pc' := 445) xD_160 rfl rfl rfl rfl ?_
    refine y_loc (pc' := 446) xD_160 rfl rfl rfl rfl ?_
    refine y_ci (pc' := 447) (3) xD_160 rfl rfl rfl rfl ?_
    refine y_iadd (pc' := 448) xD_160 rfl (nI_add i 3) rfl ?_
    refine l_ald (pc' := 449) (i + 3) xD_160 rfl (by omega) (by omega) rfl rfl ?_
    refine y_callV xD_160 rfl rfl rfl rfl (by first | rfl | assumption) rfl rfl rfl rfl (hm) (fun v h' hq => ?_)
    obtain ⟨rfl, I2, J2, R2, rfl, hI2⟩ := hq
    refine y_iceq (pt := 575) (pf := 455) xD_160 rfl rfl rfl (fun hc => ?_) (fun hc => ?_)
    · skip
      exact nx I2 J2 R2 hI2
    · exact absurd rfl hc
  have c13 : XP S 11 160 457 [some (.ref 0), some (.ref 1), some (.ref 261), some (.int (nI i))] [] (hh I J R) LQ := by
    refine y_loc (pc' := 458) xD_160 rfl rfl rfl rfl ?_
    refine y_loc (pc' := 459) xD_160 rfl rfl rfl rfl ?_
    refine y_loc (pc' := 460) xD_160 rfl rfl rfl rfl ?_
    refine y_ci (pc' := 461) (1) xD_160 rfl rfl rfl rfl ?_
    refine y_iadd (pc' := 462) xD_160 rfl (nI_1 i) rfl ?_
    refine l_ald (pc' := 463) (i + 1) xD_160 rfl (by omega) (by omega) rfl rfl ?_
    refine y_callV xD_160 rfl rfl rfl rfl (by first | rfl | assumption) rfl rfl rfl rfl ((p_covers (d := 0) hI).deep (by decide)) (fun v h' hq => ?_)
    obtain ⟨⟨r, rfl⟩, I1, J1, R1, rfl, hm⟩ := hq
    refine y_loc (pc' := 467) xD_160 rfl rfl rfl rfl ?_
    refine y_loc (pc' := 468) xD_160 rfl rfl rfl rfl ?_
    refine y_loc (pc' := 469) xD_160 rfl rfl rfl rfl ?_
    refine y_ci (pc' := 470) (1) xD_160 rfl rfl rfl rfl ?_
    refine y_iadd (pc' := 471) xD_160 rfl (nI_1 i) rfl ?_
    refine l_ald (pc' := 472) (i + 1) xD_160 rfl (by omega) (by omega) rfl rfl ?_
    refine y_callV xD_160 rfl rfl rfl rfl (by first | rfl | assumption) rfl rfl rfl rfl (hm) (fun v h' hq => ?_)
    obtain ⟨rfl, I2, J2, R2, rfl, hI2⟩ := hq
    refine y_iceq (pt := 575) (pf := 478) xD_160 rfl rfl rfl (fun hc => ?_) (fun hc => ?_)
    · skip
      exact nx I2 J2 R2 hI2
    · exact absurd rfl hc
  have c14 : XP S 11 160 480 [some (.ref 0), some (.ref 1), some (.ref 261), some (.int (nI i))] [] (hh I J R) LQ := by
    refine y_loc (pc' := 481) xD_160 rfl rfl rfl rfl ?_
    refine y_loc (pc' := 482) xD_160 rfl rfl rfl rfl ?_
    refine y_loc (pc' := 483) xD_160 rfl rfl rfl rfl ?_
    refine y_ci (pc' := 484) (1) xD_160 rfl rfl rfl rfl ?_
    refine y_iadd (pc' := 485) xD_160 rfl (nI_1 i) rfl ?_
    refine l_ald (pc' := 486) (i + 1) xD_160 rfl (by omega) (by omega) rfl rfl ?_
    refine y_loc (pc' := 487) xD_160 rfl rfl rfl rfl ?_
    refine y_loc (pc' := 488) xD_160 rfl rfl rfl rfl ?_
    refine y_ci (pc' := 489) (2) xD_160 rfl rfl rfl rfl ?_
    refine y_iadd (pc' := 490) xD_160 rfl (nI_add i 2) rfl ?_
    refine l_ald (pc' := 491) (i + 2) xD_160 rfl (by omega) (by omega) rfl rfl ?_
    refine y_callV xD_160 rfl rfl rfl rfl (by first | rfl | assumption) rfl rfl rfl rfl ((p_fitness (d := 0) hI).deep (by decide)) (fun v h' hq => ?_)
    obtain ⟨⟨r, rfl⟩, I1, J1, R1, rfl, hm⟩ := hq
    refine y_loc (pc' := 495) xD_160 rfl rfl rfl rfl ?_
    refine y_loc (pc' := 496) xD_160 rfl rfl rfl rfl ?_
    refine y_loc (pc' := 497) xD_160 rfl rfl rfl rfl ?_
    refine y_ci (pc' := 498) (1) xD_160 rfl rfl rfl rfl ?_
    refine y_iadd (pc' := 499) xD_160 rfl (nI_1 i) rfl ?_
    refine l_ald (pc' := 500) (i + 1) xD_160 rfl (by omega) (by omega) rfl rfl ?_
    refine y_loc (pc' := 501) xD_160 rfl rfl rfl rfl ?_
    refine y_loc (pc' := 502) xD_160 rfl rfl rfl rfl ?_
    refine y_ci (pc' := 503) (2) xD_160 rfl rfl rfl rfl ?_
    refine y_iadd (pc' := 504) xD_160 rfl (nI_add i 2) rfl ?_
    refine l_ald (pc' := 505) (i + 2) xD_160 rfl (by omega) (by omega) rfl rfl ?_
    refine y_callV xD_160 rfl rfl rfl rfl (by first | rfl | assumption) rfl rfl rfl rfl (hm) (fun v h' hq => ?_)
    obtain ⟨rfl, I2, J2, R2, rfl, hI2⟩ := hq
    refine y_op (pc' := 509) xD_160 rfl rfl rfl rfl ?_
    refine y_ifeq (pt := 575) (pf := 512) xD_160 rfl rfl rfl (fun hc => ?_) (fun hc => ?_)
    · skip
      exact nx I2 J2 R2 hI2
    · exact absurd (lg_self _) hc
  have c15 : XP S 11 160 514 [some (.ref 0), some (.ref 1), some (.ref 261), some (.int (nI i))] [] (hh I J R) LQ := by
    refine y_loc (pc' := 515) xD_160 rfl rfl rfl rfl ?_
    refine y_loc (pc' := 516) xD_160 rfl rfl rfl rfl ?_
    refine y_loc (pc' := 517) xD_160 rfl rfl rfl rfl ?_
    refine y_ci (pc' := 518) (1) xD_160 rfl rfl rfl rfl ?_
    refine y_iadd (pc' := 519) xD_160 rfl (nI_1 i) rfl ?_
    refine l_ald (pc' := 520) (i + 1) xD_160 rfl (by omega) (by omega) rfl rfl ?_
    refine y_loc (pc' := 521) xD_160 rfl rfl rfl rfl ?_
    refine y_loc (pc' := 522) xD_160 rfl rfl rfl rfl ?_
    refine y_ci (pc' := 523) (2) xD_160 rfl rfl rfl rfl ?_
    refine y_iadd (pc' := 524) xD_160 rfl (nI_add i 2) rfl ?_
    refine l_ald (pc' := 525) (i + 2) xD_160 rfl (by omega) (by omega) rfl rfl ?_
    refine y_callV xD_160 rfl rfl rfl rfl (by first | rfl | assumption) rfl rfl rfl rfl ((p_result (d := 0) hI).deep (by decide)) (fun v h' hq => ?_)
    obtain ⟨⟨r, rfl⟩, I1, J1, R1, rfl, hm⟩ := hq
    refine y_loc (pc' := 529) xD_160 rfl rfl rfl rfl ?_
    refine y_loc (pc' := 530) xD_160 rfl rfl rfl rfl ?_
    refine y_loc (pc' := 531) xD_160 rfl rfl rfl rfl ?_
    refine y_ci (pc' := 532) (1) xD_160 rfl rfl rfl rfl ?_
    refine y_iadd (pc' := 533) xD_160 rfl (nI_1 i) rfl ?_
    refine l_ald (pc' := 534) (i + 1) xD_160 rfl (by omega) (by omega) rfl rfl ?_
    refine y_loc (pc' := 535) xD_160 rfl rfl rfl rfl ?_
    refine y_loc (pc' := 536) xD_160 rfl rfl rfl rfl ?_
    refine y_ci (pc' := 537) (2) xD_160 rfl rfl rfl rfl ?_
    refine y_iadd (pc' := 538) xD_160 rfl (nI_add i 2) rfl ?_
    refine l_ald (pc' := 539) (i + 2) xD_160 rfl (by omega) (by omega) rfl rfl ?_
    refine y_callV xD_160 rfl rfl rfl rfl (by first | rfl | assumption) rfl rfl rfl rfl (hm) (fun v h' hq => ?_)
    obtain ⟨rfl, I2, J2, R2, rfl, hI2⟩ := hq
    refine y_op (pc' := 543) xD_160 rfl rfl rfl rfl ?_
    refine y_ifeq (pt := 575) (pf := 546) xD_160 rfl rfl rfl (fun hc => ?_) (fun hc => ?_)
    · skip
      exact nx I2 J2 R2 hI2
    · exact absurd (lg_self _) hc
  have c16 : XP S 11 160 548 [some (.ref 0), some (.ref 1), some (.ref 261), some (.int (nI i))] [] (hh I J R) LQ := by
    refine y_loc (pc' := 549) xD_160 rfl rfl rfl rfl ?_
    refine y_callV xD_160 rfl rfl rfl rfl (by first | rfl | assumption) rfl rfl rfl rfl ((p_runs (d := 0) hI).deep (by decide)) (fun v h' hq => ?_)
    obtain ⟨⟨r, rfl⟩, I1, J1, R1, rfl, hm⟩ := hq
    refine y_loc (pc' := 553) xD_160 rfl rfl rfl rfl ?_
    refine y_callV xD_160 rfl rfl rfl rfl (by first | rfl | assumption) rfl rfl rfl rfl (hm) (fun v h' hq => ?_)
    obtain ⟨rfl, I2, J2, R2, rfl, hI2⟩ := hq
    refine y_iceq (pt := 575) (pf := 559) xD_160 rfl rfl rfl (fun hc => ?_) (fun hc => ?_)
    · skip
      exact nx I2 J2 R2 hI2
    · exact absurd rfl hc
  have c17 : XP S 11 160 561 [some (.ref 0), some (.ref 1), some (.ref 261), some (.int (nI i))] [] (hh I J R) LQ := by
    refine y_loc (pc' := 562) xD_160 rfl rfl rfl rfl ?_
    refine y_callV xD_160 rfl rfl rfl rfl (by first | rfl | assumption) rfl rfl rfl rfl ((p_state (d := 0) hI).deep (by decide)) (fun v h' hq => ?_)
    obtain ⟨⟨r, rfl⟩, I1, J1, R1, rfl, hm⟩ := hq
    refine y_loc (pc' := 566) xD_160 rfl rfl rfl rfl ?_
    refine y_callV xD_160 rfl rfl rfl rfl (by first | rfl | assumption) rfl rfl rfl rfl (hm) (fun v h' hq => ?_)
    obtain ⟨rfl, I2, J2, R2, rfl, hI2⟩ := hq
    refine y_op (pc' := 570) xD_160 rfl rfl rfl rfl ?_
    refine y_ifeq (pt := 575) (pf := 573) xD_160 rfl rfl rfl (fun hc => ?_) (fun hc => ?_)
    · skip
      exact nx I2 J2 R2 hI2
    · exact absurd (lg_self _) hc
  refine y_loc (pc' := 38) xD_160 rfl rfl rfl rfl ?_
  refine y_loc (pc' := 39) xD_160 rfl rfl rfl rfl ?_
  refine l_ald (pc' := 40) i xD_160 rfl (by omega) (by omega) rfl rfl ?_
  refine y_ci (pc' := 42) (31) xD_160 rfl rfl rfl rfl ?_
  refine y_op (pc' := 43) xD_160 rfl rfl rfl rfl ?_
  obtain ⟨v, ev⟩ : ∃ v, v = S.2 i &&& 31 := ⟨_, rfl⟩
  by_cases hr : 0 ≤ v ∧ v < 18
  · obtain ⟨t, -, ht, e⟩ := i32_range (a := 0) (b := 18) (by decide) hr.1 hr.2 (by decide)
    rw [e] at ev
    have jm : ∀ q, xjmp (Instr.tableswitch 532 0 17 #[85, 148, 161, 184, 217, 270, 283, 296, 309, 322, 335, 348, 371, 414, 437, 471, 505, 518]) 85 43 [.int (nI t)] = some (q, []) → XP S 11 160 q [some (.ref 0), some (.ref 1), some (.ref 261), some (.int (nI i))] [] (hh I J R) LQ → XP S 11 160 43 [some (.ref 0), some (.ref 1), some (.ref 261), some (.int (nI i))] [.int (S.2 i &&& 31)] (hh I J R) LQ := fun q hq K => by
      rw [← ev]
      exact y_jmp xD_160 rfl hq K
    rcases (show t = 0 ∨ t = 1 ∨ t = 2 ∨ t = 3 ∨ t = 4 ∨ t = 5 ∨ t = 6 ∨ t = 7 ∨ t = 8 ∨ t = 9 ∨ t = 10 ∨ t = 11 ∨ t = 12 ∨ t = 13 ∨ t = 14 ∨ t = 15 ∨ t = 16 ∨ t = 17 by omega) with rfl | rfl | rfl | rfl | rfl | rfl | rfl | rfl | rfl | rfl | rfl | rfl | rfl | rfl | rfl | rfl | rfl | rfl
    · exact jm _ rfl c0
    · exact jm _ rfl c1
    · exact jm _ rfl c2
    · exact jm _ rfl c3
    · exact jm _ rfl c4
    · exact jm _ rfl c5
    · exact jm _ rfl c6
    · exact jm _ rfl c7
    · exact jm _ rfl c8
    · exact jm _ rfl c9
    · exact jm _ rfl c10
    · exact jm _ rfl c11
    · exact jm _ rfl c12
    · exact jm _ rfl c13
    · exact jm _ rfl c14
    · exact jm _ rfl c15
    · exact jm _ rfl c16
    · exact jm _ rfl c17
  · have hc : v.toInt < (0 : Int) ∨ (17 : Int) < v.toInt := by
      by_cases q : v.toInt < (0 : Int)
      · exact Or.inl q
      · refine Or.inr ?_
        have : ¬ (v < 18) := fun t => hr ⟨by rw [Int32.le_iff_toInt_le]; show (0 : Int) ≤ _; omega, t⟩
        rw [Int32.lt_iff_toInt_lt] at this
        have : ¬ v.toInt < (18 : Int) := this
        omega
    rw [ev] at hc
    exact y_jmp (pc' := 575) xD_160 rfl (xjtab_d hc rfl) (nx I J R hI)
theorem s_law (hN : S.1 ≤ 3073) : XP S 11 160 0 (xent [.ref 0] 4) [] xh0 LQ := by
  rw [gh_0]
  have hJ : ∀ x i : Nat, (fun _ _ => (0 : Int64) : Nat → Nat → Int64) x i = 0 := fun _ _ => rfl
  refine g_new (pc' := 3) xD_160 rfl rfl (by first | decide | omega) (by first | rfl | assumption) (fun _ => rfl) rfl ?_
  refine y_op (pc' := 4) xD_160 rfl rfl rfl rfl ?_
  refine y_loc (pc' := 5) xD_160 rfl rfl rfl rfl ?_
  refine y_ci (pc' := 6) (0) xD_160 rfl rfl rfl rfl ?_
  refine y_callS xD_160 rfl rfl rfl rfl rfl rfl rfl rfl (s_cell (by omega)) (fun v h' hq => ?_)
  obtain ⟨rfl, rfl⟩ := hq
  refine y_callI xD_160 rfl rfl rfl rfl rfl rfl rfl rfl (s_class0 (d := 6) hJ) (fun v h' hq => ?_)
  obtain ⟨rfl, R1, rfl, cf⟩ := hq
  obtain ⟨x0, ex⟩ : ∃ x : Int32, x = if 0 < S.1 then S.2 0 else 0 := ⟨_, rfl⟩
  rw [← ex]
  have hJ' : ∀ y, 18 < y → ∀ i, xu (fun _ _ => (0 : Int64)) 18 2 (sd x0) y i = 0 := fun y hy i => by rw [xu_ne (by omega)]
  refine y_loc (pc' := 13) xD_160 rfl rfl rfl rfl ?_
  refine g_new (pc' := 16) xD_160 rfl rfl (by first | decide | omega) (by first | rfl | assumption) (hJ' _ (by decide)) rfl ?_
  refine y_op (pc' := 17) xD_160 rfl rfl rfl rfl ?_
  refine y_loc (pc' := 18) xD_160 rfl rfl rfl rfl ?_
  refine y_ci (pc' := 19) (0) xD_160 rfl rfl rfl rfl ?_
  refine y_callS xD_160 rfl rfl rfl rfl rfl rfl rfl rfl (s_cell (by omega)) (fun v h' hq => ?_)
  obtain ⟨rfl, rfl⟩ := hq
  rw [← ex]
  refine y_callI xD_160 rfl rfl rfl rfl rfl rfl rfl rfl (s_model0 (d := 9) (fun x hx => hJ' x (by omega))) (fun v h' hq => ?_)
  obtain ⟨rfl, R2, rfl, mf, f2⟩ := hq
  rw [gh_end]
  refine y_loc (pc' := 26) xD_160 rfl rfl rfl rfl ?_
  refine y_ci (pc' := 27) (1) xD_160 rfl rfl rfl rfl ?_
  refine y_loc (pc' := 28) xD_160 rfl rfl rfl rfl ?_
  exact s_loop hN 600 1 _ _ _ (by omega) (by decide) (inv_0 (cf.fr (fun x hx => by rw [f2 x hx, xrow_ne (by omega)])) mf)
end LW
theorem xlaw' : XLaw := fun N xs hN => by
  obtain ⟨n, v, h', e, rfl, I, J, R, rfl⟩ := s_law (S := (N, xs)) hN _ (xle.rf _)
  exact ⟨n, _, e, show 278 ≤ 600001 by decide, show 5884 ≤ 7302250 by decide⟩

