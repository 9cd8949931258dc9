/-! A slot changed. -/
theorem isS_c {I I' : Nat → Nat → Int32} (h4 : I' 264 = I 264) (h5 : I' 265 = I 265) : isS I' = isS I := by
  funext q
  unfold isS lnM cdM
  rw [h4, h5]
theorem scnt_c {I I' : Nat → Nat → Int32} (h4 : I' 264 = I 264) (h5 : I' 265 = I 265) : ∀ n, scnt I' n = scnt I n
  | 0 => rfl
  | n + 1 => by
    simp only [scnt]
    rw [isS_c h4 h5, scnt_c h4 h5 n]
theorem PL_c {I I' : Nat → Nat → Int32} (h5 : I' 265 = I 265) (h : PL I) : PL I' := by
  intro m hm
  have := h m hm
  unfold lnM at this ⊢
  rw [h5]
  exact this
section MC
variable {S : XS} {d s : Nat} {I : Nat → Nat → Int32} {J : Nat → Nat → Int64} {R : Nat → Nat → Option Nat}
theorem s_mchstep (hR : RF R) (hs : s < 67) (hL : PL I) (cc : Nat) (hcc : cc = scnt I 20) (con : Nat → Int32) (hcon : ∀ q, q < 20 → isS I q → con (scnt I q) = cdM I (q / 10) (q % 10) 3) (p : Nat) (p6 : p < 6) {xs : Int32} (e0 : xs = nI s) {q2 q3 q4 q5 q6 q7 : Option Value} :
    XP S (d + 4) 143 86 [some (.ref 261), some (.int xs), q2, q3, q4, q5, q6, q7] [.int (nI p)] (hh I J R) (fun v h' => v = none ∧ ∃ g, (∀ i q, q < 4 → g (4 * i + q) = csG cc con (slM I s) p (J 261 14) i q) ∧ h' = hh (xrow I 262 (sl1 (I 262) s g)) (xu J 261 14 (csB (slM I s) p (J 261 14))) R) := by
  have w3 := dv_lt (dn (J 261 14)) (n := 3) (by decide)
  have ix : xs * 24 + nI p * 4 + 1 = nI (24 * s + (4 * p + 1)) := by rw [e0]; show nI s * nI 24 + nI p * nI 4 + nI 1 = _; rw [pk_mul, pk_mul, nI_add, nI_add]; congr 1; omega
  have e : xrow I 262 (sl1 (I 262) s (slM I s)) = I := by
    refine Eq.trans ?_ (xrow_id (f := I) (a := 262))
    congr 1
    funext i
    unfold sl1 slM
    by_cases h : i / 24 = s
    · rw [if_pos h]; congr 1; omega
    · rw [if_neg h]
  refine y_loc (pc' := 88) xD_143 rfl rfl rfl rfl ?_
  refine y_loc (pc' := 89) xD_143 rfl rfl rfl rfl ?_
  refine y_ci (pc' := 90) (3) xD_143 rfl rfl rfl rfl ?_
  refine y_callV xD_143 rfl rfl rfl rfl (by first | rfl | assumption) rfl rfl rfl rfl (s_mdraw 3 (by decide) (by decide) rfl) (fun v h' hq => ?_)
  obtain ⟨rfl, rfl⟩ := hq
  refine y_loc (pc' := 95) xD_143 rfl rfl rfl rfl ?_
  refine y_loc (pc' := 96) xD_143 rfl rfl rfl rfl ?_
  refine y_loc (pc' := 97) xD_143 rfl rfl rfl rfl ?_
  refine y_loc (pc' := 99) xD_143 rfl rfl rfl rfl ?_
  refine y_ci (pc' := 100) (0) xD_143 rfl rfl rfl rfl ?_
  refine y_callV xD_143 rfl rfl rfl rfl (by first | rfl | assumption) rfl rfl rfl rfl (s_mpart hR hs p 0 p6 (by decide) e0 rfl rfl) (fun v h' hq => ?_)
  obtain ⟨rfl, rfl⟩ := hq
  refine y_loc (pc' := 105) xD_143 rfl rfl rfl rfl ?_
  refine y_loc (pc' := 107) xD_143 rfl rfl rfl rfl ?_
  refine y_ifne (pt := 133) (pf := 110) xD_143 rfl rfl rfl (fun h107 => ?_) (fun h107 => ?_)
  · skip
    refine y_loc (pc' := 135) xD_143 rfl rfl rfl rfl ?_
    refine y_ci (pc' := 136) (1) xD_143 rfl rfl rfl rfl ?_
    refine y_icne (pt := 169) (pf := 139) xD_143 rfl rfl rfl (fun h136 => ?_) (fun h136 => ?_)
    · skip
      refine y_loc (pc' := 171) xD_143 rfl rfl rfl rfl ?_
      refine y_ci (pc' := 172) (2) xD_143 rfl rfl rfl rfl ?_
      refine y_icge (pt := 191) (pf := 175) xD_143 rfl rfl rfl (fun h172 => ?_) (fun h172 => ?_)
      · skip
        refine y_retV xD_143 rfl rfl ?_
        first
          | (have v0 : dv (dn (J 261 14)) 3 = 0 := (nI_z (by omega)).mp h107
             refine ⟨rfl, upd (slM I s) (4 * p + 1) (dnum (dn (J 261 14)) cc con), fun i q hq => ?_, ?_⟩
             · unfold csG
               rw [upd4 (p := 1) (by decide) hq, if_pos v0]
             · unfold csB
               rw [if_pos v0]
               rfl)
          | (have v0 : ¬ dv (dn (J 261 14)) 3 = 0 := fun q => h107 ((nI_z (by omega)).mpr q)
             have v1 : dv (dn (J 261 14)) 3 = 1 := (nI_eq (b := 1) (by omega) (by decide)).mp h136
             refine ⟨rfl, upd (slM I s) (4 * p + 1) (slM I s (4 * p + 1) + (nI (dv (dn (dn (J 261 14))) 9) - 4)), fun i q hq => ?_, ?_⟩
             · unfold csG
               rw [upd4 (p := 1) (by decide) hq, if_neg v0, if_pos v1]
             · unfold csB
               rw [if_neg v0, if_pos v1]
               rfl)
          | (have v0 : ¬ dv (dn (J 261 14)) 3 = 0 := fun q => h107 ((nI_z (by omega)).mpr q)
             have v1 : ¬ dv (dn (J 261 14)) 3 = 1 := fun q => h136 (by rw [q]; rfl)
             have v2 : slM I s (4 * p) < 2 := Int32.not_le.mp h172
             refine ⟨rfl, w2 (slM I s) (4 * p) (dnum (dn (J 261 14)) cc con) (-1), fun i q hq => ?_, ?_⟩
             · unfold csG w2
               rw [upd4 (p := 3) (by decide) hq, upd4 (p := 2) (by decide) hq, if_neg v0, if_neg v1, if_pos v2]
               by_cases c3 : i = p ∧ q = 3
               · rw [if_pos c3, if_neg (show ¬ (i = p ∧ q = 2) by omega), if_pos c3]
               · rw [if_neg c3, if_neg c3]
             · unfold csB
               rw [if_neg v0, if_neg v1, if_pos v2]
               rfl)
          | (have v0 : ¬ dv (dn (J 261 14)) 3 = 0 := fun q => h107 ((nI_z (by omega)).mpr q)
             have v1 : ¬ dv (dn (J 261 14)) 3 = 1 := fun q => h136 (by rw [q]; rfl)
             have v2 : ¬ slM I s (4 * p) < 2 := Int32.not_lt.mpr h172
             refine ⟨rfl, slM I s, fun i q hq => ?_, ?_⟩
             · unfold csG
               rw [if_neg v0, if_neg v1, if_neg v2]
             · unfold csB
               rw [if_neg v0, if_neg v1, if_neg v2, e])
      · skip
        refine y_loc (pc' := 176) xD_143 rfl rfl rfl rfl ?_
        refine y_callV xD_143 rfl rfl rfl rfl (by first | rfl | assumption) rfl rfl rfl rfl (s_mdrawNumber (d := d + 1) hR hL cc hcc con hcon) (fun v h' hq => ?_)
        obtain ⟨rfl, rfl⟩ := hq
        rw [xu_ii, xu_xu]
        refine y_loc (pc' := 181) xD_143 rfl rfl rfl rfl ?_
        refine y_loc (pc' := 182) xD_143 rfl rfl rfl rfl ?_
        refine y_loc (pc' := 183) xD_143 rfl rfl rfl rfl ?_
        refine y_loc (pc' := 185) xD_143 rfl rfl rfl rfl ?_
        refine y_loc (pc' := 187) xD_143 rfl rfl rfl rfl ?_
        refine y_ci (pc' := 188) (-1) xD_143 rfl rfl rfl rfl ?_
        refine y_callV xD_143 rfl rfl rfl rfl (by first | rfl | assumption) rfl rfl rfl rfl (s_msecond hR hs p p6 e0 rfl) (fun v h' hq => ?_)
        obtain ⟨rfl, rfl⟩ := hq
        rw [w2_sl1 p6, if_pos (show (-1 : Int32) < 0 by decide)]
        refine y_retV xD_143 rfl rfl ?_
        first
          | (have v0 : dv (dn (J 261 14)) 3 = 0 := (nI_z (by omega)).mp h107
             refine ⟨rfl, upd (slM I s) (4 * p + 1) (dnum (dn (J 261 14)) cc con), fun i q hq => ?_, ?_⟩
             · unfold csG
               rw [upd4 (p := 1) (by decide) hq, if_pos v0]
             · unfold csB
               rw [if_pos v0]
               rfl)
          | (have v0 : ¬ dv (dn (J 261 14)) 3 = 0 := fun q => h107 ((nI_z (by omega)).mpr q)
             have v1 : dv (dn (J 261 14)) 3 = 1 := (nI_eq (b := 1) (by omega) (by decide)).mp h136
             refine ⟨rfl, upd (slM I s) (4 * p + 1) (slM I s (4 * p + 1) + (nI (dv (dn (dn (J 261 14))) 9) - 4)), fun i q hq => ?_, ?_⟩
             · unfold csG
               rw [upd4 (p := 1) (by decide) hq, if_neg v0, if_pos v1]
             · unfold csB
               rw [if_neg v0, if_pos v1]
               rfl)
          | (have v0 : ¬ dv (dn (J 261 14)) 3 = 0 := fun q => h107 ((nI_z (by omega)).mpr q)
             have v1 : ¬ dv (dn (J 261 14)) 3 = 1 := fun q => h136 (by rw [q]; rfl)
             have v2 : slM I s (4 * p) < 2 := Int32.not_le.mp h172
             refine ⟨rfl, w2 (slM I s) (4 * p) (dnum (dn (J 261 14)) cc con) (-1), fun i q hq => ?_, ?_⟩
             · unfold csG w2
               rw [upd4 (p := 3) (by decide) hq, upd4 (p := 2) (by decide) hq, if_neg v0, if_neg v1, if_pos v2]
               by_cases c3 : i = p ∧ q = 3
               · rw [if_pos c3, if_neg (show ¬ (i = p ∧ q = 2) by omega), if_pos c3]
               · rw [if_neg c3, if_neg c3]
             · unfold csB
               rw [if_neg v0, if_neg v1, if_pos v2]
               rfl)
          | (have v0 : ¬ dv (dn (J 261 14)) 3 = 0 := fun q => h107 ((nI_z (by omega)).mpr q)
             have v1 : ¬ dv (dn (J 261 14)) 3 = 1 := fun q => h136 (by rw [q]; rfl)
             have v2 : ¬ slM I s (4 * p) < 2 := Int32.not_lt.mpr h172
             refine ⟨rfl, slM I s, fun i q hq => ?_, ?_⟩
             · unfold csG
               rw [if_neg v0, if_neg v1, if_neg v2]
             · unfold csB
               rw [if_neg v0, if_neg v1, if_neg v2, e])
    · skip
      refine y_loc (pc' := 140) xD_143 rfl rfl rfl rfl ?_
      first | refine m_getR (pc' := 143) xD_143 rfl rfl rfl rfl (hR.1 _ _ _ rfl) rfl ?_ | refine m_getR (pc' := 143) xD_143 rfl rfl (by first | rfl | assumption) rfl (by assumption) rfl ?_
      refine y_loc (pc' := 144) xD_143 rfl rfl rfl rfl ?_
      refine y_ci (pc' := 146) (24) xD_143 rfl rfl rfl rfl ?_
      refine y_op (pc' := 147) xD_143 rfl rfl rfl rfl ?_
      refine y_loc (pc' := 149) xD_143 rfl rfl rfl rfl ?_
      refine y_ci (pc' := 150) (4) xD_143 rfl rfl rfl rfl ?_
      refine y_op (pc' := 151) xD_143 rfl rfl rfl rfl ?_
      refine y_op (pc' := 152) xD_143 rfl rfl rfl rfl ?_
      refine y_ci (pc' := 153) (1) xD_143 rfl rfl rfl rfl ?_
      refine y_op (pc' := 154) xD_143 rfl rfl rfl rfl ?_
      refine y_op (pc' := 155) xD_143 rfl rfl rfl rfl ?_
      refine m_iald (pc' := 156) (24 * s + (4 * p + 1)) xD_143 rfl (by first | rfl | assumption) (by first | assumption | omega) (by first | decide | assumption) (by first | decide | omega) ix rfl ?_
      refine y_loc (pc' := 157) xD_143 rfl rfl rfl rfl ?_
      refine y_ci (pc' := 159) (9) xD_143 rfl rfl rfl rfl ?_
      refine y_callV xD_143 rfl rfl rfl rfl (by first | rfl | assumption) rfl rfl rfl rfl (s_mdraw 9 (by decide) (by decide) rfl) (fun v h' hq => ?_)
      obtain ⟨rfl, rfl⟩ := hq
      rw [xu_ii, xu_xu]
      refine y_ci (pc' := 163) (4) xD_143 rfl rfl rfl rfl ?_
      refine y_op (pc' := 164) xD_143 rfl rfl rfl rfl ?_
      refine y_op (pc' := 165) xD_143 rfl rfl rfl rfl ?_
      refine m_iast (pc' := 166) (24 * s + (4 * p + 1)) xD_143 rfl (by first | rfl | assumption) (by first | assumption | omega) (by first | decide | assumption) ix rfl ?_
      rw [xu_rowI, sl1_upd (by omega)]
      refine y_goto (pc' := 191) xD_143 rfl rfl ?_
      refine y_retV xD_143 rfl rfl ?_
      first
        | (have v0 : dv (dn (J 261 14)) 3 = 0 := (nI_z (by omega)).mp h107
           refine ⟨rfl, upd (slM I s) (4 * p + 1) (dnum (dn (J 261 14)) cc con), fun i q hq => ?_, ?_⟩
           · unfold csG
             rw [upd4 (p := 1) (by decide) hq, if_pos v0]
           · unfold csB
             rw [if_pos v0]
             rfl)
        | (have v0 : ¬ dv (dn (J 261 14)) 3 = 0 := fun q => h107 ((nI_z (by omega)).mpr q)
           have v1 : dv (dn (J 261 14)) 3 = 1 := (nI_eq (b := 1) (by omega) (by decide)).mp h136
           refine ⟨rfl, upd (slM I s) (4 * p + 1) (slM I s (4 * p + 1) + (nI (dv (dn (dn (J 261 14))) 9) - 4)), fun i q hq => ?_, ?_⟩
           · unfold csG
             rw [upd4 (p := 1) (by decide) hq, if_neg v0, if_pos v1]
           · unfold csB
             rw [if_neg v0, if_pos v1]
             rfl)
        | (have v0 : ¬ dv (dn (J 261 14)) 3 = 0 := fun q => h107 ((nI_z (by omega)).mpr q)
           have v1 : ¬ dv (dn (J 261 14)) 3 = 1 := fun q => h136 (by rw [q]; rfl)
           have v2 : slM I s (4 * p) < 2 := Int32.not_le.mp h172
           refine ⟨rfl, w2 (slM I s) (4 * p) (dnum (dn (J 261 14)) cc con) (-1), fun i q hq => ?_, ?_⟩
           · unfold csG w2
             rw [upd4 (p := 3) (by decide) hq, upd4 (p := 2) (by decide) hq, if_neg v0, if_neg v1, if_pos v2]
             by_cases c3 : i = p ∧ q = 3
             · rw [if_pos c3, if_neg (show ¬ (i = p ∧ q = 2) by omega), if_pos c3]
             · rw [if_neg c3, if_neg c3]
           · unfold csB
             rw [if_neg v0, if_neg v1, if_pos v2]
             rfl)
        | (have v0 : ¬ dv (dn (J 261 14)) 3 = 0 := fun q => h107 ((nI_z (by omega)).mpr q)
           have v1 : ¬ dv (dn (J 261 14)) 3 = 1 := fun q => h136 (by rw [q]; rfl)
           have v2 : ¬ slM I s (4 * p) < 2 := Int32.not_lt.mpr h172
           refine ⟨rfl, slM I s, fun i q hq => ?_, ?_⟩
           · unfold csG
             rw [if_neg v0, if_neg v1, if_neg v2]
           · unfold csB
             rw [if_neg v0, if_neg v1, if_neg v2, e])
  · skip
    refine y_loc (pc' := 111) xD_143 rfl rfl rfl rfl ?_
    first | refine m_getR (pc' := 114) xD_143 rfl rfl rfl rfl (hR.1 _ _ _ rfl) rfl ?_ | refine m_getR (pc' := 114) xD_143 rfl rfl (by first | rfl | assumption) rfl (by assumption) rfl ?_
    refine y_loc (pc' := 115) xD_143 rfl rfl rfl rfl ?_
    refine y_ci (pc' := 117) (24) xD_143 rfl rfl rfl rfl ?_
    refine y_op (pc' := 118) xD_143 rfl rfl rfl rfl ?_
    refine y_loc (pc' := 120) xD_143 rfl rfl rfl rfl ?_
    refine y_ci (pc' := 121) (4) xD_143 rfl rfl rfl rfl ?_
    refine y_op (pc' := 122) xD_143 rfl rfl rfl rfl ?_
    refine y_op (pc' := 123) xD_143 rfl rfl rfl rfl ?_
    refine y_ci (pc' := 124) (1) xD_143 rfl rfl rfl rfl ?_
    refine y_op (pc' := 125) xD_143 rfl rfl rfl rfl ?_
    refine y_loc (pc' := 126) xD_143 rfl rfl rfl rfl ?_
    refine y_callV xD_143 rfl rfl rfl rfl (by first | rfl | assumption) rfl rfl rfl rfl (s_mdrawNumber (d := d + 1) hR hL cc hcc con hcon) (fun v h' hq => ?_)
    obtain ⟨rfl, rfl⟩ := hq
    rw [xu_ii, xu_xu]
    refine m_iast (pc' := 130) (24 * s + (4 * p + 1)) xD_143 rfl (by first | rfl | assumption) (by first | assumption | omega) (by first | decide | assumption) ix rfl ?_
    rw [xu_rowI, sl1_upd (by omega)]
    refine y_goto (pc' := 191) xD_143 rfl rfl ?_
    refine y_retV xD_143 rfl rfl ?_
    first
      | (have v0 : dv (dn (J 261 14)) 3 = 0 := (nI_z (by omega)).mp h107
         refine ⟨rfl, upd (slM I s) (4 * p + 1) (dnum (dn (J 261 14)) cc con), fun i q hq => ?_, ?_⟩
         · unfold csG
           rw [upd4 (p := 1) (by decide) hq, if_pos v0]
         · unfold csB
           rw [if_pos v0]
           rfl)
      | (have v0 : ¬ dv (dn (J 261 14)) 3 = 0 := fun q => h107 ((nI_z (by omega)).mpr q)
         have v1 : dv (dn (J 261 14)) 3 = 1 := (nI_eq (b := 1) (by omega) (by decide)).mp h136
         refine ⟨rfl, upd (slM I s) (4 * p + 1) (slM I s (4 * p + 1) + (nI (dv (dn (dn (J 261 14))) 9) - 4)), fun i q hq => ?_, ?_⟩
         · unfold csG
           rw [upd4 (p := 1) (by decide) hq, if_neg v0, if_pos v1]
         · unfold csB
           rw [if_neg v0, if_pos v1]
           rfl)
      | (have v0 : ¬ dv (dn (J 261 14)) 3 = 0 := fun q => h107 ((nI_z (by omega)).mpr q)
         have v1 : ¬ dv (dn (J 261 14)) 3 = 1 := fun q => h136 (by rw [q]; rfl)
         have v2 : slM I s (4 * p) < 2 := Int32.not_le.mp h172
         refine ⟨rfl, w2 (slM I s) (4 * p) (dnum (dn (J 261 14)) cc con) (-1), fun i q hq => ?_, ?_⟩
         · unfold csG w2
           rw [upd4 (p := 3) (by decide) hq, upd4 (p := 2) (by decide) hq, if_neg v0, if_neg v1, if_pos v2]
           by_cases c3 : i = p ∧ q = 3
           · rw [if_pos c3, if_neg (show ¬ (i = p ∧ q = 2) by omega), if_pos c3]
           · rw [if_neg c3, if_neg c3]
         · unfold csB
           rw [if_neg v0, if_neg v1, if_pos v2]
           rfl)
      | (have v0 : ¬ dv (dn (J 261 14)) 3 = 0 := fun q => h107 ((nI_z (by omega)).mpr q)
         have v1 : ¬ dv (dn (J 261 14)) 3 = 1 := fun q => h136 (by rw [q]; rfl)
         have v2 : ¬ slM I s (4 * p) < 2 := Int32.not_lt.mpr h172
         refine ⟨rfl, slM I s, fun i q hq => ?_, ?_⟩
         · unfold csG
           rw [if_neg v0, if_neg v1, if_neg v2]
         · unfold csB
           rw [if_neg v0, if_neg v1, if_neg v2, e])
theorem s_mchange (hR : RF R) (hs : s < 67) (hL : PL I) (cc : Nat) (hcc : cc = scnt I 20) (con : Nat → Int32) (hcon : ∀ q, q < 20 → isS I q → con (scnt I q) = cdM I (q / 10) (q % 10) 3) (n : Nat) (hn : I 263 s = nI n) (hn0 : 0 < n) (hn6 : n ≤ 6) (hV : ∀ j, j < n → VT (slM I s) j) {xs : Int32} (e0 : xs = nI s) :
    XP S (d + 4) 143 0 (xent [.ref 261, .int xs] 8) [] (hh I J R) (fun v h' => v = none ∧ ∃ g, (∀ i q, i < chN n (J 261 14) → q < 4 → g (4 * i + q) = chG cc con (slM I s) n (J 261 14) i q) ∧ h' = hh (xu (xrow I 262 (sl1 (I 262) s g)) 263 s (nI (chN n (J 261 14)))) (xu J 261 14 (chB (slM I s) n (J 261 14))) R) := by
  have h3 := dv_lt (dn (J 261 14)) (n := 3) (by decide)
  have hp := dv_lt (dn (dn (J 261 14))) (n := n) hn0
  have hp1 := dv_lt (dn (dn (J 261 14))) (n := n + 1) (by omega)
  have e : xrow I 262 (sl1 (I 262) s (slM I s)) = I := by
    refine Eq.trans ?_ (xrow_id (f := I) (a := 262))
    congr 1
    funext i
    unfold sl1 slM
    by_cases h : i / 24 = s
    · rw [if_pos h]; congr 1; omega
    · rw [if_neg h]
  have same : xu (xrow I 262 (sl1 (I 262) s (slM I s))) 263 s (nI n) = I := by rw [e, xu_same hn]
  refine y_loc (pc' := 1) xD_143 rfl rfl rfl rfl ?_
  refine y_ci (pc' := 2) (3) xD_143 rfl rfl rfl rfl ?_
  refine y_callV xD_143 rfl rfl rfl rfl (by first | rfl | assumption) rfl rfl rfl rfl (s_mdraw 3 (by decide) (by decide) rfl) (fun v h' hq => ?_)
  obtain ⟨rfl, rfl⟩ := hq
  refine y_loc (pc' := 6) xD_143 rfl rfl rfl rfl ?_
  refine y_loc (pc' := 7) xD_143 rfl rfl rfl rfl ?_
  first | refine m_getR (pc' := 10) xD_143 rfl rfl rfl rfl (hR.1 _ _ _ rfl) rfl ?_ | refine m_getR (pc' := 10) xD_143 rfl rfl (by first | rfl | assumption) rfl (by assumption) rfl ?_
  refine y_loc (pc' := 11) xD_143 rfl rfl rfl rfl ?_
  refine m_iald (pc' := 12) (s) xD_143 rfl (by first | rfl | assumption) (by first | assumption | omega) (by first | decide | assumption) (by first | decide | omega) (by first | rfl | assumption) rfl ?_
  rw [hn]
  refine y_loc (pc' := 13) xD_143 rfl rfl rfl rfl ?_
  refine y_loc (pc' := 14) xD_143 rfl rfl rfl rfl ?_
  refine y_ifne (pt := 49) (pf := 17) xD_143 rfl rfl rfl (fun h14 => ?_) (fun h14 => ?_)
  · skip
    have u0 : ¬ dv (dn (J 261 14)) 3 = 0 := fun q => h14 ((nI_z (by omega)).mpr q)
    refine y_loc (pc' := 50) xD_143 rfl rfl rfl rfl ?_
    refine y_ci (pc' := 51) (1) xD_143 rfl rfl rfl rfl ?_
    refine y_icne (pt := 76) (pf := 54) xD_143 rfl rfl rfl (fun h51 => ?_) (fun h51 => ?_)
    · skip
      have u1 : ¬ dv (dn (J 261 14)) 3 = 1 := fun q => h51 (by rw [q]; rfl)
      have hk : ∀ X : Nat → Int32, xu (xrow I 262 X) 263 s (nI n) = xrow I 262 X := fun X => xu_same (by rw [xrow_ne (by decide), hn])
      have hN : chN n (J 261 14) = n := by unfold chN; rw [if_neg u0, if_neg u1]
      have hB : chB (slM I s) n (J 261 14) = csB (slM I s) (dv (dn (dn (J 261 14))) n) (dn (dn (J 261 14))) := by unfold chB; rw [if_neg u0, if_neg u1]
      have hG : ∀ i q, chG cc con (slM I s) n (J 261 14) i q = csG cc con (slM I s) (dv (dn (dn (J 261 14))) n) (dn (dn (J 261 14))) i q := fun i q => by unfold chG; rw [if_neg u0, if_neg u1]
      have p6 : (dv (dn (dn (J 261 14))) n) < 6 := Nat.lt_of_lt_of_le hp hn6
      rw [hN, hB]
      simp only [hG]
      refine y_loc (pc' := 77) xD_143 rfl rfl rfl rfl ?_
      refine y_ci (pc' := 78) (2) xD_143 rfl rfl rfl rfl ?_
      refine y_icne (pt := 191) (pf := 81) xD_143 rfl rfl rfl (fun h78 => ?_) (fun h78 => ?_)
      · exact absurd (show nI (dv (dn (J 261 14)) 3) = 2 by rw [show dv (dn (J 261 14)) 3 = 2 by omega]; rfl) h78
      · skip
        refine y_loc (pc' := 82) xD_143 rfl rfl rfl rfl ?_
        refine y_loc (pc' := 83) xD_143 rfl rfl rfl rfl ?_
        refine y_callV xD_143 rfl rfl rfl rfl (by first | rfl | assumption) rfl rfl rfl rfl (s_mdraw n hn0 (by omega) rfl) (fun v h' hq => ?_)
        obtain ⟨rfl, rfl⟩ := hq
        rw [xu_ii, xu_xu]
        refine XP.conseq (s_mchstep (d := d) hR hs hL cc hcc con hcon _ p6 e0) (fun v h' hq => ?_)
        obtain ⟨hv, g, hg, hh'⟩ := hq
        refine ⟨hv, g, fun i q _ hq => ?_, ?_⟩
        · rw [hg i q hq, xu_ii]
        · rw [hh', xu_ii, xu_xu, hk]
    · skip
      have u1 : dv (dn (J 261 14)) 3 = 1 := (nI_eq (b := 1) (by omega) (by decide)).mp h51
      refine y_loc (pc' := 55) xD_143 rfl rfl rfl rfl ?_
      refine y_ci (pc' := 56) (1) xD_143 rfl rfl rfl rfl ?_
      refine y_icle (pt := 76) (pf := 59) xD_143 rfl rfl rfl (fun h56 => ?_) (fun h56 => ?_)
      · skip
        have n1 : ¬ 1 < n := Nat.not_lt.mpr ((nI_leI (b := 1) (by omega) (by decide)).mp h56)
        refine y_loc (pc' := 77) xD_143 rfl rfl rfl rfl ?_
        refine y_ci (pc' := 78) (2) xD_143 rfl rfl rfl rfl ?_
        refine y_icne (pt := 191) (pf := 81) xD_143 rfl rfl rfl (fun h78 => ?_) (fun h78 => ?_)
        · skip
          refine y_retV xD_143 rfl rfl ?_
          refine ⟨rfl, slM I s, fun i q _ hq => ?_, ?_⟩
          · unfold chG
            rw [if_neg u0, if_pos u1, if_neg n1]
          · unfold chB chN
            rw [if_neg u0, if_pos u1, if_neg n1, if_neg u0, if_pos u1, if_neg n1, same]
        · exact absurd (h51.symm.trans h78) (by decide)
      · skip
        have n1 : 1 < n := Nat.lt_of_not_le (fun q => h56 ((nI_leI (b := 1) (by omega) (by decide)).mpr q))
        obtain ⟨m, rfl⟩ : ∃ m, n = m + 1 := ⟨n - 1, by omega⟩
        refine y_loc (pc' := 60) xD_143 rfl rfl rfl rfl ?_
        refine y_loc (pc' := 61) xD_143 rfl rfl rfl rfl ?_
        refine y_callV xD_143 rfl rfl rfl rfl (by first | rfl | assumption) rfl rfl rfl rfl (s_mdraw (m + 1) hn0 (by omega) rfl) (fun v h' hq => ?_)
        obtain ⟨rfl, rfl⟩ := hq
        rw [xu_ii, xu_xu]
        refine y_loc (pc' := 66) xD_143 rfl rfl rfl rfl ?_
        refine y_loc (pc' := 67) xD_143 rfl rfl rfl rfl ?_
        refine y_loc (pc' := 68) xD_143 rfl rfl rfl rfl ?_
        refine y_loc (pc' := 70) xD_143 rfl rfl rfl rfl ?_
        refine y_callV xD_143 rfl rfl rfl rfl rfl rfl rfl rfl rfl (s_mtakeOut (d := d + 2) hR hs m _ hn hn6 (Nat.le_of_lt_succ hp) hV e0 rfl) (fun v h' hq => ?_)
        obtain ⟨rfl, g, hg, rfl⟩ := hq
        refine y_goto (pc' := 191) xD_143 rfl rfl ?_
        refine y_retV xD_143 rfl rfl ?_
        refine ⟨rfl, g, fun i q hi hq => ?_, ?_⟩
        · unfold chN at hi
          rw [if_neg u0, if_pos u1, if_pos n1] at hi
          unfold chG
          rw [if_neg u0, if_pos u1, if_pos n1]
          exact hg i q (by omega) hq
        · unfold chB chN
          rw [if_neg u0, if_pos u1, if_pos n1, if_neg u0, if_pos u1, if_pos n1]
          rfl
  · skip
    have u0 : dv (dn (J 261 14)) 3 = 0 := (nI_z (by omega)).mp h14
    refine y_loc (pc' := 18) xD_143 rfl rfl rfl rfl ?_
    refine y_ci (pc' := 20) (6) xD_143 rfl rfl rfl rfl ?_
    refine y_icge (pt := 49) (pf := 23) xD_143 rfl rfl rfl (fun h20 => ?_) (fun h20 => ?_)
    · skip
      have n6 : ¬ n < 6 := Nat.not_lt.mpr ((nI_leI (a := 6) (by decide) (by omega)).mp h20)
      refine y_loc (pc' := 50) xD_143 rfl rfl rfl rfl ?_
      refine y_ci (pc' := 51) (1) xD_143 rfl rfl rfl rfl ?_
      refine y_icne (pt := 76) (pf := 54) xD_143 rfl rfl rfl (fun h51 => ?_) (fun h51 => ?_)
      · skip
        refine y_loc (pc' := 77) xD_143 rfl rfl rfl rfl ?_
        refine y_ci (pc' := 78) (2) xD_143 rfl rfl rfl rfl ?_
        refine y_icne (pt := 191) (pf := 81) xD_143 rfl rfl rfl (fun h78 => ?_) (fun h78 => ?_)
        · skip
          refine y_retV xD_143 rfl rfl ?_
          refine ⟨rfl, slM I s, fun i q _ hq => ?_, ?_⟩
          · unfold chG
            rw [if_pos u0, if_neg n6]
          · unfold chB chN
            rw [if_pos u0, if_neg n6, if_pos u0, if_neg n6, same]
        · exact absurd (h14.symm.trans h78) (by decide)
      · exact absurd (h14.symm.trans h51) (by decide)
    · skip
      have n6 : n < 6 := Nat.lt_of_not_le (fun q => h20 ((nI_leI (a := 6) (by decide) (by omega)).mpr q))
      refine y_loc (pc' := 24) xD_143 rfl rfl rfl rfl ?_
      refine y_loc (pc' := 25) xD_143 rfl rfl rfl rfl ?_
      refine y_ci (pc' := 26) (1) xD_143 rfl rfl rfl rfl ?_
      refine y_iadd (pc' := 27) xD_143 rfl (nI_1 n) rfl ?_
      refine y_callV xD_143 rfl rfl rfl rfl (by first | rfl | assumption) rfl rfl rfl rfl (s_mdraw (n + 1) (by omega) (by omega) rfl) (fun v h' hq => ?_)
      obtain ⟨rfl, rfl⟩ := hq
      rw [xu_ii, xu_xu]
      refine y_loc (pc' := 32) xD_143 rfl rfl rfl rfl ?_
      refine y_loc (pc' := 33) xD_143 rfl rfl rfl rfl ?_
      refine y_loc (pc' := 34) xD_143 rfl rfl rfl rfl ?_
      refine y_loc (pc' := 36) xD_143 rfl rfl rfl rfl ?_
      refine y_callV xD_143 rfl rfl rfl rfl rfl rfl rfl rfl rfl (s_mmakeRoom (d := d + 2) hR hs n _ hn n6 (Nat.le_of_lt_succ hp1) hV e0 rfl) (fun v h' hq => ?_)
      obtain ⟨rfl, g, hg, rfl⟩ := hq
      refine y_loc (pc' := 40) xD_143 rfl rfl rfl rfl ?_
      refine y_loc (pc' := 41) xD_143 rfl rfl rfl rfl ?_
      refine y_loc (pc' := 43) xD_143 rfl rfl rfl rfl ?_
      have c4 : xu (xrow I 262 (sl1 (I 262) s g)) 263 s (nI (n + 1)) 264 = I 264 := by funext y; unfold xu; rw [if_neg (fun q => absurd q.1 (by decide)), xrow_ne (by decide)]
      have c5 : xu (xrow I 262 (sl1 (I 262) s g)) 263 s (nI (n + 1)) 265 = I 265 := by funext y; unfold xu; rw [if_neg (fun q => absurd q.1 (by decide)), xrow_ne (by decide)]
      have c2 : xu (xrow I 262 (sl1 (I 262) s g)) 263 s (nI (n + 1)) 262 = sl1 (I 262) s g := by funext y; unfold xu; rw [if_neg (fun q => absurd q.1 (by decide)), xrow_at]
      refine y_callV xD_143 rfl rfl rfl rfl rfl rfl rfl rfl rfl (s_mdrawStep (d := d) hR hs (PL_c c5 hL) cc (by rw [scnt_c c4 c5]; exact hcc) con (fun q hq hS => by rw [scnt_c c4 c5]; unfold cdM; rw [c4]; exact hcon q hq (by rw [isS_c c4 c5] at hS; exact hS)) _ (Nat.lt_of_lt_of_le hp1 (by omega)) e0 rfl) (fun v h' hq => ?_)
      obtain ⟨rfl, rfl⟩ := hq
      rw [c2, xu_ii, xu_xu, w4_sl1 (Nat.lt_of_lt_of_le hp1 (by omega)), sl1_sl1]
      refine y_goto (pc' := 191) xD_143 rfl rfl ?_
      refine y_retV xD_143 rfl rfl ?_
      refine ⟨rfl, w4 (fun q => sl1 (I 262) s g (24 * s + q)) (4 * (dv (dn (dn (J 261 14))) (n + 1))) (dK (dn (dn (J 261 14)))) (dX cc con (dn (dn (J 261 14)))) (dY cc con (dv (dn (dn (J 261 14))) (n + 1)) (dn (dn (J 261 14)))) (dF (dv (dn (dn (J 261 14))) (n + 1)) (dn (dn (J 261 14)))), fun i q hi hq => ?_, ?_⟩
      · unfold chN at hi
        rw [if_pos u0, if_pos n6] at hi
        unfold chG st4
        rw [if_pos u0, if_pos n6, w4_pt hq]
        by_cases h : i = (dv (dn (dn (J 261 14))) (n + 1))
        · rw [if_pos h, if_pos h]
        · rw [if_neg h, if_neg h, sl1_at (by omega)]
          exact hg i q hi h hq
      · unfold chB chN
        rw [if_pos u0, if_pos n6, if_pos u0, if_pos n6, ← xu_row_c (show (263 : Nat) ≠ 262 by decide), xrow_row]
end MC

