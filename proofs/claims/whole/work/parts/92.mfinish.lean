/-! finish: the model, whole. -/
def md (kp : Nat → CA) (k : Nat) (su : Nat → CA) (i : Nat) : Nat → CA := fun j => if j < k then kp j else su (i + (j - k))
theorem md_drO {P : Nat → Nat → Int32} {nb n i : Nat} {su kp : Nat → CA} {k : Nat} (hi : i < n) : orX (fun j => kS P nb (md kp k su i j)) k (k + (n - i)) = drO P nb su n i (kp, k) := by
  refine ib_ext (fun g _ => ?_)
  unfold drO sG
  rw [Bool.eq_iff_iff, ib_orX, ib_or, Bool.or_eq_true, ib_orS, ib_orS]
  constructor
  · rintro ⟨j, h1, h2, h3⟩
    unfold md at h3
    by_cases q : j < k
    · rw [if_pos q] at h3; exact Or.inl ⟨j, q, h3⟩
    · rw [if_neg q] at h3
      refine Or.inr ⟨j - k - 1, by omega, ?_⟩
      show ib (kS P nb (su (i + 1 + (j - k - 1)))) g = true
      rw [show i + 1 + (j - k - 1) = i + (j - k) by omega]; exact h3
  · rintro (⟨j, h1, h2⟩ | ⟨j, h1, h2⟩)
    · refine ⟨j, by omega, by omega, ?_⟩
      show ib (kS P nb (md kp k su i j)) g = true
      unfold md; rw [if_pos h1]; exact h2
    · refine ⟨k + 1 + j, by omega, by omega, ?_⟩
      show ib (kS P nb (md kp k su i (k + 1 + j))) g = true
      unfold md; rw [if_neg (by omega), show i + (k + 1 + j - k) = i + 1 + j by omega]; exact h2
def MSu (I : Nat → Nat → Int32) (ns : Nat) (su : Nat → CA) : Prop := I 261 12 = nI ns ∧ ns ≤ 24 ∧ ∀ j, j < ns → WC (su j) ∧ RM I (33 + j) (su j)
section MG
variable {S : XS} {d nb : Nat} {I P : Nat → Nat → Int32} {J : Nat → Nat → Int64} {R : Nat → Nat → Option Nat} {ar su : Nat → CA}
/-- what finish leaves alone -/
def FN (I I' : Nat → Nat → Int32) (J J' : Nat → Nat → Int64) : Prop := SF (fun t => t < 33) I I' ∧ (∀ x, x ≠ 261 → x ≠ 262 → x ≠ 263 → x ≠ 271 → I' x = I x) ∧ (∀ j, j ≠ 12 → j ≠ 13 → I' 261 j = I 261 j) ∧ ∀ x, x ≠ 272 → x ≠ 273 → J' x = J x
theorem FN.ms {I I' I'' : Nat → Nat → Int32} {J J' J'' : Nat → Nat → Int64} (h : FN I I' J J') (m : MS1 I' I'' J' J'') : FN I I'' J J'' :=
  ⟨h.1.tr (SF.rfl' (m.1 262 (by decide)) (m.1 263 (by decide))), fun x a b c e => (m.1 x e).trans (h.2.1 x a b c e), fun j a b => by rw [m.1 261 (by decide)]; exact h.2.2.1 j a b, fun x a b => (m.2 x a b).trans (h.2.2.2 x a b)⟩
theorem s_drop (hR : RF R) (hP : MPg I P nb) {n : Nat} (hn : n ≤ 24) (hw : ∀ j, j < n → WC (su j) ∧ 0 < (su j).1) {r0 : Int32} : ∀ (m i : Nat), i + m = n → ∀ I' J' (q2 q3 q4 : Option Value), MSu I' ((drS P nb su n i).2 + (n - i)) (md (drS P nb su n i).1 (drS P nb su n i).2 su i) → I' 261 13 = r0 → FN I I' J J' →
    XP S (d + 8) 147 100 [some (.ref 261), some (.int (nI (drS P nb su n i).2)), q2, q3, q4] [] (hh I' J' R) (fun v h' => v = some (.int (nI (drS P nb su n n).2)) ∧ ∃ I' J', h' = hh I' J' R ∧ MSu I' (drS P nb su n n).2 (drS P nb su n n).1 ∧ I' 261 13 = r0 ∧ FN I I' J J') := by
  intro m
  induction m with
  | zero =>
    intro i hi I' J' q2 q3 q4 hM h13 hF
    have hi : i = n := by omega
    subst hi
    rw [Nat.sub_self, Nat.add_zero] at hM
    have hM' : MSu I' (drS P nb su i i).2 (drS P nb su i i).1 := ⟨hM.1, hM.2.1, fun j hj => by
      have := hM.2.2 j hj
      unfold md at this
      rw [if_pos hj] at this
      exact this⟩
    refine y_loc (pc' := 101) xD_147 rfl rfl rfl rfl ?_
    refine y_loc (pc' := 102) xD_147 rfl rfl rfl rfl ?_
    refine m_getI (pc' := 105) xD_147 rfl rfl rfl (by first | rfl | assumption) (hM.1) rfl ?_
    refine y_icge (pt := 185) (pf := 108) xD_147 rfl rfl rfl (fun h105 => ?_) (fun h105 => ?_)
    · skip
      refine y_loc (pc' := 186) xD_147 rfl rfl rfl rfl ?_
      refine m_getI (pc' := 189) xD_147 rfl rfl rfl (by first | rfl | assumption) (hM.1) rfl ?_
      refine y_retI xD_147 rfl rfl ?_
      exact ⟨rfl, I', J', rfl, hM', h13, hF⟩
    · skip
      exact absurd (Int32.le_refl _) h105
  | succ m ih =>
    intro i hi I' J' q2 q3 q4 hM h13 hF
    have kl := drS_le (P := P) (nb := nb) (n := n) (su := su) i
    have step := ih (i + 1) (by omega)
    obtain ⟨k, ek⟩ : ∃ k, k = (drS P nb su n i).2 := ⟨_, rfl⟩
    obtain ⟨kp, ekp⟩ : ∃ kp, kp = (drS P nb su n i).1 := ⟨_, rfl⟩
    have est : drS P nb su n i = (kp, k) := by rw [ek, ekp]
    simp only [drS] at step
    rw [est] at step hM kl ⊢
    have hM : MSu I' (k + (n - i)) (md kp k su i) := hM
    have kl : k ≤ i := kl
    show XP S (d + 8) 147 100 [some (.ref 261), some (.int (nI k)), q2, q3, q4] [] (hh I' J' R) _
    have mk : md kp k su i k = su i := by unfold md; rw [if_neg (by omega), Nat.sub_self]; rfl
    have hP' : MPg I' P nb := hP.fr (hF.2.2.1 10 (by decide) (by decide)) (fun x a b => hF.2.1 x (by omega) (by omega) (by omega) (by omega))
    have rk := (hM.2.2 k (by omega)).2
    rw [mk] at rk
    have e33 : (33 : Int32) + nI k = nI (33 + k) := nI_add 33 k
    have wi := (hw i (by omega)).1
    have oth := fun I1 J1 (h1 : MS1 I' I1 J' J1) => s_others (S := S) (d := d) (I := I1) (J := J1) (R := R) (P := P) (nb := nb) (ns := k + (n - i)) (su := md kp k su i) hR (hP'.fr (by rw [h1.1 261 (by decide)]) (fun x a b => h1.1 x (by omega))) hM.2.1 (by rw [h1.1 261 (by decide)]; exact hM.1) (fun j hj => ⟨(hM.2.2 j hj).1, (hM.2.2 j hj).2.row (h1.1 262 (by decide)) (h1.1 263 (by decide))⟩) k (xk := nI k) (fun j hj => nI_inj (by have := hM.2.1; omega) (by omega))
    rw [md_drO (by omega)] at oth
    have keep : ¬ kS P nb (su i) &&& (drO P nb su n i (kp, k) ^^^ -1) = 0 → ∀ I2 J2 (q2 q3 q4 : Option Value), MSu I2 (k + (n - i)) (md kp k su i) → I2 261 13 = r0 → FN I I2 J J2 → XP S (d + 8) 147 179 [some (.ref 261), some (.int (nI k)), q2, q3, q4] [] (hh I2 J2 R) (fun v h' => v = some (.int (nI (drS P nb su n n).2)) ∧ ∃ I' J', h' = hh I' J' R ∧ MSu I' (drS P nb su n n).2 (drS P nb su n n).1 ∧ I' 261 13 = r0 ∧ FN I I' J J') := by
      intro hc I2 J2 q2 q3 q4 a1 a2 a3
      rw [if_neg hc] at step
      refine y_inc (pc' := 182) (nI (k + 1)) xD_147 rfl rfl rfl (nI_1 k) rfl rfl ?_
      refine y_goto (pc' := 100) xD_147 rfl rfl ?_
      refine step I2 J2 _ _ _ ⟨?_, ?_, fun j hj => ?_⟩ a2 a3
      · show I2 261 12 = nI (k + 1 + (n - (i + 1)))
        rw [show k + 1 + (n - (i + 1)) = k + (n - i) by omega]; exact a1.1
      · show k + 1 + (n - (i + 1)) ≤ 24
        have := a1.2.1; omega
      · have hj : j < k + 1 + (n - (i + 1)) := hj
        have h1 := a1.2.2 j (by omega)
        have : md (uc kp k (su i)) (k + 1) su (i + 1) j = md kp k su i j := by
          unfold md uc
          by_cases c1 : j < k
          · rw [if_pos (by omega), if_neg (by omega), if_pos c1]
          · rw [if_neg c1]
            by_cases c2 : j = k
            · rw [if_pos (by omega), if_pos c2, c2, Nat.sub_self]; rfl
            · rw [if_neg (by omega), show i + 1 + (j - (k + 1)) = i + (j - k) by omega]
        show WC (md (uc kp k (su i)) (k + 1) su (i + 1) j) ∧ RM I2 (33 + j) (md (uc kp k (su i)) (k + 1) su (i + 1) j)
        rw [this]; exact h1
    have drop : kS P nb (su i) &&& (drO P nb su n i (kp, k) ^^^ -1) = 0 → ∀ (m' o : Nat), k + 1 ≤ o → o + m' = k + (n - i) → ∀ I2 J2 (q2 q3 : Option Value), I2 261 12 = nI (k + (n - i)) → (∀ j, j < k + (n - i) → RM I2 (33 + j) (if k ≤ j ∧ j + 1 < o then md kp k su i (j + 1) else md kp k su i j)) → I2 261 13 = r0 → FN I I2 J J2 → XP S (d + 8) 147 135 [some (.ref 261), some (.int (nI k)), q2, q3, some (.int (nI o))] [] (hh I2 J2 R) (fun v h' => v = some (.int (nI (drS P nb su n n).2)) ∧ ∃ I' J', h' = hh I' J' R ∧ MSu I' (drS P nb su n n).2 (drS P nb su n n).1 ∧ I' 261 13 = r0 ∧ FN I I' J J') := by
      intro hc m'
      rw [if_pos hc] at step
      have T24 := hM.2.1
      induction m' with
      | zero =>
        intro o ho1 ho I2 J2 q2 q3 a1 a2 a3 a4
        have ho : o = k + (n - i) := by omega
        have e1 : nI (k + (n - i)) - 1 = nI (k + (n - (i + 1))) := by rw [show nI (k + (n - i)) - 1 = nI (k + (n - i) - 1) from pk_sub (b := 1) (by omega), show k + (n - i) - 1 = k + (n - (i + 1)) by omega]
        rw [ho]
        have fin : ∀ q4 : Option Value, XP S (d + 8) 147 100 [some (.ref 261), some (.int (nI k)), q2, q3, q4] [] (hh (xu I2 261 12 (nI (k + (n - (i + 1))))) J2 R) (fun v h' => v = some (.int (nI (drS P nb su n n).2)) ∧ ∃ I' J', h' = hh I' J' R ∧ MSu I' (drS P nb su n n).2 (drS P nb su n n).1 ∧ I' 261 13 = r0 ∧ FN I I' J J') := by
          intro q4
          refine step _ J2 _ _ _ ⟨xu_ii, ?_, fun j hj => ?_⟩ ?_ ⟨a4.1.tr (SF.rfl' (xu_ne (by decide)) (xu_ne (by decide))), fun x h1 h2 h3 h4 => (xu_ne h1).trans (a4.2.1 x h1 h2 h3 h4), fun j h1 h2 => ?_, a4.2.2.2⟩
          · show k + (n - (i + 1)) ≤ 24; omega
          · have hj : j < k + (n - (i + 1)) := hj
            have h1 := (a2 j (by omega)).row (I' := xu I2 261 12 (nI (k + (n - (i + 1))))) (xu_ne (by decide)) (xu_ne (by decide))
            have e : md kp k su (i + 1) j = (if k ≤ j ∧ j + 1 < o then md kp k su i (j + 1) else md kp k su i j) := by
              by_cases c1 : k ≤ j
              · rw [if_pos ⟨c1, by omega⟩]
                unfold md
                rw [if_neg (by omega), if_neg (by omega), show i + 1 + (j - k) = i + (j + 1 - k) by omega]
              · rw [if_neg (fun q => c1 q.1)]
                unfold md
                rw [if_pos (by omega), if_pos (by omega)]
            show WC (md kp k su (i + 1) j) ∧ RM _ (33 + j) (md kp k su (i + 1) j)
            refine ⟨?_, by rw [e]; exact h1⟩
            rw [e]
            by_cases c1 : k ≤ j ∧ j + 1 < o
            · rw [if_pos c1]; exact (hM.2.2 (j + 1) (by omega)).1
            · rw [if_neg c1]; exact (hM.2.2 j (by omega)).1
          · show (if _ then _ else _) = _
            rw [if_neg (by decide)]; exact a3
          · show (if _ then _ else _) = _
            rw [if_neg (fun q => h1 q.2)]; exact a4.2.2.1 j h1 h2
        refine y_loc (pc' := 137) xD_147 rfl rfl rfl rfl ?_
        refine y_loc (pc' := 138) xD_147 rfl rfl rfl rfl ?_
        refine m_getI (pc' := 141) xD_147 rfl rfl rfl (by first | rfl | assumption) (a1) rfl ?_
        refine y_icge (pt := 166) (pf := 144) xD_147 rfl rfl rfl (fun h141 => ?_) (fun h141 => ?_)
        · skip
          refine y_loc (pc' := 167) xD_147 rfl rfl rfl rfl ?_
          refine y_op (pc' := 168) xD_147 rfl rfl rfl rfl ?_
          refine m_getI (pc' := 171) xD_147 rfl rfl rfl (by first | rfl | assumption) (a1) rfl ?_
          refine y_ci (pc' := 172) (1) xD_147 rfl rfl rfl rfl ?_
          refine y_isub (pc' := 173) xD_147 rfl (e1) rfl ?_
          refine m_putI (pc' := 176) xD_147 rfl rfl (by first | rfl | assumption) rfl rfl rfl ?_
          refine y_goto (pc' := 182) xD_147 rfl rfl ?_
          refine y_goto (pc' := 100) xD_147 rfl rfl ?_
          exact fin _
        · skip
          exact absurd (Int32.le_refl _) h141
      | succ m' ih2 =>
        intro o ho1 ho I2 J2 q2 q3 a1 a2 a3 a4
        have eo : (33 : Int32) + nI o = nI (33 + o) := nI_add 33 o
        have eo1 : nI (33 + o) - 1 = nI (33 + (o - 1)) := by rw [show nI (33 + o) - 1 = nI (33 + o - 1) from pk_sub (b := 1) (by omega), show 33 + o - 1 = 33 + (o - 1) by omega]
        have ro := a2 o (by omega)
        rw [if_neg (by omega)] at ro
        have wo := (hM.2.2 o (by omega)).1
        refine y_loc (pc' := 137) xD_147 rfl rfl rfl rfl ?_
        refine y_loc (pc' := 138) xD_147 rfl rfl rfl rfl ?_
        refine m_getI (pc' := 141) xD_147 rfl rfl rfl (by first | rfl | assumption) (a1) rfl ?_
        refine y_icge (pt := 166) (pf := 144) xD_147 rfl rfl rfl (fun h141 => ?_) (fun h141 => ?_)
        · skip
          exact absurd h141 (nI_ge (a := o) (b := k + (n - i)) (by omega) (by omega))
        · skip
          refine y_loc (pc' := 145) xD_147 rfl rfl rfl rfl ?_
          refine y_ci (pc' := 147) (33) xD_147 rfl rfl rfl rfl ?_
          refine y_loc (pc' := 149) xD_147 rfl rfl rfl rfl ?_
          refine y_iadd (pc' := 150) xD_147 rfl (eo) rfl ?_
          refine y_ci (pc' := 152) (33) xD_147 rfl rfl rfl rfl ?_
          refine y_loc (pc' := 154) xD_147 rfl rfl rfl rfl ?_
          refine y_iadd (pc' := 155) xD_147 rfl (eo) rfl ?_
          refine y_ci (pc' := 156) (1) xD_147 rfl rfl rfl rfl ?_
          refine y_isub (pc' := 157) xD_147 rfl (eo1) rfl ?_
          refine y_callV xD_147 rfl rfl rfl rfl (by first | rfl | assumption) rfl rfl rfl rfl (s_mcopy (d := d + 7) hR (s := 33 + o) (t := 33 + (o - 1)) (by omega) (by omega) (by omega) rfl rfl) (fun v h' hq => ?_)
          obtain ⟨rfl, rfl⟩ := hq
          refine y_inc (pc' := 163) (nI (o + 1)) xD_147 rfl rfl rfl (nI_1 (o)) rfl rfl ?_
          refine y_goto (pc' := 135) xD_147 rfl rfl ?_
          refine ih2 (o + 1) (by omega) (by omega) _ J2 _ _ ?_ (fun j hj => ?_) ?_ ⟨a4.1.tr (SF_cp.w (fun t (ht : t < 33) => show t ≠ 33 + (o - 1) by omega)), fun x h1 h2 h3 h4 => ?_, fun j h1 h2 => ?_, a4.2.2.2⟩
          · rw [xu_ne (by decide), xrow_ne (by decide)]; exact a1
          · by_cases e : j = o - 1
            · rw [e, if_pos ⟨by omega, by omega⟩, show o - 1 + 1 = o by omega]
              exact RM_cp wo ro
            · have := a2 j hj
              have e2 : (if k ≤ j ∧ j + 1 < o + 1 then md kp k su i (j + 1) else md kp k su i j) = (if k ≤ j ∧ j + 1 < o then md kp k su i (j + 1) else md kp k su i j) := by
                by_cases c1 : k ≤ j ∧ j + 1 < o
                · rw [if_pos c1, if_pos ⟨c1.1, by omega⟩]
                · rw [if_neg c1, if_neg (by omega)]
              rw [e2]
              refine this.sf ?_ SF_cp (show 33 + j ≠ 33 + (o - 1) by omega)
              by_cases c1 : k ≤ j ∧ j + 1 < o
              · rw [if_pos c1]; exact (hM.2.2 (j + 1) (by omega)).1
              · rw [if_neg c1]; exact (hM.2.2 j (by omega)).1
          · rw [xu_ne (by decide), xrow_ne (by decide)]; exact a3
          · rw [xu_ne h3, xrow_ne h2]; exact a4.2.1 x h1 h2 h3 h4
          · rw [xu_ne (by decide), xrow_ne (by decide)]; exact a4.2.2.1 j h1 h2
    have ms : ∀ {I1 I2 : Nat → Nat → Int32} {J1 J2 : Nat → Nat → Int64}, MS1 I' I1 J' J1 → MS1 I1 I2 J1 J2 → MS1 I' I2 J' J2 := fun a b => ⟨fun x h => (b.1 x h).trans (a.1 x h), fun x h1 h2 => (b.2 x h1 h2).trans (a.2 x h1 h2)⟩
    have msM : ∀ {I2 : Nat → Nat → Int32} {J2 : Nat → Nat → Int64}, MS1 I' I2 J' J2 → MSu I2 (k + (n - i)) (md kp k su i) ∧ I2 261 13 = r0 ∧ FN I I2 J J2 := fun m => ⟨⟨by rw [m.1 261 (by decide)]; exact hM.1, hM.2.1, fun j hj => ⟨(hM.2.2 j hj).1, (hM.2.2 j hj).2.row (m.1 262 (by decide)) (m.1 263 (by decide))⟩⟩, by rw [m.1 261 (by decide)]; exact h13, hF.ms m⟩
    refine y_loc (pc' := 101) xD_147 rfl rfl rfl rfl ?_
    refine y_loc (pc' := 102) xD_147 rfl rfl rfl rfl ?_
    refine m_getI (pc' := 105) xD_147 rfl rfl rfl (by first | rfl | assumption) (hM.1) rfl ?_
    refine y_icge (pt := 185) (pf := 108) xD_147 rfl rfl rfl (fun h105 => ?_) (fun h105 => ?_)
    · skip
      exact absurd h105 (nI_ge (a := k) (b := k + (n - i)) (by omega) (by have := hM.2.1; omega))
    · skip
      refine y_loc (pc' := 109) xD_147 rfl rfl rfl rfl ?_
      refine y_ci (pc' := 111) (33) xD_147 rfl rfl rfl rfl ?_
      refine y_loc (pc' := 112) xD_147 rfl rfl rfl rfl ?_
      refine y_iadd (pc' := 113) xD_147 rfl (e33) rfl ?_
      refine y_callV xD_147 rfl rfl rfl rfl (by first | rfl | assumption) rfl rfl rfl rfl (s_kreached (d := d + 1) hR (by omega) hP' wi rk rfl) (fun v h' hq => ?_)
      obtain ⟨rfl, vv, N, res, rfl⟩ := hq
      refine y_loc (pc' := 117) xD_147 rfl rfl rfl rfl ?_
      refine y_loc (pc' := 118) xD_147 rfl rfl rfl rfl ?_
      refine y_loc (pc' := 119) xD_147 rfl rfl rfl rfl ?_
      refine y_callV xD_147 rfl rfl rfl rfl (by first | rfl | assumption) rfl rfl rfl rfl (oth _ _ ⟨fun x h => xrow_ne h, fun x h1 h2 => (xrow_ne h1).trans (xrow_ne h2)⟩) (fun v h' hq => ?_)
      obtain ⟨rfl, I2, J2, rfl, m2⟩ := hq
      refine y_loc (pc' := 123) xD_147 rfl rfl rfl rfl ?_
      refine y_loc (pc' := 124) xD_147 rfl rfl rfl rfl ?_
      refine y_loc (pc' := 125) xD_147 rfl rfl rfl rfl ?_
      refine y_op (pc' := 126) xD_147 rfl rfl rfl rfl ?_
      refine y_loc (pc' := 127) xD_147 rfl rfl rfl rfl ?_
      refine y_icne (pt := 179) (pf := 130) xD_147 rfl rfl rfl (fun h127 => ?_) (fun h127 => ?_)
      · skip
        (have mm := msM (ms ⟨fun x h => xrow_ne h, fun x h1 h2 => (xrow_ne h1).trans (xrow_ne h2)⟩ m2))
        exact keep (fun q => h127 (and_not0.mp q)) I2 J2 _ _ _ mm.1 mm.2.1 mm.2.2
      · skip
        (have mm := msM (ms ⟨fun x h => xrow_ne h, fun x h1 h2 => (xrow_ne h1).trans (xrow_ne h2)⟩ m2))
        refine y_loc (pc' := 131) xD_147 rfl rfl rfl rfl ?_
        refine y_ci (pc' := 132) (1) xD_147 rfl rfl rfl rfl ?_
        refine y_iadd (pc' := 133) xD_147 rfl (nI_1 k) rfl ?_
        refine y_loc (pc' := 135) xD_147 rfl rfl rfl rfl ?_
        exact drop (and_not0.mpr h127) (n - i - 1) (k + 1) (Nat.le_refl _) (by omega) I2 J2 _ _ mm.1.1 (fun j hj => by rw [if_neg (by omega)]; exact (mm.1.2.2 j hj).2) mm.2.1 mm.2.2
end MG

