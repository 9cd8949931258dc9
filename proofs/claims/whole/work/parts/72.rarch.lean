/-! A case run and archived: both sides. -/
theorem CAr.fr {I I' : Nat → Nat → Int32} {J J' : Nat → Nat → Int64} {P : Nat → Nat → Int32} {nb : Nat} {ar : Nat → CA} (h : CAr I J P nb ar) (e : ∀ x, 23 ≤ x → x < 121 → I' x = I x ∧ J' x = J x) : CAr I' J' P nb ar :=
  ⟨by rw [(e 23 (by omega) (by omega)).1]; exact h.1, fun g hg => ⟨(h.2 g hg).1, (h.2 g hg).2.1.fr (e _ (by omega) (by omega)).1 (e _ (by omega) (by omega)).1, fun h0 => ((h.2 g hg).2.2 h0).fr (e _ (by omega) (by omega)).1 (e _ (by omega) (by omega)).1 (e _ (by omega) (by omega)).2 (e _ (by omega) (by omega)).2⟩⟩
theorem MAr.sf {p : Nat → Prop} {I I' : Nat → Nat → Int32} {ar : Nat → CA} (h : MAr I ar) (f : SF p I I') (hp : ∀ s, 9 ≤ s → s < 33 → p s) : MAr I' ar := fun g hg => ⟨(h g hg).1, (h g hg).2.sf (h g hg).1 f (hp _ (by omega) (by omega))⟩
theorem WC_adm {ar : Nat → CA} {st : Int32} {c : CA} {g : Nat} (h : WC (ar g)) (w : WC c) : WC (adm ar st c g) := by
  unfold adm; split
  · exact w
  · exact h
section RA
variable {S : XS} {d a s nb : Nat} {I P : Nat → Nat → Int32} {J : Nat → Nat → Int64} {R : Nat → Nat → Option Nat} {c : CA} {ar : Nat → CA}
/-- BranchGoals.runAndArchive -/
theorem s_runAndArchive (hR : RF R) (ha : isCase a) (ha2 : 121 ≤ a) (hP : CPg I P nb) (w : WC c) (r : RC I a c) (h0 : 0 < c.1) (h : CAr I J P nb ar) :
    XP S (d + 6) 33 0 (xent [.ref 1, .ref a] 2) [] (hh I J R) (fun v h' => v = none ∧ ∃ I' J', h' = hh I' J' R ∧ RX I' J' P nb a c ∧ CAr I' J' P nb (adm ar (kS P nb c) c) ∧ I' 20 2 = I 20 2 + 1 ∧ (∀ x, x < 20 ∨ 121 ≤ x → x ≠ a → I' x = I x) ∧ ∀ x, x < 20 ∨ 121 ≤ x → x ≠ a + 2 → x ≠ a + 3 → J' x = J x) := by
  have ka := (kCase ha).1
  refine y_loc (pc' := 1) xD_33 rfl rfl rfl rfl ?_
  first | refine m_getR (pc' := 4) xD_33 rfl rfl rfl rfl (hR.1 _ _ _ rfl) rfl ?_ | refine m_getR (pc' := 4) xD_33 rfl rfl (by first | rfl | assumption) rfl (by assumption) rfl ?_
  refine y_loc (pc' := 5) xD_33 rfl rfl rfl rfl ?_
  refine y_loc (pc' := 6) xD_33 rfl rfl rfl rfl ?_
  first | refine m_getR (pc' := 9) xD_33 rfl rfl rfl rfl (hR.1 _ _ _ rfl) rfl ?_ | refine m_getR (pc' := 9) xD_33 rfl rfl (by first | rfl | assumption) rfl (by assumption) rfl ?_
  refine y_callV xD_33 rfl rfl rfl rfl (by first | rfl | assumption) rfl rfl rfl rfl (s_run (d := d) hR ha hP w r) (fun v h' hq => ?_)
  obtain ⟨rfl, I1, J1, rfl, x1, c1, i1, j1⟩ := hq
  refine y_loc (pc' := 13) xD_33 rfl rfl rfl rfl ?_
  first | refine m_getR (pc' := 16) xD_33 rfl rfl rfl rfl (hR.1 _ _ _ rfl) rfl ?_ | refine m_getR (pc' := 16) xD_33 rfl rfl (by first | rfl | assumption) rfl (by assumption) rfl ?_
  refine y_loc (pc' := 17) xD_33 rfl rfl rfl rfl ?_
  refine y_callV xD_33 rfl rfl rfl rfl (by first | rfl | assumption) rfl rfl rfl rfl (s_admit (d := d + 2) (ar := ar) hR ha ha2 hP.2.1 w x1 (h.fr (fun x l u => ⟨i1 x (by omega) (by omega) (by omega), j1 x (by omega) (by omega) (by omega)⟩)) h0) (fun v h' hq => ?_)
  obtain ⟨rfl, I2, J2, rfl, x2, f2⟩ := hq
  refine y_retV xD_33 rfl rfl ?_
  exact ⟨rfl, I2, J2, rfl, x1.fr (f2 _ (by omega)).1 (f2 _ (by omega)).1 (f2 _ (by omega)).2 (f2 _ (by omega)).2, x2, by rw [(f2 20 (by omega)).1, c1], fun x l n => (f2 x (by omega)).1.trans (i1 x (by omega) (by omega) n), fun x l n n' => (f2 x (by omega)).2.trans (j1 x (by omega) n n')⟩
/-- the model's archive -/
theorem s_archive (hR : RF R) (hs : s < 67) (hs2 : s < 9 ∨ 33 ≤ s) (hP : MPg I P nb) (w : WC c) (r : RM I s c) (h : MAr I ar) :
    XP S (d + 7) 122 0 (xent [.ref 261, .int (nI s)] 5) [] (hh I J R) (fun v h' => v = none ∧ ∃ I' J', h' = hh I' J' R ∧ MAr I' (adm ar (kS P nb c) c) ∧ SF (fun t => t < 9 ∨ 33 ≤ t) I I' ∧ (∀ x, x ≠ 261 → x ≠ 262 → x ≠ 263 → x ≠ 271 → I' x = I x) ∧ (∀ j, j ≠ 13 → I' 261 j = I 261 j) ∧ I' 261 13 = I 261 13 + 1 ∧ ∀ x, x ≠ 272 → x ≠ 273 → J' x = J x) := by
  have nb2 := hP.1.2.1
  have e2 : (2 : Int32) * nI nb = nI (2 * nb) := pk_mul 2 nb
  have loop : ∀ (f k : Nat), k + f = 2 * nb → ∀ I' J' (q4 : Option Value), MAr I' (admk ar (kS P nb c) c k) → SF (fun t => t < 9 ∨ 33 ≤ t) I I' → I' 261 10 = nI nb → (∀ x, x ≠ 261 → x ≠ 262 → x ≠ 263 → x ≠ 271 → I' x = I x) → (∀ j, j ≠ 13 → I' 261 j = I 261 j) → I' 261 13 = I 261 13 + 1 → (∀ x, x ≠ 272 → x ≠ 273 → J' x = J x) → XP S (d + 7) 122 18 [some (.ref 261), some (.int (nI s)), some (.int (kS P nb c)), some (.int (nI k)), q4] [] (hh I' J' R) (fun v h' => v = none ∧ ∃ I' J', h' = hh I' J' R ∧ MAr I' (adm ar (kS P nb c) c) ∧ SF (fun t => t < 9 ∨ 33 ≤ t) I I' ∧ (∀ x, x ≠ 261 → x ≠ 262 → x ≠ 263 → x ≠ 271 → I' x = I x) ∧ (∀ j, j ≠ 13 → I' 261 j = I 261 j) ∧ I' 261 13 = I 261 13 + 1 ∧ ∀ x, x ≠ 272 → x ≠ 273 → J' x = J x) := by
    intro f
    induction f with
    | zero =>
      intro k hk I' J' q4 hm hsf hnb f1 f2 f3 f4
      have hk : k = 2 * nb := by omega
      subst hk
      refine y_loc (pc' := 19) xD_122 rfl rfl rfl rfl ?_
      refine y_ci (pc' := 20) (2) xD_122 rfl rfl rfl rfl ?_
      refine y_loc (pc' := 21) xD_122 rfl rfl rfl rfl ?_
      refine m_getI (pc' := 24) xD_122 rfl rfl rfl (by first | rfl | assumption) (hnb) rfl ?_
      refine y_imul (pc' := 25) xD_122 rfl (e2) rfl ?_
      refine y_icge (pt := 79) (pf := 28) xD_122 rfl rfl rfl (fun h25 => ?_) (fun h25 => ?_)
      · skip
        refine y_retV xD_122 rfl rfl ?_
        exact ⟨rfl, I', J', rfl, fun g hg => ⟨WC_adm (h g hg).1 w, by have := (hm g hg).2; rwa [show admk ar (kS P nb c) c (2 * nb) g = adm ar (kS P nb c) c g from by unfold admk; by_cases q : g < 2 * nb; rw [if_pos q]; rw [if_neg q]; unfold adm; rw [if_neg (fun r => q (kS_lt nb2 (by omega) r.1))]] at this⟩, hsf, f1, f2, f3, f4⟩
      · skip
        exact absurd (Int32.le_refl _) h25
    | succ f ih =>
      intro k hk I' J' q4 hm hsf hnb f1 f2 f3 f4
      have k24 : k < 24 := by omega
      have hmk := hm k k24
      rw [admk_k] at hmk
      have rs := hsf s hs2
      have rs3 : I' 263 s = nI c.1 := rs.1.trans r.1
      have le : nI (ar k).1 ≤ nI c.1 ↔ (ar k).1 ≤ c.1 := nI_leI (by have := hmk.1.1; omega) (by have := w.1; omega)
      have z : nI (ar k).1 = 0 ↔ (ar k).1 = 0 := nI_z (by have := hmk.1.1; omega)
      have n1 : ¬ bitI (kS P nb c) (nI k) = 1 → adm ar (kS P nb c) c k = ar k := by
        intro q
        rw [bit1 k24] at q
        unfold adm
        rw [if_neg (fun r => q r.1)]
      have n2 : ¬ nI (ar k).1 = 0 → nI (ar k).1 ≤ nI c.1 → adm ar (kS P nb c) c k = ar k := by
        intro q1 q2
        have q1 : ¬ (ar k).1 = 0 := fun r => q1 (z.mpr r)
        have q4 := le.mp q2
        unfold adm
        rw [if_neg (fun r => by have := r.2; omega)]
      have next : adm ar (kS P nb c) c k = ar k → XP S (d + 7) 122 73 [some (.ref 261), some (.int (nI s)), some (.int (kS P nb c)), some (.int (nI k)), some (.int (nI (ar k).1))] [] (hh I' J' R) (fun v h' => v = none ∧ ∃ I' J', h' = hh I' J' R ∧ MAr I' (adm ar (kS P nb c) c) ∧ SF (fun t => t < 9 ∨ 33 ≤ t) I I' ∧ (∀ x, x ≠ 261 → x ≠ 262 → x ≠ 263 → x ≠ 271 → I' x = I x) ∧ (∀ j, j ≠ 13 → I' 261 j = I 261 j) ∧ I' 261 13 = I 261 13 + 1 ∧ ∀ x, x ≠ 272 → x ≠ 273 → J' x = J x) := by
        intro e
        refine y_inc (pc' := 76) (nI (k + 1)) xD_122 rfl rfl rfl (nI_1 (k)) rfl rfl ?_
        refine y_goto (pc' := 18) xD_122 rfl rfl ?_
        exact ih (k + 1) (by omega) I' J' _ (by rw [admk_n e]; exact hm) hsf hnb f1 f2 f3 f4
      have take : bitI (kS P nb c) (nI k) = 1 → (nI (ar k).1 = 0 ∨ ¬ nI (ar k).1 ≤ nI c.1) → XP S (d + 7) 122 64 [some (.ref 261), some (.int (nI s)), some (.int (kS P nb c)), some (.int (nI k)), some (.int (nI (ar k).1))] [] (hh I' J' R) (fun v h' => v = none ∧ ∃ I' J', h' = hh I' J' R ∧ MAr I' (adm ar (kS P nb c) c) ∧ SF (fun t => t < 9 ∨ 33 ≤ t) I I' ∧ (∀ x, x ≠ 261 → x ≠ 262 → x ≠ 263 → x ≠ 271 → I' x = I x) ∧ (∀ j, j ≠ 13 → I' 261 j = I 261 j) ∧ I' 261 13 = I 261 13 + 1 ∧ ∀ x, x ≠ 272 → x ≠ 273 → J' x = J x) := by
        intro e1 e2
        have e : ib (kS P nb c) k = true ∧ ((ar k).1 = 0 ∨ c.1 < (ar k).1) := ⟨(bit1 k24 _).mp e1, e2.elim (fun q => Or.inl (z.mp q)) (fun q => Or.inr (Nat.lt_of_not_le (fun q' => q (le.mpr q'))))⟩
        refine y_loc (pc' := 65) xD_122 rfl rfl rfl rfl ?_
        refine y_loc (pc' := 66) xD_122 rfl rfl rfl rfl ?_
        refine y_ci (pc' := 68) (9) xD_122 rfl rfl rfl rfl ?_
        refine y_loc (pc' := 69) xD_122 rfl rfl rfl rfl ?_
        refine y_iadd (pc' := 70) xD_122 rfl ((show (9 : Int32) + nI k = nI (9 + k) from nI_add 9 k)) rfl ?_
        refine y_callV xD_122 rfl rfl rfl rfl (by first | rfl | assumption) rfl rfl rfl rfl (s_mcopy (d := d + 6) hR (s := s) (t := 9 + k) hs (by omega) (by omega) rfl rfl) (fun v h' hq => ?_)
        obtain ⟨rfl, rfl⟩ := hq
        refine y_inc (pc' := 76) (nI (k + 1)) xD_122 rfl rfl rfl (nI_1 (k)) rfl rfl ?_
        refine y_goto (pc' := 18) xD_122 rfl rfl ?_
        have sf1 : SF (fun t => t ≠ 9 + k) I' (xu (xrow I' 262 (sl1 (I' 262) (9 + k) (slM I' s))) 263 (9 + k) (I' 263 s)) := by
          intro t ht
          refine ⟨?_, fun q hq => ?_⟩
          · show (if _ then _ else _) = _
            rw [if_neg (fun q => ht q.2), xrow_ne (by decide)]
          · show xu (xrow I' 262 (sl1 (I' 262) (9 + k) (slM I' s))) 263 (9 + k) (I' 263 s) 262 (24 * t + q) = _
            rw [xu_ne (by decide), xrow_at, sl1_ne hq ht]; rfl
        refine ih (k + 1) (by omega) _ J' _ ?_ (hsf.tr (sf1.w (fun t (ht : t < 9 ∨ 33 ≤ t) => show t ≠ 9 + k by omega))) ?_ ?_ ?_ ?_ f4
        · intro g hg
          by_cases eg : g = k
          · subst eg
            rw [admk_s e]
            refine ⟨w, by rw [xu_ii]; exact rs3, fun i hi => ?_⟩
            show xu (xrow I' 262 (sl1 (I' 262) (9 + g) (slM I' s))) 263 (9 + g) (I' 263 s) 262 (24 * (9 + g) + i) = _
            rw [xu_ne (by decide), xrow_at, sl1_at (by have := w.1; omega), rs.2 i (by have := w.1; omega)]
            exact r.2 i hi
          · rw [admk_o eg]
            exact ⟨(hm g hg).1, (hm g hg).2.sf (hm g hg).1 sf1 (show 9 + g ≠ 9 + k by omega)⟩
        · rw [xu_ne (by decide), xrow_ne (by decide)]; exact hnb
        · intro x y1 y2 y3 y4
          rw [xu_ne y3, xrow_ne y2]; exact f1 x y1 y2 y3 y4
        · rw [xu_ne (by decide), xrow_ne (by decide)]; exact f2
        · rw [xu_ne (by decide), xrow_ne (by decide)]; exact f3
      refine y_loc (pc' := 19) xD_122 rfl rfl rfl rfl ?_
      refine y_ci (pc' := 20) (2) xD_122 rfl rfl rfl rfl ?_
      refine y_loc (pc' := 21) xD_122 rfl rfl rfl rfl ?_
      refine m_getI (pc' := 24) xD_122 rfl rfl rfl (by first | rfl | assumption) (hnb) rfl ?_
      refine y_imul (pc' := 25) xD_122 rfl (e2) rfl ?_
      refine y_icge (pt := 79) (pf := 28) xD_122 rfl rfl rfl (fun h25 => ?_) (fun h25 => ?_)
      · skip
        exact absurd h25 (nI_ge (a := k) (b := 2 * nb) (by omega) (by omega))
      · skip
        refine y_loc (pc' := 29) xD_122 rfl rfl rfl rfl ?_
        first | refine m_getR (pc' := 32) xD_122 rfl rfl rfl rfl (hR.1 _ _ _ rfl) rfl ?_ | refine m_getR (pc' := 32) xD_122 rfl rfl (by first | rfl | assumption) rfl (by assumption) rfl ?_
        refine y_ci (pc' := 34) (9) xD_122 rfl rfl rfl rfl ?_
        refine y_loc (pc' := 35) xD_122 rfl rfl rfl rfl ?_
        refine y_iadd (pc' := 36) xD_122 rfl ((show (9 : Int32) + nI k = nI (9 + k) from nI_add 9 k)) rfl ?_
        refine m_iald (pc' := 37) ((9 + k)) xD_122 rfl (by first | rfl | assumption) (by first | assumption | omega) (by first | decide | assumption) (by first | decide | omega) (by first | rfl | assumption) rfl ?_
        rw [hmk.2.1]
        refine y_loc (pc' := 39) xD_122 rfl rfl rfl rfl ?_
        refine y_loc (pc' := 40) xD_122 rfl rfl rfl rfl ?_
        refine y_loc (pc' := 41) xD_122 rfl rfl rfl rfl ?_
        refine y_op (pc' := 42) xD_122 rfl rfl rfl rfl ?_
        refine y_ci (pc' := 43) (1) xD_122 rfl rfl rfl rfl ?_
        refine y_op (pc' := 44) xD_122 rfl rfl rfl rfl ?_
        refine y_ci (pc' := 45) (1) xD_122 rfl rfl rfl rfl ?_
        refine y_icne (pt := 73) (pf := 48) xD_122 rfl rfl rfl (fun h45 => ?_) (fun h45 => ?_)
        · skip
          first
          | exact next (n1 h45)
          | exact next (n2 h50 h61)
        · skip
          refine y_loc (pc' := 50) xD_122 rfl rfl rfl rfl ?_
          refine y_ifeq (pt := 64) (pf := 53) xD_122 rfl rfl rfl (fun h50 => ?_) (fun h50 => ?_)
          · skip
            first
            | exact take h45 (Or.inl h50)
            | exact take h45 (Or.inr h61)
          · skip
            refine y_loc (pc' := 55) xD_122 rfl rfl rfl rfl ?_
            refine y_loc (pc' := 56) xD_122 rfl rfl rfl rfl ?_
            first | refine m_getR (pc' := 59) xD_122 rfl rfl rfl rfl (hR.1 _ _ _ rfl) rfl ?_ | refine m_getR (pc' := 59) xD_122 rfl rfl (by first | rfl | assumption) rfl (by assumption) rfl ?_
            refine y_loc (pc' := 60) xD_122 rfl rfl rfl rfl ?_
            refine m_iald (pc' := 61) (s) xD_122 rfl (by first | rfl | assumption) (by first | assumption | omega) (by first | decide | assumption) (by first | decide | omega) (by first | rfl | assumption) rfl ?_
            rw [rs3]
            refine y_icle (pt := 73) (pf := 64) xD_122 rfl rfl rfl (fun h61 => ?_) (fun h61 => ?_)
            · skip
              first
              | exact next (n1 h45)
              | exact next (n2 h50 h61)
            · skip
              first
              | exact take h45 (Or.inl h50)
              | exact take h45 (Or.inr h61)
  refine y_loc (pc' := 1) xD_122 rfl rfl rfl rfl ?_
  refine y_loc (pc' := 2) xD_122 rfl rfl rfl rfl ?_
  refine y_callV xD_122 rfl rfl rfl rfl (by first | rfl | assumption) rfl rfl rfl rfl (s_kreached (d := d) hR hs hP w r rfl) (fun v h' hq => ?_)
  obtain ⟨rfl, vv, N, res, rfl⟩ := hq
  refine y_loc (pc' := 6) xD_122 rfl rfl rfl rfl ?_
  refine y_loc (pc' := 7) xD_122 rfl rfl rfl rfl ?_
  refine y_op (pc' := 8) xD_122 rfl rfl rfl rfl ?_
  refine m_get (pc' := 11) xD_122 rfl rfl (by first | rfl | assumption) rfl rfl ?_
  refine y_ci (pc' := 12) (1) xD_122 rfl rfl rfl rfl ?_
  refine y_op (pc' := 13) xD_122 rfl rfl rfl rfl ?_
  refine m_putI (pc' := 16) xD_122 rfl rfl (by first | rfl | assumption) rfl rfl rfl ?_
  refine y_ci (pc' := 17) (0) xD_122 rfl rfl rfl rfl ?_
  refine y_loc (pc' := 18) xD_122 rfl rfl rfl rfl ?_
  refine loop (2 * nb) 0 (by omega) _ _ _ ?_ ?_ ?_ ?_ ?_ ?_ ?_
  · intro g hg
    unfold admk
    rw [if_neg (by omega)]
    exact ⟨(h g hg).1, (h g hg).2.row (by rw [xu_ne (by decide), xrow_ne (by decide)]) (by rw [xu_ne (by decide), xrow_ne (by decide)])⟩
  · exact SF.rfl' (by rw [xu_ne (by decide), xrow_ne (by decide)]) (by rw [xu_ne (by decide), xrow_ne (by decide)])
  · show (if _ then _ else _) = _
    rw [if_neg (by decide), xrow_ne (by decide)]
    exact hP.1.1
  · intro x y1 y2 y3 y4
    rw [xu_ne y1, xrow_ne y4]
  · intro j hj
    show (if _ then _ else _) = _
    rw [if_neg (fun q => hj q.2), xrow_ne (by decide)]
  · rw [xu_ii]
    rfl
  · intro x y1 y2
    rw [xrow_ne y1, xrow_ne y2]
end RA

