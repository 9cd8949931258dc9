/-! start: the model. -/
theorem aS_c {op op' : Nat → Bool} {hv : Int32} {nb : Nat} (h : ∀ k, k < nb → op k = op' k) : ∀ g, g ≤ 2 * nb → aS op hv g = aS op' hv g
  | 0, _ => rfl
  | g + 1, hg => by
    simp only [aS]
    rw [h (g / 2) (by omega), aS_c h g (by omega)]
theorem kAct_c {nd al al' : Nat → Int32} {ar : Nat → CA} {nb : Nat} (h : ∀ k, k < nb → (¬ al k = 0 ↔ ¬ al' k = 0)) : kAct nd al ar nb = kAct nd al' ar nb := by
  unfold kAct
  refine aS_c (nb := nb) (fun k hk => ?_) (2 * nb) (Nat.le_refl _)
  unfold opn
  rw [decide_eq_decide, h k hk]
theorem ordO_c {P : Nat → Nat → Int32} {nb n : Nat} {al al' : Nat → Int32} {ar pp : Nat → CA} {s : Nat → Nat} (h : ∀ k, k < nb → (¬ al k = 0 ↔ ¬ al' k = 0)) (o : ordO P nb al ar n pp s) : ordO P nb al' ar n pp s := by
  unfold ordO ordCr ordFr at *
  rw [kAct_c h] at o
  exact o
def MG0 (I : Nat → Nat → Int32) : Prop := ∀ m, m < 2 → I 265 m = nI (lnM I m) ∧ lnM I m ≤ 10 ∧ VC (cdM I m) (lnM I m)
section MT
variable {S : XS} {d : Nat} {I : Nat → Nat → Int32} {J : Nat → Nat → Int64} {R : Nat → Nat → Option Nat} {ar pop ar1 ar2 : Nat → CA} {al G con : Nat → Int32} {nb : Nat} {c0 c1 : CA} {sg : Nat → Nat}
theorem s_mstart (hR : RF R) (hst : I 261 9 = 0) (h10 : I 261 10 = 0) (h0 : MG0 I) (h9 : ∀ k, I 269 k = 0) (hM : MAr I ar) (enb : nb = pN (cdM I) (lnM I)) (hal : ∀ k, k < nb → (¬ al k = 0 ↔ msK I k)) (hG1 : ∀ k, k < nb → ndK I k (G k)) (hG2 : ∀ k, nb ≤ k → G k = 0) (hcon : ∀ q, q < 20 → isS I q = true → con (scnt I q) = cdM I (q / 10) (q % 10) 3) (ec0 : c0 = dcC (scnt I 20) con (J 261 14)) (ec1 : c1 = dcC (scnt I 20) con (dcb (J 261 14) (dcn (J 261 14)))) (ea1 : ar1 = adm ar (kS (pP I G) nb c0) c0) (ea2 : ar2 = adm ar1 (kS (pP I G) nb c1) c1) (hO : ordO (pP I G) nb al ar2 2 (evpop 0 pop c0 c1) sg) :
    XP S (d + 9) 109 0 (xent [.ref 261] 2) [] (hh I J R) (fun v h' => v = some (.int (2 * nI nb)) ∧ ∃ I' J', h' = hh I' J' R ∧ MPg I' (pP I G) nb ∧ (∀ m, m < 2 → I' 266 m = zB (wt (cdM I m) (lnM I m))) ∧ (∀ k, k < nb → (¬ I' 270 k = 0 ↔ msK I k)) ∧ I' 261 11 = nI 2 ∧ (∀ k, k < 2 → RM I' k (evpop 0 pop c0 c1 (sg k))) ∧ MAr I' ar2 ∧ I' 261 13 = I 261 13 + 1 + 1 ∧ J' 261 14 = dcb (dcb (J 261 14) (dcn (J 261 14))) (dcn (dcb (J 261 14) (dcn (J 261 14)))) ∧ I' 261 9 = 1 ∧ I' 261 12 = I 261 12 ∧ SF (fun t => 7 ≤ t ∧ (t < 9 ∨ 33 ≤ t) ∧ t < 60) I I' ∧ (∀ x, x < 261 → I' x = I x ∧ J' x = J x) ∧ I' 264 = I 264 ∧ I' 265 = I 265) := by
  have nb12 : nb ≤ 12 := by rw [enb]; exact pN_12
  obtain ⟨b0, eb0⟩ : ∃ b0, b0 = J 261 14 := ⟨_, rfl⟩
  obtain ⟨b1, eb1⟩ : ∃ b1, b1 = dcb b0 (dcn b0) := ⟨_, rfl⟩
  obtain ⟨b2, eb2⟩ : ∃ b2, b2 = dcb b1 (dcn b1) := ⟨_, rfl⟩
  rw [← eb0] at ec0
  rw [← eb0, ← eb1] at ec1
  have w0 : WC c0 := by rw [ec0]; exact dcC_w _ _ _
  have w1 : WC c1 := by rw [ec1]; exact dcC_w _ _ _
  obtain ⟨Is, eIs⟩ : ∃ Is, Is = xu I 261 9 1 := ⟨_, rfl⟩
  have xs : ∀ x, x ≠ 261 → Is x = I x := fun x hx => by rw [eIs, xu_ne hx]
  have xsj : ∀ j, j ≠ 9 → Is 261 j = I 261 j := fun j hj => by rw [eIs]; show (if _ then _ else _) = _; rw [if_neg (fun q => hj q.2)]
  have xs9 : Is 261 9 = 1 := by rw [eIs, xu_ii]
  have e2 : (2 : Int32) * nI nb = nI (2 * nb) := pk_mul 2 nb
  obtain ⟨P, eP⟩ : ∃ P, P = pP I G := ⟨_, rfl⟩
  rw [← eP] at ea1 ea2 hO
  have mp := fun Q K => s_mprog (S := S) (d := d + 3) (I := Is) (J := J) (R := R) (cdf := cdM I) (ln := lnM I) (Q := Q) (q1 := none) hR (by rw [xsj 10 (by decide)]; exact h10) (fun m hm => ⟨by rw [xs 265 (by decide)]; exact (h0 m hm).1, (h0 m hm).2.1, (cdM_eq (xs 264 (by decide))).symm, (h0 m hm).2.2⟩) (fun k => by rw [xs 269 (by decide)]; exact h9 k) K
  refine y_loc (pc' := 1) xD_109 rfl rfl rfl rfl ?_
  refine m_getZ (pc' := 4) xD_109 rfl rfl rfl (by first | rfl | assumption) (hst) rfl ?_
  refine y_ifeq (pt := 9) (pf := 7) xD_109 rfl rfl rfl (fun h4 => ?_) (fun h4 => ?_)
  · skip
    refine y_loc (pc' := 10) xD_109 rfl rfl rfl rfl ?_
    refine y_ci (pc' := 11) (1) xD_109 rfl rfl rfl rfl ?_
    refine m_putZ (pc' := 14) ((by decide)) xD_109 rfl rfl (by first | rfl | assumption) rfl rfl rfl ?_
    show XP S (d + 9) 109 14 [some (.ref 261), none] [] (hh (xu I 261 9 1) J R) _
    rw [← eIs]
    refine mp _ (fun I1 q1 m1 m2 m3 m4 m5 => ?_)
    rw [← enb] at m2 m3
    obtain ⟨n1, n2, n3⟩ := m1
    rw [← enb] at n1 n3
    have x1 : ∀ x, x ≠ 261 → x ≠ 266 → x ≠ 267 → x ≠ 268 → x ≠ 269 → x ≠ 270 → I1 x = I x := fun x a b c e f g => (m4 x a b c e f g).trans (xs x a)
    have e4 := x1 264 (by decide) (by decide) (by decide) (by decide) (by decide) (by decide)
    have e5 := x1 265 (by decide) (by decide) (by decide) (by decide) (by decide) (by decide)
    have j1 : ∀ j, j ≠ 9 → j ≠ 10 → I1 261 j = I 261 j := fun j a b => (m5 j b).trans (xsj j a)
    have j9 : I1 261 9 = 1 := (m5 9 (by decide)).trans xs9
    have P1 : MPg I1 P nb := by
      refine ⟨⟨n1, nb12, fun m hm => ?_⟩, ?_, ?_, ?_, ?_, ?_⟩
      · have : lnM I1 m = lnM I m := by unfold lnM; rw [e5]
        rw [this, cdM_eq e4, e5]
        exact ⟨(h0 m hm).1, (h0 m hm).2.1, (h0 m hm).2.2⟩
      · rw [e4, eP]; exact (pP_o (by decide)).symm
      · rw [e5, eP]; exact (pP_o (by decide)).symm
      · funext k
        rw [eP]; unfold pP
        rw [if_pos rfl, ← enb]
        by_cases q : k < nb
        · rw [if_pos q]; exact (n3 k q).1
        · rw [if_neg q, (m3 k (by omega)).2.1, xs 267 (by decide)]
      · funext k
        rw [eP]; unfold pP
        rw [if_neg (by decide), if_pos rfl, ← enb]
        by_cases q : k < nb
        · rw [if_pos q]; exact (n3 k q).2
        · rw [if_neg q, (m3 k (by omega)).2.2, xs 268 (by decide)]
      · funext k
        rw [eP]; unfold pP
        rw [if_neg (by decide), if_neg (by decide), if_pos rfl]
        by_cases q : k < nb
        · exact RG_ND (by rw [← enb]; exact q) (m2 k q).1 (hG1 k q)
        · rw [(m3 k (by omega)).1, hG2 k (by omega)]
    have D1 : DM I1 (scnt I 20) con := by
      refine ⟨by rw [scnt_c e4 e5], fun q hq hs => ?_⟩
      rw [isS_c e4 e5] at hs
      rw [scnt_c e4 e5, cdM_eq e4]
      exact hcon q hq hs
    have M1 : MAr I1 ar := fun g hg => ⟨(hM g hg).1, (hM g hg).2.row (x1 262 (by decide) (by decide) (by decide) (by decide) (by decide) (by decide)) (x1 263 (by decide) (by decide) (by decide) (by decide) (by decide) (by decide))⟩
    have sf1 : SF (fun _ => True) I I1 := SF.rfl' (x1 262 (by decide) (by decide) (by decide) (by decide) (by decide) (by decide)) (x1 263 (by decide) (by decide) (by decide) (by decide) (by decide) (by decide))
    have d0 := s_mdrawCase (S := S) (d := d) (I := I1) (J := J) (R := R) (P := P) (nb := nb) (s := 0) hR (by decide) (scnt I 20) P1 D1.1 con D1.2 M1
    rw [← eb0, ← ec0, ← ea1, ← eb1] at d0
    refine y_loc (pc' := 46) xD_109 rfl rfl rfl rfl ?_
    refine y_ci (pc' := 47) (0) xD_109 rfl rfl rfl rfl ?_
    refine y_callV xD_109 rfl rfl rfl rfl (by first | rfl | assumption) rfl rfl rfl rfl (d0) (fun v h' hq => ?_)
    obtain ⟨rfl, I2, J2, rfl, r2, m2', s2, f2, g2, c2, b2', j2⟩ := hq
    have X2 : ∀ x, x < 261 ∨ (264 ≤ x ∧ x < 271) → I2 x = I1 x := fun x hx => f2 x (by omega) (by omega) (by omega) (by omega)
    have P2 : MPg I2 P nb := P1.fr (g2 10 (by decide)) (fun x a b => X2 x (by omega))
    have D2 : DM I2 (scnt I 20) con := D1.fr (fun x a b => X2 x (by omega))
    have d1 := s_mdrawCase (S := S) (d := d) (I := I2) (J := J2) (R := R) (P := P) (nb := nb) (s := 1) hR (by decide) (scnt I 20) P2 D2.1 con D2.2 m2'
    rw [b2', ← ec1, ← ea2, ← eb2] at d1
    refine y_loc (pc' := 51) xD_109 rfl rfl rfl rfl ?_
    refine y_ci (pc' := 52) (1) xD_109 rfl rfl rfl rfl ?_
    refine y_callV xD_109 rfl rfl rfl rfl (by first | rfl | assumption) rfl rfl rfl rfl (d1) (fun v h' hq => ?_)
    obtain ⟨rfl, I3, J3, rfl, r3, m3', s3, f3, g3, c3, b3', j3⟩ := hq
    have X3 : ∀ x, x < 261 ∨ (264 ≤ x ∧ x < 271) → I3 x = I1 x := fun x hx => (f3 x (by omega) (by omega) (by omega) (by omega)).trans (X2 x hx)
    have P3 : MPg I3 P nb := P1.fr ((g3 10 (by decide)).trans (g2 10 (by decide))) (fun x a b => X3 x (by omega))
    have r3' : RM I3 0 c0 := r2.sf w0 s3 ⟨by decide, Or.inl (by decide)⟩
    have h70 : ∀ k, k < nb → (¬ I1 270 k = 0 ↔ msK I k) := fun k hk => (m2 k hk).2
    have hO3 : ordO P nb (I3 270) ar2 2 (evpop 0 pop c0 c1) sg := ordO_c (fun k hk => by rw [X3 270 (by omega), hal k hk, h70 k hk]) hO
    have po := s_putInOrder (S := S) (d := d + 1) (n := 2) (nb := nb) (I := I3) (P := P) (J := J3) (R := R) (pop := evpop 0 pop c0 c1) (ar := ar2) hR (by decide) (by decide) P3 m3' (fun k hk => by
      unfold evpop
      rw [if_neg (by omega)]
      by_cases h2 : k = 0
      · rw [if_pos h2, h2]; exact ⟨w0, r3'⟩
      · rw [if_neg h2, show k = 1 by omega]; exact ⟨w1, r3⟩) (act := kAct (P 269) (I3 270) ar2 nb) (by rw [P3.2.2.2.2.2]) (F := kFp P nb (evpop 0 pop c0 c1)) rfl (sz := kSz (evpop 0 pop c0 c1)) rfl (fr := ordFr P nb (I3 270) ar2 2 (evpop 0 pop c0 c1)) (cr := ordCr P nb (I3 270) ar2 2 (evpop 0 pop c0 c1)) rfl rfl hO3
    refine y_loc (pc' := 56) xD_109 rfl rfl rfl rfl ?_
    refine y_ci (pc' := 57) (2) xD_109 rfl rfl rfl rfl ?_
    refine y_callV xD_109 rfl rfl rfl rfl (by first | rfl | assumption) rfl rfl rfl rfl (po) (fun v h' hq => ?_)
    obtain ⟨rfl, I4, J4, rfl, r4, p4, f4, s4, x4, j4⟩ := hq
    have X4 : ∀ x, x < 261 ∨ (264 ≤ x ∧ x < 271) → I4 x = I1 x := fun x hx => (x4 x (by omega) (by omega) (by omega) (by omega) (by omega) (by omega) (by omega)).trans (X3 x hx)
    have e10 : I4 261 10 = nI nb := (f4 10 (by decide)).trans P3.1.1
    refine y_ci (pc' := 61) (2) xD_109 rfl rfl rfl rfl ?_
    refine y_loc (pc' := 62) xD_109 rfl rfl rfl rfl ?_
    refine m_getI (pc' := 65) xD_109 rfl rfl rfl (by first | rfl | assumption) (e10) rfl ?_
    refine y_op (pc' := 66) xD_109 rfl rfl rfl rfl ?_
    refine y_retI xD_109 rfl rfl ?_
    refine ⟨rfl, I4, J4, rfl, by rw [← eP]; exact P1.fr (e10.trans n1.symm) (fun x a b => X4 x (by omega)), fun m hm => by rw [X4 266 (by omega)]; exact n2 m hm, fun k hk => by rw [X4 270 (by omega)]; exact h70 k hk, p4, r4, m3'.sf s4 (fun t a b => ⟨by omega, by omega⟩), ?_, ?_, ?_, ?_, ?_, fun x hx => ⟨?_, ?_⟩, by rw [X4 264 (by omega)]; exact e4, by rw [X4 265 (by omega)]; exact e5⟩
    · rw [f4 13 (by decide), c3, c2, j1 13 (by decide) (by decide)]
    · rw [j4 261 (by decide) (by decide) (by decide), b3', eb2, eb1, eb0]
    · rw [f4 9 (by decide), g3 9 (by decide), g2 9 (by decide)]; exact j9
    · rw [f4 12 (by decide), g3 12 (by decide), g2 12 (by decide)]; exact j1 12 (by decide) (by decide)
    · exact (sf1.w (fun _ _ => trivial)).tr ((s2.w (fun t ht => ⟨by omega, by omega⟩)).tr ((s3.w (fun t ht => ⟨by omega, by omega⟩)).tr (s4.w (fun t ht => ⟨by omega, ht.2.2⟩))))
    · rw [X4 x (by omega)]; exact x1 x (by omega) (by omega) (by omega) (by omega) (by omega) (by omega)
    · rw [j4 x (by omega) (by omega) (by omega), j3 x (by omega) (by omega) (by omega), j2 x (by omega) (by omega) (by omega)]
  · skip
    exact absurd rfl h4
end MT

