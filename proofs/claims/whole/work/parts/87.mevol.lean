/-! evolve: the model. -/
def MPo (I : Nat → Nat → Int32) (np : Nat) (pop : Nat → CA) : Prop := I 261 11 = nI np ∧ np ≤ 5 ∧ ∀ k, k < np → WC (pop k) ∧ 0 < (pop k).1 ∧ RM I k (pop k)
def DM (I : Nat → Nat → Int32) (cc : Nat) (con : Nat → Int32) : Prop := cc = scnt I 20 ∧ ∀ q, q < 20 → isS I q → con (scnt I q) = cdM I (q / 10) (q % 10) 3
theorem MPg.fr {I I' P : Nat → Nat → Int32} {nb : Nat} (h : MPg I P nb) (e0 : I' 261 10 = I 261 10) (e : ∀ x, 264 ≤ x → x < 271 → I' x = I x) : MPg I' P nb := by
  obtain ⟨⟨p1, p2, p3⟩, h4, h5, h7, h8, h9⟩ := h
  refine ⟨⟨by rw [e0]; exact p1, p2, fun m hm => ?_⟩, (e 264 (by decide) (by decide)).trans h4, (e 265 (by decide) (by decide)).trans h5, (e 267 (by decide) (by decide)).trans h7, (e 268 (by decide) (by decide)).trans h8, (e 269 (by decide) (by decide)).trans h9⟩
  have := p3 m hm
  unfold lnM at *
  rw [e 265 (by decide) (by decide), cdM_eq (e 264 (by decide) (by decide))]
  exact this
theorem DM.fr {I I' : Nat → Nat → Int32} {cc : Nat} {con : Nat → Int32} (h : DM I cc con) (e : ∀ x, 264 ≤ x → x < 271 → I' x = I x) : DM I' cc con := by
  have e4 := e 264 (by decide) (by decide)
  have e5 := e 265 (by decide) (by decide)
  refine ⟨by rw [scnt_c e4 e5]; exact h.1, fun q hq hs => ?_⟩
  rw [isS_c e4 e5] at hs
  rw [scnt_c e4 e5, cdM_eq e4]
  exact h.2 q hq hs
theorem MPg.pl {I P : Nat → Nat → Int32} {nb : Nat} (h : MPg I P nb) : PL I := fun m hm => ⟨(h.1.2.2 m hm).1, (h.1.2.2 m hm).2.1⟩
section ME
variable {S : XS} {d nb np cc : Nat} {I P : Nat → Nat → Int32} {J : Nat → Nat → Int64} {R : Nat → Nat → Option Nat} {pop ar : Nat → CA} {con : Nat → Int32}
theorem s_lesser (e1 : I 261 11 = nI np) (h0 : 0 < np) (h5 : np ≤ 5) : XP S (d + 1) 140 0 (xent [.ref 261] 3) [] (hh I J R) (rI (nI (evp np (J 261 14))) (hh I (xu J 261 14 (dn (dn (J 261 14)))) R)) := by
  have h1 := dv_lt (dn (J 261 14)) h0
  have h2 := dv_lt (dn (dn (J 261 14))) h0
  obtain ⟨x, ex⟩ : ∃ x, x = dv (dn (J 261 14)) np := ⟨_, rfl⟩
  obtain ⟨y, ey⟩ : ∃ y, y = dv (dn (dn (J 261 14))) np := ⟨_, rfl⟩
  rw [← ex] at h1
  rw [← ey] at h2
  have l : nI y ≤ nI x ↔ y ≤ x := nI_leI (by omega) (by omega)
  have ev : evp np (J 261 14) = if x ≤ y then x else y := by rw [ex, ey]; rfl
  refine y_loc (pc' := 1) xD_140 rfl rfl rfl rfl ?_
  refine y_loc (pc' := 2) xD_140 rfl rfl rfl rfl ?_
  refine m_getI (pc' := 5) xD_140 rfl rfl rfl (by first | rfl | assumption) (e1) rfl ?_
  refine y_callV xD_140 rfl rfl rfl rfl (by first | rfl | assumption) rfl rfl rfl rfl (s_mdraw np h0 (by omega) rfl) (fun v h' hq => ?_)
  obtain ⟨rfl, rfl⟩ := hq
  rw [← ex]
  refine y_loc (pc' := 9) xD_140 rfl rfl rfl rfl ?_
  refine y_loc (pc' := 10) xD_140 rfl rfl rfl rfl ?_
  refine y_loc (pc' := 11) xD_140 rfl rfl rfl rfl ?_
  refine m_getI (pc' := 14) xD_140 rfl rfl rfl (by first | rfl | assumption) (e1) rfl ?_
  refine y_callV xD_140 rfl rfl rfl rfl (by first | rfl | assumption) rfl rfl rfl rfl (s_mdraw np h0 (by omega) rfl) (fun v h' hq => ?_)
  obtain ⟨rfl, rfl⟩ := hq
  rw [xu_ii, xu_xu, ← ey, ev]
  refine y_loc (pc' := 18) xD_140 rfl rfl rfl rfl ?_
  refine y_loc (pc' := 19) xD_140 rfl rfl rfl rfl ?_
  refine y_loc (pc' := 20) xD_140 rfl rfl rfl rfl ?_
  refine y_icge (pt := 27) (pf := 23) xD_140 rfl rfl rfl (fun h20 => ?_) (fun h20 => ?_)
  · skip
    refine y_loc (pc' := 28) xD_140 rfl rfl rfl rfl ?_
    refine y_retI xD_140 rfl rfl ?_
    first | exact rI_e (by have := l.mp h20; by_cases q : x ≤ y; rw [if_pos q, show x = y by omega]; rw [if_neg q]) | exact rI_e (by rw [if_pos (by have : ¬ y ≤ x := fun q => h20 (l.mpr q); omega)])
  · skip
    refine y_loc (pc' := 24) xD_140 rfl rfl rfl rfl ?_
    refine y_goto (pc' := 28) xD_140 rfl rfl ?_
    refine y_retI xD_140 rfl rfl ?_
    first | exact rI_e (by have := l.mp h20; by_cases q : x ≤ y; rw [if_pos q, show x = y by omega]; rw [if_neg q]) | exact rI_e (by rw [if_pos (by have : ¬ y ≤ x := fun q => h20 (l.mpr q); omega)])
theorem s_mevolve (hR : RF R) (hP : MPg I P nb) (hpo : MPo I np pop) (h0 : 0 < np) (hD : DM I cc con) (hM : MAr I ar) (hst : I 261 9 = 1)
    {b4 b6 b7 b8 : Int64} {p q s t : Nat} {c0 c1 c2 c3 : CA} {ar1 ar2 : Nat → CA} (ep : p = evp np (J 261 14)) (eq : q = evp np (dn (dn (J 261 14)))) (eb4 : b4 = dn (dn (dn (dn (J 261 14))))) (es : s = dv (dn b4) (pop p).1) (et : t = dv (dn (dn b4)) (pop q).1) (eb6 : b6 = dn (dn b4)) (ec0 : c0 = jnC (pop p) (pop q) s t) (ec1 : c1 = jnC (pop q) (pop p) t s) (ec2 : c2 = chC cc con b6 c0) (eb7 : b7 = chB c0.2 c0.1 b6) (ec3 : c3 = chC cc con b7 c1) (eb8 : b8 = chB c1.2 c1.1 b7) (ea1 : ar1 = adm ar (kS P nb c2) c2) (ea2 : ar2 = adm ar1 (kS P nb c3) c3) {sg : Nat → Nat} (hO : ordO P nb (I 270) ar2 (np + 2) (evpop np pop c2 c3) sg) :
    XP S (d + 8) 139 0 (xent [.ref 261] 5) [] (hh I J R) (fun v h' => v = some (.int (cB (fS ar2 (2 * nb)))) ∧ ∃ I' J', h' = hh I' J' R ∧ I' 261 11 = nI (if np + 2 ≤ 5 then np + 2 else 5) ∧ (∀ k, k < np + 2 → RM I' k (evpop np pop c2 c3 (sg k))) ∧ MAr I' ar2 ∧ I' 261 13 = I 261 13 + 1 + 1 ∧ J' 261 14 = b8 ∧ (∀ j, j ≠ 11 → j ≠ 13 → I' 261 j = I 261 j) ∧ SF (fun t => 7 ≤ t ∧ (t < 9 ∨ 33 ≤ t) ∧ t < 60) I I' ∧ (∀ x, x < 261 ∨ (264 ≤ x ∧ x < 271) → I' x = I x) ∧ ∀ x, x < 261 → J' x = J x) := by
  obtain ⟨e11, np5, hpop⟩ := hpo
  have pl : p < np := by rw [ep]; exact evp_lt _ h0
  have ql : q < np := by rw [eq]; exact evp_lt _ h0
  obtain ⟨wp, zp, xp⟩ := hpop p pl
  obtain ⟨wq, zq, xq⟩ := hpop q ql
  have sl : s < (pop p).1 := by rw [es]; exact dv_lt _ zp
  have tl : t < (pop q).1 := by rw [et]; exact dv_lt _ zq
  have p6 := wp.1
  have q6 := wq.1
  have nb2 := hP.1.2.1
  have w0 := jnC_w wp wq sl tl
  have w1 := jnC_w wq wp tl sl
  rw [← ec0] at w0
  rw [← ec1] at w1
  have w2 : WC c2 := by rw [ec2]; exact chC_w w0.1 w0.2
  have w3 : WC c3 := by rw [ec3]; exact chC_w w1.1 w1.2
  have z2 : 0 < c2.1 := by rw [ec2]; exact (chN_ok w0.2 w0.1.1).1
  have z3 : 0 < c3.1 := by rw [ec3]; exact (chN_ok w1.2 w1.1.1).1
  have dp1 := s_lesser (S := S) (d := d + 6) (I := I) (J := J) (R := R) (np := np) e11 h0 np5
  have dp2 := s_lesser (S := S) (d := d + 6) (I := I) (J := xu J 261 14 (dn (dn (J 261 14)))) (R := R) (np := np) e11 h0 np5
  rw [← ep] at dp1
  rw [xu_ii, ← eq, xu_xu, ← eb4] at dp2
  have fin : ∀ I8 J8, (∀ k, k < np + 2 → RM I8 k (evpop np pop c2 c3 k)) → MAr I8 ar2 → I8 261 13 = I 261 13 + 1 + 1 → J8 261 14 = b8 → (∀ j, j ≠ 13 → I8 261 j = I 261 j) → SF (fun t => 7 ≤ t ∧ (t < 9 ∨ 33 ≤ t) ∧ t < 60) I I8 → (∀ x, x < 261 ∨ (264 ≤ x ∧ x < 271) → I8 x = I x) → (∀ x, x < 261 → J8 x = J x) → ∀ (q1 q2 q3 q4 : Option Value), XP S (d + 8) 139 114 [some (.ref 261), q1, q2, q3, q4] [] (hh I8 J8 R) (fun v h' => v = some (.int (cB (fS ar2 (2 * nb)))) ∧ ∃ I' J', h' = hh I' J' R ∧ I' 261 11 = nI (if np + 2 ≤ 5 then np + 2 else 5) ∧ (∀ k, k < np + 2 → RM I' k (evpop np pop c2 c3 (sg k))) ∧ MAr I' ar2 ∧ I' 261 13 = I 261 13 + 1 + 1 ∧ J' 261 14 = b8 ∧ (∀ j, j ≠ 11 → j ≠ 13 → I' 261 j = I 261 j) ∧ SF (fun t => 7 ≤ t ∧ (t < 9 ∨ 33 ≤ t) ∧ t < 60) I I' ∧ (∀ x, x < 261 ∨ (264 ≤ x ∧ x < 271) → I' x = I x) ∧ ∀ x, x < 261 → J' x = J x) := by
    intro I8 J8 r8 m8 c8 b8' f8 s8 x8 j8 q1 q2 q3 q4
    have wk : ∀ k, k < np + 2 → WC (evpop np pop c2 c3 k) := by
      intro k hk
      unfold evpop
      by_cases h1 : k < np
      · rw [if_pos h1]; exact (hpop k h1).1
      · rw [if_neg h1]
        by_cases h2 : k = np
        · rw [if_pos h2]; exact w2
        · rw [if_neg h2]; exact w3
    have hP8 : MPg I8 P nb := hP.fr (f8 10 (by decide)) (fun x a b => x8 x (by omega))
    have e11' : I8 261 11 = nI np := (f8 11 (by decide)).trans e11
    have po := s_putInOrder (S := S) (d := d) (n := np + 2) (nb := nb) (I := I8) (P := P) (J := J8) (R := R) (pop := evpop np pop c2 c3) (ar := ar2) hR (by omega) (by omega) hP8 m8 (fun k hk => ⟨wk k hk, r8 k hk⟩) (act := kAct (P 269) (I 270) ar2 nb) (by rw [hP8.2.2.2.2.2, x8 270 (by omega)]) (F := kFp P nb (evpop np pop c2 c3)) rfl (sz := kSz (evpop np pop c2 c3)) rfl (fr := ordFr P nb (I 270) ar2 (np + 2) (evpop np pop c2 c3)) (cr := ordCr P nb (I 270) ar2 (np + 2) (evpop np pop c2 c3)) rfl rfl hO
    have bits : ∀ g, g < 32 → 24 ≤ g → ib (fS ar2 (2 * nb)) g = false := fun g hg h24 => by
      rw [← Bool.not_eq_true, ib_fS hg (2 * nb) (by omega)]
      omega
    refine y_loc (pc' := 115) xD_139 rfl rfl rfl rfl ?_
    refine y_loc (pc' := 116) xD_139 rfl rfl rfl rfl ?_
    refine m_getI (pc' := 119) xD_139 rfl rfl rfl (by first | rfl | assumption) (e11') rfl ?_
    refine y_ci (pc' := 120) (2) xD_139 rfl rfl rfl rfl ?_
    refine y_iadd (pc' := 121) xD_139 rfl ((show nI np + 2 = nI (np + 2) from nI_add np 2)) rfl ?_
    refine y_callV xD_139 rfl rfl rfl rfl (by first | rfl | assumption) rfl rfl rfl rfl (po) (fun v h' hq => ?_)
    obtain ⟨rfl, I9, J9, rfl, r9, p9, f9, s9, x9, j9⟩ := hq
    have m9 : MAr I9 ar2 := m8.sf s9 (fun t a b => ⟨by omega, by omega⟩)
    refine y_loc (pc' := 125) xD_139 rfl rfl rfl rfl ?_
    refine y_callV xD_139 rfl rfl rfl rfl (by first | rfl | assumption) rfl rfl rfl rfl (s_found (d := d + 7) (ar := ar2) hR ((f9 10 (by decide)).trans hP8.1.1) nb2 m9) (fun v h' hq => ?_)
    obtain ⟨rfl, rfl⟩ := hq
    refine y_callS xD_139 rfl rfl rfl rfl rfl rfl rfl rfl (s_count (set_24 bits).2) (fun v h' hq => ?_)
    obtain ⟨rfl, rfl⟩ := hq
    refine y_retI xD_139 rfl rfl ?_
    exact ⟨rfl, I9, J9, rfl, p9, r9, m9, by rw [f9 13 (by decide)]; exact c8, by rw [j9 261 (by decide) (by decide) (by decide)]; exact b8', fun j a b => (f9 j a).trans (f8 j b), s8.tr (s9.w (fun t ht => ⟨by omega, ht.2.2⟩)), fun x hx => (x9 x (by omega) (by omega) (by omega) (by omega) (by omega) (by omega) (by omega)).trans (x8 x hx), fun x hx => (j9 x (by omega) (by omega) (by omega)).trans (j8 x hx)⟩
  refine y_loc (pc' := 1) xD_139 rfl rfl rfl rfl ?_
  refine m_getZ (pc' := 4) xD_139 rfl rfl rfl (by first | rfl | assumption) (hst) rfl ?_
  refine y_ifne (pt := 9) (pf := 7) xD_139 rfl rfl rfl (fun h4 => ?_) (fun h4 => ?_)
  · skip
    refine y_loc (pc' := 10) xD_139 rfl rfl rfl rfl ?_
    refine y_callV xD_139 rfl rfl rfl rfl (by first | rfl | assumption) rfl rfl rfl rfl (dp1) (fun v h' hq => ?_)
    obtain ⟨rfl, rfl⟩ := hq
    refine y_loc (pc' := 14) xD_139 rfl rfl rfl rfl ?_
    refine y_loc (pc' := 15) xD_139 rfl rfl rfl rfl ?_
    refine y_callV xD_139 rfl rfl rfl rfl (by first | rfl | assumption) rfl rfl rfl rfl (dp2) (fun v h' hq => ?_)
    obtain ⟨rfl, rfl⟩ := hq
    refine y_loc (pc' := 19) xD_139 rfl rfl rfl rfl ?_
    refine y_loc (pc' := 20) xD_139 rfl rfl rfl rfl ?_
    refine y_loc (pc' := 21) xD_139 rfl rfl rfl rfl ?_
    first | refine m_getR (pc' := 24) xD_139 rfl rfl rfl rfl (hR.1 _ _ _ rfl) rfl ?_ | refine m_getR (pc' := 24) xD_139 rfl rfl (by first | rfl | assumption) rfl (by assumption) rfl ?_
    refine y_loc (pc' := 25) xD_139 rfl rfl rfl rfl ?_
    refine m_iald (pc' := 26) (p) xD_139 rfl (by first | rfl | assumption) (by first | assumption | omega) (by first | decide | assumption) (by first | decide | omega) (by first | rfl | assumption) rfl ?_
    rw [xp.1]
    refine y_callV xD_139 rfl rfl rfl rfl (by first | rfl | assumption) rfl rfl rfl rfl (s_mdraw (pop p).1 zp (by omega) rfl) (fun v h' hq => ?_)
    obtain ⟨rfl, rfl⟩ := hq
    rw [xu_ii, xu_xu, ← es]
    refine y_loc (pc' := 30) xD_139 rfl rfl rfl rfl ?_
    refine y_loc (pc' := 31) xD_139 rfl rfl rfl rfl ?_
    refine y_loc (pc' := 32) xD_139 rfl rfl rfl rfl ?_
    first | refine m_getR (pc' := 35) xD_139 rfl rfl rfl rfl (hR.1 _ _ _ rfl) rfl ?_ | refine m_getR (pc' := 35) xD_139 rfl rfl (by first | rfl | assumption) rfl (by assumption) rfl ?_
    refine y_loc (pc' := 36) xD_139 rfl rfl rfl rfl ?_
    refine m_iald (pc' := 37) (q) xD_139 rfl (by first | rfl | assumption) (by first | assumption | omega) (by first | decide | assumption) (by first | decide | omega) (by first | rfl | assumption) rfl ?_
    rw [xq.1]
    refine y_callV xD_139 rfl rfl rfl rfl (by first | rfl | assumption) rfl rfl rfl rfl (s_mdraw (pop q).1 zq (by omega) rfl) (fun v h' hq => ?_)
    obtain ⟨rfl, rfl⟩ := hq
    rw [xu_ii, xu_xu, ← et, ← eb6]
    refine y_loc (pc' := 42) xD_139 rfl rfl rfl rfl ?_
    refine y_loc (pc' := 43) xD_139 rfl rfl rfl rfl ?_
    refine y_ci (pc' := 44) (5) xD_139 rfl rfl rfl rfl ?_
    refine y_loc (pc' := 45) xD_139 rfl rfl rfl rfl ?_
    refine y_loc (pc' := 46) xD_139 rfl rfl rfl rfl ?_
    refine y_loc (pc' := 47) xD_139 rfl rfl rfl rfl ?_
    refine y_loc (pc' := 49) xD_139 rfl rfl rfl rfl ?_
    refine y_callV xD_139 rfl rfl rfl rfl (by first | rfl | assumption) rfl rfl rfl rfl (s_mjoinC (d := d + 5) hR (to := 5) (x := p) (y := q) (s := s) (t := t) (by omega) (by omega) (by omega) (by omega) (by omega) wp wq xp xq sl tl rfl rfl rfl rfl rfl) (fun v h' hq => ?_)
    obtain ⟨rfl, I1, rfl, r1, s1, x1⟩ := hq
    rw [← ec0] at r1
    refine y_loc (pc' := 53) xD_139 rfl rfl rfl rfl ?_
    refine y_ci (pc' := 55) (6) xD_139 rfl rfl rfl rfl ?_
    refine y_loc (pc' := 56) xD_139 rfl rfl rfl rfl ?_
    refine y_loc (pc' := 58) xD_139 rfl rfl rfl rfl ?_
    refine y_loc (pc' := 59) xD_139 rfl rfl rfl rfl ?_
    refine y_loc (pc' := 60) xD_139 rfl rfl rfl rfl ?_
    refine y_callV xD_139 rfl rfl rfl rfl (by first | rfl | assumption) rfl rfl rfl rfl (s_mjoinC (d := d + 5) hR (to := 6) (x := q) (y := p) (s := t) (t := s) (by omega) (by omega) (by omega) (by omega) (by omega) wq wp (xq.sf wq s1 (show q ≠ 5 by omega)) (xp.sf wp s1 (show p ≠ 5 by omega)) tl sl rfl rfl rfl rfl rfl) (fun v h' hq => ?_)
    obtain ⟨rfl, I2, rfl, r2, s2, x2⟩ := hq
    rw [← ec1] at r2
    have X2 : ∀ x, x ≠ 262 → x ≠ 263 → I2 x = I x := fun x a b => (x2 x a b).trans (x1 x a b)
    have r1' := r1.sf w0.1 s2 (show 5 ≠ 6 by decide)
    have hP2 : MPg I2 P nb := hP.fr (by rw [X2 261 (by decide) (by decide)]) (fun x a b => X2 x (by omega) (by omega))
    have hD2 := hD.fr (fun x a b => X2 x (by omega) (by omega))
    have ch1 := s_mchangeC (S := S) (d := d + 3) (I := I2) (J := xu J 261 14 b6) (R := R) (s := 5) hR (by decide) hP2.pl cc hD2.1 con hD2.2 w0.1 w0.2 r1' (xs := 5) rfl
    rw [xu_ii, ← eb7, xu_xu, ← ec2] at ch1
    refine y_loc (pc' := 64) xD_139 rfl rfl rfl rfl ?_
    refine y_ci (pc' := 65) (5) xD_139 rfl rfl rfl rfl ?_
    refine y_callV xD_139 rfl rfl rfl rfl (by first | rfl | assumption) rfl rfl rfl rfl (ch1) (fun v h' hq => ?_)
    obtain ⟨rfl, I3, rfl, r3, s3, x3⟩ := hq
    have hP3 : MPg I3 P nb := hP2.fr (by rw [x3 261 (by decide) (by decide)]) (fun x a b => x3 x (by omega) (by omega))
    have m3 : MAr I3 ar := ((hM.sf s1 (fun t a b => show t ≠ 5 by omega)).sf s2 (fun t a b => show t ≠ 6 by omega)).sf s3 (fun t a b => show t ≠ 5 by omega)
    refine y_loc (pc' := 69) xD_139 rfl rfl rfl rfl ?_
    refine y_ci (pc' := 70) (5) xD_139 rfl rfl rfl rfl ?_
    refine y_callV xD_139 rfl rfl rfl rfl (by first | rfl | assumption) rfl rfl rfl rfl (s_archive (d := d) (s := 5) (ar := ar) hR (by decide) (Or.inl (by decide)) hP3 w2 r3 m3) (fun v h' hq => ?_)
    obtain ⟨rfl, I4, J4, rfl, m4, s4, x4, f4, c4, j4⟩ := hq
    rw [← ea1] at m4
    have X4 : ∀ x, x < 261 ∨ (264 ≤ x ∧ x < 271) → I4 x = I x := fun x hx => (x4 x (by omega) (by omega) (by omega) (by omega)).trans ((x3 x (by omega) (by omega)).trans (X2 x (by omega) (by omega)))
    have F4 : ∀ j, j ≠ 13 → I4 261 j = I 261 j := fun j hj => (f4 j hj).trans (by rw [x3 261 (by decide) (by decide), X2 261 (by decide) (by decide)])
    have hP4 : MPg I4 P nb := hP.fr (F4 10 (by decide)) (fun x a b => X4 x (by omega))
    have hD4 := hD.fr (fun x a b => X4 x (by omega))
    have e14 : J4 261 14 = b7 := by rw [j4 261 (by decide) (by decide), xu_ii]
    have r4 : RM I4 6 c1 := (r2.sf w1.1 s3 (show 6 ≠ 5 by decide)).sf w1.1 s4 (Or.inl (by decide))
    have ch2 := s_mchangeC (S := S) (d := d + 3) (I := I4) (J := J4) (R := R) (s := 6) hR (by decide) hP4.pl cc hD4.1 con hD4.2 w1.1 w1.2 r4 (xs := 6) rfl
    rw [e14, ← eb8, ← ec3] at ch2
    refine y_loc (pc' := 74) xD_139 rfl rfl rfl rfl ?_
    refine y_ci (pc' := 76) (6) xD_139 rfl rfl rfl rfl ?_
    refine y_callV xD_139 rfl rfl rfl rfl (by first | rfl | assumption) rfl rfl rfl rfl (ch2) (fun v h' hq => ?_)
    obtain ⟨rfl, I5, rfl, r5, s5, x5⟩ := hq
    have hP5 : MPg I5 P nb := hP4.fr (by rw [x5 261 (by decide) (by decide)]) (fun x a b => x5 x (by omega) (by omega))
    have m5 : MAr I5 ar1 := m4.sf s5 (fun t a b => show t ≠ 6 by omega)
    refine y_loc (pc' := 80) xD_139 rfl rfl rfl rfl ?_
    refine y_ci (pc' := 82) (6) xD_139 rfl rfl rfl rfl ?_
    refine y_callV xD_139 rfl rfl rfl rfl (by first | rfl | assumption) rfl rfl rfl rfl (s_archive (d := d) (s := 6) (ar := ar1) hR (by decide) (Or.inl (by decide)) hP5 w3 r5 m5) (fun v h' hq => ?_)
    obtain ⟨rfl, I6, J6, rfl, m6, s6, x6, f6, c6, j6⟩ := hq
    rw [← ea2] at m6
    have X6 : ∀ x, x < 261 ∨ (264 ≤ x ∧ x < 271) → I6 x = I x := fun x hx => (x6 x (by omega) (by omega) (by omega) (by omega)).trans ((x5 x (by omega) (by omega)).trans (X4 x hx))
    have F6 : ∀ j, j ≠ 13 → I6 261 j = I 261 j := fun j hj => (f6 j hj).trans (by rw [x5 261 (by decide) (by decide)]; exact F4 j hj)
    have C6 : I6 261 13 = I 261 13 + 1 + 1 := by rw [c6, x5 261 (by decide) (by decide), c4, x3 261 (by decide) (by decide), X2 261 (by decide) (by decide)]
    have J6' : ∀ x, x < 261 → J6 x = J x := fun x hx => (j6 x (by omega) (by omega)).trans ((xu_ne (by omega)).trans ((j4 x (by omega) (by omega)).trans (xu_ne (by omega))))
    have B6 : J6 261 14 = b8 := by rw [j6 261 (by decide) (by decide), xu_ii]
    have sf6 : SF (fun t => t ≠ 5 ∧ t ≠ 6 ∧ (t < 9 ∨ 33 ≤ t)) I I6 := (((((s1.w (fun t ht => ht.1)).tr (s2.w (fun t ht => ht.2.1))).tr (s3.w (fun t ht => ht.1))).tr (s4.w (fun t ht => ht.2.2))).tr (s5.w (fun t ht => ht.2.1))).tr (s6.w (fun t ht => ht.2.2))
    have rp : ∀ k, k < np → RM I6 k (pop k) := fun k hk => (hpop k hk).2.2.sf (hpop k hk).1 sf6 ⟨by omega, by omega, by omega⟩
    have r65 : RM I6 5 c2 := ((r3.sf w2 s4 (Or.inl (by decide))).sf w2 s5 (show 5 ≠ 6 by decide)).sf w2 s6 (Or.inl (by decide))
    have r66 : RM I6 6 c3 := r5.sf w3 s6 (Or.inl (by decide))
    have e6 : I6 261 11 = nI np := (F6 11 (by decide)).trans e11
    have l5 : 5 ≤ nI np ↔ 5 ≤ np := nI_leI (a := 5) (by decide) (by omega)
    refine y_loc (pc' := 86) xD_139 rfl rfl rfl rfl ?_
    refine m_getI (pc' := 89) xD_139 rfl rfl rfl (by first | rfl | assumption) (e6) rfl ?_
    refine y_ci (pc' := 90) (5) xD_139 rfl rfl rfl rfl ?_
    refine y_icge (pt := 114) (pf := 93) xD_139 rfl rfl rfl (fun h90 => ?_) (fun h90 => ?_)
    · skip
      have n5 : np = 5 := by have := l5.mp h90; omega
      refine fin I6 J6 (fun k hk => ?_) m6 C6 B6 F6 (sf6.w (fun t ht => ⟨by omega, by omega, ht.2.1⟩)) X6 J6' _ _ _ _
      unfold evpop
      by_cases h1 : k < np
      · rw [if_pos h1]; exact rp k h1
      · rw [if_neg h1]
        by_cases h2 : k = np
        · rw [if_pos h2, h2, n5]; exact r65
        · rw [if_neg h2, show k = 6 by omega]; exact r66
    · skip
      have n5 : np < 5 := Nat.lt_of_not_le (fun q => h90 (l5.mpr q))
      refine y_loc (pc' := 94) xD_139 rfl rfl rfl rfl ?_
      refine y_ci (pc' := 95) (5) xD_139 rfl rfl rfl rfl ?_
      refine y_loc (pc' := 96) xD_139 rfl rfl rfl rfl ?_
      refine m_getI (pc' := 99) xD_139 rfl rfl rfl (by first | rfl | assumption) (e6) rfl ?_
      refine y_callV xD_139 rfl rfl rfl rfl (by first | rfl | assumption) rfl rfl rfl rfl (s_mcopy (d := d + 7) hR (s := 5) (t := np) (by decide) (by omega) (by omega) rfl rfl) (fun v h' hq => ?_)
      obtain ⟨rfl, rfl⟩ := hq
      have e7 : xu (xrow I6 262 (sl1 (I6 262) np (slM I6 5))) 263 np (I6 263 5) 261 11 = nI np := by rw [xu_ne (by decide), xrow_ne (by decide)]; exact e6
      refine y_loc (pc' := 103) xD_139 rfl rfl rfl rfl ?_
      refine y_ci (pc' := 105) (6) xD_139 rfl rfl rfl rfl ?_
      refine y_loc (pc' := 106) xD_139 rfl rfl rfl rfl ?_
      refine m_getI (pc' := 109) xD_139 rfl rfl rfl (by first | rfl | assumption) (e7) rfl ?_
      refine y_ci (pc' := 110) (1) xD_139 rfl rfl rfl rfl ?_
      refine y_iadd (pc' := 111) xD_139 rfl (nI_1 np) rfl ?_
      refine y_callV xD_139 rfl rfl rfl rfl (by first | rfl | assumption) rfl rfl rfl rfl (s_mcopy (d := d + 7) hR (s := 6) (t := np + 1) (by decide) (by omega) (by omega) rfl rfl) (fun v h' hq => ?_)
      obtain ⟨rfl, rfl⟩ := hq
      have a7 := RM_cp (t := np) w2 r65
      have b7' : ∀ {k : Nat} {c : CA}, WC c → RM I6 k c → k ≠ np → RM (xu (xrow I6 262 (sl1 (I6 262) np (slM I6 5))) 263 np (I6 263 5)) k c := fun w r h => r.sf w SF_cp h
      obtain ⟨I7, eI7⟩ : ∃ I7, I7 = xu (xrow I6 262 (sl1 (I6 262) np (slM I6 5))) 263 np (I6 263 5) := ⟨_, rfl⟩
      have x7 : ∀ x, x ≠ 262 → x ≠ 263 → I7 x = I6 x := fun x a b => by rw [eI7, xu_ne b, xrow_ne a]
      have sf7 : SF (fun t => t ≠ np) I6 I7 := by rw [eI7]; exact SF_cp
      rw [← eI7] at a7 b7' ⊢
      have sf8 : SF (fun t => t ≠ np + 1) I7 (xu (xrow I7 262 (sl1 (I7 262) (np + 1) (slM I7 6))) 263 (np + 1) (I7 263 6)) := SF_cp
      have x8 : ∀ x, x ≠ 262 → x ≠ 263 → xu (xrow I7 262 (sl1 (I7 262) (np + 1) (slM I7 6))) 263 (np + 1) (I7 263 6) x = I6 x := fun x a b => by rw [xu_ne b, xrow_ne a]; exact x7 x a b
      refine fin _ J6 (fun k hk => ?_) ((m6.sf sf7 (fun t a b => show t ≠ np by omega)).sf sf8 (fun t a b => show t ≠ np + 1 by omega)) (by rw [x8 261 (by decide) (by decide)]; exact C6) B6 (by rw [x8 261 (by decide) (by decide)]; exact F6) ((sf6.w (fun t ht => ⟨by omega, by omega, ht.2.1⟩)).tr ((sf7.w (fun t (ht : 7 ≤ t ∧ (t < 9 ∨ 33 ≤ t) ∧ t < 60) => show t ≠ np by omega)).tr (sf8.w (fun t (ht : 7 ≤ t ∧ (t < 9 ∨ 33 ≤ t) ∧ t < 60) => show t ≠ np + 1 by omega)))) (fun x hx => (x8 x (by omega) (by omega)).trans (X6 x hx)) J6' _ _ _ _
      unfold evpop
      by_cases h1 : k < np
      · rw [if_pos h1]; exact (b7' (hpop k h1).1 (rp k h1) (by omega)).sf (hpop k h1).1 sf8 (show k ≠ np + 1 by omega)
      · rw [if_neg h1]
        by_cases h2 : k = np
        · rw [if_pos h2, h2]; exact a7.sf w2 sf8 (show np ≠ np + 1 by omega)
        · rw [if_neg h2, show k = np + 1 by omega]
          exact RM_cp w3 (b7' w3 r66 (by omega))
  · skip
    exact absurd h4 (by decide)
end ME

