/-! evolve: the class, whole. -/
section GZ
variable {S : XS} {d k pc pc' a j ci idx : Nat} {L : XL} {r : List Value} {Q : Option Value → XH → Prop} {T : List (Nat × Instr × Nat)} {v : Int32} {I : Nat → Nat → Int32} {J : Nat → Nat → Int64} {R : Nat → Nat → Option Nat}
theorem m_getZ (hD : XDec k T) (hd : xat T pc = some (.getfield idx, 3)) (hf : xfld (xkc k) idx = some (ci, j)) (hk1 : xft ci j = .boolean) (hk : kq a = (ci, xnf ci)) (e : I a j = v) (hp : pc + 3 = pc') (K : XP S d k pc' L (.int v :: r) (hh I J R) Q) : XP S d k pc L (.ref a :: r) (hh I J R) Q := by
  subst e
  exact m_get hD hd hf hk (by rw [hk1]; rfl) hp K
end GZ
theorem CPg.fr {I I' P : Nat → Nat → Int32} {nb : Nat} (h : CPg I P nb) (e : ∀ x, x < 20 → I' x = I x) : CPg I' P nb := by
  obtain ⟨h1, h2, h3, h4, h5⟩ := h
  obtain ⟨p1, p2⟩ := PC_eq (I' := I') (fun x hx => e x (by omega)) h3
  refine ⟨by rw [e 2 (by decide)]; exact h1, h2, p1, fun m hm => ?_, by rw [e 16 (by decide)]; exact h5⟩
  obtain ⟨a, b, c⟩ := p2 m hm
  have := h4 m hm
  rw [a]
  show _ ∧ Pr (cdC I' (4 + 6 * m)) _ (bnC I' (4 + 6 * m)) _ _
  rw [b, c]
  exact this
theorem ib_ge {x : Int32} {g : Nat} (h : 32 ≤ g) : ib x g = false := BitVec.getLsbD_of_ge _ _ h
theorem adm_z {P : Nat → Nat → Int32} {nb : Nat} {ar : Nat → CA} {c : CA} (hnb : nb ≤ 12) (hz : ∀ g, 2 * nb ≤ g → (ar g).1 = 0) : ∀ g, 2 * nb ≤ g → (adm ar (kS P nb c) c g).1 = 0 := by
  intro g hg
  unfold adm
  rw [if_neg (fun q => ?_)]
  · exact hz g hg
  · by_cases h : g < 32
    · have := kS_lt hnb h q.1; omega
    · rw [ib_ge (by omega)] at q; exact absurd q.1 (by decide)
section EW
variable {S : XS} {d nb np cc : Nat} {I P : Nat → Nat → Int32} {J : Nat → Nat → Int64} {R : Nat → Nat → Option Nat} {A : Nat → Nat} {pop ar : Nat → CA} {al : Nat → Int32}
/-- what both orders are given -/
def ordFr (P : Nat → Nat → Int32) (nb : Nat) (al : Nat → Int32) (ar : Nat → CA) (n : Nat) (pp : Nat → CA) : Nat → Nat := ff (kFp P nb pp) (kSz pp) (kAct (P 269) al ar nb) n n
def ordCr (P : Nat → Nat → Int32) (nb : Nat) (al : Nat → Int32) (ar : Nat → CA) (n : Nat) (pp : Nat → CA) : Nat → Nat := fun k => cw (kFp P nb pp) (kAct (P 269) al ar nb) (ordFr P nb al ar n pp) k n
def ordO (P : Nat → Nat → Int32) (nb : Nat) (al : Nat → Int32) (ar : Nat → CA) (n : Nat) (pp : Nat → CA) (s : Nat → Nat) : Prop := isO (ordFr P nb al ar n pp) (ordCr P nb al ar n pp) (kSz pp) n s
/-- children taken in, as such -/
theorem s_takeInC (hR : RF R) (h7 : C7 R A) (hP : CPg I P nb) (hnp : np ≤ 5) (e1 : I 121 1 = nI np) (hp : ∀ k, k < np + 2 → WC (pop k) ∧ 0 < (pop k).1 ∧ RX I J P nb (A k) (pop k)) {act : Int32} (ha : act = kAct (P 269) al ar nb) :
    XP S (d + 4) 55 0 (xent [.ref 121, .int act] 4) [] (hh I J R) (fun v h' => v = none ∧ ∃ I' R' s, h' = hh I' J R' ∧ RF R' ∧ ordO P nb al ar (np + 2) pop s ∧ CPo I' J R' P nb (fun k => A (s k)) (if np + 2 ≤ 5 then np + 2 else 5) (fun k => pop (s k)) ∧ (∀ x, x < 121 ∨ 151 ≤ x → I' x = I x) ∧ ∀ x, x ≠ 122 → R' x = R x) := by
  subst ha
  have nb2 := hP.2.1
  have act2 : ∀ g, g < 24 → ib (kAct (P 269) al ar nb) g = true → g < 2 * nb := fun g hg q => ((ib_aS (by omega) (2 * nb) (by omega)).mp q).1
  refine XP.conseq (s_takeIn (d := d) (A := A) (F := kFp P nb pop) (sz := kSz pop) (act := kAct (P 269) al ar nb) hR h7 np hnp e1 (fun k hk g hg q => (hp k hk).2.2.2.2.2 g (act2 g hg q)) (fun k hk g hg => kF_b nb2 (kr_class (J := J) hP (hp k hk).1 (hp k hk).2.2.1).1 hg) (fun k hk => ⟨(hp k hk).2.2.1.1, (hp k hk).1.1⟩)) (fun v h' hq => ?_)
  obtain ⟨rfl, I', g, s, rfl, hO, hs, eg, h1, f1, f2⟩ := hq
  refine ⟨rfl, I', _, s, rfl, RF_row hR (Or.inl rfl), hO, ⟨fun i hi => ?_, h1, by split <;> omega, fun k hk => ?_⟩, fun x hx => ?_, fun x hx => xrow_ne hx⟩
  · have si : s i < 7 := by
      by_cases q : i < np + 2
      · have := hO.1 i q; omega
      · rw [hs i (by omega)]; exact hi
    obtain ⟨-, c, l, u, e⟩ := h7 (s i) si
    refine ⟨by rw [xrow_at]; exact eg i hi, c, l, u, fun j hj q => ?_⟩
    have sj : s j < 7 := by
      by_cases q : j < np + 2
      · have := hO.1 j q; omega
      · rw [hs j (by omega)]; exact hj
    have es := e (s j) sj q
    by_cases ci : i < np + 2
    · by_cases cj : j < np + 2
      · have a1 := hO.2.1 i j
        have a2 := hO.2.1 j i
        by_cases lt : i < j
        · have := a1 lt cj; rw [es] at this; unfold gL at this; omega
        · by_cases gt : j < i
          · have := a2 gt ci; rw [es] at this; unfold gL at this; omega
          · omega
      · have := hO.1 i ci; rw [es, hs j (by omega)] at this; omega
    · by_cases cj : j < np + 2
      · have := hO.1 j cj; rw [← es, hs i (by omega)] at this; omega
      · rw [hs i (by omega), hs j (by omega)] at es; exact es
  · have k2 : k < np + 2 := by split at hk <;> omega
    have sk := hO.1 k k2
    obtain ⟨w, z, x⟩ := hp (s k) sk
    obtain ⟨-, c, l, u, -⟩ := h7 (s k) (by omega)
    refine ⟨w, z, ⟨⟨?_, ?_⟩, ?_, x.2.2.1, x.2.2.2⟩⟩
    · rw [f1 (A (s k)) 3 (by omega) (by decide) (by decide)]; exact x.1.1
    · rw [f2 (A (s k) + 1) (by omega) (fun j hj q => by
        by_cases e : s k = j
        · subst e; omega
        · exact C7.ne h7 (r := 1) (r' := 0) (by omega) hj e (by decide) (by decide) q)]
      exact x.1.2
    · rw [f1 (A (s k)) 4 (by omega) (by decide) (by decide)]; exact x.2.1
  · refine f2 x (by omega) (fun k hk q => ?_)
    obtain ⟨-, c, l, u, -⟩ := h7 k hk
    omega
/-- evolve, once started -/
theorem s_evolve (hR : RF R) (hP : CPg I P nb) (hpo : CPo I J R P nb A np pop) (h0 : 0 < np) (hcc : I 18 1 = nI cc) (hcc2 : cc ≤ 20) (hAr : CAr I J P nb ar) (hz : ∀ g, 2 * nb ≤ g → (ar g).1 = 0) (hop : ∀ k, k < nb → (¬ I 17 k = 0 ↔ (P 269 k = 0 ∨ ¬ al k = 0))) (hst : I 1 8 = 1)
    {b4 b6 b7 b8 : Int64} {p q s t : Nat} {c0 c1 c2 c3 : CA} {ar1 ar2 : Nat → CA} (ep : p = evp np (J 18 2)) (eq : q = evp np (dn (dn (J 18 2)))) (eb4 : b4 = dn (dn (dn (dn (J 18 2))))) (es : s = dv (dn b4) (pop p).1) (et : t = dv (dn (dn b4)) (pop q).1) (eb6 : b6 = dn (dn b4)) (ec0 : c0 = jnC (pop p) (pop q) s t) (ec1 : c1 = jnC (pop q) (pop p) t s) (ec2 : c2 = chC cc (I 19) b6 c0) (eb7 : b7 = chB c0.2 c0.1 b6) (ec3 : c3 = chC cc (I 19) b7 c1) (eb8 : b8 = chB c1.2 c1.1 b7) (ea1 : ar1 = adm ar (kS P nb c2) c2) (ea2 : ar2 = adm ar1 (kS P nb c3) c3) :
    XP S (d + 7) 70 0 (xent [.ref 1] 6) [] (hh I J R) (fun v h' => v = some (.int (cB (fS ar2 (2 * nb)))) ∧ ∃ I' J' R' sg, h' = hh I' J' R' ∧ RF R' ∧ ordO P nb al ar2 (np + 2) (evpop np pop c2 c3) sg ∧ CPo I' J' R' P nb (fun k => A (sg k)) (if np + 2 ≤ 5 then np + 2 else 5) (fun k => evpop np pop c2 c3 (sg k)) ∧ CAr I' J' P nb ar2 ∧ I' 20 2 = I 20 2 + 1 + 1 ∧ J' 18 2 = b8 ∧ (∀ x, x < 20 ∨ 151 ≤ x → I' x = I x) ∧ (∀ x, x < 18 ∨ x = 19 ∨ 151 ≤ x → J' x = J x) ∧ ∀ x, x ≠ 122 → R' x = R x) := by
  obtain ⟨h7, e121, np5, hpop⟩ := hpo
  have pl : p < np := by rw [ep]; exact evp_lt _ h0
  have ql : q < np := by rw [eq]; exact evp_lt _ h0
  obtain ⟨wp, zp, xp⟩ := hpop p pl
  obtain ⟨wq, zq, xq⟩ := hpop q ql
  have sl : s < (pop p).1 := by rw [es]; exact dv_lt _ zp
  have tl : t < (pop q).1 := by rw [et]; exact dv_lt _ zq
  have p6 := wp.1
  have q6 := wq.1
  obtain ⟨-, cp, lp, up, -⟩ := h7 p (by omega)
  obtain ⟨-, cq, lq, uq, -⟩ := h7 q (by omega)
  obtain ⟨-, ca, la, ua, -⟩ := h7 np (by omega)
  obtain ⟨-, cb, lb, ub, -⟩ := h7 (np + 1) (by omega)
  have kp := (kCase cp).1
  have kq' := (kCase cq).1
  have ka := (kCase ca).1
  have kb := (kCase cb).1
  have ua' : A np + 3 < 151 := by unfold isCase at ca; omega
  have ub' : A (np + 1) + 3 < 151 := by unfold isCase at cb; omega
  have w0 := jnC_w wp wq sl tl
  have w1 := jnC_w wq wp tl sl
  rw [← ec0] at w0
  rw [← ec1] at w1
  have w2 : WC c2 := by rw [ec2]; exact chC_w w0.1 w0.2
  have w3 : WC c3 := by rw [ec3]; exact chC_w w1.1 w1.2
  have z2 : 0 < c2.1 := by rw [ec2]; exact (chN_ok w0.2 w0.1.1).1
  have z3 : 0 < c3.1 := by rw [ec3]; exact (chN_ok w1.2 w1.1.1).1
  have npa : ∀ k, k < np → ∀ r r', r < 4 → r' < 4 → A k + r ≠ A np + r' ∧ A k + r ≠ A (np + 1) + r' := fun k hk r r' a b => ⟨h7.ne (by omega) (by omega) (by omega) a b, h7.ne (by omega) (by omega) (by omega) a b⟩
  have nab : ∀ r r', r < 4 → r' < 4 → A np + r ≠ A (np + 1) + r' := fun r r' a b => h7.ne (by omega) (by omega) (by omega) a b
  have dp1 := s_drawParent (S := S) (d := d + 5) (I := I) (J := J) (np := np) hR h7 e121 h0 np5
  have dp2 := s_drawParent (S := S) (d := d + 5) (I := I) (J := xu J 18 2 (dn (dn (J 18 2)))) (np := np) hR h7 e121 h0 np5
  rw [← ep] at dp1
  rw [xu_ii, ← eq, xu_xu] at dp2
  refine y_loc (pc' := 1) xD_70 rfl rfl rfl rfl ?_
  refine m_getZ (pc' := 4) xD_70 rfl rfl rfl (by first | rfl | assumption) (hst) rfl ?_
  refine y_ifne (pt := 9) (pf := 7) xD_70 rfl rfl rfl (fun h4 => ?_) (fun h4 => ?_)
  · skip
    refine y_loc (pc' := 10) xD_70 rfl rfl rfl rfl ?_
    refine y_callV xD_70 rfl rfl rfl rfl (by first | rfl | assumption) rfl rfl rfl rfl (dp1) (fun v h' hq => ?_)
    obtain ⟨rfl, rfl⟩ := hq
    refine y_loc (pc' := 14) xD_70 rfl rfl rfl rfl ?_
    refine y_loc (pc' := 15) xD_70 rfl rfl rfl rfl ?_
    refine y_callV xD_70 rfl rfl rfl rfl (by first | rfl | assumption) rfl rfl rfl rfl (dp2) (fun v h' hq => ?_)
    obtain ⟨rfl, rfl⟩ := hq
    rw [← eb4]
    refine y_loc (pc' := 19) xD_70 rfl rfl rfl rfl ?_
    refine y_loc (pc' := 20) xD_70 rfl rfl rfl rfl ?_
    first | refine m_getR (pc' := 23) xD_70 rfl rfl rfl rfl (hR.1 _ _ _ rfl) rfl ?_ | refine m_getR (pc' := 23) xD_70 rfl rfl (by first | rfl | assumption) rfl (by assumption) rfl ?_
    refine y_loc (pc' := 24) xD_70 rfl rfl rfl rfl ?_
    refine m_getI (pc' := 27) xD_70 rfl rfl rfl (by first | rfl | assumption) (xp.1.1) rfl ?_
    refine y_callV xD_70 rfl rfl rfl rfl (by first | rfl | assumption) rfl rfl rfl rfl (s_draw (pop p).1 zp (by omega) rfl) (fun v h' hq => ?_)
    obtain ⟨rfl, rfl⟩ := hq
    rw [xu_ii, xu_xu, ← es]
    refine y_loc (pc' := 31) xD_70 rfl rfl rfl rfl ?_
    refine y_loc (pc' := 32) xD_70 rfl rfl rfl rfl ?_
    first | refine m_getR (pc' := 35) xD_70 rfl rfl rfl rfl (hR.1 _ _ _ rfl) rfl ?_ | refine m_getR (pc' := 35) xD_70 rfl rfl (by first | rfl | assumption) rfl (by assumption) rfl ?_
    refine y_loc (pc' := 36) xD_70 rfl rfl rfl rfl ?_
    refine m_getI (pc' := 39) xD_70 rfl rfl rfl (by first | rfl | assumption) (xq.1.1) rfl ?_
    refine y_callV xD_70 rfl rfl rfl rfl (by first | rfl | assumption) rfl rfl rfl rfl (s_draw (pop q).1 zq (by omega) rfl) (fun v h' hq => ?_)
    obtain ⟨rfl, rfl⟩ := hq
    rw [xu_ii, xu_xu, ← et, ← eb6]
    refine y_loc (pc' := 44) xD_70 rfl rfl rfl rfl ?_
    refine y_loc (pc' := 45) xD_70 rfl rfl rfl rfl ?_
    first | refine m_getR (pc' := 48) xD_70 rfl rfl rfl rfl (hR.1 _ _ _ rfl) rfl ?_ | refine m_getR (pc' := 48) xD_70 rfl rfl (by first | rfl | assumption) rfl (by assumption) rfl ?_
    refine y_ci (pc' := 49) (0) xD_70 rfl rfl rfl rfl ?_
    refine y_callV xD_70 rfl rfl rfl rfl (by first | rfl | assumption) rfl rfl rfl rfl (s_child hR h7 e121 0 (k := np) rfl (by omega) rfl) (fun v h' hq => ?_)
    obtain ⟨rfl, rfl⟩ := hq
    refine y_loc (pc' := 53) xD_70 rfl rfl rfl rfl ?_
    refine y_loc (pc' := 54) xD_70 rfl rfl rfl rfl ?_
    refine y_loc (pc' := 55) xD_70 rfl rfl rfl rfl ?_
    refine y_loc (pc' := 57) xD_70 rfl rfl rfl rfl ?_
    refine y_callV xD_70 rfl rfl rfl rfl (by first | rfl | assumption) rfl rfl rfl rfl (s_joinC (d := d + 5) hR ca cp cq (by have := npa p pl 0 0 (by decide) (by decide); omega) (by have := npa q ql 0 0 (by decide) (by decide); omega) wp wq xp.1 xq.1 sl tl rfl rfl) (fun v h' hq => ?_)
    obtain ⟨rfl, I1, rfl, r1, f1⟩ := hq
    rw [← ec0] at r1
    refine y_loc (pc' := 61) xD_70 rfl rfl rfl rfl ?_
    first | refine m_getR (pc' := 64) xD_70 rfl rfl rfl rfl (hR.1 _ _ _ rfl) rfl ?_ | refine m_getR (pc' := 64) xD_70 rfl rfl (by first | rfl | assumption) rfl (by assumption) rfl ?_
    refine y_ci (pc' := 65) (1) xD_70 rfl rfl rfl rfl ?_
    refine y_callV xD_70 rfl rfl rfl rfl (by first | rfl | assumption) rfl rfl rfl rfl (s_child hR h7 ((congrFun (f1 121 (by omega) (by omega)) 1).trans e121) 1 (k := np + 1) rfl (by omega) rfl) (fun v h' hq => ?_)
    obtain ⟨rfl, rfl⟩ := hq
    refine y_loc (pc' := 69) xD_70 rfl rfl rfl rfl ?_
    refine y_loc (pc' := 71) xD_70 rfl rfl rfl rfl ?_
    refine y_loc (pc' := 72) xD_70 rfl rfl rfl rfl ?_
    refine y_loc (pc' := 73) xD_70 rfl rfl rfl rfl ?_
    refine y_callV xD_70 rfl rfl rfl rfl (by first | rfl | assumption) rfl rfl rfl rfl (s_joinC (d := d + 5) hR cb cq cp (by have := npa q ql 0 0 (by decide) (by decide); omega) (by have := npa p pl 0 0 (by decide) (by decide); omega) wq wp (xq.1.fr (f1 _ (by have := npa q ql 0 0 (by decide) (by decide); omega) (by have := npa q ql 0 1 (by decide) (by decide); omega)) (f1 _ (by have := npa q ql 1 0 (by decide) (by decide); omega) (by have := npa q ql 1 1 (by decide) (by decide); omega))) (xp.1.fr (f1 _ (by have := npa p pl 0 0 (by decide) (by decide); omega) (by have := npa p pl 0 1 (by decide) (by decide); omega)) (f1 _ (by have := npa p pl 1 0 (by decide) (by decide); omega) (by have := npa p pl 1 1 (by decide) (by decide); omega))) tl sl rfl rfl) (fun v h' hq => ?_)
    obtain ⟨rfl, I2, rfl, r2, f2⟩ := hq
    rw [← ec1] at r2
    have F2 : ∀ x, x < 123 ∨ 151 ≤ x → I2 x = I x := fun x hx => (f2 x (by omega) (by omega)).trans (f1 x (by omega) (by omega))
    have r1' : RC I2 (A np) c0 := r1.fr (f2 _ (by have := nab 0 0 (by decide) (by decide); omega) (by have := nab 0 1 (by decide) (by decide); omega)) (f2 _ (by have := nab 1 0 (by decide) (by decide); omega) (by have := nab 1 1 (by decide) (by decide); omega))
    refine y_ci (pc' := 77) (0) xD_70 rfl rfl rfl rfl ?_
    refine y_loc (pc' := 79) xD_70 rfl rfl rfl rfl ?_
    refine y_loc (pc' := 81) xD_70 rfl rfl rfl rfl ?_
    refine y_ci (pc' := 82) (2) xD_70 rfl rfl rfl rfl ?_
    refine y_icge (pt := 120) (pf := 85) xD_70 rfl rfl rfl (fun h82 => ?_) (fun h82 => ?_)
    · skip
      exact absurd h82 (by decide)
    · skip
      refine y_loc (pc' := 86) xD_70 rfl rfl rfl rfl ?_
      first | refine m_getR (pc' := 89) xD_70 rfl rfl rfl rfl (hR.1 _ _ _ rfl) rfl ?_ | refine m_getR (pc' := 89) xD_70 rfl rfl (by first | rfl | assumption) rfl (by assumption) rfl ?_
      refine y_loc (pc' := 90) xD_70 rfl rfl rfl rfl ?_
      first | refine m_getR (pc' := 93) xD_70 rfl rfl rfl rfl (hR.1 _ _ _ rfl) rfl ?_ | refine m_getR (pc' := 93) xD_70 rfl rfl (by first | rfl | assumption) rfl (by assumption) rfl ?_
      refine y_loc (pc' := 95) xD_70 rfl rfl rfl rfl ?_
      refine y_callV xD_70 rfl rfl rfl rfl (by first | rfl | assumption) rfl rfl rfl rfl (s_child (np := np) hR h7 ((congrFun (F2 121 (by omega)) 1).trans e121) 0 (k := np) rfl (by omega) rfl) (fun v h' hq => ?_)
      obtain ⟨rfl, rfl⟩ := hq
      have ch1 := s_changeC (S := S) (d := d + 3) (I := I2) (J := xu J 18 2 b6) (R := R) (a := A np) hR ca cc ((congrFun (F2 18 (by omega)) 1).trans hcc) hcc2 w0.1 w0.2 r1'
      rw [xu_ii, ← eb7, xu_xu, F2 19 (by omega), ← ec2] at ch1
      refine y_callV xD_70 rfl rfl rfl rfl (by first | rfl | assumption) rfl rfl rfl rfl (ch1) (fun v h' hq => ?_)
      obtain ⟨rfl, I3, rfl, r3, f3⟩ := hq
      refine y_loc (pc' := 102) xD_70 rfl rfl rfl rfl ?_
      refine y_loc (pc' := 103) xD_70 rfl rfl rfl rfl ?_
      first | refine m_getR (pc' := 106) xD_70 rfl rfl rfl rfl (hR.1 _ _ _ rfl) rfl ?_ | refine m_getR (pc' := 106) xD_70 rfl rfl (by first | rfl | assumption) rfl (by assumption) rfl ?_
      refine y_loc (pc' := 108) xD_70 rfl rfl rfl rfl ?_
      refine y_callV xD_70 rfl rfl rfl rfl (by first | rfl | assumption) rfl rfl rfl rfl (s_child (np := np) hR h7 ((congrFun ((f3 121 (by omega) (by omega)).trans (F2 121 (by omega))) 1).trans e121) 0 (k := np) rfl (by omega) rfl) (fun v h' hq => ?_)
      obtain ⟨rfl, rfl⟩ := hq
      have F3 : ∀ x, x < 123 ∨ 151 ≤ x → I3 x = I x := fun x hx => (f3 x (by omega) (by omega)).trans (F2 x hx)
      have J3 : ∀ x, x ≠ 18 → xu J 18 2 b7 x = J x := fun x hx => xu_ne hx
      refine y_callV xD_70 rfl rfl rfl rfl (by first | rfl | assumption) rfl rfl rfl rfl (s_runAndArchive (d := d) (ar := ar) hR ca (by omega) (hP.fr (fun x hx => F3 x (by omega))) w2 r3 z2 (hAr.fr (fun x l u => ⟨F3 x (by omega), J3 x (by omega)⟩))) (fun v h' hq => ?_)
      obtain ⟨rfl, I4, J4, rfl, x4, ar4, c4, f4, g4⟩ := hq
      rw [← ea1] at ar4
      have F4 : ∀ x, x < 20 ∨ (121 ≤ x ∧ x < 123) ∨ 151 ≤ x → I4 x = I x := fun x hx => (f4 x (by omega) (by omega)).trans (F3 x (by omega))
      have e18 : J4 18 2 = b7 := by rw [g4 18 (by omega) (by omega) (by omega), xu_ii]
      refine y_inc (pc' := 117) (1 : Int32) xD_70 rfl rfl rfl rfl rfl rfl ?_
      refine y_goto (pc' := 79) xD_70 rfl rfl ?_
      refine y_loc (pc' := 81) xD_70 rfl rfl rfl rfl ?_
      refine y_ci (pc' := 82) (2) xD_70 rfl rfl rfl rfl ?_
      refine y_icge (pt := 120) (pf := 85) xD_70 rfl rfl rfl (fun h82' => ?_) (fun h82' => ?_)
      · skip
        exact absurd h82' (by decide)
      · skip
        refine y_loc (pc' := 86) xD_70 rfl rfl rfl rfl ?_
        first | refine m_getR (pc' := 89) xD_70 rfl rfl rfl rfl (hR.1 _ _ _ rfl) rfl ?_ | refine m_getR (pc' := 89) xD_70 rfl rfl (by first | rfl | assumption) rfl (by assumption) rfl ?_
        refine y_loc (pc' := 90) xD_70 rfl rfl rfl rfl ?_
        first | refine m_getR (pc' := 93) xD_70 rfl rfl rfl rfl (hR.1 _ _ _ rfl) rfl ?_ | refine m_getR (pc' := 93) xD_70 rfl rfl (by first | rfl | assumption) rfl (by assumption) rfl ?_
        refine y_loc (pc' := 95) xD_70 rfl rfl rfl rfl ?_
        refine y_callV xD_70 rfl rfl rfl rfl (by first | rfl | assumption) rfl rfl rfl rfl (s_child (np := np) hR h7 ((congrFun (F4 121 (by omega)) 1).trans e121) 1 (k := np + 1) rfl (by omega) rfl) (fun v h' hq => ?_)
        obtain ⟨rfl, rfl⟩ := hq
        have r4 : RC I4 (A (np + 1)) c1 := (r2.fr (f3 _ (by have := nab 0 0 (by decide) (by decide); omega) (by have := nab 1 0 (by decide) (by decide); omega)) (f3 _ (by have := nab 0 1 (by decide) (by decide); omega) (by have := nab 1 1 (by decide) (by decide); omega))).fr (f4 _ (by omega) (by have := nab 0 0 (by decide) (by decide); omega)) (f4 _ (by omega) (by have := nab 0 1 (by decide) (by decide); omega))
        have ch2 := s_changeC (S := S) (d := d + 3) (I := I4) (J := J4) (R := R) (a := A (np + 1)) hR cb cc ((congrFun (F4 18 (by omega)) 1).trans hcc) hcc2 w1.1 w1.2 r4
        rw [e18, ← eb8, F4 19 (by omega), ← ec3] at ch2
        refine y_callV xD_70 rfl rfl rfl rfl (by first | rfl | assumption) rfl rfl rfl rfl (ch2) (fun v h' hq => ?_)
        obtain ⟨rfl, I5, rfl, r5, f5⟩ := hq
        refine y_loc (pc' := 102) xD_70 rfl rfl rfl rfl ?_
        refine y_loc (pc' := 103) xD_70 rfl rfl rfl rfl ?_
        first | refine m_getR (pc' := 106) xD_70 rfl rfl rfl rfl (hR.1 _ _ _ rfl) rfl ?_ | refine m_getR (pc' := 106) xD_70 rfl rfl (by first | rfl | assumption) rfl (by assumption) rfl ?_
        refine y_loc (pc' := 108) xD_70 rfl rfl rfl rfl ?_
        refine y_callV xD_70 rfl rfl rfl rfl (by first | rfl | assumption) rfl rfl rfl rfl (s_child (np := np) hR h7 ((congrFun ((f5 121 (by omega) (by omega)).trans (F4 121 (by omega))) 1).trans e121) 1 (k := np + 1) rfl (by omega) rfl) (fun v h' hq => ?_)
        obtain ⟨rfl, rfl⟩ := hq
        have F5 : ∀ x, x < 20 ∨ (121 ≤ x ∧ x < 123) ∨ 151 ≤ x → I5 x = I x := fun x hx => (f5 x (by omega) (by omega)).trans (F4 x hx)
        refine y_callV xD_70 rfl rfl rfl rfl (by first | rfl | assumption) rfl rfl rfl rfl (s_runAndArchive (d := d) (ar := ar1) hR cb (by omega) (hP.fr (fun x hx => F5 x (by omega))) w3 r5 z3 (ar4.fr (fun x l u => ⟨f5 x (by omega) (by omega), xu_ne (by omega)⟩))) (fun v h' hq => ?_)
        obtain ⟨rfl, I6, J6, rfl, x6, ar6, c6, f6, g6⟩ := hq
        rw [← ea2] at ar6
        have F6 : ∀ x, x < 20 ∨ (121 ≤ x ∧ x < 123) ∨ 151 ≤ x → I6 x = I x := fun x hx => (f6 x (by omega) (by omega)).trans (F5 x (by omega))
        refine y_inc (pc' := 117) (2 : Int32) xD_70 rfl rfl rfl rfl rfl rfl ?_
        refine y_goto (pc' := 79) xD_70 rfl rfl ?_
        refine y_loc (pc' := 81) xD_70 rfl rfl rfl rfl ?_
        refine y_ci (pc' := 82) (2) xD_70 rfl rfl rfl rfl ?_
        refine y_icge (pt := 120) (pf := 85) xD_70 rfl rfl rfl (fun h82'' => ?_) (fun h82'' => ?_)
        · skip
          have hz1 : ∀ g, 2 * nb ≤ g → (ar1 g).1 = 0 := by rw [ea1]; exact adm_z hP.2.1 hz
          have hz2 : ∀ g, 2 * nb ≤ g → (ar2 g).1 = 0 := by rw [ea2]; exact adm_z hP.2.1 hz1
          have efs : I6 23 1 = fS ar2 (2 * nb) := ar6.fS hP.2.1 hz2
          have hpp : ∀ k, k < np + 2 → WC (evpop np pop c2 c3 k) ∧ 0 < (evpop np pop c2 c3 k).1 ∧ RX I6 J6 P nb (A k) (evpop np pop c2 c3 k) := by
            intro k hk
            unfold evpop
            by_cases h1 : k < np
            · rw [if_pos h1]
              obtain ⟨w, z, x⟩ := hpop k h1
              obtain ⟨-, ck, l, u, -⟩ := h7 k (by omega)
              have u' : A k + 3 < 151 := by unfold isCase at ck; omega
              have n00 := npa k h1 0 0 (by decide) (by decide)
              have n01 := npa k h1 0 1 (by decide) (by decide)
              have n10 := npa k h1 1 0 (by decide) (by decide)
              have n11 := npa k h1 1 1 (by decide) (by decide)
              have n22 := npa k h1 2 2 (by decide) (by decide)
              have n23 := npa k h1 2 3 (by decide) (by decide)
              have n32 := npa k h1 3 2 (by decide) (by decide)
              have n33 := npa k h1 3 3 (by decide) (by decide)
              refine ⟨w, z, x.fr ?_ ?_ ?_ ?_⟩
              · exact (f6 _ (by omega) (by omega)).trans ((f5 _ (by omega) (by omega)).trans ((f4 _ (by omega) (by omega)).trans ((f3 _ (by omega) (by omega)).trans ((f2 _ (by omega) (by omega)).trans (f1 _ (by omega) (by omega))))))
              · exact (f6 _ (by omega) (by omega)).trans ((f5 _ (by omega) (by omega)).trans ((f4 _ (by omega) (by omega)).trans ((f3 _ (by omega) (by omega)).trans ((f2 _ (by omega) (by omega)).trans (f1 _ (by omega) (by omega))))))
              · exact (g6 _ (by omega) (by omega) (by omega)).trans ((xu_ne (by omega)).trans ((g4 _ (by omega) (by omega) (by omega)).trans (xu_ne (by omega))))
              · exact (g6 _ (by omega) (by omega) (by omega)).trans ((xu_ne (by omega)).trans ((g4 _ (by omega) (by omega) (by omega)).trans (xu_ne (by omega))))
            · rw [if_neg h1]
              by_cases h2 : k = np
              · rw [if_pos h2, h2]
                have n00 := nab 0 0 (by decide) (by decide)
                have n01 := nab 0 1 (by decide) (by decide)
                have n10 := nab 1 0 (by decide) (by decide)
                have n11 := nab 1 1 (by decide) (by decide)
                have n22 := nab 2 2 (by decide) (by decide)
                have n23 := nab 2 3 (by decide) (by decide)
                have n32 := nab 3 2 (by decide) (by decide)
                have n33 := nab 3 3 (by decide) (by decide)
                exact ⟨w2, z2, x4.fr ((f6 _ (by omega) (by omega)).trans (f5 _ (by omega) (by omega))) ((f6 _ (by omega) (by omega)).trans (f5 _ (by omega) (by omega))) ((g6 _ (by omega) (by omega) (by omega)).trans (xu_ne (by omega))) ((g6 _ (by omega) (by omega) (by omega)).trans (xu_ne (by omega)))⟩
              · rw [if_neg h2, show k = np + 1 by omega]
                exact ⟨w3, z3, x6⟩
          have ag := s_activeGoals (S := S) (d := d + 6) (I := I6) (J := J6) (R := R) (nb := nb) hR ((congrFun (F6 2 (by omega)) 3).trans hP.1) hP.2.1 (hv := fS ar2 (2 * nb)) (opn (P 269) al (fS ar2 (2 * nb))) (fun k hk => by
            unfold opn
            rw [decide_eq_true_iff, F6 17 (by omega), F6 16 (by omega), hP.2.2.2.2, hop k hk]
            exact or_assoc.symm)
          have hP6 := hP.fr (I' := I6) (fun x hx => F6 x (by omega))
          have e121' : I6 121 1 = nI np := (congrFun (F6 121 (by omega)) 1).trans e121
          refine y_loc (pc' := 121) xD_70 rfl rfl rfl rfl ?_
          first | refine m_getR (pc' := 124) xD_70 rfl rfl rfl rfl (hR.1 _ _ _ rfl) rfl ?_ | refine m_getR (pc' := 124) xD_70 rfl rfl (by first | rfl | assumption) rfl (by assumption) rfl ?_
          refine y_loc (pc' := 125) xD_70 rfl rfl rfl rfl ?_
          first | refine m_getR (pc' := 128) xD_70 rfl rfl rfl rfl (hR.1 _ _ _ rfl) rfl ?_ | refine m_getR (pc' := 128) xD_70 rfl rfl (by first | rfl | assumption) rfl (by assumption) rfl ?_
          refine y_loc (pc' := 129) xD_70 rfl rfl rfl rfl ?_
          first | refine m_getR (pc' := 132) xD_70 rfl rfl rfl rfl (hR.1 _ _ _ rfl) rfl ?_ | refine m_getR (pc' := 132) xD_70 rfl rfl (by first | rfl | assumption) rfl (by assumption) rfl ?_
          refine m_getI (pc' := 135) xD_70 rfl rfl rfl (by first | rfl | assumption) (efs) rfl ?_
          refine y_callV xD_70 rfl rfl rfl rfl (by first | rfl | assumption) rfl rfl rfl rfl (ag) (fun v h' hq => ?_)
          obtain ⟨rfl, rfl⟩ := hq
          refine y_callV xD_70 rfl rfl rfl rfl (by first | rfl | assumption) rfl rfl rfl rfl (s_takeInC (d := d + 2) (al := al) (ar := ar2) (pop := evpop np pop c2 c3) hR h7 hP6 np5 e121' hpp rfl) (fun v h' hq => ?_)
          obtain ⟨rfl, I7, R7, sg, rfl, hR7, hO, po7, f7, q7⟩ := hq
          have rr : ∀ a j t, rfF a j = some t → R7 a j = some t := hR7.1
          have ef7 : I7 23 1 = fS ar2 (2 * nb) := (congrFun (f7 23 (by omega)) 1).trans efs
          have bits : ∀ g, g < 32 → 24 ≤ g → ib (fS ar2 (2 * nb)) g = false := fun g hg h24 => by
            rw [← Bool.not_eq_true, ib_fS hg (2 * nb) (by have := hP.2.1; omega)]
            have := hP.2.1
            omega
          refine y_loc (pc' := 142) xD_70 rfl rfl rfl rfl ?_
          refine m_getR (pc' := 145) xD_70 rfl rfl (by first | rfl | assumption) rfl (hR7.1 _ _ _ rfl) rfl ?_
          refine m_getI (pc' := 148) xD_70 rfl rfl rfl (by first | rfl | assumption) (ef7) rfl ?_
          refine y_callS xD_70 rfl rfl rfl rfl rfl rfl rfl rfl (s_bitCount (set_24 bits).1 (set_24 bits).2) (fun v h' hq => ?_)
          obtain ⟨rfl, rfl⟩ := hq
          refine y_retI xD_70 rfl rfl ?_
          exact ⟨rfl, I7, J6, R7, sg, rfl, hR7, hO, po7, ar6.fr (fun x l u => ⟨f7 x (by omega), rfl⟩), by rw [f7 20 (by omega), c6, f5 20 (by omega) (by omega), c4, f3 20 (by omega) (by omega), F2 20 (by omega)], by rw [g6 18 (by omega) (by omega) (by omega), xu_ii], fun x hx => (f7 x (by omega)).trans (F6 x (by omega)), fun x hx => (g6 x (by omega) (by omega) (by omega)).trans ((xu_ne (by omega)).trans ((g4 x (by omega) (by omega) (by omega)).trans (xu_ne (by omega)))), q7⟩
        · skip
          exact absurd (show (2 : Int32) ≤ 2 by decide) h82''
  · skip
    exact absurd h4 (by decide)
end EW

