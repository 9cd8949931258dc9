/-! start and run: both sides. -/
section SR
variable {S : XS} {d : Nat} {I : Nat → Nat → Int32} {J : Nat → Nat → Int64} {R : Nat → Nat → Option Nat}
theorem p_start (h : Inv I J R) : PrI S (d + 9) 16 3 [] 109 2 [] I J R := by
  obtain ⟨st, P, nb, A, np, pop, ar, B, ns, su, lt, wr, cc, hi⟩ := id h
  obtain ⟨hR, h2, h3, h4, h5, h6, h7, h8, h9, h10, h11, h12, h13, h14⟩ := hi
  cases st with
  | true =>
    unfold PrI
    refine y_loc (pc' := 1) xD_16 rfl rfl rfl rfl ?_
    refine m_getZ (pc' := 4) xD_16 rfl rfl rfl (by first | rfl | assumption) (h4.1) rfl ?_
    refine y_ifeq (pt := 9) (pf := 7) xD_16 rfl rfl rfl (fun h4' => ?_) (fun h4' => ?_)
    · exact absurd h4' (by decide)
    · skip
      refine y_ci (pc' := 8) (-1) xD_16 rfl rfl rfl rfl ?_
      refine y_retI xD_16 rfl rfl ?_
      refine ⟨⟨_, rfl⟩, I, J, R, rfl, ?_⟩
      refine y_loc (pc' := 1) xD_109 rfl rfl rfl rfl ?_
      refine m_getZ (pc' := 4) xD_109 rfl rfl rfl (by first | rfl | assumption) (h4.2) rfl ?_
      refine y_ifeq (pt := 9) (pf := 7) xD_109 rfl rfl rfl (fun h4'' => ?_) (fun h4'' => ?_)
      · exact absurd h4'' (by decide)
      · skip
        refine y_ci (pc' := 8) (-1) xD_109 rfl rfl rfl rfl ?_
        refine y_retI xD_109 rfl rfl ?_
        exact ⟨rfl, I, J, R, rfl, h⟩
  | false =>
    obtain ⟨nb0, np0, ns0, lt0, ar0, pg, z16, z69, z18⟩ := h9 rfl
    subst nb0
    subst np0
    subst ns0
    obtain ⟨nb, enb⟩ : ∃ n, n = pN (cdM I) (lnM I) := ⟨_, rfl⟩
    have nb12 : nb ≤ 12 := by rw [enb]; exact pN_12
    have exz : ∀ k, ∃ z : Int32, (¬ z = 0 ↔ msK I k) := fun k => by
      by_cases q : msK I k
      · exact ⟨1, ⟨fun _ => q, fun _ => by decide⟩⟩
      · exact ⟨0, ⟨fun t => absurd rfl t, fun t => absurd t q⟩⟩
    obtain ⟨al, hal⟩ := Classical.axiomOfChoice exz
    refine XP.conseq (s_start (d := d + 2) (pop := pop) hR h4.1 pg z16 h5.1.1 z18 h10.1.1 h10.1.2.1 h11.1 ar0 enb (fun k _ => hal k)) (fun v h' hq => ?_)
    obtain ⟨rfl, G, con, c0, c1, ar1, ar2, I1, J1, R1, sg, rfl, hR1, g1, g2, hcon, ec0, ec1, ea1, ea2, hO, po1, ca1, cp1, w1, op1, st1, cc1, con1, ru1, bb1, f1, fR1⟩ := hq
    refine ⟨⟨_, rfl⟩, I1, J1, R1, rfl, ?_⟩
    have x1 : ∀ x, 151 ≤ x → I1 x = I x := fun x hx => (f1 x hx).1
    have e4 := x1 264 (by decide)
    have e5 := x1 265 (by decide)
    have e7 := x1 267 (by decide)
    have e8 := x1 268 (by decide)
    have eP : pP I1 G = pP I G := pP_c e4 e5 e7 e8
    have ecd : cdM I1 = cdM I := by funext m; exact cdM_eq e4
    have eln : lnM I1 = lnM I := by funext m; unfold lnM; rw [e5]
    have ems : ∀ k, msK I1 k = msK I k := fun k => by unfold msK; rw [ecd, eln]
    have end' : ∀ k g, ndK I1 k g = ndK I k g := fun k g => by unfold ndK; rw [ecd, eln]
    have ej : J1 261 14 = J 18 2 := by rw [(f1 261 (by decide)).2]; exact h2.symm
    have mA : MAr I1 ar := fun g hg => ⟨(h11.2.1 g hg).1, (h11.2.1 g hg).2.row (x1 262 (by decide)) (x1 263 (by decide))⟩
    have hz1 : ∀ g, 2 * nb ≤ g → (ar1 g).1 = 0 := by rw [ea1]; exact adm_z nb12 (fun g _ => ar0 g)
    have hz2 : ∀ g, 2 * nb ≤ g → (ar2 g).1 = 0 := by rw [ea2]; exact adm_z nb12 hz1
    refine XP.conseq (s_mstart (d := d) (I := I1) (J := J1) (R := R1) (ar := ar) (pop := pop) (ar1 := ar1) (ar2 := ar2) (al := al) (G := G) (con := con) (nb := nb) (c0 := c0) (c1 := c1) (sg := sg) hR1 (by rw [x1 261 (by decide)]; exact h4.2) (by rw [x1 261 (by decide)]; exact h5.2.1.1) (fun m hm => by rw [eln, ecd, e5]; exact ⟨(pg m hm).1, (pg m hm).2.1, (pg m hm).2.2.1⟩) (fun k => by rw [x1 269 (by decide)]; exact z69 k) mA (by rw [ecd, eln]; exact enb) (fun k _ => by rw [ems]; exact hal k) (fun k hk => by rw [end']; exact g1 k hk) g2 (fun q hq hs => by rw [isS_c e4 e5] at hs; rw [scnt_c e4 e5, cdM_eq e4]; exact hcon q hq hs) (by rw [scnt_c e4 e5, ej]; exact ec0) (by rw [scnt_c e4 e5, ej]; exact ec1) (by rw [eP]; exact ea1) (by rw [eP]; exact ea2) (by rw [eP]; exact hO)) (fun v h' hq => ?_)
    obtain ⟨rfl, I2, J2, rfl, mP2, w2, al2, e11, r2, mA2, ru2, bb2, st2, e12, s2, f2, e42, e52⟩ := hq
    rw [eP] at mP2
    have sf1 : SF (fun _ => True) I I1 := SF.rfl' (x1 262 (by decide)) (x1 263 (by decide))
    have sf2 : SF (fun t => 7 ≤ t ∧ (t < 9 ∨ 33 ≤ t) ∧ t < 60) I I2 := (sf1.w (fun _ _ => trivial)).tr s2
    have Z2 : ∀ x, 151 ≤ x → x < 261 → I2 x = I x ∧ J2 x = J x := fun x a b => ⟨(f2 x b).1.trans (f1 x a).1, (f2 x b).2.trans (f1 x a).2⟩
    have p9 : pP I G 269 = G := by funext k; unfold pP; rw [if_neg (by decide), if_neg (by decide), if_pos rfl]
    refine ⟨rfl, I2, J2, R1, rfl, true, pP I G, nb, fun k => A (sg k), 2, fun k => evpop 0 pop c0 c1 (sg k), ar2, B, 0, su, lt, wr, scnt I 20, hR1, ?_, ?_, ?_, ⟨cp1.fr (fun x hx => (f2 x (by omega)).1), mP2⟩, fun m hm => ?_, fun k hk => ?_, fun _ => ?_, fun q => absurd q (by decide), ⟨po1.fr (fun x a b => f2 x (by omega)) rfl, e11, by decide, fun k hk => ?_⟩, ⟨ca1.fr (fun x a b => f2 x (by omega)), mA2, hz2⟩, ⟨⟨fun i hi => by rw [fR1 152 (by decide)]; exact h12.1.1 i hi, by rw [(Z2 151 (by decide) (by decide)).1]; exact h12.1.2.1, by decide, fun k hk => absurd hk (Nat.not_lt_zero _)⟩, ?_⟩, ⟨h13.1, h13.2.1.fr (Z2 _ (by decide) (by decide)).1 (Z2 _ (by decide) (by decide)).1, h13.2.2.1.sf h13.1 sf2 ⟨by decide, by decide, by decide⟩, fun q => by rw [lt0] at q; exact absurd q (by decide)⟩, h14.1, h14.2.1.fr (Z2 _ (by decide) (by decide)).1 (Z2 _ (by decide) (by decide)).1, h14.2.2.sf h14.1 sf2 ⟨by decide, by decide, by decide⟩⟩
    · rw [(f2 18 (by decide)).2, bb1, bb2, ej]
    · rw [(f2 20 (by decide)).1, ru1, ru2, x1 261 (by decide), h3]
    · rw [(f2 1 (by decide)).1, st1, st2]; exact ⟨rfl, rfl⟩
    · rw [(f2 _ (by omega)).1, w1 m hm, w2 m hm, ecd, eln]; exact ⟨rfl, zB_or _⟩
    · rw [(f2 17 (by decide)).1, op1 k hk, p9, al2 k hk, ems, ← hal k]
    · refine ⟨by rw [(f2 18 (by decide)).1]; exact cc1, scnt_le 20, ?_, by decide⟩
      rw [(f2 19 (by decide)).1, con1]
      refine ⟨by rw [scnt_c (e42.trans e4) (e52.trans e5)], fun q hq hs => ?_⟩
      rw [isS_c (e42.trans e4) (e52.trans e5)] at hs
      rw [scnt_c (e42.trans e4) (e52.trans e5), cdM_eq (e42.trans e4)]
      exact hcon q hq hs
    · exact ⟨(po1.2.2.2 k hk).1, (po1.2.2.2 k hk).2.1, r2 k hk⟩
    · exact ⟨by rw [e12, x1 261 (by decide)]; exact h12.2.1, by decide, fun k hk => absurd hk (Nat.not_lt_zero _)⟩
theorem p_run (h : Inv I J R) : PrI S (d + 8) 69 1 [] 138 1 [] I J R := by
  obtain ⟨st, P, nb, A, np, pop, ar, B, ns, su, lt, wr, cc, hi⟩ := id h
  obtain ⟨hR, h2, h3, h4, h5, h6, h7, h8, h9, h10, h11, h12, h13, h14⟩ := hi
  obtain ⟨ww, rw', mw⟩ := h14
  have nb2 := h5.1.2.1
  have z3 : nI wr.1 = 0 ↔ wr.1 = 0 := nI_z (by have := ww.1; omega)
  have i253 : isCase 253 := Or.inr (Or.inr ⟨by decide, by decide, by decide⟩)
  have i257 : isCase 257 := Or.inr (Or.inr ⟨by decide, by decide, by decide⟩)
  have k253 := (kCase i253).1
  have k257 := (kCase i257).1
  have no : ¬ (st = true ∧ 0 < wr.1) → XP S (d + 8) 138 0 (xent [.ref 261] 1) [] (hh I J R) (fun v2 h2 => v2 = some (.int (-1)) ∧ ∃ I2 J2 R2, h2 = hh I2 J2 R2 ∧ Inv I2 J2 R2) := by
    intro q
    refine y_loc (pc' := 1) xD_138 rfl rfl rfl rfl ?_
    refine m_getZ (pc' := 4) xD_138 rfl rfl rfl (by first | rfl | assumption) (h4.2) rfl ?_
    refine y_ifeq (pt := 17) (pf := 7) xD_138 rfl rfl rfl (fun h4' => ?_) (fun h4' => ?_)
    · skip
      refine y_ci (pc' := 18) (-1) xD_138 rfl rfl rfl rfl ?_
      refine y_retI xD_138 rfl rfl ?_
      exact ⟨rfl, I, J, R, rfl, h⟩
    · skip
      refine y_loc (pc' := 8) xD_138 rfl rfl rfl rfl ?_
      first | refine m_getR (pc' := 11) xD_138 rfl rfl rfl rfl (hR.1 _ _ _ rfl) rfl ?_ | refine m_getR (pc' := 11) xD_138 rfl rfl (by first | rfl | assumption) rfl (by assumption) rfl ?_
      refine y_ci (pc' := 13) (8) xD_138 rfl rfl rfl rfl ?_
      refine m_iald (pc' := 14) (8) xD_138 rfl (by first | rfl | assumption) (by first | assumption | omega) (by first | decide | assumption) (by first | decide | omega) (by first | rfl | assumption) rfl ?_
      rw [mw.1]
      refine y_ifne (pt := 19) (pf := 17) xD_138 rfl rfl rfl (fun h14' => ?_) (fun h14' => ?_)
      · exact absurd ⟨by rw [zB_f, Bool.not_eq_false] at h4'; exact h4', Nat.pos_of_ne_zero (fun t => h14' (z3.mpr t))⟩ q
      · skip
        refine y_ci (pc' := 18) (-1) xD_138 rfl rfl rfl rfl ?_
        refine y_retI xD_138 rfl rfl ?_
        exact ⟨rfl, I, J, R, rfl, h⟩
  unfold PrI
  refine y_loc (pc' := 1) xD_69 rfl rfl rfl rfl ?_
  refine m_getZ (pc' := 4) xD_69 rfl rfl rfl (by first | rfl | assumption) (h4.1) rfl ?_
  refine y_ifeq (pt := 17) (pf := 7) xD_69 rfl rfl rfl (fun h4' => ?_) (fun h4' => ?_)
  · skip
    refine y_ci (pc' := 18) (-1) xD_69 rfl rfl rfl rfl ?_
    refine y_retI xD_69 rfl rfl ?_
    exact ⟨⟨_, rfl⟩, I, J, R, rfl, no (fun q => by rw [q.1] at h4'; exact absurd h4' (by decide))⟩
  · skip
    have hs : st = true := by rw [zB_f, Bool.not_eq_false] at h4'; exact h4'
    subst hs
    refine y_loc (pc' := 8) xD_69 rfl rfl rfl rfl ?_
    first | refine m_getR (pc' := 11) xD_69 rfl rfl rfl rfl (hR.1 _ _ _ rfl) rfl ?_ | refine m_getR (pc' := 11) xD_69 rfl rfl (by first | rfl | assumption) rfl (by assumption) rfl ?_
    refine m_getI (pc' := 14) xD_69 rfl rfl rfl (by first | rfl | assumption) (rw'.1) rfl ?_
    refine y_ifne (pt := 19) (pf := 17) xD_69 rfl rfl rfl (fun h14' => ?_) (fun h14' => ?_)
    · skip
      have w0 : 0 < wr.1 := Nat.pos_of_ne_zero (fun t => h14' (z3.mpr t))
      obtain ⟨c1, c2, c3, np0⟩ := h8 rfl
      obtain ⟨ar1, ea1⟩ : ∃ a, a = adm ar (kS P nb wr) wr := ⟨_, rfl⟩
      refine y_loc (pc' := 20) xD_69 rfl rfl rfl rfl ?_
      refine y_loc (pc' := 21) xD_69 rfl rfl rfl rfl ?_
      first | refine m_getR (pc' := 24) xD_69 rfl rfl rfl rfl (hR.1 _ _ _ rfl) rfl ?_ | refine m_getR (pc' := 24) xD_69 rfl rfl (by first | rfl | assumption) rfl (by assumption) rfl ?_
      refine y_callV xD_69 rfl rfl rfl rfl (by first | rfl | assumption) rfl rfl rfl rfl (s_runAndArchive (a := 253) (d := d + 1) (ar := ar) (P := P) (nb := nb) hR i253 (by decide) h5.1 ww rw' w0 h11.1) (fun v h' hq => ?_)
      obtain ⟨rfl, I1, J1, rfl, x1, ca1, ru1, f1, j1⟩ := hq
      rw [← ea1] at ca1
      refine y_loc (pc' := 28) xD_69 rfl rfl rfl rfl ?_
      first | refine m_getR (pc' := 31) xD_69 rfl rfl rfl rfl (hR.1 _ _ _ rfl) rfl ?_ | refine m_getR (pc' := 31) xD_69 rfl rfl (by first | rfl | assumption) rfl (by assumption) rfl ?_
      refine y_loc (pc' := 32) xD_69 rfl rfl rfl rfl ?_
      first | refine m_getR (pc' := 35) xD_69 rfl rfl rfl rfl (hR.1 _ _ _ rfl) rfl ?_ | refine m_getR (pc' := 35) xD_69 rfl rfl (by first | rfl | assumption) rfl (by assumption) rfl ?_
      refine y_callV xD_69 rfl rfl rfl rfl (by first | rfl | assumption) rfl rfl rfl rfl (s_copy (a := 257) (o := 253) (d := d + 5) hR i257 i253) (fun v h' hq => ?_)
      obtain ⟨rfl, rfl⟩ := hq
      have x2 := RX.cp (a := 257) nb2 ww x1
      obtain ⟨I2, eI2⟩ : ∃ I2, I2 = xu (xu (xrow I1 (257 + 1) (va_cpy (I1 (253 + 1)) (I1 (257 + 1)) 0 0 24)) 257 3 (I1 253 3)) 257 4 (I1 253 4) := ⟨_, rfl⟩
      obtain ⟨J2, eJ2⟩ : ∃ J2, J2 = xrow (xrow J1 (257 + 2) (va_cpy (J1 (253 + 2)) (J1 (257 + 2)) 0 0 6)) (257 + 3) (va_cpy (J1 (253 + 3)) (J1 (257 + 3)) 0 0 24) := ⟨_, rfl⟩
      have fI2 : ∀ x, x ≠ 257 → x ≠ 258 → I2 x = I1 x := fun x a b => by rw [eI2, xu_ne a, xu_ne a, xrow_ne b]
      have fJ2 : ∀ x, x ≠ 259 → x ≠ 260 → J2 x = J1 x := fun x a b => by rw [eJ2, xrow_ne b, xrow_ne a]
      rw [← eI2, ← eJ2] at x2
      show XP S (d + 8) 69 38 [some (.ref 1)] [] (hh (xu (xu (xrow I1 (257 + 1) (va_cpy (I1 (253 + 1)) (I1 (257 + 1)) 0 0 24)) 257 3 (I1 253 3)) 257 4 (I1 253 4)) (xrow (xrow J1 (257 + 2) (va_cpy (J1 (253 + 2)) (J1 (257 + 2)) 0 0 6)) (257 + 3) (va_cpy (J1 (253 + 3)) (J1 (257 + 3)) 0 0 24)) R) _
      rw [← eI2, ← eJ2]
      have x3 : RX (xu I2 253 3 0) J2 P nb 257 wr := x2.fr (xu_ne (by decide)) (xu_ne (by decide)) rfl rfl
      refine y_loc (pc' := 39) xD_69 rfl rfl rfl rfl ?_
      first | refine m_getR (pc' := 42) xD_69 rfl rfl rfl rfl (hR.1 _ _ _ rfl) rfl ?_ | refine m_getR (pc' := 42) xD_69 rfl rfl (by first | rfl | assumption) rfl (by assumption) rfl ?_
      refine y_ci (pc' := 43) (0) xD_69 rfl rfl rfl rfl ?_
      refine m_putI (pc' := 46) xD_69 rfl rfl (by first | rfl | assumption) rfl rfl rfl ?_
      refine y_loc (pc' := 47) xD_69 rfl rfl rfl rfl ?_
      first | refine m_getR (pc' := 50) xD_69 rfl rfl rfl rfl (hR.1 _ _ _ rfl) rfl ?_ | refine m_getR (pc' := 50) xD_69 rfl rfl (by first | rfl | assumption) rfl (by assumption) rfl ?_
      refine m_getI (pc' := 53) xD_69 rfl rfl rfl (by first | rfl | assumption) (x3.2.1) rfl ?_
      refine y_retI xD_69 rfl rfl ?_
      have G3 : ∀ x, x < 20 ∨ (121 ≤ x ∧ x ≠ 253 ∧ x ≠ 257 ∧ x ≠ 258) → xu I2 253 3 0 x = I x := fun x hx => by rw [xu_ne (by omega), fI2 x (by omega) (by omega)]; exact f1 x (by omega) (by omega)
      have H3 : ∀ x, x < 20 ∨ (121 ≤ x ∧ x ≠ 255 ∧ x ≠ 256 ∧ x ≠ 259 ∧ x ≠ 260) → J2 x = J x := fun x hx => by rw [fJ2 x (by omega) (by omega)]; exact j1 x (by omega) (by omega) (by omega)
      have ca3 : CAr (xu I2 253 3 0) J2 P nb ar1 := ca1.fr (fun x a b => ⟨by rw [xu_ne (by omega), fI2 x (by omega) (by omega)], fJ2 x (by omega) (by omega)⟩)
      have r3 : xu I2 253 3 0 20 2 = I 20 2 + 1 := by rw [xu_ne (by decide), fI2 20 (by decide) (by decide)]; exact ru1
      have w3 : xu I2 253 3 0 253 3 = nI 0 := xu_ii
      obtain ⟨I3, eI3⟩ : ∃ I3, I3 = xu I2 253 3 0 := ⟨_, rfl⟩
      rw [← eI3] at x3 ca3 r3 w3 ⊢
      have G3 : ∀ x, x < 20 ∨ (121 ≤ x ∧ x ≠ 253 ∧ x ≠ 257 ∧ x ≠ 258) → I3 x = I x := fun x hx => by rw [eI3]; exact G3 x hx
      refine ⟨⟨_, rfl⟩, I3, J2, R, rfl, ?_⟩
      have e61 := G3 261 (by decide)
      have e62 := G3 262 (by decide)
      have e63 := G3 263 (by decide)
      have mP3 : MPg I3 P nb := h5.2.fr (by rw [e61]) (fun x a b => G3 x (by omega))
      have mw3 : RM I3 8 wr := mw.row e62 e63
      have r7 := RM_cp (t := 7) ww mw3
      obtain ⟨I4, eI4⟩ : ∃ I4, I4 = xu (xu (xrow I3 262 (sl1 (I3 262) 7 (slM I3 8))) 263 7 (I3 263 8)) 263 8 0 := ⟨_, rfl⟩
      have r7' : RM I4 7 wr := by
        rw [eI4]
        refine ⟨?_, fun i hi => ?_⟩
        · show (if _ then _ else _) = _
          rw [if_neg (by decide)]; exact r7.1
        · have := r7.2 i hi
          show xu _ 263 8 0 262 (24 * 7 + i) = _
          rw [xu_ne (by decide)]; exact this
      have sf4 : SF (fun t => t ≠ 7 ∧ t ≠ 8) I I4 := by
        have a1 : SF (fun t => t ≠ 7 ∧ t ≠ 8) I I3 := SF.rfl' e62 e63
        refine a1.tr ?_
        have a2 : SF (fun t => t ≠ 7) I3 (xu (xrow I3 262 (sl1 (I3 262) 7 (slM I3 8))) 263 7 (I3 263 8)) := SF_cp
        refine (a2.w (fun t ht => ht.1)).tr (fun t ht => ?_)
        rw [eI4]
        refine ⟨?_, fun q hq => ?_⟩
        · show (if _ then _ else _) = _
          rw [if_neg (fun q => ht.2 q.2)]
        · unfold slM; rw [xu_ne (show (262 : Nat) ≠ 263 by decide)]
      have x4 : ∀ x, x ≠ 262 → x ≠ 263 → I4 x = I3 x := fun x a b => by rw [eI4, xu_ne b, xu_ne b, xrow_ne a]
      have z8 : I4 263 8 = nI 0 := by rw [eI4, xu_ii]; rfl
      have mP4 : MPg I4 P nb := mP3.fr (by rw [x4 261 (by decide) (by decide)]) (fun x a b => x4 x (by omega) (by omega))
      have mA4 : MAr I4 ar := h11.2.1.sf sf4 (fun t a b => ⟨by omega, by omega⟩)
      have e38 : I3 263 8 = nI wr.1 := mw3.1
      have st3 : I3 261 9 = zB true := by rw [e61]; exact h4.2
      refine y_loc (pc' := 1) xD_138 rfl rfl rfl rfl ?_
      refine m_getZ (pc' := 4) xD_138 rfl rfl rfl (by first | rfl | assumption) (st3) rfl ?_
      refine y_ifeq (pt := 17) (pf := 7) xD_138 rfl rfl rfl (fun h4'' => ?_) (fun h4'' => ?_)
      · exact absurd h4'' (by decide)
      · skip
        refine y_loc (pc' := 8) xD_138 rfl rfl rfl rfl ?_
        first | refine m_getR (pc' := 11) xD_138 rfl rfl rfl rfl (hR.1 _ _ _ rfl) rfl ?_ | refine m_getR (pc' := 11) xD_138 rfl rfl (by first | rfl | assumption) rfl (by assumption) rfl ?_
        refine y_ci (pc' := 13) (8) xD_138 rfl rfl rfl rfl ?_
        refine m_iald (pc' := 14) (8) xD_138 rfl (by first | rfl | assumption) (by first | assumption | omega) (by first | decide | assumption) (by first | decide | omega) (by first | rfl | assumption) rfl ?_
        rw [e38]
        refine y_ifne (pt := 19) (pf := 17) xD_138 rfl rfl rfl (fun h14'' => ?_) (fun h14'' => ?_)
        · skip
          refine y_loc (pc' := 20) xD_138 rfl rfl rfl rfl ?_
          refine y_ci (pc' := 22) (8) xD_138 rfl rfl rfl rfl ?_
          refine y_ci (pc' := 24) (7) xD_138 rfl rfl rfl rfl ?_
          refine y_callV xD_138 rfl rfl rfl rfl (by first | rfl | assumption) rfl rfl rfl rfl (s_mcopy (d := d + 7) hR (s := 8) (t := 7) (by decide) (by decide) (by decide) rfl rfl) (fun v h' hq => ?_)
          obtain ⟨rfl, rfl⟩ := hq
          refine y_loc (pc' := 28) xD_138 rfl rfl rfl rfl ?_
          first | refine m_getR (pc' := 31) xD_138 rfl rfl rfl rfl (hR.1 _ _ _ rfl) rfl ?_ | refine m_getR (pc' := 31) xD_138 rfl rfl (by first | rfl | assumption) rfl (by assumption) rfl ?_
          refine y_ci (pc' := 33) (8) xD_138 rfl rfl rfl rfl ?_
          refine y_ci (pc' := 34) (0) xD_138 rfl rfl rfl rfl ?_
          refine m_iast (pc' := 35) (8) xD_138 rfl (by first | rfl | assumption) (by first | assumption | omega) (by first | decide | assumption) (by first | rfl | assumption) rfl ?_
          show XP S (d + 8) 138 35 [some (.ref 261)] [] (hh (xu (xu (xrow I3 262 (sl1 (I3 262) 7 (slM I3 8))) 263 7 (I3 263 8)) 263 8 0) J2 R) _
          rw [← eI4]
          refine y_loc (pc' := 36) xD_138 rfl rfl rfl rfl ?_
          refine y_ci (pc' := 38) (7) xD_138 rfl rfl rfl rfl ?_
          refine y_callV xD_138 rfl rfl rfl rfl (by first | rfl | assumption) rfl rfl rfl rfl (s_archive (d := d) (s := 7) (ar := ar) hR (by decide) (Or.inl (by decide)) mP4 ww r7' mA4) (fun v h' hq => ?_)
          obtain ⟨rfl, I5, J5, rfl, mA5, s5, x5, f5, ru5, j5⟩ := hq
          rw [← ea1] at mA5
          have X5 : ∀ x, x < 261 ∨ (264 ≤ x ∧ x < 271) → I5 x = I3 x := fun x hx => (x5 x (by omega) (by omega) (by omega) (by omega)).trans (x4 x (by omega) (by omega))
          have F5 : ∀ j, j ≠ 13 → I5 261 j = I 261 j := fun j hj => (f5 j hj).trans (by rw [x4 261 (by decide) (by decide), e61])
          have mP5 : MPg I5 P nb := mP3.fr ((F5 10 (by decide)).trans (by rw [e61])) (fun x a b => X5 x (by omega))
          have r75 : RM I5 7 wr := r7'.sf ww s5 (Or.inl (by decide))
          refine y_loc (pc' := 42) xD_138 rfl rfl rfl rfl ?_
          refine y_ci (pc' := 44) (7) xD_138 rfl rfl rfl rfl ?_
          refine y_callV xD_138 rfl rfl rfl rfl (by first | rfl | assumption) rfl rfl rfl rfl (s_kreached (d := d + 1) hR (by decide) mP5 ww r75 rfl) (fun v h' hq => ?_)
          obtain ⟨rfl, vv, N, res, rfl⟩ := hq
          refine y_retI xD_138 rfl rfl ?_
          have sf5 : SF (fun t => t ≠ 7 ∧ t ≠ 8 ∧ (t < 9 ∨ 33 ≤ t)) I I5 := (sf4.w (fun t ht => ⟨ht.1, ht.2.1⟩)).tr (s5.w (fun t ht => ht.2.2))
          have Y5 : ∀ x, 264 ≤ x → x < 271 → I5 x = I x := fun x a b => (X5 x (by omega)).trans (G3 x (by omega))
          have Z5 : ∀ x, x < 20 ∨ (121 ≤ x ∧ x < 261 ∧ x ≠ 253 ∧ x ≠ 257 ∧ x ≠ 258) → I5 x = I x := fun x hx => (X5 x (by omega)).trans (G3 x (by omega))
          have V5 : ∀ x, x < 261 → J5 x = J2 x := fun x hx => j5 x (by omega) (by omega)
          have W0 : WC (0, wr.2) := ⟨Nat.zero_le _, fun j hj => absurd hj (Nat.not_lt_zero _)⟩
          have hz1 : ∀ g, 2 * nb ≤ g → (ar1 g).1 = 0 := by rw [ea1]; exact adm_z nb2 h11.2.2
          have fin : InvD I5 J5 R true P nb A np pop ar1 B ns su wr (0, wr.2) cc := by
            refine ⟨hR, ?_, ?_, ?_, ⟨h5.1.fr (fun x hx => Z5 x (by omega)), mP5⟩, fun m hm => ?_, fun k hk => ?_, fun _ => ?_, fun q => absurd q (by decide), ⟨h10.1.fr (fun x a b => ⟨Z5 x (by omega), (V5 x (by omega)).trans (H3 x (by omega))⟩) rfl, ?_⟩, ⟨ca3.fr (fun x a b => ⟨X5 x (by omega), V5 x (by omega)⟩), mA5, hz1⟩, ⟨h12.1.fr (fun x a b => ⟨Z5 x (by omega), (V5 x (by omega)).trans (H3 x (by omega))⟩) rfl, ?_⟩, ⟨ww, x3.1.fr (X5 _ (by decide)) (X5 _ (by decide)), r75, fun _ => x3.fr (X5 _ (by decide)) (X5 _ (by decide)) (V5 _ (by decide)) (V5 _ (by decide))⟩, W0, ⟨?_, fun i hi => absurd hi (Nat.not_lt_zero _)⟩, ⟨?_, fun i hi => absurd hi (Nat.not_lt_zero _)⟩⟩
            · rw [V5 18 (by decide), H3 18 (by decide), j5 261 (by decide) (by decide), H3 261 (by decide)]; exact h2
            · rw [X5 20 (by decide), r3, ru5, x4 261 (by decide) (by decide), e61, h3]
            · rw [Z5 1 (by decide), F5 9 (by decide)]; exact h4
            · rw [Z5 _ (by omega), Y5 266 (by decide) (by decide)]; exact h6 m hm
            · rw [Z5 17 (by decide), Y5 270 (by decide) (by decide)]; exact h7 k hk
            · exact ⟨by rw [Z5 18 (by decide)]; exact c1, c2, by rw [Z5 19 (by decide)]; exact c3.fr (fun x a b => Y5 x a b), np0⟩
            · exact ⟨(F5 11 (by decide)).trans h10.2.1, h10.2.2.1, fun k hk => ⟨(h10.2.2.2 k hk).1, (h10.2.2.2 k hk).2.1, (h10.2.2.2 k hk).2.2.sf (h10.2.2.2 k hk).1 sf5 (by have := h10.2.2.1; exact ⟨by omega, by omega, by omega⟩)⟩⟩
            · exact ⟨(F5 12 (by decide)).trans h12.2.1, h12.2.2.1, fun k hk => ⟨(h12.2.2.2 k hk).1, (h12.2.2.2 k hk).2.sf (h12.2.2.2 k hk).1 sf5 (by have := h12.2.2.1; exact ⟨by omega, by omega, by omega⟩)⟩⟩
            · rw [X5 253 (by decide)]; exact w3
            · rw [(s5 8 (Or.inl (by decide))).1]; exact z8
          exact ⟨rfl, _, _, R, rfl, true, P, nb, A, np, pop, ar1, B, ns, su, wr, (0, wr.2), cc, fin.ms ⟨fun x h => xrow_ne h, fun x h1 h2 => (xrow_ne h1).trans (xrow_ne h2)⟩⟩
        · exact absurd (z3.mp h14'') (by omega)
    · skip
      refine y_ci (pc' := 18) (-1) xD_69 rfl rfl rfl rfl ?_
      refine y_retI xD_69 rfl rfl ?_
      exact ⟨⟨_, rfl⟩, I, J, R, rfl, no (fun q => by have := z3.mp h14'; omega)⟩
end SR

