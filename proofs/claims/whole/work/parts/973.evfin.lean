/-! evolve and finish: both sides. -/
section EF
variable {S : XS} {d : Nat} {I : Nat → Nat → Int32} {J : Nat → Nat → Int64} {R : Nat → Nat → Option Nat}
theorem p_evolve (h : Inv I J R) : PrI S (d + 8) 70 6 [] 139 5 [] I J R := by
  obtain ⟨st, P, nb, A, np, pop, ar, B, ns, su, lt, wr, cc, hi⟩ := id h
  obtain ⟨hR, h2, h3, h4, h5, h6, h7, h8, h9, h10, h11, h12, h13, h14⟩ := hi
  cases st with
  | false =>
    unfold PrI
    refine y_loc (pc' := 1) xD_70 rfl rfl rfl rfl ?_
    refine m_getZ (pc' := 4) xD_70 rfl rfl rfl (by first | rfl | assumption) (h4.1) rfl ?_
    refine y_ifne (pt := 9) (pf := 7) xD_70 rfl rfl rfl (fun h4' => ?_) (fun h4' => ?_)
    · exact absurd rfl h4'
    · skip
      refine y_ci (pc' := 8) (-1) xD_70 rfl rfl rfl rfl ?_
      refine y_retI xD_70 rfl rfl ?_
      refine ⟨⟨_, rfl⟩, I, J, R, rfl, ?_⟩
      refine y_loc (pc' := 1) xD_139 rfl rfl rfl rfl ?_
      refine m_getZ (pc' := 4) xD_139 rfl rfl rfl (by first | rfl | assumption) (h4.2) rfl ?_
      refine y_ifne (pt := 9) (pf := 7) xD_139 rfl rfl rfl (fun h4'' => ?_) (fun h4'' => ?_)
      · exact absurd rfl h4''
      · skip
        refine y_ci (pc' := 8) (-1) xD_139 rfl rfl rfl rfl ?_
        refine y_retI xD_139 rfl rfl ?_
        exact ⟨rfl, I, J, R, rfl, h⟩
  | true =>
    obtain ⟨c1, c2, c3, np0⟩ := h8 rfl
    have nb2 := h5.1.2.1
    obtain ⟨p, ep⟩ : ∃ p, p = evp np (J 18 2) := ⟨_, rfl⟩
    obtain ⟨q, eq⟩ : ∃ q, q = evp np (dn (dn (J 18 2))) := ⟨_, rfl⟩
    obtain ⟨b4, eb4⟩ : ∃ b, b = dn (dn (dn (dn (J 18 2)))) := ⟨_, rfl⟩
    obtain ⟨s, es⟩ : ∃ s, s = dv (dn b4) (pop p).1 := ⟨_, rfl⟩
    obtain ⟨t, et⟩ : ∃ t, t = dv (dn (dn b4)) (pop q).1 := ⟨_, rfl⟩
    obtain ⟨b6, eb6⟩ : ∃ b, b = dn (dn b4) := ⟨_, rfl⟩
    obtain ⟨e0, ee0⟩ : ∃ c, c = jnC (pop p) (pop q) s t := ⟨_, rfl⟩
    obtain ⟨e1, ee1⟩ : ∃ c, c = jnC (pop q) (pop p) t s := ⟨_, rfl⟩
    obtain ⟨e2, ee2⟩ : ∃ c, c = chC cc (I 19) b6 e0 := ⟨_, rfl⟩
    obtain ⟨b7, eb7⟩ : ∃ b, b = chB e0.2 e0.1 b6 := ⟨_, rfl⟩
    obtain ⟨e3, ee3⟩ : ∃ c, c = chC cc (I 19) b7 e1 := ⟨_, rfl⟩
    obtain ⟨b8, eb8⟩ : ∃ b, b = chB e1.2 e1.1 b7 := ⟨_, rfl⟩
    obtain ⟨ar1, ea1⟩ : ∃ a, a = adm ar (kS P nb e2) e2 := ⟨_, rfl⟩
    obtain ⟨ar2, ea2⟩ : ∃ a, a = adm ar1 (kS P nb e3) e3 := ⟨_, rfl⟩
    refine XP.conseq (s_evolve (d := d + 1) (al := I 270) hR h5.1 h10.1 np0 c1 c2 h11.1 h11.2.2 h7 h4.1 ep eq eb4 es et eb6 ee0 ee1 ee2 eb7 ee3 eb8 ea1 ea2) (fun v h' hq => ?_)
    obtain ⟨rfl, I1, J1, R1, sg, rfl, hR1, hO, po1, ca1, ru1, bb1, fI1, fJ1, fR1⟩ := hq
    refine ⟨⟨_, rfl⟩, I1, J1, R1, rfl, ?_⟩
    have hz1 : ∀ g, 2 * nb ≤ g → (ar1 g).1 = 0 := by rw [ea1]; exact adm_z nb2 h11.2.2
    have hz2 : ∀ g, 2 * nb ≤ g → (ar2 g).1 = 0 := by rw [ea2]; exact adm_z nb2 hz1
    have x1 : ∀ x, 151 ≤ x → I1 x = I x := fun x hx => fI1 x (Or.inr hx)
    have ej : J1 261 14 = J 18 2 := by rw [fJ1 261 (by omega)]; exact h2.symm
    have mP : MPg I1 P nb := h5.2.fr (by rw [x1 261 (by decide)]) (fun x a b => x1 x (by omega))
    have mPo : MPo I1 np pop := ⟨by rw [x1 261 (by decide)]; exact h10.2.1, h10.2.2.1, fun k hk => ⟨(h10.2.2.2 k hk).1, (h10.2.2.2 k hk).2.1, (h10.2.2.2 k hk).2.2.row (x1 262 (by decide)) (x1 263 (by decide))⟩⟩
    have mD : DM I1 cc (I 19) := c3.fr (fun x a b => x1 x (by omega))
    have mA : MAr I1 ar := fun g hg => ⟨(h11.2.1 g hg).1, (h11.2.1 g hg).2.row (x1 262 (by decide)) (x1 263 (by decide))⟩
    refine XP.conseq (s_mevolve (d := d) (sg := sg) hR1 mP mPo np0 mD mA (by rw [x1 261 (by decide)]; exact h4.2) (by rw [ej]; exact ep) (by rw [ej]; exact eq) (by rw [ej]; exact eb4) es et eb6 ee0 ee1 ee2 eb7 ee3 eb8 ea1 ea2 (by rw [x1 270 (by decide)]; exact hO)) (fun v h' hq => ?_)
    obtain ⟨rfl, I2, J2, rfl, e11, r2, mA2, ru2, bb2, f2, s2, x2, j2⟩ := hq
    have sf1 : SF (fun _ => True) I I1 := SF.rfl' (x1 262 (by decide)) (x1 263 (by decide))
    have sf2 : SF (fun t => 7 ≤ t ∧ (t < 9 ∨ 33 ≤ t) ∧ t < 60) I I2 := (sf1.w (fun _ _ => trivial)).tr s2
    have X2 : ∀ x, x < 20 → I2 x = I x := fun x hx => (x2 x (by omega)).trans (fI1 x (by omega))
    have Y2 : ∀ x, 264 ≤ x → x < 271 → I2 x = I x := fun x a b => (x2 x (by omega)).trans (x1 x (by omega))
    have Z2 : ∀ x, 151 ≤ x → x < 261 → I2 x = I x ∧ J2 x = J x := fun x a b => ⟨(x2 x (by omega)).trans (x1 x (by omega)), (j2 x (by omega)).trans (fJ1 x (by omega))⟩
    refine ⟨rfl, I2, J2, R1, rfl, true, P, nb, fun k => A (sg k), (if np + 2 ≤ 5 then np + 2 else 5), fun k => evpop np pop e2 e3 (sg k), ar2, B, ns, su, lt, wr, cc, hR1, ?_, ?_, ?_, ⟨h5.1.fr X2, h5.2.fr (by rw [f2 10 (by decide) (by decide), x1 261 (by decide)]) Y2⟩, fun m hm => ?_, fun k hk => ?_, fun _ => ?_, fun q => absurd q (by decide), ⟨po1.fr (fun x a b => ⟨x2 x (by omega), j2 x (by omega)⟩) rfl, e11, po1.2.2.1, fun k hk => ?_⟩, ⟨ca1.fr (fun x a b => ⟨x2 x (by omega), j2 x (by omega)⟩), mA2, hz2⟩, ⟨h12.1.fr (fun x a b => Z2 x (by omega) (by omega)) (fR1 152 (by decide)), ?_⟩, ⟨h13.1, h13.2.1.fr (Z2 _ (by decide) (by decide)).1 (Z2 _ (by decide) (by decide)).1, h13.2.2.1.sf h13.1 sf2 ⟨by decide, by decide, by decide⟩, fun q => (h13.2.2.2 q).fr (Z2 _ (by decide) (by decide)).1 (Z2 _ (by decide) (by decide)).1 (Z2 _ (by decide) (by decide)).2 (Z2 _ (by decide) (by decide)).2⟩, h14.1, h14.2.1.fr (Z2 _ (by decide) (by decide)).1 (Z2 _ (by decide) (by decide)).1, h14.2.2.sf h14.1 sf2 ⟨by decide, by decide, by decide⟩⟩
    · rw [j2 18 (by decide), bb1, bb2]
    · rw [x2 20 (by omega), ru1, ru2, x1 261 (by decide), h3]
    · rw [X2 1 (by decide), f2 9 (by decide) (by decide), x1 261 (by decide)]; exact h4
    · rw [X2 _ (by omega), Y2 266 (by decide) (by decide)]; exact h6 m hm
    · rw [X2 17 (by decide), Y2 270 (by decide) (by decide)]; exact h7 k hk
    · refine ⟨by rw [X2 18 (by decide)]; exact c1, c2, by rw [X2 19 (by decide)]; exact c3.fr (fun x a b => Y2 x a b), ?_⟩
      split <;> omega
    · have k2 : k < np + 2 := by split at hk <;> omega
      exact ⟨(po1.2.2.2 k hk).1, (po1.2.2.2 k hk).2.1, r2 k k2⟩
    · exact ⟨by rw [f2 12 (by decide) (by decide), x1 261 (by decide)]; exact h12.2.1, h12.2.2.1, fun k hk => ⟨(h12.2.2.2 k hk).1, (h12.2.2.2 k hk).2.sf (h12.2.2.2 k hk).1 sf2 (by have := h12.2.2.1; exact ⟨by omega, by omega, by omega⟩)⟩⟩
theorem p_finish (h : Inv I J R) : PrI S (d + 8) 78 2 [] 147 5 [] I J R := by
  obtain ⟨st, P, nb, A, np, pop, ar, B, ns, su, lt, wr, cc, hi⟩ := id h
  obtain ⟨hR, h2, h3, h4, h5, h6, h7, h8, h9, h10, h11, h12, h13, h14⟩ := hi
  cases st with
  | false =>
    unfold PrI
    refine y_loc (pc' := 1) xD_78 rfl rfl rfl rfl ?_
    refine m_getZ (pc' := 4) xD_78 rfl rfl rfl (by first | rfl | assumption) (h4.1) rfl ?_
    refine y_ifne (pt := 9) (pf := 7) xD_78 rfl rfl rfl (fun h4' => ?_) (fun h4' => ?_)
    · exact absurd rfl h4'
    · skip
      refine y_ci (pc' := 8) (-1) xD_78 rfl rfl rfl rfl ?_
      refine y_retI xD_78 rfl rfl ?_
      refine ⟨⟨_, rfl⟩, I, J, R, rfl, ?_⟩
      refine y_loc (pc' := 1) xD_147 rfl rfl rfl rfl ?_
      refine m_getZ (pc' := 4) xD_147 rfl rfl rfl (by first | rfl | assumption) (h4.2) rfl ?_
      refine y_ifne (pt := 9) (pf := 7) xD_147 rfl rfl rfl (fun h4'' => ?_) (fun h4'' => ?_)
      · exact absurd rfl h4''
      · skip
        refine y_ci (pc' := 8) (-1) xD_147 rfl rfl rfl rfl ?_
        refine y_retI xD_147 rfl rfl ?_
        exact ⟨rfl, I, J, R, rfl, h⟩
  | true =>
    obtain ⟨c1, c2, c3, np0⟩ := h8 rfl
    have nb2 := h5.1.2.1
    have cf := s_finish (S := S) (d := d + 1) (I := I) (J := J) (R := R) (P := P) (nb := nb) (ar := ar) (B := B) hR h5.1 h12.1.1 h11.1 h4.1
    obtain ⟨r0, er0⟩ : ∃ r, r = I 20 2 := ⟨_, rfl⟩
    rw [← er0] at cf
    obtain ⟨fs, efs⟩ : ∃ f, f = fnS P nb ar r0 (2 * nb) := ⟨_, rfl⟩
    rw [← efs] at cf
    obtain ⟨ds, eds⟩ : ∃ f, f = drS P nb fs.1 fs.2.1 fs.2.1 := ⟨_, rfl⟩
    rw [← eds] at cf
    refine XP.conseq cf (fun v h' hq => ?_)
    obtain ⟨rfl, I1, J1, R1, B1, rfl, hR1, su1, ru1, f1, fR1⟩ := hq
    refine ⟨⟨_, rfl⟩, I1, J1, R1, rfl, ?_⟩
    have x1 : ∀ x, 253 ≤ x → I1 x = I x := fun x hx => (f1 x (by omega)).1
    have mP : MPg I1 P nb := h5.2.fr (by rw [x1 261 (by decide)]) (fun x a b => x1 x (by omega))
    have mA : MAr I1 ar := fun g hg => ⟨(h11.2.1 g hg).1, (h11.2.1 g hg).2.row (x1 262 (by decide)) (x1 263 (by decide))⟩
    have mf := s_mfinish (S := S) (d := d) (I := I1) (J := J1) (R := R1) (P := P) (nb := nb) (ar := ar) hR1 mP mA (by rw [x1 261 (by decide)]; exact h4.2)
    rw [x1 261 (by decide), show I 261 13 = r0 from by rw [er0]; exact h3.symm, ← efs, ← eds] at mf
    refine XP.conseq mf (fun v h' hq => ?_)
    obtain ⟨rfl, I2, J2, rfl, su2, ru2, fn⟩ := hq
    obtain ⟨n1, n2, n3, n4⟩ := fn
    have sf1 : SF (fun _ => True) I I1 := SF.rfl' (x1 262 (by decide)) (x1 263 (by decide))
    have sf2 : SF (fun t => t < 33) I I2 := (sf1.w (fun _ _ => trivial)).tr n1
    have G2 : ∀ x, x < 20 ∨ (23 ≤ x ∧ x < 151) ∨ (253 ≤ x ∧ x < 261) → I2 x = I x ∧ J2 x = J x := fun x hx => ⟨(n2 x (by omega) (by omega) (by omega) (by omega)).trans (f1 x (by omega)).1, (n4 x (by omega) (by omega)).trans (f1 x (by omega)).2⟩
    have Y2 : ∀ x, 264 ≤ x → x < 271 → I2 x = I x := fun x a b => (n2 x (by omega) (by omega) (by omega) (by omega)).trans (x1 x (by omega))
    have F2 : ∀ j, j ≠ 12 → j ≠ 13 → I2 261 j = I 261 j := fun j a b => (n3 j a b).trans (by rw [x1 261 (by decide)])
    refine ⟨rfl, I2, J2, R1, rfl, true, P, nb, A, np, pop, ar, B1, ds.2, ds.1, lt, wr, cc, hR1, ?_, ?_, ?_, ⟨h5.1.fr (fun x hx => (G2 x (by omega)).1), h5.2.fr (F2 10 (by decide) (by decide)) Y2⟩, fun m hm => ?_, fun k hk => ?_, fun _ => ?_, fun q => absurd q (by decide), ⟨h10.1.fr (fun x a b => G2 x (by omega)) (fR1 122 (by decide)), (F2 11 (by decide) (by decide)).trans h10.2.1, h10.2.2.1, fun k hk => ?_⟩, ⟨h11.1.fr (fun x a b => G2 x (by omega)), fun g hg => ⟨(h11.2.1 g hg).1, (h11.2.1 g hg).2.sf (h11.2.1 g hg).1 sf2 (show 9 + g < 33 by omega)⟩, h11.2.2⟩, ⟨su1.fr (fun x a b => ⟨n2 x (by omega) (by omega) (by omega) (by omega), n4 x (by omega) (by omega)⟩) rfl, su2⟩, ⟨h13.1, h13.2.1.fr (G2 _ (by decide)).1 (G2 _ (by decide)).1, h13.2.2.1.sf h13.1 sf2 (show 7 < 33 by decide), fun q => (h13.2.2.2 q).fr (G2 _ (by decide)).1 (G2 _ (by decide)).1 (G2 _ (by decide)).2 (G2 _ (by decide)).2⟩, h14.1, h14.2.1.fr (G2 _ (by decide)).1 (G2 _ (by decide)).1, h14.2.2.sf h14.1 sf2 (show 8 < 33 by decide)⟩
    · rw [(G2 18 (by decide)).2, n4 261 (by decide) (by decide), (f1 261 (by decide)).2]; exact h2
    · rw [n2 20 (by decide) (by decide) (by decide) (by decide), ru1, ru2]
    · rw [(G2 1 (by decide)).1, F2 9 (by decide) (by decide)]; exact h4
    · rw [(G2 _ (by omega)).1, Y2 266 (by decide) (by decide)]; exact h6 m hm
    · rw [(G2 17 (by decide)).1, Y2 270 (by decide) (by decide)]; exact h7 k hk
    · exact ⟨by rw [(G2 18 (by decide)).1]; exact c1, c2, by rw [(G2 19 (by decide)).1]; exact c3.fr (fun x a b => Y2 x a b), np0⟩
    · exact ⟨(h10.2.2.2 k hk).1, (h10.2.2.2 k hk).2.1, (h10.2.2.2 k hk).2.2.sf (h10.2.2.2 k hk).1 sf2 (show k < 33 by have := h10.2.2.1; omega)⟩
end EF

