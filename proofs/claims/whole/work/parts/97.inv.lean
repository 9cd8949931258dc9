/-! What holds between the calls; the calls that look. -/
theorem PG0.fr {I I' : Nat → Nat → Int32} (h : PG0 I) (e : ∀ x, x < 16 ∨ x = 264 ∨ x = 265 → I' x = I x) : PG0 I' := by
  intro m hm
  have e4 : lnM I' m = lnM I m := by unfold lnM; rw [e 265 (by omega)]
  have e5 : cdM I' m = cdM I m := cdM_eq (e 264 (by omega))
  have e6 : cdC I' (4 + 6 * m) = cdC I (4 + 6 * m) := by funext p q; unfold cdC; rw [e _ (by omega)]
  rw [e4, e5, e6, e 265 (by omega), e (4 + 6 * m) (by omega), e (4 + 6 * m + 5) (by omega)]
  exact h m hm
def InvD (I : Nat → Nat → Int32) (J : Nat → Nat → Int64) (R : Nat → Nat → Option Nat) (st : Bool) (P : Nat → Nat → Int32) (nb : Nat) (A : Nat → Nat) (np : Nat) (pop ar : Nat → CA) (B : Nat → Nat) (ns : Nat) (su : Nat → CA) (lt wr : CA) (cc : Nat) : Prop :=
  RF R ∧ J 18 2 = J 261 14 ∧ I 20 2 = I 261 13 ∧ (I 1 8 = zB st ∧ I 261 9 = zB st) ∧ (CPg I P nb ∧ MPg I P nb) ∧ (∀ m, m < 2 → I (4 + 6 * m) 6 = I 266 m ∧ (I 266 m = 0 ∨ I 266 m = 1)) ∧ (∀ k, k < nb → (¬ I 17 k = 0 ↔ (P 269 k = 0 ∨ ¬ I 270 k = 0))) ∧ (st = true → I 18 1 = nI cc ∧ cc ≤ 20 ∧ DM I cc (I 19) ∧ 0 < np) ∧ (st = false → nb = 0 ∧ np = 0 ∧ ns = 0 ∧ lt.1 = 0 ∧ (∀ g, (ar g).1 = 0) ∧ PG0 I ∧ (∀ k, I 16 k = 0) ∧ (∀ k, I 269 k = 0) ∧ I 18 1 = 0) ∧ (CPo I J R P nb A np pop ∧ MPo I np pop) ∧ (CAr I J P nb ar ∧ MAr I ar ∧ ∀ g, 2 * nb ≤ g → (ar g).1 = 0) ∧ (CSu I J R P nb B ns su ∧ MSu I ns su) ∧ (WC lt ∧ RC I 257 lt ∧ RM I 7 lt ∧ (0 < lt.1 → RX I J P nb 257 lt)) ∧ WC wr ∧ RC I 253 wr ∧ RM I 8 wr
def Inv (I : Nat → Nat → Int32) (J : Nat → Nat → Int64) (R : Nat → Nat → Option Nat) : Prop := ∃ st P nb A np pop ar B ns su lt wr cc, InvD I J R st P nb A np pop ar B ns su lt wr cc
section IV
variable {I I' P : Nat → Nat → Int32} {J J' : Nat → Nat → Int64} {R R' : Nat → Nat → Option Nat} {st : Bool} {nb np ns cc : Nat} {A B : Nat → Nat} {pop ar su : Nat → CA} {lt wr : CA}
theorem C7.hi {R : Nat → Nat → Option Nat} {A : Nat → Nat} (h : C7 R A) {k : Nat} (hk : k < 7) : 123 ≤ A k ∧ A k + 3 < 151 := by
  obtain ⟨-, c, l, u, -⟩ := h k hk
  unfold isCase at c
  omega
theorem C24.hi {R : Nat → Nat → Option Nat} {B : Nat → Nat} (h : C24 R B) {k : Nat} (hk : k < 24) : 153 ≤ B k ∧ B k + 3 < 249 := by
  obtain ⟨-, c, l, u, -⟩ := h k hk
  unfold isCase at c
  omega
theorem CPo.fr (h : CPo I J R P nb A np pop) (e : ∀ x, 121 ≤ x → x < 151 → I' x = I x ∧ J' x = J x) (er : R' 122 = R 122) : CPo I' J' R' P nb A np pop := by
  obtain ⟨h1, h2, h3, h4⟩ := h
  refine ⟨fun i hi => by rw [er]; exact h1 i hi, by rw [(e 121 (by omega) (by omega)).1]; exact h2, h3, fun k hk => ?_⟩
  obtain ⟨l, u⟩ := h1.hi (show k < 7 by omega)
  obtain ⟨w, z, x⟩ := h4 k hk
  exact ⟨w, z, x.fr (e _ (by omega) (by omega)).1 (e _ (by omega) (by omega)).1 (e _ (by omega) (by omega)).2 (e _ (by omega) (by omega)).2⟩
theorem CSu.fr (h : CSu I J R P nb B ns su) (e : ∀ x, 151 ≤ x → x < 249 → I' x = I x ∧ J' x = J x) (er : R' 152 = R 152) : CSu I' J' R' P nb B ns su := by
  obtain ⟨h1, h2, h3, h4⟩ := h
  refine ⟨fun i hi => by rw [er]; exact h1 i hi, by rw [(e 151 (by omega) (by omega)).1]; exact h2, h3, fun k hk => ?_⟩
  obtain ⟨l, u⟩ := h1.hi (show k < 24 by omega)
  obtain ⟨w, z, x⟩ := h4 k hk
  exact ⟨w, z, x.fr (e _ (by omega) (by omega)).1 (e _ (by omega) (by omega)).1 (e _ (by omega) (by omega)).2 (e _ (by omega) (by omega)).2⟩
theorem InvD.ms (h : InvD I J R st P nb A np pop ar B ns su lt wr cc) (m : MS1 I I' J J') : InvD I' J' R st P nb A np pop ar B ns su lt wr cc := by
  obtain ⟨h1, h2, h3, h4, h5, h6, h7, h8, h9, h10, h11, h12, h13, h14⟩ := h
  have mI := m.1
  have mJ := m.2
  have e2 := mI 262 (by decide)
  have e3 := mI 263 (by decide)
  have e61 := mI 261 (by decide)
  refine ⟨h1, by rw [mJ 18 (by decide) (by decide), mJ 261 (by decide) (by decide)]; exact h2, by rw [mI 20 (by decide), e61]; exact h3, by rw [mI 1 (by decide), e61]; exact h4, ⟨h5.1.fr (fun x hx => mI x (by omega)), h5.2.fr (by rw [e61]) (fun x a b => mI x (by omega))⟩, fun m hm => by rw [mI (4 + 6 * m) (by omega), mI 266 (by decide)]; exact h6 m hm, fun k hk => by rw [mI 17 (by decide), mI 270 (by decide)]; exact h7 k hk, fun q => ?_, fun q => ?_, ⟨h10.1.fr (fun x a b => ⟨mI x (by omega), mJ x (by omega) (by omega)⟩) rfl, ?_⟩, ⟨h11.1.fr (fun x a b => ⟨mI x (by omega), mJ x (by omega) (by omega)⟩), fun g hg => ⟨(h11.2.1 g hg).1, (h11.2.1 g hg).2.row e2 e3⟩, h11.2.2⟩, ⟨h12.1.fr (fun x a b => ⟨mI x (by omega), mJ x (by omega) (by omega)⟩) rfl, ?_⟩, ⟨h13.1, h13.2.1.fr (mI _ (by decide)) (mI _ (by decide)), h13.2.2.1.row e2 e3, fun q => (h13.2.2.2 q).fr (mI _ (by decide)) (mI _ (by decide)) (mJ _ (by decide) (by decide)) (mJ _ (by decide) (by decide))⟩, h14.1, h14.2.1.fr (mI _ (by decide)) (mI _ (by decide)), h14.2.2.row e2 e3⟩
  · obtain ⟨a, b, c, e⟩ := h8 q
    exact ⟨by rw [mI 18 (by decide)]; exact a, b, by rw [mI 19 (by decide)]; exact c.fr (fun x a b => mI x (by omega)), e⟩
  · obtain ⟨a, b, c, e, f, g, i, j, k⟩ := h9 q
    exact ⟨a, b, c, e, f, g.fr (fun x hx => mI x (by omega)), by rw [mI 16 (by decide)]; exact i, by rw [mI 269 (by decide)]; exact j, by rw [mI 18 (by decide)]; exact k⟩
  · exact ⟨by rw [e61]; exact h10.2.1, h10.2.2.1, fun k hk => ⟨(h10.2.2.2 k hk).1, (h10.2.2.2 k hk).2.1, (h10.2.2.2 k hk).2.2.row e2 e3⟩⟩
  · exact ⟨by rw [e61]; exact h12.2.1, h12.2.2.1, fun k hk => ⟨(h12.2.2.2 k hk).1, (h12.2.2.2 k hk).2.row e2 e3⟩⟩
theorem MS1.rfl' : MS1 I I J J := ⟨fun _ _ => rfl, fun _ _ _ => rfl⟩
end IV
/-- a call of the class and the model's: the same answer, and all holds on -/
def PrI (S : XS) (d k1 l1 : Nat) (a1 : List Value) (k2 l2 : Nat) (a2 : List Value) (I : Nat → Nat → Int32) (J : Nat → Nat → Int64) (R : Nat → Nat → Option Nat) : Prop := XP S d k1 0 (xent (.ref 1 :: a1) l1) [] (hh I J R) (fun v h' => (∃ x, v = some (.int x)) ∧ ∃ I1 J1 R1, h' = hh I1 J1 R1 ∧ XP S d k2 0 (xent (.ref 261 :: a2) l2) [] (hh I1 J1 R1) (fun v2 h2 => v2 = v ∧ ∃ I2 J2 R2, h2 = hh I2 J2 R2 ∧ Inv I2 J2 R2))
def PrJ (S : XS) (d k1 l1 : Nat) (a1 : List Value) (k2 l2 : Nat) (a2 : List Value) (I : Nat → Nat → Int32) (J : Nat → Nat → Int64) (R : Nat → Nat → Option Nat) : Prop := XP S d k1 0 (xent (.ref 1 :: a1) l1) [] (hh I J R) (fun v h' => (∃ x, v = some (.long x)) ∧ ∃ I1 J1 R1, h' = hh I1 J1 R1 ∧ XP S d k2 0 (xent (.ref 261 :: a2) l2) [] (hh I1 J1 R1) (fun v2 h2 => v2 = v ∧ ∃ I2 J2 R2, h2 = hh I2 J2 R2 ∧ Inv I2 J2 R2))
section GT
variable {S : XS} {d : Nat} {I : Nat → Nat → Int32} {J : Nat → Nat → Int64} {R : Nat → Nat → Option Nat} {x y z : Int32}
theorem p_runs (h : Inv I J R) : PrI S d 95 1 [] 158 1 [] I J R := by
  obtain ⟨st, P, nb, A, np, pop, ar, B, ns, su, lt, wr, cc, hi⟩ := id h
  have hR := hi.1
  have e := hi.2.2.1
  unfold PrI
  refine y_loc (pc' := 1) xD_95 rfl rfl rfl rfl ?_
  first | refine m_getR (pc' := 4) xD_95 rfl rfl rfl rfl (hR.1 _ _ _ rfl) rfl ?_ | refine m_getR (pc' := 4) xD_95 rfl rfl (by first | rfl | assumption) rfl (by assumption) rfl ?_
  refine m_getI (pc' := 7) xD_95 rfl rfl rfl (by first | rfl | assumption) (e) rfl ?_
  refine y_retI xD_95 rfl rfl ?_
  refine ⟨⟨_, rfl⟩, I, J, R, rfl, ?_⟩
  refine y_loc (pc' := 1) xD_158 rfl rfl rfl rfl ?_
  refine m_get (pc' := 4) xD_158 rfl rfl (by first | rfl | assumption) rfl rfl ?_
  refine y_retI xD_158 rfl rfl ?_
  exact ⟨rfl, I, J, R, rfl, h⟩
theorem p_state (h : Inv I J R) : PrJ S d 96 1 [] 159 1 [] I J R := by
  obtain ⟨st, P, nb, A, np, pop, ar, B, ns, su, lt, wr, cc, hi⟩ := id h
  have hR := hi.1
  have e := hi.2.1
  unfold PrJ
  refine y_loc (pc' := 1) xD_96 rfl rfl rfl rfl ?_
  first | refine m_getR (pc' := 4) xD_96 rfl rfl rfl rfl (hR.1 _ _ _ rfl) rfl ?_ | refine m_getR (pc' := 4) xD_96 rfl rfl (by first | rfl | assumption) rfl (by assumption) rfl ?_
  refine m_get (pc' := 7) xD_96 rfl rfl (by first | rfl | assumption) rfl rfl ?_
  refine y_retJ xD_96 rfl rfl ?_
  refine ⟨⟨_, rfl⟩, I, J, R, rfl, ?_⟩
  refine y_loc (pc' := 1) xD_159 rfl rfl rfl rfl ?_
  refine m_get (pc' := 4) xD_159 rfl rfl (by first | rfl | assumption) rfl rfl ?_
  refine y_retJ xD_159 rfl rfl ?_
  exact ⟨by rw [show J 261 14 = J 18 2 from e.symm], I, J, R, rfl, h⟩
theorem p_found (h : Inv I J R) : PrI S (d + 1) 85 1 [] 107 3 [] I J R := by
  obtain ⟨st, P, nb, A, np, pop, ar, B, ns, su, lt, wr, cc, hi⟩ := id h
  obtain ⟨h1, h2, h3, h4, h5, h6, h7, h8, h9, h10, h11, h12, h13, h14⟩ := hi
  have hR := h1
  have e := h11.1.fS h5.1.2.1 h11.2.2
  unfold PrI
  refine y_loc (pc' := 1) xD_85 rfl rfl rfl rfl ?_
  first | refine m_getR (pc' := 4) xD_85 rfl rfl rfl rfl (hR.1 _ _ _ rfl) rfl ?_ | refine m_getR (pc' := 4) xD_85 rfl rfl (by first | rfl | assumption) rfl (by assumption) rfl ?_
  refine m_getI (pc' := 7) xD_85 rfl rfl rfl (by first | rfl | assumption) (e) rfl ?_
  refine y_retI xD_85 rfl rfl ?_
  refine ⟨⟨_, rfl⟩, I, J, R, rfl, ?_⟩
  refine XP.conseq (s_found h1 h5.2.1.1 h5.1.2.1 h11.2.1) (fun v h' q => ?_)
  obtain ⟨rfl, rfl⟩ := q
  exact ⟨rfl, I, J, R, rfl, h⟩
theorem p_active (h : Inv I J R) : PrI S (d + 1) 86 1 [] 108 5 [] I J R := by
  obtain ⟨st, P, nb, A, np, pop, ar, B, ns, su, lt, wr, cc, hi⟩ := id h
  obtain ⟨h1, h2, h3, h4, h5, h6, h7, h8, h9, h10, h11, h12, h13, h14⟩ := hi
  have hR := h1
  have e := h11.1.fS h5.1.2.1 h11.2.2
  have ma := s_active (S := S) (d := d) (I := I) (J := J) (R := R) (ar := ar) h1 h5.2.1.1 h5.1.2.1 h11.2.1
  unfold PrI
  refine y_loc (pc' := 1) xD_86 rfl rfl rfl rfl ?_
  refine m_getZ (pc' := 4) xD_86 rfl rfl rfl (by first | rfl | assumption) (h4.1) rfl ?_
  refine y_ifeq (pt := 24) (pf := 7) xD_86 rfl rfl rfl (fun h4' => ?_) (fun h4' => ?_)
  · skip
    have hs : st = false := zB_f.mp h4'
    obtain ⟨n0, -⟩ := h9 hs
    refine y_ci (pc' := 25) (0) xD_86 rfl rfl rfl rfl ?_
    refine y_retI xD_86 rfl rfl ?_
    refine ⟨⟨_, rfl⟩, I, J, R, rfl, ?_⟩
    refine XP.conseq ma (fun v h' q => ?_)
    obtain ⟨rfl, rfl⟩ := q
    refine ⟨?_, I, J, R, rfl, h⟩
    rw [n0]; rfl
  · skip
    have ag := s_activeGoals (S := S) (d := d) (I := I) (J := J) (R := R) (nb := nb) h1 h5.1.1 h5.1.2.1 (hv := fS ar (2 * nb)) (opn (I 269) (I 270) (fS ar (2 * nb))) (fun k hk => by
      unfold opn
      rw [decide_eq_true_iff, h5.1.2.2.2.2, h7 k hk, h5.2.2.2.2.2.2]
      exact or_assoc.symm)
    refine y_loc (pc' := 8) xD_86 rfl rfl rfl rfl ?_
    first | refine m_getR (pc' := 11) xD_86 rfl rfl rfl rfl (hR.1 _ _ _ rfl) rfl ?_ | refine m_getR (pc' := 11) xD_86 rfl rfl (by first | rfl | assumption) rfl (by assumption) rfl ?_
    refine y_loc (pc' := 12) xD_86 rfl rfl rfl rfl ?_
    first | refine m_getR (pc' := 15) xD_86 rfl rfl rfl rfl (hR.1 _ _ _ rfl) rfl ?_ | refine m_getR (pc' := 15) xD_86 rfl rfl (by first | rfl | assumption) rfl (by assumption) rfl ?_
    refine m_getI (pc' := 18) xD_86 rfl rfl rfl (by first | rfl | assumption) (e) rfl ?_
    refine y_callV xD_86 rfl rfl rfl rfl (by first | rfl | assumption) rfl rfl rfl rfl (ag) (fun v h' hq => ?_)
    obtain ⟨rfl, rfl⟩ := hq
    refine y_goto (pc' := 25) xD_86 rfl rfl ?_
    refine y_retI xD_86 rfl rfl ?_
    refine ⟨⟨_, rfl⟩, I, J, R, rfl, ?_⟩
    refine XP.conseq ma (fun v h' q => ?_)
    obtain ⟨rfl, rfl⟩ := q
    exact ⟨rfl, I, J, R, rfl, h⟩
theorem p_reported (h : Inv I J R) : PrI S (d + 8) 87 1 [] 151 1 [] I J R := by
  obtain ⟨st, P, nb, A, np, pop, ar, B, ns, su, lt, wr, cc, hi⟩ := id h
  obtain ⟨h1, h2, h3, h4, h5, h6, h7, h8, h9, h10, h11, h12, h13, h14⟩ := id hi
  have hR := h1
  unfold PrI
  refine y_loc (pc' := 1) xD_87 rfl rfl rfl rfl ?_
  first | refine m_getR (pc' := 4) xD_87 rfl rfl rfl rfl (hR.1 _ _ _ rfl) rfl ?_ | refine m_getR (pc' := 4) xD_87 rfl rfl (by first | rfl | assumption) rfl (by assumption) rfl ?_
  refine y_callV xD_87 rfl rfl rfl rfl (by first | rfl | assumption) rfl rfl rfl rfl (s_sgoals (d := d + 6) h1 h12.1) (fun v h' hq => ?_)
  obtain ⟨rfl, rfl⟩ := hq
  refine y_retI xD_87 rfl rfl ?_
  refine ⟨⟨_, rfl⟩, I, J, R, rfl, ?_⟩
  have n24 := h12.2.2.1
  have oth := s_others (S := S) (d := d) (I := I) (J := J) (R := R) (P := P) (nb := nb) (ns := ns) (su := su) h1 h5.2 n24 h12.2.1 h12.2.2.2 24 (xk := -1) (fun j hj => ⟨fun q => absurd q (nI_m1 (by omega)), fun q => by omega⟩)
  rw [orX_S n24] at oth
  refine y_loc (pc' := 1) xD_151 rfl rfl rfl rfl ?_
  refine y_ci (pc' := 2) (-1) xD_151 rfl rfl rfl rfl ?_
  refine y_callV xD_151 rfl rfl rfl rfl (by first | rfl | assumption) rfl rfl rfl rfl (oth) (fun v h' hq => ?_)
  obtain ⟨rfl, I1, J1, rfl, m⟩ := hq
  refine y_retI xD_151 rfl rfl ?_
  exact ⟨rfl, I1, J1, R, rfl, st, P, nb, A, np, pop, ar, B, ns, su, lt, wr, cc, hi.ms m⟩
theorem p_watched (h : Inv I J R) : PrI S (d + 1) 64 2 [.int x] 101 2 [.int x] I J R := by
  obtain ⟨st, P, nb, A, np, pop, ar, B, ns, su, lt, wr, cc, hi⟩ := id h
  obtain ⟨h1, h2, h3, h4, h5, h6, h7, h8, h9, h10, h11, h12, h13, h14⟩ := hi
  have hR := h1
  have k66 : kq 266 = (102, 2) := kMod3.1
  have dec : ∀ (Q : Prop), ((0 ≤ x ∧ x < 2) → Q) → (¬ (0 ≤ x ∧ x < 2) → Q) → Q := fun Q a b => by by_cases t : 0 ≤ x ∧ x < 2; exact a t; exact b t
  have eqw : ∀ y : Int32, ((0 : Int32) ≤ y ∧ y ≤ 1) ↔ (0 ≤ y ∧ y < 2) := fun y => by
    rw [Int32.le_iff_toInt_le, Int32.le_iff_toInt_le, Int32.lt_iff_toInt_lt]
    show ((0 : Int) ≤ _ ∧ y.toInt ≤ 1) ↔ ((0 : Int) ≤ _ ∧ y.toInt < 2)
    omega
  -- the model's answer
  have md : XP S (d + 1) 101 0 (xent [.ref 261, .int x] 2) [] (hh I J R) (fun v h' => (v = some (.int (if st = true ∧ (0 ≤ x ∧ x < 2) ∧ ¬ I 266 x.toNatClampNeg = 0 then 1 else 0))) ∧ h' = hh I J R) := by
    refine y_loc (pc' := 1) xD_101 rfl rfl rfl rfl ?_
    refine m_getZ (pc' := 4) xD_101 rfl rfl rfl (by first | rfl | assumption) (h4.2) rfl ?_
    refine y_ifeq (pt := 29) (pf := 7) xD_101 rfl rfl rfl (fun h4' => ?_) (fun h4' => ?_)
    · skip
      refine y_ci (pc' := 30) (0) xD_101 rfl rfl rfl rfl ?_
      refine y_retZ xD_101 rfl rfl (by first | decide | assumption) ?_
      exact ⟨by rw [if_neg (fun q => by rw [q.1] at h4'; exact absurd h4' (by decide))], rfl⟩
    · skip
      have hs : st = true := by rw [zB_f, Bool.not_eq_false] at h4'; exact h4'
      refine y_loc (pc' := 8) xD_101 rfl rfl rfl rfl ?_
      refine y_ci (pc' := 9) (0) xD_101 rfl rfl rfl rfl ?_
      refine y_ci (pc' := 10) (1) xD_101 rfl rfl rfl rfl ?_
      refine y_callS xD_101 rfl rfl rfl rfl rfl rfl rfl rfl (s_within) (fun v h' hq => ?_)
      obtain ⟨rfl, rfl⟩ := hq
      refine y_ifeq (pt := 29) (pf := 16) xD_101 rfl rfl rfl (fun h13' => ?_) (fun h13' => ?_)
      · skip
        refine y_ci (pc' := 30) (0) xD_101 rfl rfl rfl rfl ?_
        refine y_retZ xD_101 rfl rfl (by first | decide | assumption) ?_
        exact ⟨by rw [if_neg (fun q => zB_0.mp h13' ((eqw x).mpr q.2.1))], rfl⟩
      · skip
        have hx := (eqw x).mp (zB_n0.mp h13')
        obtain ⟨k, -, k2, ex⟩ := i32_range (a := 0) (b := 2) (by decide) hx.1 hx.2 (by decide)
        have et : x.toNatClampNeg = k := by rw [ex]; exact nI_cl (by omega)
        refine y_loc (pc' := 17) xD_101 rfl rfl rfl rfl ?_
        first | refine m_getR (pc' := 20) xD_101 rfl rfl rfl rfl (hR.1 _ _ _ rfl) rfl ?_ | refine m_getR (pc' := 20) xD_101 rfl rfl (by first | rfl | assumption) rfl (by assumption) rfl ?_
        refine y_loc (pc' := 21) xD_101 rfl rfl rfl rfl ?_
        refine m_zald (pc' := 22) (k) xD_101 rfl (by first | rfl | assumption) (by first | assumption | omega) (by first | decide | assumption) ex rfl ?_
        refine y_ifeq (pt := 29) (pf := 25) xD_101 rfl rfl rfl (fun h22 => ?_) (fun h22 => ?_)
        · skip
          refine y_ci (pc' := 30) (0) xD_101 rfl rfl rfl rfl ?_
          refine y_retZ xD_101 rfl rfl (by first | decide | assumption) ?_
          exact ⟨by rw [et, if_neg (fun q => q.2.2 h22)], rfl⟩
        · skip
          refine y_ci (pc' := 26) (1) xD_101 rfl rfl rfl rfl ?_
          refine y_goto (pc' := 30) xD_101 rfl rfl ?_
          refine y_retZ xD_101 rfl rfl (by first | decide | assumption) ?_
          exact ⟨by rw [et, if_pos ⟨hs, hx, h22⟩], rfl⟩
  have fin : ∀ r : Int32, r = (if st = true ∧ (0 ≤ x ∧ x < 2) ∧ ¬ I 266 x.toNatClampNeg = 0 then 1 else 0) → ((∃ x, some (Value.int r) = some (.int x)) ∧ ∃ I1 J1 R1, hh I J R = hh I1 J1 R1 ∧ XP S (d + 1) 101 0 (xent [.ref 261, .int x] 2) [] (hh I1 J1 R1) (fun v2 h2 => v2 = some (.int r) ∧ ∃ I2 J2 R2, h2 = hh I2 J2 R2 ∧ Inv I2 J2 R2)) := by
    intro r hr
    refine ⟨⟨r, rfl⟩, I, J, R, rfl, XP.conseq md (fun v h' q => ?_)⟩
    obtain ⟨rfl, rfl⟩ := q
    exact ⟨by rw [hr], I, J, R, rfl, h⟩
  unfold PrI
  refine y_loc (pc' := 1) xD_64 rfl rfl rfl rfl ?_
  refine m_getZ (pc' := 4) xD_64 rfl rfl rfl (by first | rfl | assumption) (h4.1) rfl ?_
  refine y_ifeq (pt := 33) (pf := 7) xD_64 rfl rfl rfl (fun h4' => ?_) (fun h4' => ?_)
  · skip
    refine y_ci (pc' := 34) (0) xD_64 rfl rfl rfl rfl ?_
    refine y_retZ xD_64 rfl rfl (by first | decide | assumption) ?_
    exact fin 0 (by rw [if_neg (fun q => by rw [q.1] at h4'; exact absurd h4' (by decide))])
  · skip
    have hs : st = true := by rw [zB_f, Bool.not_eq_false] at h4'; exact h4'
    refine y_loc (pc' := 8) xD_64 rfl rfl rfl rfl ?_
    refine y_callS xD_64 rfl rfl rfl rfl rfl rfl rfl rfl (s_isMethod) (fun v h' hq => ?_)
    obtain ⟨rfl, rfl⟩ := hq
    refine y_ifeq (pt := 33) (pf := 14) xD_64 rfl rfl rfl (fun h11' => ?_) (fun h11' => ?_)
    · skip
      refine y_ci (pc' := 34) (0) xD_64 rfl rfl rfl rfl ?_
      refine y_retZ xD_64 rfl rfl (by first | decide | assumption) ?_
      exact fin 0 (by rw [if_neg (fun q => zB_0.mp h11' q.2.1)])
    · skip
      have hx := zB_n0.mp h11'
      obtain ⟨k, -, k2, ex⟩ := i32_range (a := 0) (b := 2) (by decide) hx.1 hx.2 (by decide)
      have et : x.toNatClampNeg = k := by rw [ex]; exact nI_cl (by omega)
      have rk : R 3 k = some (4 + 6 * k) := by
        rcases (show k = 0 ∨ k = 1 by omega) with rfl | rfl
        · exact h1.1 3 0 4 (by decide)
        · exact h1.1 3 1 10 (by decide)
      have kk := (kMeth (A := 4 + 6 * k) (by omega)).1
      refine y_loc (pc' := 15) xD_64 rfl rfl rfl rfl ?_
      first | refine m_getR (pc' := 18) xD_64 rfl rfl rfl rfl (hR.1 _ _ _ rfl) rfl ?_ | refine m_getR (pc' := 18) xD_64 rfl rfl (by first | rfl | assumption) rfl (by assumption) rfl ?_
      first | refine m_getR (pc' := 21) xD_64 rfl rfl rfl rfl (hR.1 _ _ _ rfl) rfl ?_ | refine m_getR (pc' := 21) xD_64 rfl rfl (by first | rfl | assumption) rfl (by assumption) rfl ?_
      refine y_loc (pc' := 22) xD_64 rfl rfl rfl rfl ?_
      refine m_aald (pc' := 23) (k) (q := 1) xD_64 rfl (by first | rfl | assumption) (by first | decide | assumption) (by first | assumption | omega) (by first | decide | assumption) ex rk rfl ?_
      refine m_getZ (pc' := 26) xD_64 rfl rfl rfl (by first | rfl | assumption) ((h6 k k2).1) rfl ?_
      refine y_ifeq (pt := 33) (pf := 29) xD_64 rfl rfl rfl (fun h26 => ?_) (fun h26 => ?_)
      · skip
        refine y_ci (pc' := 34) (0) xD_64 rfl rfl rfl rfl ?_
        refine y_retZ xD_64 rfl rfl (by first | decide | assumption) ?_
        exact fin 0 (by rw [et, if_neg (fun q => q.2.2 h26)])
      · skip
        refine y_ci (pc' := 30) (1) xD_64 rfl rfl rfl rfl ?_
        refine y_goto (pc' := 34) xD_64 rfl rfl ?_
        refine y_retZ xD_64 rfl rfl (by first | decide | assumption) ?_
        exact fin 1 (by rw [et, if_pos ⟨hs, hx, h26⟩])
end GT

