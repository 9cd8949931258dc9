/-! evolve: the class. -/
def CPo (I : Nat → Nat → Int32) (J : Nat → Nat → Int64) (R : Nat → Nat → Option Nat) (P : Nat → Nat → Int32) (nb : Nat) (A : Nat → Nat) (np : Nat) (pop : Nat → CA) : Prop := C7 R A ∧ I 121 1 = nI np ∧ np ≤ 5 ∧ ∀ k, k < np → WC (pop k) ∧ 0 < (pop k).1 ∧ RX I J P nb (A k) (pop k)
def evp (np : Nat) (b : Int64) : Nat := if dv (dn b) np ≤ dv (dn (dn b)) np then dv (dn b) np else dv (dn (dn b)) np
def evpop (np : Nat) (pop : Nat → CA) (c0 c1 : CA) : Nat → CA := fun k => if k < np then pop k else if k = np then c0 else c1
def cB (x : Int32) : Int32 := nI (kb x.toBitVec.toNat 24)
theorem evp_lt {np : Nat} (b : Int64) (h : 0 < np) : evp np b < np := by
  have h1 := dv_lt (dn b) h
  have h2 := dv_lt (dn (dn b)) h
  unfold evp
  generalize dv (dn b) np = x at *
  generalize dv (dn (dn b)) np = y at *
  split <;> omega
theorem set_24 {x : Int32} (h : ∀ g, g < 32 → 24 ≤ g → ib x g = false) : x.toBitVec.toNat < 16777216 ∧ x = nI x.toBitVec.toNat := by
  refine ⟨?_, ?_⟩
  · refine Nat.lt_pow_two_of_testBit (n := 24) _ (fun i hi => ?_)
    rw [BitVec.testBit_toNat]
    by_cases h32 : i < 32
    · exact h i h32 hi
    · exact BitVec.getLsbD_of_ge _ _ (by omega)
  · unfold nI
    apply Int32.toBitVec_inj.mp
    rw [Int32.toBitVec_ofNat', BitVec.ofNat_toNat, BitVec.setWidth_eq]
theorem C7.ne {R : Nat → Nat → Option Nat} {A : Nat → Nat} (h : C7 R A) {i j r r' : Nat} (hi : i < 7) (hj : j < 7) (hij : i ≠ j) (hr : r < 4) (hr' : r' < 4) : A i + r ≠ A j + r' := by
  obtain ⟨-, c1, l1, u1, e1⟩ := h i hi
  obtain ⟨-, c2, l2, u2, -⟩ := h j hj
  have := e1 j hj
  unfold isCase at c1 c2
  intro q
  have : A i ≠ A j := fun t => hij (this t)
  omega
theorem q_lvl_b {N M : Nat → Int64} {nd : Nat → Int32} {nb : Nat} (hnb : nb ≤ 12) (h : Nr N M) : ∀ (f k : Nat) (gs : Int32), k + f ≤ 25 → 0 ≤ (q_lvl M nd nb f k gs).toInt ∧ (q_lvl M nd nb f k gs).toInt ≤ 549755813888
  | 0, k, gs, _ => by
    have e : (549755813888 : Int64).toInt = 549755813888 := rfl
    show 0 ≤ (549755813888 : Int64).toInt ∧ (549755813888 : Int64).toInt ≤ 549755813888
    rw [e]; omega
  | f + 1, k, gs, hk => by
    rw [q_lvl_s]
    have hb := (q_least_in (nd := nd) (gs := gs) h (2 * nb) (by omega)).2
    by_cases h0 : 0 ≤ (q_in M nd gs (2 * nb)).1
    · rw [if_pos h0]
      have hb : 0 ≤ (q_in M nd gs (2 * nb)).1 ∧ (q_in M nd gs (2 * nb)).1 < 8589934592 := hb.elim (fun q => by rw [q] at h0; exact absurd h0 (by decide)) id
      generalize (q_in M nd gs (2 * nb)).1 = w at *
      have e1 : (8589934592 : Int64).toInt = 8589934592 := rfl
      have e0 : (0 : Int64).toInt = 0 := rfl
      rw [Int64.le_iff_toInt_le, Int64.lt_iff_toInt_lt, e0, e1] at hb
      have ek := nI64 (n := k) (by omega)
      rw [Int64.toInt_add, Int64.toInt_mul, ek, e1]
      have k1 : (k : Int) ≤ 24 := by omega
      have k0 : (0 : Int) ≤ k := by omega
      generalize (k : Int) = kk at *
      simp only [Int.bmod]
      omega
    · rw [if_neg h0]
      exact q_lvl_b hnb h f (k + 1) _ (by omega)
theorem kF_b {N : Nat → Int64} {P : Nat → Nat → Int32} {nb g : Nat} {c : CA} (hnb : nb ≤ 12) (h : Nr N (kr P nb c).2.1) (hg : g < 24) : 0 ≤ (kF P nb c g).toInt ∧ (kF P nb c g).toInt ≤ 549755813888 := by
  unfold kF q_level
  by_cases h0 : 0 ≤ (kr P nb c).2.1 g
  · rw [if_pos h0]
    have hb : 0 ≤ (kr P nb c).2.1 g ∧ (kr P nb c).2.1 g < 8589934592 := (h g hg).2.elim (fun q => by rw [q] at h0; exact absurd h0 (by decide)) id
    have e1 : (8589934592 : Int64).toInt = 8589934592 := rfl
    have e0 : (0 : Int64).toInt = 0 := rfl
    rw [Int64.le_iff_toInt_le, Int64.lt_iff_toInt_lt, e0, e1] at hb
    omega
  · rw [if_neg h0]
    exact q_lvl_b hnb h 24 1 _ (by decide)
section EV
variable {S : XS} {d nb np : Nat} {I P : Nat → Nat → Int32} {J : Nat → Nat → Int64} {R : Nat → Nat → Option Nat} {A : Nat → Nat} {pop ar : Nat → CA}
theorem s_child (hR : RF R) (h7 : C7 R A) (e1 : I 121 1 = nI np) (i : Nat) {k : Nat} (ek : k = np + i) (hi : k < 7) {x : Int32} (ex : x = nI i) : XP S d 27 0 (xent [.ref 121, .int x] 2) [] (hh I J R) (rA (A k) (hh I J R)) := by
  subst ex
  subst ek
  have r := (h7 (np + i) hi).1
  refine y_loc (pc' := 1) xD_27 rfl rfl rfl rfl ?_
  first | refine m_getR (pc' := 4) xD_27 rfl rfl rfl rfl (hR.1 _ _ _ rfl) rfl ?_ | refine m_getR (pc' := 4) xD_27 rfl rfl (by first | rfl | assumption) rfl (by assumption) rfl ?_
  refine y_loc (pc' := 5) xD_27 rfl rfl rfl rfl ?_
  refine m_getI (pc' := 8) xD_27 rfl rfl rfl (by first | rfl | assumption) (e1) rfl ?_
  refine y_loc (pc' := 9) xD_27 rfl rfl rfl rfl ?_
  refine y_iadd (pc' := 10) xD_27 rfl (nI_add np i) rfl ?_
  refine m_aald (pc' := 11) ((np + i)) (q := 0) xD_27 rfl (by first | rfl | assumption) (by first | decide | assumption) (by first | assumption | omega) (by first | decide | assumption) (by first | rfl | assumption) r rfl ?_
  refine y_retA xD_27 rfl rfl ?_
  exact ⟨rfl, rfl⟩
theorem s_drawParent (hR : RF R) (h7 : C7 R A) (e1 : I 121 1 = nI np) (h0 : 0 < np) (h5 : np ≤ 5) : XP S (d + 1) 71 0 (xent [.ref 1] 3) [] (hh I J R) (rA (A (evp np (J 18 2))) (hh I (xu J 18 2 (dn (dn (J 18 2)))) R)) := by
  have pl := evp_lt (J 18 2) h0
  have r := (h7 (evp np (J 18 2)) (by omega)).1
  have me : (if nI (dv (dn (J 18 2)) np) ≤ nI (dv (dn (dn (J 18 2))) np) then nI (dv (dn (J 18 2)) np) else nI (dv (dn (dn (J 18 2))) np)) = nI (evp np (J 18 2)) := by
    have h1 := dv_lt (dn (J 18 2)) h0
    have h2 := dv_lt (dn (dn (J 18 2))) h0
    unfold evp
    generalize dv (dn (J 18 2)) np = x at *
    generalize dv (dn (dn (J 18 2))) np = y at *
    have l : nI x ≤ nI y ↔ x ≤ y := nI_leI (by omega) (by omega)
    by_cases q : x ≤ y
    · rw [if_pos q, if_pos (l.mpr q)]
    · rw [if_neg q, if_neg (fun t => q (l.mp t))]
  refine y_loc (pc' := 1) xD_71 rfl rfl rfl rfl ?_
  first | refine m_getR (pc' := 4) xD_71 rfl rfl rfl rfl (hR.1 _ _ _ rfl) rfl ?_ | refine m_getR (pc' := 4) xD_71 rfl rfl (by first | rfl | assumption) rfl (by assumption) rfl ?_
  refine y_loc (pc' := 5) xD_71 rfl rfl rfl rfl ?_
  first | refine m_getR (pc' := 8) xD_71 rfl rfl rfl rfl (hR.1 _ _ _ rfl) rfl ?_ | refine m_getR (pc' := 8) xD_71 rfl rfl (by first | rfl | assumption) rfl (by assumption) rfl ?_
  refine m_getI (pc' := 11) xD_71 rfl rfl rfl (by first | rfl | assumption) (e1) rfl ?_
  refine y_callV xD_71 rfl rfl rfl rfl (by first | rfl | assumption) rfl rfl rfl rfl (s_draw np h0 (by omega) rfl) (fun v h' hq => ?_)
  obtain ⟨rfl, rfl⟩ := hq
  refine y_loc (pc' := 15) xD_71 rfl rfl rfl rfl ?_
  refine y_loc (pc' := 16) xD_71 rfl rfl rfl rfl ?_
  first | refine m_getR (pc' := 19) xD_71 rfl rfl rfl rfl (hR.1 _ _ _ rfl) rfl ?_ | refine m_getR (pc' := 19) xD_71 rfl rfl (by first | rfl | assumption) rfl (by assumption) rfl ?_
  refine y_loc (pc' := 20) xD_71 rfl rfl rfl rfl ?_
  first | refine m_getR (pc' := 23) xD_71 rfl rfl rfl rfl (hR.1 _ _ _ rfl) rfl ?_ | refine m_getR (pc' := 23) xD_71 rfl rfl (by first | rfl | assumption) rfl (by assumption) rfl ?_
  refine m_getI (pc' := 26) xD_71 rfl rfl rfl (by first | rfl | assumption) (e1) rfl ?_
  refine y_callV xD_71 rfl rfl rfl rfl (by first | rfl | assumption) rfl rfl rfl rfl (s_draw np h0 (by omega) rfl) (fun v h' hq => ?_)
  obtain ⟨rfl, rfl⟩ := hq
  rw [xu_ii, xu_xu]
  refine y_loc (pc' := 30) xD_71 rfl rfl rfl rfl ?_
  refine y_loc (pc' := 31) xD_71 rfl rfl rfl rfl ?_
  first | refine m_getR (pc' := 34) xD_71 rfl rfl rfl rfl (hR.1 _ _ _ rfl) rfl ?_ | refine m_getR (pc' := 34) xD_71 rfl rfl (by first | rfl | assumption) rfl (by assumption) rfl ?_
  first | refine m_getR (pc' := 37) xD_71 rfl rfl rfl rfl (hR.1 _ _ _ rfl) rfl ?_ | refine m_getR (pc' := 37) xD_71 rfl rfl (by first | rfl | assumption) rfl (by assumption) rfl ?_
  refine y_loc (pc' := 38) xD_71 rfl rfl rfl rfl ?_
  refine y_loc (pc' := 39) xD_71 rfl rfl rfl rfl ?_
  refine y_callS xD_71 rfl rfl rfl rfl rfl rfl rfl rfl (s_min) (fun v h' hq => ?_)
  obtain ⟨rfl, rfl⟩ := hq
  rw [me]
  refine m_aald (pc' := 43) ((evp np (J 18 2))) (q := 0) xD_71 rfl (by first | rfl | assumption) (by first | decide | assumption) (by first | assumption | omega) (by first | decide | assumption) (by first | rfl | assumption) r rfl ?_
  refine y_retA xD_71 rfl rfl ?_
  exact ⟨rfl, rfl⟩
end EV

