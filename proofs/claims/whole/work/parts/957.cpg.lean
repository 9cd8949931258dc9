/-! The numbered program: both sides are one. -/
/-- codes that agree as far as the lines go -/
def ag (cd cd' : Nat → Nat → Int32) (n : Nat) : Prop := ∀ p, p < n → ∀ q, q < 4 → cd' p q = cd p q
section AG
variable {cd cd' : Nat → Nat → Int32} {n y f : Nat}
theorem agr_br (h : ag cd cd' n) {p : Nat} (hp : p < n) : br cd' p = br cd p := by unfold br; rw [h p hp 0 (by decide)]
theorem bc_c (h : ag cd cd' n) : ∀ k, k ≤ n → bc cd' k = bc cd k
  | 0, _ => rfl
  | k + 1, hk => by
    simp only [bc]
    rw [agr_br h (by omega), bc_c h k (by omega)]
theorem wt_c (h : ag cd cd' n) : wt cd' n = wt cd n := by unfold wt; rw [bc_c h n (Nat.le_refl _)]
theorem ad_c (h : ag cd cd' n) : ad cd' n = ad cd n := by unfold ad; rw [wt_c h, bc_c h n (Nat.le_refl _)]
theorem lead_c (h : ag cd cd' n) {p : Nat} {o : Bool} (hp : p < n) : q_lead cd' n p o = q_lead cd n p o := q_lead_eq (h p hp 0 (by decide)) (h p hp 3 (by decide))
theorem gE_c (h : ag cd cd' n) (a b : Nat) : gE cd' n y a b ↔ gE cd n y a b := by
  unfold gE
  constructor
  · rintro ⟨h1, h2, h3⟩; rw [lead_c h h1, lead_c h h1] at h3; exact ⟨h1, h2, h3⟩
  · rintro ⟨h1, h2, h3⟩; refine ⟨h1, h2, ?_⟩; rw [lead_c h h1, lead_c h h1]; exact h3
theorem qP_c (h : ag cd cd' n) {x : Nat} (m : Nat) : ∀ v, q_P (gE cd' n y) x m v ↔ q_P (gE cd n y) x m v := by
  induction m with
  | zero =>
    intro v
    show v = x ↔ v = x
    exact Iff.rfl
  | succ m ih =>
    intro v
    show (∃ a, q_P (gE cd' n y) x m a ∧ gE cd' n y a v) ↔ ∃ a, q_P (gE cd n y) x m a ∧ gE cd n y a v
    constructor
    · rintro ⟨a, ha, he⟩; exact ⟨a, (ih a).mp ha, (gE_c h a v).mp he⟩
    · rintro ⟨a, ha, he⟩; exact ⟨a, (ih a).mpr ha, (gE_c h a v).mpr he⟩
theorem ms_c (h : ag cd cd' n) {x : Nat} : ms cd' n y x ↔ ms cd n y x := by
  unfold ms wy
  have e : ∀ y, (∃ m, q_P (gE cd' n y) x m n) ↔ ∃ m, q_P (gE cd n y) x m n := fun y => ⟨fun ⟨m, q⟩ => ⟨m, (qP_c h m n).mp q⟩, fun ⟨m, q⟩ => ⟨m, (qP_c h m n).mpr q⟩⟩
  rw [e 99, e y]
theorem ND_c (h : ag cd cd' n) {p : Nat} {G : Int32} (q : ND cd' n f p G) : ND cd n f p G := by
  intro g hg
  rw [q g hg]
  constructor
  · rintro ⟨q, a, b, c, e⟩
    rw [agr_br h a] at b
    rw [ms_c h] at c
    rw [bc_c h q (by omega), lead_c h a, lead_c h a, ms_c h, ms_c h] at e
    exact ⟨q, a, b, c, e⟩
  · rintro ⟨q, a, b, c, e⟩
    refine ⟨q, a, by rw [agr_br h a]; exact b, by rw [ms_c h]; exact c, ?_⟩
    rw [bc_c h q (by omega), lead_c h a, lead_c h a, ms_c h, ms_c h]; exact e
end AG
theorem q_find_y {I : Nat → Nat → Int32} {m p : Nat} : ∀ (f k j : Nat), k ≤ j → j < k + f → (I 267 j = nI m ∧ I 268 j = nI p) → (∀ i, k ≤ i → i < k + f → I 267 i = nI m ∧ I 268 i = nI p → i = j) → q_find I m p f k = some j
  | 0, k, j, h1, h2, _, _ => absurd h2 (by omega)
  | f + 1, k, j, h1, h2, h3, h4 => by
    simp only [q_find]
    by_cases q : I 267 k = nI m ∧ I 268 k = nI p
    · rw [if_pos q, h4 k (Nat.le_refl _) (by omega) q]
    · rw [if_neg q]
      have : k ≠ j := fun e => q (by rw [e]; exact h3)
      exact q_find_y f (k + 1) j (by omega) (by omega) h3 (fun i a b c => h4 i (by omega) (by omega) c)
theorem q_find_n {I : Nat → Nat → Int32} {m p : Nat} : ∀ (f k : Nat), (∀ i, k ≤ i → i < k + f → ¬ (I 267 i = nI m ∧ I 268 i = nI p)) → q_find I m p f k = none
  | 0, _, _ => rfl
  | f + 1, k, h => by
    simp only [q_find]
    rw [if_neg (h k (Nat.le_refl _) (by omega))]
    exact q_find_n f (k + 1) (fun i a b => h i (by omega) (by omega))
/-- the lines of both sides, before the start -/
def PG0 (I : Nat → Nat → Int32) : Prop := ∀ m, m < 2 → I 265 m = nI (lnM I m) ∧ lnM I m ≤ 10 ∧ VC (cdM I m) (lnM I m) ∧ I (4 + 6 * m) 5 = nI (lnM I m) ∧ ag (cdM I m) (cdC I (4 + 6 * m)) (lnM I m) ∧ ∀ p, p < lnM I m → I (4 + 6 * m + 5) p = -1
/-- the numbered program -/
def pP (I : Nat → Nat → Int32) (G : Nat → Int32) : Nat → Nat → Int32 := fun x k => if x = 267 then (if k < pN (cdM I) (lnM I) then nI (pM (cdM I) (lnM I) k) else I 267 k) else if x = 268 then (if k < pN (cdM I) (lnM I) then nI (pA (cdM I) (lnM I) k) else I 268 k) else if x = 269 then G k else if x = 264 ∨ x = 265 then I x k else 0
theorem pP_o {I : Nat → Nat → Int32} {G : Nat → Int32} {x : Nat} (h : x = 264 ∨ x = 265) : pP I G x = I x := by
  funext k; unfold pP; rw [if_neg (by omega), if_neg (by omega), if_neg (by omega), if_pos h]
theorem pP_c {I I' : Nat → Nat → Int32} {G : Nat → Int32} (h4 : I' 264 = I 264) (h5 : I' 265 = I 265) (h7 : I' 267 = I 267) (h8 : I' 268 = I 268) : pP I' G = pP I G := by
  have e1 : cdM I' = cdM I := by funext m; exact cdM_eq h4
  have e2 : lnM I' = lnM I := by funext m; unfold lnM; rw [h5]
  funext x k
  unfold pP
  rw [e1, e2, h7, h8]
  by_cases q : x = 264 ∨ x = 265
  · rcases q with rfl | rfl
    · rw [h4]
    · rw [h5]
  · rw [if_neg q, if_neg q]
theorem VL_ag {cd cd' : Nat → Nat → Int32} {n p : Nat} (h : ag cd cd' n) (hp : p < n) (v : VL cd p) : VL cd' p := by
  unfold VL at *
  rw [h p hp 0 (by decide), h p hp 1 (by decide), h p hp 2 (by decide), h p hp 3 (by decide)]
  exact v
theorem bnM_P {I : Nat → Nat → Int32} {G : Nat → Int32} {m p : Nat} (hl : ∀ m, m < 2 → lnM I m ≤ 10) (hm : m < 2) (hp : p < lnM I m) : bnM (pP I G) m (pN (cdM I) (lnM I)) p = if wt (cdM I m) (lnM I m) = true ∧ br (cdM I m) p = true then some (pF (cdM I) (lnM I) m + bc (cdM I m) p) else none := by
  have key : ∀ k, k < pN (cdM I) (lnM I) → (pP I G 267 k = nI m ∧ pP I G 268 k = nI p ↔ pM (cdM I) (lnM I) k = m ∧ pA (cdM I) (lnM I) k = p) := by
    intro k hk
    obtain ⟨c1, c2, -⟩ := pq hk
    have := hl _ c1
    have := hl _ hm
    unfold pP
    rw [if_pos rfl, if_pos hk, if_neg (by decide), if_pos rfl, if_pos hk, nI_inj (by omega) (by omega), nI_inj (by omega) (by omega)]
  unfold bnM
  by_cases q : wt (cdM I m) (lnM I m) = true ∧ br (cdM I m) p = true
  · rw [if_pos q]
    obtain ⟨d1, d2, d3⟩ := pr (cdf := cdM I) (ln := lnM I) hm q.1 hp q.2
    refine q_find_y _ 0 _ (Nat.zero_le _) (by omega) ((key _ d1).mpr ⟨d2, d3⟩) (fun i _ hi c => ?_)
    have c := (key i (by omega)).mp c
    obtain ⟨-, -, -, c4, -⟩ := pq (cdf := cdM I) (ln := lnM I) (k := i) (by omega)
    rw [c.1, c.2] at c4
    exact c4
  · rw [if_neg q]
    refine q_find_n _ 0 (fun i _ hi c => q ?_)
    have c := (key i (by omega)).mp c
    obtain ⟨-, -, c3, -, c5⟩ := pq (cdf := cdM I) (ln := lnM I) (k := i) (by omega)
    rw [c.1, c.2] at c3
    rw [c.1] at c5
    exact ⟨c5, c3⟩
section CG
variable {I I1 I2 : Nat → Nat → Int32}
/-- what the class's numbering comes to -/
theorem cpg_start (h : PG0 I) (h16 : ∀ k, I 16 k = 0) (s1 : StC 4 (cdC I 4) (lnM I 0) 0 I I1) (s2 : StC 10 (cdC I 10) (lnM I 1) (ad (cdC I 4) (lnM I 0)) I1 I2) :
    CPg I2 (pP I (I2 16)) (pN (cdM I) (lnM I)) ∧ (∀ m, m < 2 → I2 (4 + 6 * m) 6 = zB (wt (cdM I m) (lnM I m))) ∧ (∀ k, k < pN (cdM I) (lnM I) → ND (cdM I (pM (cdM I) (lnM I) k)) (lnM I (pM (cdM I) (lnM I) k)) (pF (cdM I) (lnM I) (pM (cdM I) (lnM I) k)) (pA (cdM I) (lnM I) k) (I2 16 k) ∧ (¬ I2 17 k = 0 ↔ (I2 16 k = 0 ∨ ms (cdM I (pM (cdM I) (lnM I) k)) (lnM I (pM (cdM I) (lnM I) k)) (pA (cdM I) (lnM I) k) 0))) ∧ (∀ k, pN (cdM I) (lnM I) ≤ k → I2 16 k = 0) ∧ (∀ x, x ≠ 2 → x ≠ 4 → x ≠ 9 → x ≠ 10 → x ≠ 15 → x ≠ 16 → x ≠ 17 → I2 x = I x) := by
  obtain ⟨a1, a2, a3, a4, a5, a6⟩ := h 0 (by decide)
  obtain ⟨b1, b2, b3, b4, b5, b6⟩ := h 1 (by decide)
  have a5 : ag (cdM I 0) (cdC I 4) (lnM I 0) := a5
  have b5 : ag (cdM I 1) (cdC I 10) (lnM I 1) := b5
  have hl : ∀ m, m < 2 → lnM I m ≤ 10 := fun m hm => (h m hm).2.1
  obtain ⟨t1, t2, t3, t4, t5, t6, t7, t8⟩ := s1
  obtain ⟨u1, u2, u3, u4, u5, u6, u7, u8⟩ := s2
  have e0 := ad_c a5
  have e1 := ad_c b5
  have p0 : pF (cdM I) (lnM I) 0 = 0 := by unfold pF; rw [if_pos rfl]
  have p1 : pF (cdM I) (lnM I) 1 = ad (cdC I 4) (lnM I 0) := by unfold pF; rw [if_neg (by decide), e0]
  have x1 : ∀ x, x ≠ 2 → x ≠ 4 → x ≠ 9 → x ≠ 16 → x ≠ 17 → I1 x = I x := t6
  have x2 : ∀ x, x ≠ 2 → x ≠ 10 → x ≠ 15 → x ≠ 16 → x ≠ 17 → I2 x = I1 x := u6
  have X : ∀ x, x ≠ 2 → x ≠ 4 → x ≠ 9 → x ≠ 10 → x ≠ 15 → x ≠ 16 → x ≠ 17 → I2 x = I x := fun x a b c e f g i => (x2 x a e f g i).trans (x1 x a b c g i)
  have n2 : I2 2 3 = nI (pN (cdM I) (lnM I)) := by rw [u1, e1, e0]; rfl
  have nC : ∀ m, m < 2 → I2 (4 + 6 * m) 5 = nI (lnM I m) := fun m hm => by
    rcases (show m = 0 ∨ m = 1 by omega) with rfl | rfl
    · show I2 4 5 = _
      rw [x2 4 (by decide) (by decide) (by decide) (by decide) (by decide), t8 5 (by decide)]; exact a4
    · show I2 10 5 = _
      rw [u8 5 (by decide), x1 10 (by decide) (by decide) (by decide) (by decide) (by decide)]; exact b4
  have lnCe : ∀ m, m < 2 → lnC I2 m = lnM I m := fun m hm => by
    unfold lnC
    rw [nC m hm, nI_cl (by have := hl m hm; omega)]
  have cdCe : ∀ m, m < 2 → cdC I2 (4 + 6 * m) = cdC I (4 + 6 * m) := fun m hm => by
    funext p q
    unfold cdC
    rcases (show m = 0 ∨ m = 1 by omega) with rfl | rfl
    · rw [X _ (by omega) (by omega) (by omega) (by omega) (by omega) (by omega) (by omega)]
    · rw [X _ (by omega) (by omega) (by omega) (by omega) (by omega) (by omega) (by omega)]
  have AG : ∀ m, m < 2 → ag (cdM I m) (cdC I (4 + 6 * m)) (lnM I m) := fun m hm => (h m hm).2.2.2.2.1
  have br5 : ∀ m, m < 2 → ∀ p, p < lnM I m → I2 (4 + 6 * m + 5) p = if wt (cdM I m) (lnM I m) = true ∧ br (cdM I m) p = true then nI (pF (cdM I) (lnM I) m + bc (cdM I m) p) else -1 := fun m hm p hp => by
    rcases (show m = 0 ∨ m = 1 by omega) with rfl | rfl
    · show I2 9 p = _
      rw [x2 9 (by decide) (by decide) (by decide) (by decide) (by decide), p0]
      have := t3 p hp
      rw [wt_c a5, agr_br a5 hp, bc_c a5 p (by omega)] at this
      have a6p : I (4 + 5) p = -1 := a6 p hp
      rw [a6p] at this
      exact this
    · show I2 15 p = _
      rw [p1]
      have := u3 p hp
      rw [wt_c b5, agr_br b5 hp, bc_c b5 p (by omega)] at this
      have b6p : I1 (10 + 5) p = -1 := by rw [x1 (10 + 5) (by decide) (by decide) (by decide) (by decide) (by decide)]; exact b6 p hp
      rw [b6p] at this
      exact this
  have fbl : ∀ m, m < 2 → ∀ p, p < lnM I m → wt (cdM I m) (lnM I m) = true ∧ br (cdM I m) p = true → pF (cdM I) (lnM I) m + bc (cdM I m) p < 12 := fun m hm p hp q => by
    have := (pr (cdf := cdM I) (ln := lnM I) hm q.1 hp q.2).1
    have := pN_12 (cdf := cdM I) (ln := lnM I)
    omega
  refine ⟨⟨n2, pN_12, fun m hm => ?_, fun m hm => ?_, ?_⟩, fun m hm => ?_, fun k hk => ?_, fun k hk => ?_, X⟩
  · rw [lnCe m hm, cdCe m hm]
    refine ⟨nC m hm, hl m hm, fun p hp => VL_ag (AG m hm) hp ((h m hm).2.2.1 p hp), fun p hp => ?_⟩
    rw [br5 m hm p hp]
    by_cases q : wt (cdM I m) (lnM I m) = true ∧ br (cdM I m) p = true
    · rw [if_pos q]; exact Or.inr ⟨_, fbl m hm p hp q, rfl⟩
    · rw [if_neg q]; exact Or.inl rfl
  · have lp : lnM (pP I (I2 16)) = lnM I := by funext m; unfold lnM; rw [pP_o (by decide)]
    have cp : cdM (pP I (I2 16)) = cdM I := by funext m; exact cdM_eq (pP_o (by decide))
    rw [lnCe m hm, lp, cp]
    refine ⟨rfl, fun p hp => ?_⟩
    show VL (cdC I2 (4 + 6 * m)) p ∧ (∀ q, q < 4 → cdM I m p q = cdC I2 (4 + 6 * m) p q) ∧ bnM (pP I (I2 16)) m (pN (cdM I) (lnM I)) p = bnC I2 (4 + 6 * m) p ∧ ∀ k, bnC I2 (4 + 6 * m) p = some k → k < 12
    rw [cdCe m hm, bnM_P hl hm hp]
    have eb : bnC I2 (4 + 6 * m) p = if wt (cdM I m) (lnM I m) = true ∧ br (cdM I m) p = true then some (pF (cdM I) (lnM I) m + bc (cdM I m) p) else none := by
      unfold bnC
      rw [br5 m hm p hp]
      by_cases q : wt (cdM I m) (lnM I m) = true ∧ br (cdM I m) p = true
      · have := fbl m hm p hp q
        rw [if_pos q, if_pos q, if_neg (nI_m1 (by omega)), nI_cl (by omega)]
      · rw [if_neg q, if_neg q, if_pos rfl]
    rw [eb]
    refine ⟨VL_ag (AG m hm) hp ((h m hm).2.2.1 p hp), fun q hq => (AG m hm p hp q hq).symm, rfl, fun k hk => ?_⟩
    by_cases q : wt (cdM I m) (lnM I m) = true ∧ br (cdM I m) p = true
    · rw [if_pos q] at hk
      have := fbl m hm p hp q
      cases hk
      exact this
    · rw [if_neg q] at hk; cases hk
  · funext k
    unfold pP
    rw [if_neg (by decide), if_neg (by decide), if_pos rfl]
  · rcases (show m = 0 ∨ m = 1 by omega) with rfl | rfl
    · show I2 4 6 = _
      rw [x2 4 (by decide) (by decide) (by decide) (by decide) (by decide), t2, wt_c a5]
    · show I2 10 6 = _
      rw [u2, wt_c b5]
  · obtain ⟨c1, c2, c3, c4, c5⟩ := pq hk
    rcases (show pM (cdM I) (lnM I) k = 0 ∨ pM (cdM I) (lnM I) k = 1 by omega) with e | e
    · rw [e] at c2 c3 c4 c5 ⊢
      rw [p0, Nat.zero_add] at c4
      have hlt := bc_lt c2 c3
      have ea : ad (cdC I 4) (lnM I 0) = bc (cdM I 0) (lnM I 0) := by rw [e0]; unfold ad; rw [if_pos c5]
      have v := u5 k (Or.inl (by omega))
      have w := t4 (by rw [wt_c a5]; exact c5) _ c2 (by rw [agr_br a5 c2]; exact c3)
      rw [bc_c a5 _ (by omega), Nat.zero_add, ← c4] at w
      rw [p0, v.1, v.2]
      exact ⟨ND_c a5 w.1, by rw [← ms_c a5]; exact w.2⟩
    · rw [e] at c2 c3 c4 c5 ⊢
      rw [p1] at c4 ⊢
      have w := u4 (by rw [wt_c b5]; exact c5) _ c2 (by rw [agr_br b5 c2]; exact c3)
      rw [bc_c b5 _ (by omega), ← c4] at w
      exact ⟨ND_c b5 w.1, by rw [← ms_c b5]; exact w.2⟩
  · have hk : ad (cdM I 0) (lnM I 0) + ad (cdM I 1) (lnM I 1) ≤ k := hk
    rw [(u5 k (Or.inr (by rw [e0, e1]; exact hk))).1, (t5 k (Or.inr (by rw [e0]; omega))).1]
    exact h16 k
end CG

