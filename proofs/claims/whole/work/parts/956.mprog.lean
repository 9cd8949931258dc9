/-! The program's branches: the model; both are one. -/
def fl (cd : Nat → Nat → Int32) (k : Nat) : Nat → Nat
  | 0 => 0
  | p + 1 => if br cd p = true ∧ bc cd p = k then p else fl cd k p
theorem fl_ok {cd : Nat → Nat → Int32} {k : Nat} : ∀ n, k < bc cd n → fl cd k n < n ∧ br cd (fl cd k n) = true ∧ bc cd (fl cd k n) = k
  | 0, h => absurd h (Nat.not_lt_zero _)
  | n + 1, h => by
    simp only [fl]
    by_cases q : br cd n = true ∧ bc cd n = k
    · rw [if_pos q]; exact ⟨by omega, q⟩
    · rw [if_neg q]
      have : k < bc cd n := by
        by_cases b : br cd n = true
        · rw [bc_y b] at h
          have : ¬ bc cd n = k := fun t => q ⟨b, t⟩
          omega
        · rw [bc_n b] at h; exact h
      obtain ⟨h1, h2⟩ := fl_ok n this
      exact ⟨by omega, h2⟩
/-- a program: the codes and the numbers of lines of its two methods -/
def pF (cdf : Nat → Nat → Nat → Int32) (ln : Nat → Nat) (m : Nat) : Nat := if m = 0 then 0 else ad (cdf 0) (ln 0)
def pN (cdf : Nat → Nat → Nat → Int32) (ln : Nat → Nat) : Nat := ad (cdf 0) (ln 0) + ad (cdf 1) (ln 1)
def pM (cdf : Nat → Nat → Nat → Int32) (ln : Nat → Nat) (k : Nat) : Nat := if k < ad (cdf 0) (ln 0) then 0 else 1
def pA (cdf : Nat → Nat → Nat → Int32) (ln : Nat → Nat) (k : Nat) : Nat := if k < ad (cdf 0) (ln 0) then fl (cdf 0) k (ln 0) else fl (cdf 1) (k - ad (cdf 0) (ln 0)) (ln 1)
section PG
variable {cdf : Nat → Nat → Nat → Int32} {ln : Nat → Nat}
theorem ad_y {cd : Nat → Nat → Int32} {n k : Nat} (h : k < ad cd n) : wt cd n = true ∧ k < bc cd n := by
  unfold ad at h
  split at h
  · exact ⟨by assumption, h⟩
  · omega
theorem pN_12 : pN cdf ln ≤ 12 := by
  have := ad_6 (cd := cdf 0) (n := ln 0)
  have := ad_6 (cd := cdf 1) (n := ln 1)
  unfold pN; omega
theorem pq {k : Nat} (h : k < pN cdf ln) : pM cdf ln k < 2 ∧ pA cdf ln k < ln (pM cdf ln k) ∧ br (cdf (pM cdf ln k)) (pA cdf ln k) = true ∧ k = pF cdf ln (pM cdf ln k) + bc (cdf (pM cdf ln k)) (pA cdf ln k) ∧ wt (cdf (pM cdf ln k)) (ln (pM cdf ln k)) = true := by
  unfold pN at h
  unfold pM pA pF
  by_cases q : k < ad (cdf 0) (ln 0)
  · rw [if_pos q, if_pos q, if_pos rfl]
    obtain ⟨a, b⟩ := ad_y q
    obtain ⟨x, y, z⟩ := fl_ok (ln 0) b
    exact ⟨by decide, x, y, by omega, a⟩
  · rw [if_neg q, if_neg q, if_neg (by decide)]
    obtain ⟨a, b⟩ := ad_y (cd := cdf 1) (n := ln 1) (k := k - ad (cdf 0) (ln 0)) (by omega)
    obtain ⟨x, y, z⟩ := fl_ok (ln 1) b
    exact ⟨by decide, x, y, by omega, a⟩
theorem pr {m p : Nat} (hm : m < 2) (hw : wt (cdf m) (ln m) = true) (hp : p < ln m) (hb : br (cdf m) p = true) : pF cdf ln m + bc (cdf m) p < pN cdf ln ∧ pM cdf ln (pF cdf ln m + bc (cdf m) p) = m ∧ pA cdf ln (pF cdf ln m + bc (cdf m) p) = p := by
  have hlt := bc_lt hp hb
  have ea : ad (cdf m) (ln m) = bc (cdf m) (ln m) := by unfold ad; rw [if_pos hw]
  rcases (show m = 0 ∨ m = 1 by omega) with rfl | rfl
  · have q : pF cdf ln 0 + bc (cdf 0) p = bc (cdf 0) p := by unfold pF; rw [if_pos rfl, Nat.zero_add]
    rw [q]
    obtain ⟨x, y, z⟩ := fl_ok (ln 0) hlt
    refine ⟨by unfold pN; omega, by unfold pM; rw [if_pos (by omega)], ?_⟩
    unfold pA
    rw [if_pos (by omega)]
    exact bc_inj y hb z
  · have q : pF cdf ln 1 + bc (cdf 1) p = ad (cdf 0) (ln 0) + bc (cdf 1) p := by unfold pF; rw [if_neg (by decide)]
    rw [q]
    obtain ⟨x, y, z⟩ := fl_ok (ln 1) hlt
    refine ⟨by unfold pN; omega, by unfold pM; rw [if_neg (by omega)], ?_⟩
    unfold pA
    rw [if_neg (by omega), show ad (cdf 0) (ln 0) + bc (cdf 1) p - ad (cdf 0) (ln 0) = bc (cdf 1) p by omega]
    exact bc_inj y hb z
/-- what relate notes for branch k -/
def RG (cdf : Nat → Nat → Nat → Int32) (ln : Nat → Nat) (k : Nat) (G : Int32) : Prop := ∀ h, h < 32 → (ib G h = true ↔ (h < 2 * pN cdf ln ∧ pM cdf ln (h / 2) = pM cdf ln k ∧ ms (cdf (pM cdf ln k)) (ln (pM cdf ln k)) (pA cdf ln k) (q_lead (cdf (pM cdf ln k)) (ln (pM cdf ln k)) (pA cdf ln (h / 2)) (decide (h % 2 = 1))) ∧ (k = h / 2 ∨ ¬ ms (cdf (pM cdf ln k)) (ln (pM cdf ln k)) (pA cdf ln k) (pA cdf ln (h / 2)))))
theorem RG_ND {k : Nat} {G G' : Int32} (hk : k < pN cdf ln) (h : RG cdf ln k G) (h' : ND (cdf (pM cdf ln k)) (ln (pM cdf ln k)) (pF cdf ln (pM cdf ln k)) (pA cdf ln k) G') : G = G' := by
  have n12 := pN_12 (cdf := cdf) (ln := ln)
  obtain ⟨m2, a1, a2, a3, a4⟩ := pq hk
  obtain ⟨m, em⟩ : ∃ m, m = pM cdf ln k := ⟨_, rfl⟩
  unfold RG at h
  rw [← em] at h h' m2 a1 a2 a3 a4
  refine ib_ext (fun g hg => ?_)
  rw [Bool.eq_iff_iff, h g hg, h' g hg]
  constructor
  · rintro ⟨b1, b2, b3, b4⟩
    obtain ⟨-, c1, c2, c3, -⟩ := pq (cdf := cdf) (ln := ln) (k := g / 2) (by omega)
    rw [b2] at c1 c2 c3
    refine ⟨pA cdf ln (g / 2), c1, c2, b4.imp (fun t => by rw [t]) id, ?_⟩
    by_cases q : g % 2 = 1
    · rw [decide_eq_true q] at b3; exact Or.inr ⟨by omega, b3⟩
    · rw [decide_eq_false q] at b3; exact Or.inl ⟨by omega, b3⟩
  · rintro ⟨q, c1, c2, c3, c4⟩
    obtain ⟨d1, d2, d3⟩ := pr (cdf := cdf) (ln := ln) m2 a4 c1 c2
    have g2 : g / 2 = pF cdf ln m + bc (cdf m) q := by rcases c4 with t | t <;> omega
    rw [g2, d3, d2]
    refine ⟨by omega, rfl, ?_, c3.imp (fun t => by rw [t]; exact a3) id⟩
    rcases c4 with t | t
    · rw [show decide (g % 2 = 1) = false from decide_eq_false (by omega)]; exact t.2
    · rw [show decide (g % 2 = 1) = true from decide_eq_true (by omega)]; exact t.2
end PG
section MS
variable {S : XS} {d : Nat} {I : Nat → Nat → Int32} {J : Nat → Nat → Int64} {R : Nat → Nat → Option Nat} {cdf : Nat → Nat → Nat → Int32} {ln : Nat → Nat}
/-- the model's program, numbered and related -/
def MPN (I' : Nat → Nat → Int32) (cdf : Nat → Nat → Nat → Int32) (ln : Nat → Nat) : Prop := I' 261 10 = nI (pN cdf ln) ∧ (∀ m, m < 2 → I' 266 m = zB (wt (cdf m) (ln m))) ∧ ∀ k, k < pN cdf ln → I' 267 k = nI (pM cdf ln k) ∧ I' 268 k = nI (pA cdf ln k)
def MRL (I' : Nat → Nat → Int32) (cdf : Nat → Nat → Nat → Int32) (ln : Nat → Nat) (k : Nat) : Prop := RG cdf ln k (I' 269 k) ∧ (¬ I' 270 k = 0 ↔ ms (cdf (pM cdf ln k)) (ln (pM cdf ln k)) (pA cdf ln k) 0)
theorem s_mprog (hR : RF R) (h10 : I 261 10 = 0) (hc : ∀ m, m < 2 → I 265 m = nI (ln m) ∧ ln m ≤ 10 ∧ cdf m = cdM I m ∧ VC (cdf m) (ln m)) (h9 : ∀ k, I 269 k = 0) {Q : Option Value → XH → Prop} {q1 : Option Value}
    (K : ∀ I' q1, MPN I' cdf ln → (∀ k, k < pN cdf ln → MRL I' cdf ln k) → (∀ k, pN cdf ln ≤ k → I' 269 k = 0 ∧ I' 267 k = I 267 k ∧ I' 268 k = I 268 k) → (∀ x, x ≠ 261 → x ≠ 266 → x ≠ 267 → x ≠ 268 → x ≠ 269 → x ≠ 270 → I' x = I x) → (∀ j, j ≠ 10 → I' 261 j = I 261 j) → XP S (d + 6) 109 45 [some (.ref 261), q1] [] (hh I' J R) Q) : XP S (d + 6) 109 14 [some (.ref 261), q1] [] (hh I J R) Q := by
  obtain ⟨a1, a2, a3, a4⟩ := hc 0 (by decide)
  obtain ⟨b1, b2, b3, b4⟩ := hc 1 (by decide)
  have ad6 := ad_6 (cd := cdf 0) (n := ln 0)
  have n12 := pN_12 (cdf := cdf) (ln := ln)
  have adw : ∀ m, (if wt (cdf m) (ln m) = true then bc (cdf m) (ln m) else 0) = ad (cdf m) (ln m) := fun m => rfl
  refine y_loc (pc' := 15) xD_109 rfl rfl rfl rfl ?_
  refine y_ci (pc' := 16) (0) xD_109 rfl rfl rfl rfl ?_
  refine y_callV xD_109 rfl rfl rfl rfl (by first | rfl | assumption) rfl rfl rfl rfl (s_mnumber (d := d + 3) (m := 0) (n := ln 0) (f := 0) hR (by decide) a1 a2 (by decide) h10 a3) (fun v h' hq => ?_)
  obtain ⟨rfl, r7, r8, rfl, p1, p2, p3⟩ := hq
  obtain ⟨I1, eI1⟩ : ∃ I1, I1 = xu (xrow (xrow (xu I 266 0 (zB (wt (cdf 0) (ln 0)))) 267 r7) 268 r8) 261 10 (nI (if wt (cdf 0) (ln 0) = true then 0 + bc (cdf 0) (ln 0) else 0)) := ⟨_, rfl⟩
  have x1 : ∀ x, x ≠ 261 → x ≠ 266 → x ≠ 267 → x ≠ 268 → I1 x = I x := fun x a b c e => by rw [eI1, xu_ne a, xrow_ne e, xrow_ne c, xu_ne b]
  have i10 : I1 261 10 = nI (ad (cdf 0) (ln 0)) := by rw [eI1, xu_ii]; unfold ad; split <;> simp
  have i1j : ∀ j, j ≠ 10 → I1 261 j = I 261 j := fun j hj => by
    rw [eI1]
    show (if _ then _ else _) = _
    rw [if_neg (fun q => hj q.2), xrow_ne (by decide), xrow_ne (by decide), xu_ne (by decide)]
  have i66 : I1 266 0 = zB (wt (cdf 0) (ln 0)) := by rw [eI1, xu_ne (by decide), xrow_ne (by decide), xrow_ne (by decide), xu_ii]
  have i67 : I1 267 = r7 := by rw [eI1, xu_ne (by decide), xrow_ne (by decide), xrow_at]
  have i68 : I1 268 = r8 := by rw [eI1, xu_ne (by decide), xrow_at]
  show XP S (d + 6) 109 19 [some (.ref 261), q1] [] (hh (xu (xrow (xrow (xu I 266 0 (zB (wt (cdf 0) (ln 0)))) 267 r7) 268 r8) 261 10 (nI (if wt (cdf 0) (ln 0) = true then 0 + bc (cdf 0) (ln 0) else 0))) J R) Q
  rw [← eI1]
  refine y_loc (pc' := 20) xD_109 rfl rfl rfl rfl ?_
  refine y_ci (pc' := 21) (1) xD_109 rfl rfl rfl rfl ?_
  refine y_callV xD_109 rfl rfl rfl rfl (by first | rfl | assumption) rfl rfl rfl rfl (s_mnumber (d := d + 3) (m := 1) (n := ln 1) (f := ad (cdf 0) (ln 0)) (cd := cdf 1) hR (by decide) (by rw [x1 265 (by decide) (by decide) (by decide) (by decide)]; exact b1) b2 ad6 i10 (by rw [b3]; exact (cdM_eq (x1 264 (by decide) (by decide) (by decide) (by decide))).symm)) (fun v h' hq => ?_)
  obtain ⟨rfl, s7, s8, rfl, u1, u2, u3⟩ := hq
  obtain ⟨I2, eI2⟩ : ∃ I2, I2 = xu (xrow (xrow (xu I1 266 1 (zB (wt (cdf 1) (ln 1)))) 267 s7) 268 s8) 261 10 (nI (if wt (cdf 1) (ln 1) = true then ad (cdf 0) (ln 0) + bc (cdf 1) (ln 1) else ad (cdf 0) (ln 0))) := ⟨_, rfl⟩
  have x2 : ∀ x, x ≠ 261 → x ≠ 266 → x ≠ 267 → x ≠ 268 → I2 x = I x := fun x a b c e => by rw [eI2, xu_ne a, xrow_ne e, xrow_ne c, xu_ne b]; exact x1 x a b c e
  have j10 : I2 261 10 = nI (pN cdf ln) := by
    rw [eI2, xu_ii]
    have : (if wt (cdf 1) (ln 1) = true then ad (cdf 0) (ln 0) + bc (cdf 1) (ln 1) else ad (cdf 0) (ln 0)) = pN cdf ln := by
      unfold pN
      rw [show ad (cdf 1) (ln 1) = if wt (cdf 1) (ln 1) = true then bc (cdf 1) (ln 1) else 0 from rfl]
      split <;> omega
    rw [this]
  have j1j : ∀ j, j ≠ 10 → I2 261 j = I 261 j := fun j hj => by
    rw [eI2]
    show (if _ then _ else _) = _
    rw [if_neg (fun q => hj q.2), xrow_ne (by decide), xrow_ne (by decide), xu_ne (by decide)]
    exact i1j j hj
  have j66 : ∀ m, m < 2 → I2 266 m = zB (wt (cdf m) (ln m)) := fun m hm => by
    rw [eI2, xu_ne (by decide), xrow_ne (by decide), xrow_ne (by decide)]
    show (if _ then _ else _) = _
    rcases (show m = 0 ∨ m = 1 by omega) with rfl | rfl
    · rw [if_neg (by decide)]; exact i66
    · rw [if_pos ⟨rfl, rfl⟩]
  have j67 : I2 267 = s7 := by rw [eI2, xu_ne (by decide), xrow_ne (by decide), xrow_at]
  have j68 : I2 268 = s8 := by rw [eI2, xu_ne (by decide), xrow_at]
  have num : ∀ k, k < pN cdf ln → I2 267 k = nI (pM cdf ln k) ∧ I2 268 k = nI (pA cdf ln k) := fun k hk => by
    obtain ⟨c1, c2, c3, c4, c5⟩ := pq hk
    rw [j67, j68]
    by_cases q : k < ad (cdf 0) (ln 0)
    · have em : pM cdf ln k = 0 := by unfold pM; rw [if_pos q]
      rw [em] at c2 c3 c4 c5
      have ef : pF cdf ln 0 = 0 := by unfold pF; rw [if_pos rfl]
      rw [ef, Nat.zero_add] at c4
      have h1 := u2 k (Or.inl q)
      rw [i67, i68] at h1
      have h2 := p1 c5 _ c2 c3
      rw [Nat.zero_add, ← c4] at h2
      rw [em, h1.1, h1.2]
      exact h2
    · have em : pM cdf ln k = 1 := by unfold pM; rw [if_neg q]
      rw [em] at c2 c3 c4 c5
      have ef : pF cdf ln 1 = ad (cdf 0) (ln 0) := by unfold pF; rw [if_neg (by decide)]
      rw [ef] at c4
      have h2 := u1 c5 _ c2 c3
      rw [← c4] at h2
      rw [em]
      exact h2
  have num2 : ∀ k, pN cdf ln ≤ k → I2 267 k = I 267 k ∧ I2 268 k = I 268 k := fun k hk => by
    unfold pN at hk
    rw [j67, j68]
    have h1 : s7 k = I1 267 k ∧ s8 k = I1 268 k := by
      by_cases w : wt (cdf 1) (ln 1) = true
      · exact u2 k (Or.inr (by rw [show ad (cdf 1) (ln 1) = bc (cdf 1) (ln 1) from by unfold ad; rw [if_pos w]] at hk; exact hk))
      · exact u3 w k
    have h2 : r7 k = I 267 k ∧ r8 k = I 268 k := by
      by_cases w : wt (cdf 0) (ln 0) = true
      · exact p2 k (Or.inr (by rw [show ad (cdf 0) (ln 0) = bc (cdf 0) (ln 0) from by unfold ad; rw [if_pos w]] at hk; omega))
      · exact p3 w k
    rw [i67, i68] at h1
    exact ⟨h1.1.trans h2.1, h1.2.trans h2.2⟩
  show XP S (d + 6) 109 24 [some (.ref 261), q1] [] (hh (xu (xrow (xrow (xu I1 266 1 (zB (wt (cdf 1) (ln 1)))) 267 s7) 268 s8) 261 10 (nI (if wt (cdf 1) (ln 1) = true then ad (cdf 0) (ln 0) + bc (cdf 1) (ln 1) else ad (cdf 0) (ln 0)))) J R) Q
  rw [← eI2]
  have loop : ∀ (f k : Nat), k + f = pN cdf ln → ∀ I', (∀ x, x ≠ 269 → x ≠ 270 → I' x = I2 x) → (∀ j, j < k → MRL I' cdf ln j) → (∀ j, k ≤ j → I' 269 j = 0) → XP S (d + 6) 109 26 [some (.ref 261), some (.int (nI k))] [] (hh I' J R) Q := by
    intro f
    induction f with
    | zero =>
      intro k hk I' y1 y2 y3
      have hk : k = pN cdf ln := by omega
      subst hk
      have e10 : I' 261 10 = nI (pN cdf ln) := by rw [y1 261 (by decide) (by decide)]; exact j10
      refine y_loc (pc' := 27) xD_109 rfl rfl rfl rfl ?_
      refine y_loc (pc' := 28) xD_109 rfl rfl rfl rfl ?_
      refine m_getI (pc' := 31) xD_109 rfl rfl rfl (by first | rfl | assumption) (e10) rfl ?_
      refine y_icge (pt := 45) (pf := 34) xD_109 rfl rfl rfl (fun h31 => ?_) (fun h31 => ?_)
      · skip
        exact K I' _ ⟨e10, fun m hm => by rw [y1 266 (by decide) (by decide)]; exact j66 m hm, fun k hk => by rw [y1 267 (by decide) (by decide), y1 268 (by decide) (by decide)]; exact num k hk⟩ y2 (fun k hk => ⟨y3 k hk, by rw [y1 267 (by decide) (by decide)]; exact (num2 k hk).1, by rw [y1 268 (by decide) (by decide)]; exact (num2 k hk).2⟩) (fun x a b c e f g => (y1 x f g).trans (x2 x a b c e)) (fun j hj => by rw [y1 261 (by decide) (by decide)]; exact j1j j hj)
      · skip
        exact absurd (Int32.le_refl _) h31
    | succ f ih =>
      intro k hk I' y1 y2 y3
      have kn : k < pN cdf ln := by omega
      have e10 : I' 261 10 = nI (pN cdf ln) := by rw [y1 261 (by decide) (by decide)]; exact j10
      obtain ⟨c1, c2, c3, c4, c5⟩ := pq kn
      obtain ⟨f1, f2, f3, f4⟩ := hc (pM cdf ln k) c1
      have e4 : I' 264 = I 264 := (y1 264 (by decide) (by decide)).trans (x2 264 (by decide) (by decide) (by decide) (by decide))
      have e5 : I' 265 = I 265 := (y1 265 (by decide) (by decide)).trans (x2 265 (by decide) (by decide) (by decide) (by decide))
      refine y_loc (pc' := 27) xD_109 rfl rfl rfl rfl ?_
      refine y_loc (pc' := 28) xD_109 rfl rfl rfl rfl ?_
      refine m_getI (pc' := 31) xD_109 rfl rfl rfl (by first | rfl | assumption) (e10) rfl ?_
      refine y_icge (pt := 45) (pf := 34) xD_109 rfl rfl rfl (fun h31 => ?_) (fun h31 => ?_)
      · skip
        exact absurd h31 (nI_ge (a := k) (b := pN cdf ln) (by omega) (by omega))
      · skip
        refine y_loc (pc' := 35) xD_109 rfl rfl rfl rfl ?_
        refine y_loc (pc' := 36) xD_109 rfl rfl rfl rfl ?_
        refine y_callV xD_109 rfl rfl rfl rfl (by first | rfl | assumption) rfl rfl rfl rfl (s_relate (d := d) (nb := pN cdf ln) (k := k) (y := pA cdf ln k) (m := pM cdf ln k) (n := ln (pM cdf ln k)) (mq := pM cdf ln) (aq := pA cdf ln) (cd := cdf (pM cdf ln k)) hR e10 n12 (fun q hq => ⟨by rw [y1 267 (by decide) (by decide)]; exact (num q hq).1, by rw [y1 268 (by decide) (by decide)]; exact (num q hq).2, (pq hq).1⟩) kn rfl rfl (by rw [e5]; exact f1) f2 c2 (fun q hq e => by have := (pq hq).2.1; rw [e] at this; exact this) (by rw [f3]; exact (cdM_eq e4).symm) f4) (fun v h' hq => ?_)
        obtain ⟨rfl, t, G, rfl, ht, hG⟩ := hq
        refine y_inc (pc' := 42) (nI (k + 1)) xD_109 rfl rfl rfl (nI_1 (k)) rfl rfl ?_
        refine y_goto (pc' := 26) xD_109 rfl rfl ?_
        refine ih (k + 1) (by omega) _ (fun x a b => by rw [xu_ne a, xu_ne b]; exact y1 x a b) (fun j hj => ?_) (fun j hj => ?_)
        · by_cases e : j = k
          · subst e
            refine ⟨fun h hh => ?_, ?_⟩
            · rw [xu_ii, hG h hh, y3 j (Nat.le_refl _), ib_0]
              exact ⟨fun q => q.elim (fun q => absurd q (by decide)) id, Or.inr⟩
            · rw [xu_ne (by decide), xu_ii, zB_f, Bool.not_eq_false, ht]
          · have := y2 j (by omega)
            unfold MRL at this ⊢
            rw [show xu (xu I' 270 k (zB t)) 269 k G 269 j = I' 269 j from by show (if _ then _ else _) = _; rw [if_neg (fun q => e q.2), xu_ne (by decide)], show xu (xu I' 270 k (zB t)) 269 k G 270 j = I' 270 j from by rw [xu_ne (by decide)]; show (if _ then _ else _) = _; rw [if_neg (fun q => e q.2)]]
            exact this
        · show (if _ then _ else _) = _
          rw [if_neg (by omega), xu_ne (by decide)]
          exact y3 j (by omega)
  refine y_ci (pc' := 25) (0) xD_109 rfl rfl rfl rfl ?_
  refine y_loc (pc' := 26) xD_109 rfl rfl rfl rfl ?_
  refine loop (pN cdf ln) 0 (by omega) I2 (fun _ _ _ => rfl) (fun j hj => absurd hj (by omega)) (fun j _ => ?_)
  rw [x2 269 (by decide) (by decide) (by decide) (by decide)]; exact h9 j
end MS

