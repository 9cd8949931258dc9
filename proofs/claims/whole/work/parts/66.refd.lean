/-! Whether a step is referred to. -/
def rfd (f : Nat → Int32) (p : Nat) : Nat → Bool
  | 0 => false
  | j + 1 => rfd f p j || decide (f (4 * j + 3) = nI p)
theorem rfd_t {f : Nat → Int32} {p k : Nat} (h : rfd f p k = true) : ∀ m, rfd f p (k + m) = true
  | 0 => h
  | m + 1 => by
    show (rfd f p (k + m) || _) = true
    rw [rfd_t h m]; rfl
theorem rfd_f {f : Nat → Int32} {p : Nat} : ∀ k, (∀ j, j < k → ¬ f (4 * j + 3) = nI p) → rfd f p k = false
  | 0, _ => rfl
  | k + 1, h => by
    show (rfd f p k || decide (f (4 * k + 3) = nI p)) = false
    rw [rfd_f k (fun j hj => h j (by omega)), decide_eq_false (h k (by omega))]; rfl
theorem rfd_lo {f : Nat → Int32} {p : Nat} (hp : p < 6) : ∀ k, k ≤ p + 1 → (∀ j, j < k → VT f j) → rfd f p k = false := fun k hk hV => rfd_f k (fun j hj e => by
  rcases (hV j hj).2 with h | ⟨r, hr, h, _⟩
  · rw [e] at h; exact nI_m1 (by omega) h
  · rw [e] at h
    have := (nI_eq (by omega) (by omega)).mp h
    omega)
section RF
variable {S : XS} {d a s : Nat} {I : Nat → Nat → Int32} {J : Nat → Nat → Int64} {R : Nat → Nat → Option Nat}
theorem s_isReferredTo (hR : RF R) (hc : isCase a) (n p : Nat) (hn : I a 3 = nI n) (hn6 : n ≤ 6) (hp : p < n) (hV : ∀ j, j < n → VT (I (a + 1)) j) {xp : Int32} (e1 : xp = nI p) :
    XP S (d + 1) 83 0 (xent [.ref a, .int xp] 3) [] (hh I J R) (rI (zB (rfd (I (a + 1)) p n)) (hh I J R)) := by
  subst e1
  have ka := (kCase hc).1
  have ka1 := (kCase hc).2.1
  have loop : ∀ (f k : Nat), k + f = n → rfd (I (a + 1)) p k = false → XP S (d + 1) 83 4 [some (.ref a), some (.int (nI p)), some (.int (nI k))] [] (hh I J R) (rI (zB (rfd (I (a + 1)) p n)) (hh I J R)) := by
    intro f
    induction f with
    | zero =>
      intro k hk h0
      have hk : k = n := by omega
      subst hk
      refine y_loc (pc' := 5) xD_83 rfl rfl rfl rfl ?_
      refine y_loc (pc' := 6) xD_83 rfl rfl rfl rfl ?_
      refine m_getI (pc' := 9) xD_83 rfl rfl rfl (by first | rfl | assumption) (hn) rfl ?_
      refine y_icge (pt := 30) (pf := 12) xD_83 rfl rfl rfl (fun h9 => ?_) (fun h9 => ?_)
      · skip
        refine y_ci (pc' := 31) (0) xD_83 rfl rfl rfl rfl ?_
        refine y_retZ xD_83 rfl rfl (by first | decide | assumption) ?_
        refine rI_e ?_
        rw [h0]; rfl
      · exact absurd (Int32.le_refl _) h9
    | succ f ih =>
      intro k hk h0
      have e5 : nI k + 1 = nI (k + 1) := nI_1 k
      refine y_loc (pc' := 5) xD_83 rfl rfl rfl rfl ?_
      refine y_loc (pc' := 6) xD_83 rfl rfl rfl rfl ?_
      refine m_getI (pc' := 9) xD_83 rfl rfl rfl (by first | rfl | assumption) (hn) rfl ?_
      refine y_icge (pt := 30) (pf := 12) xD_83 rfl rfl rfl (fun h9 => ?_) (fun h9 => ?_)
      · exact absurd h9 (nI_ge (by omega) (by omega))
      · skip
        refine y_loc (pc' := 13) xD_83 rfl rfl rfl rfl ?_
        refine y_loc (pc' := 14) xD_83 rfl rfl rfl rfl ?_
        refine y_ci (pc' := 15) (3) xD_83 rfl rfl rfl rfl ?_
        refine y_callV xD_83 rfl rfl rfl rfl (by first | rfl | assumption) rfl rfl rfl rfl (s_part hR hc k 3 (by omega) (by decide) rfl rfl) (fun v h' hq => ?_)
        obtain ⟨rfl, rfl⟩ := hq
        refine y_loc (pc' := 19) xD_83 rfl rfl rfl rfl ?_
        refine y_icne (pt := 24) (pf := 22) xD_83 rfl rfl rfl (fun h19 => ?_) (fun h19 => ?_)
        · skip
          refine y_inc (pc' := 27) (nI (k + 1)) xD_83 rfl rfl rfl e5 rfl rfl ?_
          refine y_goto (pc' := 4) xD_83 rfl rfl ?_
          exact ih (k + 1) (by omega) (by show (rfd (I (a + 1)) p k || decide (I (a + 1) (4 * k + 3) = nI p)) = false; rw [h0, decide_eq_false h19]; rfl)
          skip
        · skip
          refine y_ci (pc' := 23) (1) xD_83 rfl rfl rfl rfl ?_
          refine y_retZ xD_83 rfl rfl (by first | decide | assumption) ?_
          refine rI_e ?_
          rw [show n = (k + 1) + f by omega, rfd_t (f := I (a + 1)) (p := p) (k := k + 1) (show (rfd (I (a + 1)) p k || decide (I (a + 1) (4 * k + 3) = nI p)) = true by rw [decide_eq_true h19, Bool.or_true]) f]
          rfl
  refine y_loc (pc' := 1) xD_83 rfl rfl rfl rfl ?_
  refine y_ci (pc' := 2) (1) xD_83 rfl rfl rfl rfl ?_
  refine y_iadd (pc' := 3) xD_83 rfl (nI_1 p) rfl ?_
  refine y_loc (pc' := 4) xD_83 rfl rfl rfl rfl ?_
  exact loop (n - (p + 1)) (p + 1) (by omega) (rfd_lo (by omega) (p + 1) (Nat.le_refl _) (fun j hj => hV j (by omega)))
theorem s_referred (hR : RF R) (hs : s < 67) (n p : Nat) (hn : I 263 s = nI n) (hn6 : n ≤ 6) {xs xp : Int32} (e0 : xs = nI s) (e1 : xp = nI p) :
    XP S (d + 1) 150 0 (xent [.ref 261, .int xs, .int xp] 5) [] (hh I J R) (rI (zB (rfd (slM I s) p n)) (hh I J R)) := by
  subst e1
  have loop : ∀ (f k : Nat), k + f = n → XP S (d + 1) 150 5 [some (.ref 261), some (.int xs), some (.int (nI p)), some (.int (zB (rfd (slM I s) p k))), some (.int (nI k))] [] (hh I J R) (rI (zB (rfd (slM I s) p n)) (hh I J R)) := by
    intro f
    induction f with
    | zero =>
      intro k hk
      have hk : k = n := by omega
      subst hk
      refine y_loc (pc' := 7) xD_150 rfl rfl rfl rfl ?_
      refine y_loc (pc' := 8) xD_150 rfl rfl rfl rfl ?_
      first | refine m_getR (pc' := 11) xD_150 rfl rfl rfl rfl (hR.1 _ _ _ rfl) rfl ?_ | refine m_getR (pc' := 11) xD_150 rfl rfl (by first | rfl | assumption) rfl (by assumption) rfl ?_
      refine y_loc (pc' := 12) xD_150 rfl rfl rfl rfl ?_
      refine m_iald (pc' := 13) (s) xD_150 rfl (by first | rfl | assumption) (by first | assumption | omega) (by first | decide | assumption) (by first | decide | omega) (by first | rfl | assumption) rfl ?_
      rw [hn]
      refine y_icge (pt := 44) (pf := 16) xD_150 rfl rfl rfl (fun h13 => ?_) (fun h13 => ?_)
      · skip
        refine y_loc (pc' := 45) xD_150 rfl rfl rfl rfl ?_
        refine y_retZ xD_150 rfl rfl (zB_or _) ?_
        exact rI_e rfl
      · exact absurd (Int32.le_refl _) h13
    | succ f ih =>
      intro k hk
      have e5 : nI k + 1 = nI (k + 1) := nI_1 k
      have step := ih (k + 1) (by omega)
      have er : rfd (slM I s) p (k + 1) = (rfd (slM I s) p k || decide (slM I s (4 * k + 3) = nI p)) := rfl
      rw [er] at step
      refine y_loc (pc' := 7) xD_150 rfl rfl rfl rfl ?_
      refine y_loc (pc' := 8) xD_150 rfl rfl rfl rfl ?_
      first | refine m_getR (pc' := 11) xD_150 rfl rfl rfl rfl (hR.1 _ _ _ rfl) rfl ?_ | refine m_getR (pc' := 11) xD_150 rfl rfl (by first | rfl | assumption) rfl (by assumption) rfl ?_
      refine y_loc (pc' := 12) xD_150 rfl rfl rfl rfl ?_
      refine m_iald (pc' := 13) (s) xD_150 rfl (by first | rfl | assumption) (by first | assumption | omega) (by first | decide | assumption) (by first | decide | omega) (by first | rfl | assumption) rfl ?_
      rw [hn]
      refine y_icge (pt := 44) (pf := 16) xD_150 rfl rfl rfl (fun h13 => ?_) (fun h13 => ?_)
      · exact absurd h13 (nI_ge (by omega) (by omega))
      · skip
        refine y_loc (pc' := 17) xD_150 rfl rfl rfl rfl ?_
        refine y_ifne (pt := 32) (pf := 20) xD_150 rfl rfl rfl (fun h17 => ?_) (fun h17 => ?_)
        · skip
          refine y_ci (pc' := 33) (1) xD_150 rfl rfl rfl rfl ?_
          refine y_goto (pc' := 37) xD_150 rfl rfl ?_
          refine y_loc (pc' := 38) xD_150 rfl rfl rfl rfl ?_
          refine y_inc (pc' := 41) (nI (k + 1)) xD_150 rfl rfl rfl e5 rfl rfl ?_
          refine y_goto (pc' := 5) xD_150 rfl rfl ?_
          cases hb : rfd (slM I s) p k with
          | true => first | (rw [hb] at h17; exact absurd h17 (by decide)) | (rw [hb, Bool.true_or] at step; exact step)
          | false => first | (rw [hb] at h17; exact absurd rfl h17) | (rw [hb, Bool.false_or, decide_eq_true h29] at step; exact step) | (rw [hb, Bool.false_or, decide_eq_false h29] at step; exact step)
          skip
        · skip
          refine y_loc (pc' := 21) xD_150 rfl rfl rfl rfl ?_
          refine y_loc (pc' := 22) xD_150 rfl rfl rfl rfl ?_
          refine y_loc (pc' := 24) xD_150 rfl rfl rfl rfl ?_
          refine y_ci (pc' := 25) (3) xD_150 rfl rfl rfl rfl ?_
          refine y_callV xD_150 rfl rfl rfl rfl (by first | rfl | assumption) rfl rfl rfl rfl (s_mpart hR hs k 3 (by omega) (by decide) e0 rfl rfl) (fun v h' hq => ?_)
          obtain ⟨rfl, rfl⟩ := hq
          refine y_loc (pc' := 29) xD_150 rfl rfl rfl rfl ?_
          refine y_icne (pt := 36) (pf := 32) xD_150 rfl rfl rfl (fun h29 => ?_) (fun h29 => ?_)
          · skip
            refine y_ci (pc' := 37) (0) xD_150 rfl rfl rfl rfl ?_
            refine y_loc (pc' := 38) xD_150 rfl rfl rfl rfl ?_
            refine y_inc (pc' := 41) (nI (k + 1)) xD_150 rfl rfl rfl e5 rfl rfl ?_
            refine y_goto (pc' := 5) xD_150 rfl rfl ?_
            cases hb : rfd (slM I s) p k with
            | true => first | (rw [hb] at h17; exact absurd h17 (by decide)) | (rw [hb, Bool.true_or] at step; exact step)
            | false => first | (rw [hb] at h17; exact absurd rfl h17) | (rw [hb, Bool.false_or, decide_eq_true h29] at step; exact step) | (rw [hb, Bool.false_or, decide_eq_false h29] at step; exact step)
            skip
          · skip
            refine y_ci (pc' := 33) (1) xD_150 rfl rfl rfl rfl ?_
            refine y_goto (pc' := 37) xD_150 rfl rfl ?_
            refine y_loc (pc' := 38) xD_150 rfl rfl rfl rfl ?_
            refine y_inc (pc' := 41) (nI (k + 1)) xD_150 rfl rfl rfl e5 rfl rfl ?_
            refine y_goto (pc' := 5) xD_150 rfl rfl ?_
            cases hb : rfd (slM I s) p k with
            | true => first | (rw [hb] at h17; exact absurd h17 (by decide)) | (rw [hb, Bool.true_or] at step; exact step)
            | false => first | (rw [hb] at h17; exact absurd rfl h17) | (rw [hb, Bool.false_or, decide_eq_true h29] at step; exact step) | (rw [hb, Bool.false_or, decide_eq_false h29] at step; exact step)
            skip
  refine y_ci (pc' := 1) (0) xD_150 rfl rfl rfl rfl ?_
  refine y_loc (pc' := 2) xD_150 rfl rfl rfl rfl ?_
  refine y_ci (pc' := 3) (0) xD_150 rfl rfl rfl rfl ?_
  refine y_loc (pc' := 5) xD_150 rfl rfl rfl rfl ?_
  exact loop n 0 (by omega)
end RF

