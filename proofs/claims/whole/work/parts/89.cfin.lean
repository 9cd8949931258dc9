/-! finish: the words; the class. -/
def sG (P : Nat → Nat → Int32) (nb : Nat) (su : Nat → CA) (n : Nat) : Int32 := orS (fun i => kS P nb (su i)) n
def uc (su : Nat → CA) (i : Nat) (c : CA) : Nat → CA := fun k => if k = i then c else su k
def fnS (P : Nat → Nat → Int32) (nb : Nat) (ar : Nat → CA) (r0 : Int32) : Nat → (Nat → CA) × Nat × Int32
  | 0 => (fun _ => (0, fun _ => 0), 0, r0)
  | g + 1 => if 0 < (ar g).1 ∧ ib (sG P nb (fnS P nb ar r0 g).1 (fnS P nb ar r0 g).2.1) g = false then (uc (fnS P nb ar r0 g).1 (fnS P nb ar r0 g).2.1 (ctS P nb g (ar g).1 (ar g) (fnS P nb ar r0 g).2.2).1, (fnS P nb ar r0 g).2.1 + 1, (ctS P nb g (ar g).1 (ar g) (fnS P nb ar r0 g).2.2).2) else fnS P nb ar r0 g
def drO (P : Nat → Nat → Int32) (nb : Nat) (su : Nat → CA) (n i : Nat) (st : (Nat → CA) × Nat) : Int32 := sG P nb st.1 st.2 ||| orS (fun j => kS P nb (su (i + 1 + j))) (n - (i + 1))
def drS (P : Nat → Nat → Int32) (nb : Nat) (su : Nat → CA) (n : Nat) : Nat → (Nat → CA) × Nat
  | 0 => (su, 0)
  | i + 1 => if kS P nb (su i) &&& (drO P nb su n i (drS P nb su n i) ^^^ -1) = 0 then drS P nb su n i else (uc (drS P nb su n i).1 (drS P nb su n i).2 (su i), (drS P nb su n i).2 + 1)
theorem fnS_le {P : Nat → Nat → Int32} {nb : Nat} {ar : Nat → CA} {r0 : Int32} : ∀ g, (fnS P nb ar r0 g).2.1 ≤ g
  | 0 => Nat.le_refl _
  | g + 1 => by
    have := fnS_le (P := P) (nb := nb) (ar := ar) (r0 := r0) g
    simp only [fnS]
    split
    · show (fnS P nb ar r0 g).2.1 + 1 ≤ g + 1; omega
    · omega
theorem fnS_w {P : Nat → Nat → Int32} {nb : Nat} {ar : Nat → CA} {r0 : Int32} (h : ∀ g, g < 24 → WC (ar g)) : ∀ g, g ≤ 24 → ∀ i, i < (fnS P nb ar r0 g).2.1 → WC ((fnS P nb ar r0 g).1 i) ∧ 0 < ((fnS P nb ar r0 g).1 i).1
  | 0, _, i, hi => absurd hi (Nat.not_lt_zero _)
  | g + 1, hg, i, hi => by
    have ih := fnS_w (P := P) (nb := nb) (r0 := r0) h g (by omega) i
    simp only [fnS] at hi ⊢
    split at hi
    · rename_i q
      rw [if_pos q]
      show WC (uc _ _ _ i) ∧ 0 < (uc _ _ _ i).1
      unfold uc
      by_cases e : i = (fnS P nb ar r0 g).2.1
      · rw [if_pos e]; exact ctS_w _ _ _ (h g (by omega)) q.1 (Nat.le_refl _)
      · rw [if_neg e]; exact ih (by have hi : i < (fnS P nb ar r0 g).2.1 + 1 := hi; omega)
    · rename_i q
      rw [if_neg q]
      exact ih hi
theorem drS_le {P : Nat → Nat → Int32} {nb n : Nat} {su : Nat → CA} : ∀ i, (drS P nb su n i).2 ≤ i
  | 0 => Nat.le_refl _
  | i + 1 => by
    have := drS_le (P := P) (nb := nb) (n := n) (su := su) i
    simp only [drS]
    split
    · omega
    · show (drS P nb su n i).2 + 1 ≤ i + 1; omega
theorem drS_w {P : Nat → Nat → Int32} {nb n : Nat} {su : Nat → CA} (h : ∀ j, j < n → WC (su j) ∧ 0 < (su j).1) : ∀ i, i ≤ n → ∀ j, j < (drS P nb su n i).2 → WC ((drS P nb su n i).1 j) ∧ 0 < ((drS P nb su n i).1 j).1
  | 0, _, j, hj => absurd hj (Nat.not_lt_zero _)
  | i + 1, hi, j, hj => by
    have ih := drS_w (P := P) (nb := nb) h i (by omega) j
    simp only [drS] at hj ⊢
    split at hj
    · rename_i q
      rw [if_pos q]; exact ih hj
    · rename_i q
      rw [if_neg q]
      show WC (uc _ _ _ j) ∧ 0 < (uc _ _ _ j).1
      unfold uc
      by_cases e : j = (drS P nb su n i).2
      · rw [if_pos e]; exact h i (by omega)
      · rw [if_neg e]; exact ih (by have hj : j < (drS P nb su n i).2 + 1 := hj; omega)
def sw (B : Nat → Nat) (k i : Nat) : Nat → Nat := fun j => if j = i then B k else if j = k then B i else B j
section DN
variable {S : XS} {d nb n : Nat} {I P : Nat → Nat → Int32} {J : Nat → Nat → Int64} {R : Nat → Nat → Option Nat} {su ar : Nat → CA} {B : Nat → Nat}
theorem C24_sw {g : Nat → Option Nat} {k i : Nat} (h : C24 (xrow R 152 g) B) (hk : k < 24) (hi : i < 24) : C24 (xrow R 152 (fun j => if j = i then some (B k) else if j = k then some (B i) else g j)) (sw B k i) := by
  intro j hj
  have key : ∀ j, j < 24 → ∃ j', j' < 24 ∧ sw B k i j = B j' ∧ (j' = if j = i then k else if j = k then i else j) := by
    intro j hj
    unfold sw
    by_cases e1 : j = i
    · exact ⟨k, hk, by rw [if_pos e1], by rw [if_pos e1]⟩
    · by_cases e2 : j = k
      · exact ⟨i, hi, by rw [if_neg e1, if_pos e2], by rw [if_neg e1, if_pos e2]⟩
      · exact ⟨j, hj, by rw [if_neg e1, if_neg e2], by rw [if_neg e1, if_neg e2]⟩
  obtain ⟨j', hj', ej, ej'⟩ := key j hj
  obtain ⟨r, c, l, u, e⟩ := h j' hj'
  rw [ej]
  refine ⟨?_, c, l, u, fun m hm q => ?_⟩
  · rw [xrow_at, ← ej]
    unfold sw
    by_cases e1 : j = i
    · rw [if_pos e1, if_pos e1]
    · rw [if_neg e1, if_neg e1]
      by_cases e2 : j = k
      · rw [if_pos e2, if_pos e2]
      · rw [if_neg e2, if_neg e2]
        have := (h j hj).1
        rw [xrow_at] at this
        exact this
  · obtain ⟨m', hm', em, em'⟩ := key m hm
    rw [em] at q
    have := e m' hm' q
    rw [ej', em'] at this
    by_cases a1 : j = i
    · rw [if_pos a1] at this
      by_cases a2 : m = i
      · omega
      · rw [if_neg a2] at this
        by_cases a3 : m = k
        · rw [if_pos a3] at this; omega
        · rw [if_neg a3] at this; omega
    · rw [if_neg a1] at this
      by_cases b1 : j = k
      · rw [if_pos b1] at this
        by_cases a2 : m = i
        · rw [if_pos a2] at this; omega
        · rw [if_neg a2] at this
          by_cases a3 : m = k
          · omega
          · rw [if_neg a3] at this; omega
      · rw [if_neg b1] at this
        by_cases a2 : m = i
        · rw [if_pos a2] at this; omega
        · rw [if_neg a2] at this
          by_cases a3 : m = k
          · rw [if_pos a3] at this; omega
          · rw [if_neg a3] at this; omega
/-- Suite.dropNeedless -/
theorem s_dropNeedless (hR : RF R) (hB : C24 R B) (hn : n ≤ 24) (e2 : I 151 2 = nI n) (hx : ∀ j, j < n → RX I J P nb (B j) (su j)) :
    XP S (d + 1) 84 0 (xent [.ref 151] 5) [] (hh I J R) (fun v h' => v = none ∧ ∃ R' B', h' = hh (xu I 151 2 (nI (drS P nb su n n).2)) J R' ∧ RF R' ∧ C24 R' B' ∧ (∀ j, j < (drS P nb su n n).2 → RX I J P nb (B' j) ((drS P nb su n n).1 j)) ∧ ∀ x, x ≠ 152 → R' x = R x) := by
  have loop : ∀ (m i : Nat), i + m = n → ∀ (B' : Nat → Nat) (g : Nat → Option Nat) (q3 q4 : Option Value), C24 (xrow R 152 g) B' → (∀ j, j < (drS P nb su n i).2 → RX I J P nb (B' j) ((drS P nb su n i).1 j)) → (∀ j, i ≤ j → j < n → RX I J P nb (B' j) (su j)) → XP S (d + 1) 84 4 [some (.ref 151), some (.int (nI (drS P nb su n i).2)), some (.int (nI i)), q3, q4] [] (hh I J (xrow R 152 g)) (fun v h' => v = none ∧ ∃ R' B', h' = hh (xu I 151 2 (nI (drS P nb su n n).2)) J R' ∧ RF R' ∧ C24 R' B' ∧ (∀ j, j < (drS P nb su n n).2 → RX I J P nb (B' j) ((drS P nb su n n).1 j)) ∧ ∀ x, x ≠ 152 → R' x = R x) := by
    intro m
    induction m with
    | zero =>
      intro i hi B' g q3 q4 hC hk hr
      have hi : i = n := by omega
      subst hi
      have hR' : RF (xrow R 152 g) := RF_row hR (Or.inr rfl)
      refine y_loc (pc' := 5) xD_84 rfl rfl rfl rfl ?_
      refine y_loc (pc' := 6) xD_84 rfl rfl rfl rfl ?_
      refine m_getI (pc' := 9) xD_84 rfl rfl rfl (by first | rfl | assumption) (e2) rfl ?_
      refine y_icge (pt := 84) (pf := 12) xD_84 rfl rfl rfl (fun h9 => ?_) (fun h9 => ?_)
      · skip
        refine y_loc (pc' := 85) xD_84 rfl rfl rfl rfl ?_
        refine y_loc (pc' := 86) xD_84 rfl rfl rfl rfl ?_
        refine m_putI (pc' := 89) xD_84 rfl rfl (by first | rfl | assumption) rfl rfl rfl ?_
        refine y_retV xD_84 rfl rfl ?_
        exact ⟨rfl, _, B', rfl, hR', hC, hk, fun x h => xrow_ne h⟩
      · skip
        exact absurd (Int32.le_refl _) h9
    | succ m ih =>
      intro i hi B' g q3 q4 hC hk hr
      have hR' : RF (xrow R 152 g) := RF_row hR (Or.inr rfl)
      have kl := drS_le (P := P) (nb := nb) (n := n) (su := su) i
      obtain ⟨k, ek⟩ : ∃ k, k = (drS P nb su n i).2 := ⟨_, rfl⟩
      have step := ih (i + 1) (by omega)
      simp only [drS] at step
      rw [← ek] at kl hk step ⊢
      have g1 := s_goalsOf (S := S) (d := d) (I := I) (J := J) (R := xrow R 152 g) (B := B') hR' hC 0 k (by omega) (fun j => kS P nb ((drS P nb su n i).1 j)) (fun j hj => by rw [Nat.zero_add]; exact (hk j hj).2.1) (x1 := 0) (x2 := nI k) rfl (by rw [Nat.zero_add])
      have g2 := s_goalsOf (S := S) (d := d) (I := I) (J := J) (R := xrow R 152 g) (B := B') hR' hC (i + 1) (n - (i + 1)) (by omega) (fun j => kS P nb (su (i + 1 + j))) (fun j hj => (hr (i + 1 + j) (by omega) (by omega)).2.1) (x1 := nI (i + 1)) (x2 := nI n) rfl (by rw [show i + 1 + (n - (i + 1)) = n by omega])
      have ei : I (B' i) 4 = kS P nb (su i) := (hr i (Nat.le_refl _) (by omega)).2.1
      obtain ⟨ri, ci, -, -, -⟩ := hC i (by omega)
      obtain ⟨rk, ck, -, -, -⟩ := hC k (by omega)
      have ki := (kCase ci).1
      have kk := (kCase ck).1
      refine y_loc (pc' := 5) xD_84 rfl rfl rfl rfl ?_
      refine y_loc (pc' := 6) xD_84 rfl rfl rfl rfl ?_
      refine m_getI (pc' := 9) xD_84 rfl rfl rfl (by first | rfl | assumption) (e2) rfl ?_
      refine y_icge (pt := 84) (pf := 12) xD_84 rfl rfl rfl (fun h9 => ?_) (fun h9 => ?_)
      · skip
        exact absurd h9 (nI_ge (a := i) (b := n) (by omega) (by omega))
      · skip
        refine y_loc (pc' := 13) xD_84 rfl rfl rfl rfl ?_
        refine y_ci (pc' := 14) (0) xD_84 rfl rfl rfl rfl ?_
        refine y_loc (pc' := 15) xD_84 rfl rfl rfl rfl ?_
        refine y_callV xD_84 rfl rfl rfl rfl (by first | rfl | assumption) rfl rfl rfl rfl (g1) (fun v h' hq => ?_)
        obtain ⟨rfl, rfl⟩ := hq
        refine y_loc (pc' := 19) xD_84 rfl rfl rfl rfl ?_
        refine y_loc (pc' := 20) xD_84 rfl rfl rfl rfl ?_
        refine y_ci (pc' := 21) (1) xD_84 rfl rfl rfl rfl ?_
        refine y_iadd (pc' := 22) xD_84 rfl (nI_1 i) rfl ?_
        refine y_loc (pc' := 23) xD_84 rfl rfl rfl rfl ?_
        refine m_getI (pc' := 26) xD_84 rfl rfl rfl (by first | rfl | assumption) (e2) rfl ?_
        refine y_callV xD_84 rfl rfl rfl rfl (by first | rfl | assumption) rfl rfl rfl rfl (g2) (fun v h' hq => ?_)
        obtain ⟨rfl, rfl⟩ := hq
        refine y_op (pc' := 30) xD_84 rfl rfl rfl rfl ?_
        refine y_loc (pc' := 31) xD_84 rfl rfl rfl rfl ?_
        refine y_loc (pc' := 32) xD_84 rfl rfl rfl rfl ?_
        refine m_getR (pc' := 35) xD_84 rfl rfl (by first | rfl | assumption) rfl (hR'.1 _ _ _ rfl) rfl ?_
        refine y_loc (pc' := 36) xD_84 rfl rfl rfl rfl ?_
        refine m_aald (pc' := 37) (i) (q := 0) xD_84 rfl (by first | rfl | assumption) (by first | decide | assumption) (by first | assumption | omega) (by first | decide | assumption) (by first | rfl | assumption) ri rfl ?_
        refine m_getI (pc' := 40) xD_84 rfl rfl rfl (by first | rfl | assumption) (ei) rfl ?_
        refine y_loc (pc' := 41) xD_84 rfl rfl rfl rfl ?_
        refine y_ci (pc' := 42) (-1) xD_84 rfl rfl rfl rfl ?_
        refine y_op (pc' := 43) xD_84 rfl rfl rfl rfl ?_
        refine y_op (pc' := 44) xD_84 rfl rfl rfl rfl ?_
        refine y_ifeq (pt := 78) (pf := 47) xD_84 rfl rfl rfl (fun h44 => ?_) (fun h44 => ?_)
        · skip
          (have h44' : kS P nb (su i) &&& (drO P nb su n i (drS P nb su n i) ^^^ -1) = 0 := by unfold drO sG; rw [← ek]; exact h44)
          rw [if_pos h44', ← ek] at step
          refine y_inc (pc' := 81) (nI (i + 1)) xD_84 rfl rfl rfl (nI_1 (i)) rfl rfl ?_
          refine y_goto (pc' := 4) xD_84 rfl rfl ?_
          exact step B' g _ _ hC hk (fun j a b => hr j (by omega) b)
        · skip
          refine y_loc (pc' := 48) xD_84 rfl rfl rfl rfl ?_
          refine m_getR (pc' := 51) xD_84 rfl rfl (by first | rfl | assumption) rfl (hR'.1 _ _ _ rfl) rfl ?_
          refine y_loc (pc' := 52) xD_84 rfl rfl rfl rfl ?_
          refine m_aald (pc' := 53) (k) (q := 0) xD_84 rfl (by first | rfl | assumption) (by first | decide | assumption) (by first | assumption | omega) (by first | decide | assumption) (by first | rfl | assumption) rk rfl ?_
          refine y_loc (pc' := 55) xD_84 rfl rfl rfl rfl ?_
          refine y_loc (pc' := 56) xD_84 rfl rfl rfl rfl ?_
          refine m_getR (pc' := 59) xD_84 rfl rfl (by first | rfl | assumption) rfl (hR'.1 _ _ _ rfl) rfl ?_
          refine y_loc (pc' := 60) xD_84 rfl rfl rfl rfl ?_
          refine y_loc (pc' := 61) xD_84 rfl rfl rfl rfl ?_
          refine m_getR (pc' := 64) xD_84 rfl rfl (by first | rfl | assumption) rfl (hR'.1 _ _ _ rfl) rfl ?_
          refine y_loc (pc' := 65) xD_84 rfl rfl rfl rfl ?_
          refine m_aald (pc' := 66) (i) (q := 0) xD_84 rfl (by first | rfl | assumption) (by first | decide | assumption) (by first | assumption | omega) (by first | decide | assumption) (by first | rfl | assumption) ri rfl ?_
          refine m_aast (pc' := 67) (k) (q := 0) xD_84 rfl (by first | rfl | assumption) (by first | decide | assumption) (by first | assumption | omega) (by first | decide | assumption) (by first | rfl | assumption) (by first | rfl | assumption) rfl ?_
          rw [xu_row, xrow_row, xrow_at]
          skip
          have h44' : ¬ kS P nb (su i) &&& (drO P nb su n i (drS P nb su n i) ^^^ -1) = 0 := by unfold drO sG; rw [← ek]; exact h44
          rw [if_neg h44'] at step
          have hR2 : RF (xrow R 152 (fun j => if j = k then some (B' i) else g j)) := RF_row hR (Or.inr rfl)
          refine y_loc (pc' := 68) xD_84 rfl rfl rfl rfl ?_
          refine m_getR (pc' := 71) xD_84 rfl rfl (by first | rfl | assumption) rfl (hR2.1 _ _ _ rfl) rfl ?_
          refine y_loc (pc' := 72) xD_84 rfl rfl rfl rfl ?_
          refine y_loc (pc' := 74) xD_84 rfl rfl rfl rfl ?_
          refine m_aast (pc' := 75) (i) (q := 0) xD_84 rfl (by first | rfl | assumption) (by first | decide | assumption) (by first | assumption | omega) (by first | decide | assumption) (by first | rfl | assumption) (by first | rfl | assumption) rfl ?_
          rw [xu_row, xrow_row, xrow_at]
          refine y_inc (pc' := 78) (nI (k + 1)) xD_84 rfl rfl rfl (nI_1 k) rfl rfl ?_
          refine y_inc (pc' := 81) (nI (i + 1)) xD_84 rfl rfl rfl (nI_1 (i)) rfl rfl ?_
          refine y_goto (pc' := 4) xD_84 rfl rfl ?_
          refine step (sw B' k i) _ _ _ (C24_sw hC (by omega) (by omega)) (fun j hj => ?_) (fun j a b => ?_)
          · have hj : j < k + 1 := hj
            show RX I J P nb (sw B' k i j) (uc (drS P nb su n i).1 k (su i) j)
            unfold sw uc
            by_cases e1 : j = k
            · rw [show (if j = k then su i else (drS P nb su n i).1 j) = su i from if_pos e1]
              by_cases e2 : j = i
              · rw [if_pos e2, show B' k = B' i from by rw [show k = i by omega]]; exact hr i (Nat.le_refl _) (by omega)
              · rw [if_neg e2, if_pos e1]; exact hr i (Nat.le_refl _) (by omega)
            · rw [if_neg e1, if_neg (show ¬ j = i by omega), if_neg e1]
              exact hk j (by omega)
          · unfold sw
            rw [if_neg (show ¬ j = i by omega), if_neg (show ¬ j = k by omega)]
            exact hr j (by omega) b
  refine y_ci (pc' := 1) (0) xD_84 rfl rfl rfl rfl ?_
  refine y_loc (pc' := 2) xD_84 rfl rfl rfl rfl ?_
  refine y_ci (pc' := 3) (0) xD_84 rfl rfl rfl rfl ?_
  refine y_loc (pc' := 4) xD_84 rfl rfl rfl rfl ?_
  have := loop n 0 (by omega) B (R 152) none none (by rw [xrow_id]; exact hB) (fun j hj => absurd hj (Nat.not_lt_zero _)) (fun j _ hj => hx j hj)
  rw [xrow_id] at this
  exact this
end DN

