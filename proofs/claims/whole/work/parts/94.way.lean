/-! Ways to the end: both sides. -/
def gE (cd : Nat → Nat → Int32) (n y : Nat) (a b : Nat) : Prop := a < n ∧ b ≠ y ∧ (b = q_lead cd n a false ∨ b = q_lead cd n a true)
def wy (cd : Nat → Nat → Int32) (n y x : Nat) : Prop := x ≠ y ∧ ∃ m, q_P (gE cd n y) x m n
/-- every way to the end from x passes y, and there is one -/
def ms (cd : Nat → Nat → Int32) (n y x : Nat) : Prop := wy cd n 99 x ∧ ¬ wy cd n y x
theorem q_P_front {E : Nat → Nat → Prop} {x : Nat} : ∀ (m v : Nat), q_P E x (m + 1) v → ∃ u, E x u ∧ q_P E u m v
  | 0, v, ⟨a, ha, he⟩ => by
    have : a = x := ha
    subst this
    exact ⟨v, he, rfl⟩
  | m + 1, v, ⟨a, ha, he⟩ => by
    obtain ⟨u, hu, hp⟩ := q_P_front m a ha
    exact ⟨u, hu, a, hp, he⟩
theorem q_P_cons {E : Nat → Nat → Prop} {x u : Nat} (h : E x u) : ∀ (m v : Nat), q_P E u m v → q_P E x (m + 1) v
  | 0, v, e => ⟨x, rfl, by have : v = u := e; subst this; exact h⟩
  | m + 1, v, ⟨a, ha, he⟩ => ⟨a, q_P_cons h m a ha, he⟩
theorem q_P_n {E : Nat → Nat → Prop} {x n : Nat} (hE : ∀ a b, E a b → b < n + 1) (hx : x < n + 1) (m v : Nat) (h : q_P E x m v) : ∃ j, j ≤ n ∧ q_P E x j v := by
  rcases q_Q_all (E := E) (b0 := x) n with q | ⟨L, h1, h2, h3⟩
  · obtain ⟨j, hj, hp⟩ := q m v h
    exact ⟨j, hj, hp⟩
  · exfalso
    have := nd_le (n + 1) L h1 (fun z hz => by
      obtain ⟨j, _, hp⟩ := h3 z hz
      exact q_P_lt hE hx j z hp)
    omega
theorem wy_n {cd : Nat → Nat → Int32} {n y x : Nat} (hx : x ≤ n) (h : wy cd n y x) : ∃ j, j ≤ n ∧ q_P (gE cd n y) x j n := by
  obtain ⟨-, m, hm⟩ := h
  exact q_P_n (fun a b e => by
    rcases e.2.2 with q | q
    · have := q_lead_le (cd := cd) (n := n) (p := a) (o := false); omega
    · have := q_lead_le (cd := cd) (n := n) (p := a) (o := true); omega) (by omega) m n hm
theorem and2 {S : Int32} {a b : Nat} (ha : a < 32) (hb : b < 32) : S &&& ((1 <<< (nI a &&& 31)) ||| (1 <<< (nI b &&& 31))) = 0 ↔ ib S a = false ∧ ib S b = false := by
  constructor
  · intro h
    have h1 := congrArg (fun z => ib z a) h
    have h2 := congrArg (fun z => ib z b) h
    simp only [ib_and, ib_or, ib_0, ib_shl ha _ ha, ib_shl hb _ ha, ib_shl ha _ hb, ib_shl hb _ hb, decide_true, Bool.true_or, Bool.or_true, Bool.and_true] at h1 h2
    exact ⟨h1, h2⟩
  · rintro ⟨h1, h2⟩
    refine ib_ext (fun g hg => ?_)
    rw [ib_and, ib_or, ib_0, ib_shl ha _ hg, ib_shl hb _ hg]
    by_cases e1 : g = a
    · rw [e1, h1, Bool.false_and]
    · by_cases e2 : g = b
      · rw [e2, h2, Bool.false_and]
      · rw [decide_eq_false e1, decide_eq_false e2, Bool.or_self, Bool.and_false]
section WY
variable {S : XS} {d A m n y : Nat} {I : Nat → Nat → Int32} {J : Nat → Nat → Int64} {R : Nat → Nat → Option Nat}
/-- Method.placesReachingEnd -/
theorem s_placesReachingEnd (hR : RF R) (hA : A = 4 ∨ A = 10) (hn : I A 5 = nI n) (hn2 : n ≤ 10) (hV : VC (cdC I A) n) (hy : y ≠ n) {xb : Int32} (hb : ∀ i, i < n → (nI i = xb ↔ i = y)) :
    XP S (d + 2) 22 0 (xent [.ref A, .int xb] 6) [] (hh I J R) (fun v h' => (∃ T : Int32, v = some (.int T) ∧ ∀ x, x < 32 → (ib T x = true ↔ x ≤ n ∧ wy (cdC I A) n y x)) ∧ h' = hh I J R) := by
  obtain ⟨k0, -, -, -, -, -⟩ := kMeth hA
  obtain ⟨cd, ecd⟩ : ∃ cd, cd = cdC I A := ⟨_, rfl⟩
  have sound : ∀ T : Int32, (∀ x, x < 32 → ib T x = true → x ≤ n ∧ wy cd n y x) → ∀ i, i < n → i ≠ y → (ib T (q_lead cd n i false) = true ∨ ib T (q_lead cd n i true) = true) → wy cd n y i := by
    intro T hT i hi hiy q
    have l1 := q_lead_le (cd := cd) (n := n) (p := i) (o := false)
    have l2 := q_lead_le (cd := cd) (n := n) (p := i) (o := true)
    refine ⟨hiy, ?_⟩
    rcases q with q | q
    · obtain ⟨-, h1, mm, hm⟩ := hT _ (by omega) q
      exact ⟨mm + 1, q_P_cons ⟨hi, h1, Or.inl rfl⟩ mm n hm⟩
    · obtain ⟨-, h1, mm, hm⟩ := hT _ (by omega) q
      exact ⟨mm + 1, q_P_cons ⟨hi, h1, Or.inr rfl⟩ mm n hm⟩
  have inner : ∀ (r : Nat) {Q : Option Value → XH → Prop}, (∀ (T : Int32) (q4 q5 : Option Value), (∀ x, x < 32 → ib T x = true → x ≤ n ∧ wy cd n y x) → (∀ x, x ≤ n → x ≠ y → (∃ j, j ≤ r + 1 ∧ q_P (gE cd n y) x j n) → ib T x = true) → XP S (d + 2) 22 9 [some (.ref A), some (.int xb), some (.int T), some (.int (nI (r + 1))), q4, q5] [] (hh I J R) Q) → ∀ (i : Nat) (T : Int32) (q5 : Option Value), i ≤ n → (∀ x, x < 32 → ib T x = true → x ≤ n ∧ wy cd n y x) → (∀ x, x ≤ n → x ≠ y → (∃ j, j ≤ r ∧ q_P (gE cd n y) x j n) → ib T x = true) → (∀ x, i ≤ x → x ≤ n → x ≠ y → (∃ j, j ≤ r + 1 ∧ q_P (gE cd n y) x j n) → ib T x = true) → XP S (d + 2) 22 25 [some (.ref A), some (.int xb), some (.int T), some (.int (nI r)), some (.int (nI i - 1)), q5] [] (hh I J R) Q := by
    intro r Q K i
    induction i with
    | zero =>
      intro T q5 hi h1 h2 h3
      refine y_loc (pc' := 27) xD_22 rfl rfl rfl rfl ?_
      refine y_iflt (pt := 77) (pf := 30) xD_22 rfl rfl rfl (fun h27 => ?_) (fun h27 => ?_)
      · skip
        refine y_inc (pc' := 80) (nI (r + 1)) xD_22 rfl rfl rfl (nI_1 (r)) rfl rfl ?_
        refine y_goto (pc' := 9) xD_22 rfl rfl ?_
        exact K T _ _ h1 (fun x hx hxy q => h3 x (Nat.zero_le _) hx hxy q)
      · skip
        exact absurd (show nI 0 - 1 < 0 by decide) h27
    | succ i ih =>
      intro T q5 hi h1 h2 h3
      have pe : nI (i + 1) - 1 = nI i := by rw [show nI (i + 1) - 1 = nI (i + 1 - 1) from pk_sub (b := 1) (by omega)]; rfl
      have pd : nI i + Int32.ofInt (-1) = nI i - 1 := by rw [Int32.sub_eq_add_neg]; rfl
      rw [pe]
      have vi := hV i (by omega)
      have p0 := s_placeAfter (S := S) (d := d) (I := I) (J := J) (R := R) hR hA hn hn2 i (by omega) vi (x := nI i) (o := 0) rfl
      have p1 := s_placeAfter (S := S) (d := d) (I := I) (J := J) (R := R) hR hA hn hn2 i (by omega) vi (x := nI i) (o := 1) rfl
      rw [show decide ((0 : Int32) = 1) = false from rfl, ← ecd] at p0
      rw [show decide ((1 : Int32) = 1) = true from rfl, ← ecd] at p1
      have l1 := q_lead_le (cd := cd) (n := n) (p := i) (o := false)
      have l2 := q_lead_le (cd := cd) (n := n) (p := i) (o := true)
      have a2 := and2 (S := T) (a := q_lead cd n i false) (b := q_lead cd n i true) (by omega) (by omega)
      have hbi := hb i (by omega)
      have front : i ≠ y → (∃ j, j ≤ r + 1 ∧ q_P (gE cd n y) i j n) → ib T (q_lead cd n i false) = true ∨ ib T (q_lead cd n i true) = true := by
        rintro hiy ⟨j, hj, hp⟩
        cases j with
        | zero => have : n = i := hp; omega
        | succ j =>
          obtain ⟨u, ⟨-, hu, ho⟩, hq⟩ := q_P_front j n hp
          rcases ho with ho | ho
          · left; rw [← ho]; exact h2 u (by omega) hu ⟨j, by omega, hq⟩
          · right; rw [← ho]; exact h2 u (by omega) hu ⟨j, by omega, hq⟩
      have nxt : ∀ (T' : Int32) (q5 : Option Value), (∀ x, x < 32 → ib T' x = true → x ≤ n ∧ wy cd n y x) → (∀ x, x < 32 → ib T x = true → ib T' x = true) → (i ≠ y → (∃ j, j ≤ r + 1 ∧ q_P (gE cd n y) i j n) → ib T' i = true) → XP S (d + 2) 22 71 [some (.ref A), some (.int xb), some (.int T'), some (.int (nI r)), some (.int (nI i)), q5] [] (hh I J R) Q := by
        intro T' q5 b1 b2 b3
        refine y_inc (pc' := 74) (nI i - 1) xD_22 rfl rfl rfl pd rfl rfl ?_
        refine y_goto (pc' := 25) xD_22 rfl rfl ?_
        refine ih T' q5 (by omega) b1 (fun x hx hxy q => b2 x (by omega) (h2 x hx hxy q)) (fun x hx hx2 hxy q => ?_)
        by_cases e : x = i
        · rw [e] at hxy q ⊢; exact b3 hxy q
        · exact b2 x (by omega) (h3 x (by omega) hx2 hxy q)
      refine y_loc (pc' := 27) xD_22 rfl rfl rfl rfl ?_
      refine y_iflt (pt := 77) (pf := 30) xD_22 rfl rfl rfl (fun h27 => ?_) (fun h27 => ?_)
      · skip
        exact absurd h27 (nI_pos (by omega))
      · skip
        refine y_ci (pc' := 31) (1) xD_22 rfl rfl rfl rfl ?_
        refine y_loc (pc' := 32) xD_22 rfl rfl rfl rfl ?_
        refine y_loc (pc' := 34) xD_22 rfl rfl rfl rfl ?_
        refine y_ci (pc' := 35) (0) xD_22 rfl rfl rfl rfl ?_
        refine y_callV xD_22 rfl rfl rfl rfl (by first | rfl | assumption) rfl rfl rfl rfl (p0) (fun v h' hq => ?_)
        obtain ⟨rfl, rfl⟩ := hq
        refine y_op (pc' := 39) xD_22 rfl rfl rfl rfl ?_
        refine y_ci (pc' := 40) (1) xD_22 rfl rfl rfl rfl ?_
        refine y_loc (pc' := 41) xD_22 rfl rfl rfl rfl ?_
        refine y_loc (pc' := 43) xD_22 rfl rfl rfl rfl ?_
        refine y_ci (pc' := 44) (1) xD_22 rfl rfl rfl rfl ?_
        refine y_callV xD_22 rfl rfl rfl rfl (by first | rfl | assumption) rfl rfl rfl rfl (p1) (fun v h' hq => ?_)
        obtain ⟨rfl, rfl⟩ := hq
        refine y_op (pc' := 48) xD_22 rfl rfl rfl rfl ?_
        refine y_op (pc' := 49) xD_22 rfl rfl rfl rfl ?_
        refine y_loc (pc' := 51) xD_22 rfl rfl rfl rfl ?_
        refine y_loc (pc' := 53) xD_22 rfl rfl rfl rfl ?_
        refine y_loc (pc' := 54) xD_22 rfl rfl rfl rfl ?_
        refine y_iceq (pt := 71) (pf := 57) xD_22 rfl rfl rfl (fun h54 => ?_) (fun h54 => ?_)
        · skip
          first
          | exact nxt T _ h1 (fun _ _ q => q) (fun q _ => absurd (hbi.mp h54) q)
          | exact nxt T _ h1 (fun _ _ q => q) (fun q1 q2 => (front q1 q2).elim (fun t => by rw [(a2.mp h61).1] at t; exact absurd t (by decide)) (fun t => by rw [(a2.mp h61).2] at t; exact absurd t (by decide)))
          | exact nxt _ _ (fun x hx q => by rw [ib_or, Bool.or_eq_true] at q; rcases q with q | q; exact h1 x hx q; rw [ib_shl (by omega) x hx, decide_eq_true_eq] at q; rw [q]; exact ⟨by omega, sound T h1 i (by omega) (fun t => h54 (hbi.mpr t)) (Classical.byContradiction fun t => h61 (a2.mpr ⟨Bool.not_eq_true _ ▸ (fun u => t (Or.inl u)), Bool.not_eq_true _ ▸ (fun u => t (Or.inr u))⟩))⟩) (fun x hx q => by rw [ib_or, q, Bool.true_or]) (fun _ _ => by rw [ib_or, ib_shl (by omega) i (by omega), decide_eq_true rfl, Bool.or_true])
        · skip
          refine y_loc (pc' := 58) xD_22 rfl rfl rfl rfl ?_
          refine y_loc (pc' := 60) xD_22 rfl rfl rfl rfl ?_
          refine y_op (pc' := 61) xD_22 rfl rfl rfl rfl ?_
          refine y_ifeq (pt := 71) (pf := 64) xD_22 rfl rfl rfl (fun h61 => ?_) (fun h61 => ?_)
          · skip
            first
            | exact nxt T _ h1 (fun _ _ q => q) (fun q _ => absurd (hbi.mp h54) q)
            | exact nxt T _ h1 (fun _ _ q => q) (fun q1 q2 => (front q1 q2).elim (fun t => by rw [(a2.mp h61).1] at t; exact absurd t (by decide)) (fun t => by rw [(a2.mp h61).2] at t; exact absurd t (by decide)))
            | exact nxt _ _ (fun x hx q => by rw [ib_or, Bool.or_eq_true] at q; rcases q with q | q; exact h1 x hx q; rw [ib_shl (by omega) x hx, decide_eq_true_eq] at q; rw [q]; exact ⟨by omega, sound T h1 i (by omega) (fun t => h54 (hbi.mpr t)) (Classical.byContradiction fun t => h61 (a2.mpr ⟨Bool.not_eq_true _ ▸ (fun u => t (Or.inl u)), Bool.not_eq_true _ ▸ (fun u => t (Or.inr u))⟩))⟩) (fun x hx q => by rw [ib_or, q, Bool.true_or]) (fun _ _ => by rw [ib_or, ib_shl (by omega) i (by omega), decide_eq_true rfl, Bool.or_true])
          · skip
            refine y_loc (pc' := 65) xD_22 rfl rfl rfl rfl ?_
            refine y_ci (pc' := 66) (1) xD_22 rfl rfl rfl rfl ?_
            refine y_loc (pc' := 68) xD_22 rfl rfl rfl rfl ?_
            refine y_op (pc' := 69) xD_22 rfl rfl rfl rfl ?_
            refine y_op (pc' := 70) xD_22 rfl rfl rfl rfl ?_
            refine y_loc (pc' := 71) xD_22 rfl rfl rfl rfl ?_
            first
            | exact nxt T _ h1 (fun _ _ q => q) (fun q _ => absurd (hbi.mp h54) q)
            | exact nxt T _ h1 (fun _ _ q => q) (fun q1 q2 => (front q1 q2).elim (fun t => by rw [(a2.mp h61).1] at t; exact absurd t (by decide)) (fun t => by rw [(a2.mp h61).2] at t; exact absurd t (by decide)))
            | exact nxt _ _ (fun x hx q => by rw [ib_or, Bool.or_eq_true] at q; rcases q with q | q; exact h1 x hx q; rw [ib_shl (by omega) x hx, decide_eq_true_eq] at q; rw [q]; exact ⟨by omega, sound T h1 i (by omega) (fun t => h54 (hbi.mpr t)) (Classical.byContradiction fun t => h61 (a2.mpr ⟨Bool.not_eq_true _ ▸ (fun u => t (Or.inl u)), Bool.not_eq_true _ ▸ (fun u => t (Or.inr u))⟩))⟩) (fun x hx q => by rw [ib_or, q, Bool.true_or]) (fun _ _ => by rw [ib_or, ib_shl (by omega) i (by omega), decide_eq_true rfl, Bool.or_true])
  have outer : ∀ (m r : Nat), r + m = n → ∀ (T : Int32) (q4 q5 : Option Value), (∀ x, x < 32 → ib T x = true → x ≤ n ∧ wy cd n y x) → (∀ x, x ≤ n → x ≠ y → (∃ j, j ≤ r ∧ q_P (gE cd n y) x j n) → ib T x = true) → XP S (d + 2) 22 9 [some (.ref A), some (.int xb), some (.int T), some (.int (nI r)), q4, q5] [] (hh I J R) (fun v h' => (∃ T : Int32, v = some (.int T) ∧ ∀ x, x < 32 → (ib T x = true ↔ x ≤ n ∧ wy cd n y x)) ∧ h' = hh I J R) := by
    intro m
    induction m with
    | zero =>
      intro r hr T q4 q5 h1 h2
      have hr : r = n := by omega
      subst hr
      refine y_loc (pc' := 10) xD_22 rfl rfl rfl rfl ?_
      refine y_loc (pc' := 11) xD_22 rfl rfl rfl rfl ?_
      refine m_getI (pc' := 14) xD_22 rfl rfl rfl (by first | rfl | assumption) (hn) rfl ?_
      refine y_icge (pt := 83) (pf := 17) xD_22 rfl rfl rfl (fun h14 => ?_) (fun h14 => ?_)
      · skip
        refine y_loc (pc' := 84) xD_22 rfl rfl rfl rfl ?_
        refine y_retI xD_22 rfl rfl ?_
        exact ⟨⟨T, rfl, fun x hx => ⟨h1 x hx, fun q => h2 x q.1 q.2.1 (wy_n q.1 q.2)⟩⟩, rfl⟩
      · skip
        exact absurd (Int32.le_refl _) h14
    | succ m ih =>
      intro r hr T q4 q5 h1 h2
      refine y_loc (pc' := 10) xD_22 rfl rfl rfl rfl ?_
      refine y_loc (pc' := 11) xD_22 rfl rfl rfl rfl ?_
      refine m_getI (pc' := 14) xD_22 rfl rfl rfl (by first | rfl | assumption) (hn) rfl ?_
      refine y_icge (pt := 83) (pf := 17) xD_22 rfl rfl rfl (fun h14 => ?_) (fun h14 => ?_)
      · skip
        exact absurd h14 (nI_ge (a := r) (b := n) (by omega) (by omega))
      · skip
        refine y_loc (pc' := 18) xD_22 rfl rfl rfl rfl ?_
        refine m_getI (pc' := 21) xD_22 rfl rfl rfl (by first | rfl | assumption) (hn) rfl ?_
        refine y_ci (pc' := 22) (1) xD_22 rfl rfl rfl rfl ?_
        refine y_op (pc' := 23) xD_22 rfl rfl rfl rfl ?_
        refine y_loc (pc' := 25) xD_22 rfl rfl rfl rfl ?_
        exact inner r (fun T q4 q5 a b => ih (r + 1) (by omega) T q4 q5 a b) n T _ (Nat.le_refl _) h1 h2 (fun x hx hx2 hxy q => h2 x hx2 hxy ⟨0, Nat.zero_le _, by show n = x; omega⟩)
  rw [← ecd]
  refine y_ci (pc' := 1) (1) xD_22 rfl rfl rfl rfl ?_
  refine y_loc (pc' := 2) xD_22 rfl rfl rfl rfl ?_
  refine m_getI (pc' := 5) xD_22 rfl rfl rfl (by first | rfl | assumption) (hn) rfl ?_
  refine y_op (pc' := 6) xD_22 rfl rfl rfl rfl ?_
  refine y_loc (pc' := 7) xD_22 rfl rfl rfl rfl ?_
  refine y_ci (pc' := 8) (0) xD_22 rfl rfl rfl rfl ?_
  refine y_loc (pc' := 9) xD_22 rfl rfl rfl rfl ?_
  refine outer n 0 (by omega) _ _ _ (fun x hx q => ?_) (fun x hx hxy q => ?_)
  · rw [ib_shl (by omega) x hx, decide_eq_true_eq] at q
    rw [q]
    exact ⟨Nat.le_refl _, Ne.symm hy, 0, rfl⟩
  · obtain ⟨j, hj, hp⟩ := q
    have : j = 0 := by omega
    subst this
    have : n = x := hp
    rw [← this, ib_shl (by omega) n (by omega), decide_eq_true rfl]
/-- Method.postDominatedBy -/
theorem s_postDominatedBy (hR : RF R) (hA : A = 4 ∨ A = 10) (hn : I A 5 = nI n) (hn2 : n ≤ 10) (hV : VC (cdC I A) n) (hy : y < n) {xy : Int32} (e1 : xy = nI y) :
    XP S (d + 3) 21 0 (xent [.ref A, .int xy] 2) [] (hh I J R) (fun v h' => (∃ T : Int32, v = some (.int T) ∧ ∀ x, x < 32 → (ib T x = true ↔ x ≤ n ∧ ms (cdC I A) n y x)) ∧ h' = hh I J R) := by
  subst e1
  obtain ⟨k0, -, -, -, -, -⟩ := kMeth hA
  refine y_loc (pc' := 1) xD_21 rfl rfl rfl rfl ?_
  refine y_loc (pc' := 2) xD_21 rfl rfl rfl rfl ?_
  refine m_getI (pc' := 5) xD_21 rfl rfl rfl (by first | rfl | assumption) (hn) rfl ?_
  refine y_callV xD_21 rfl rfl rfl rfl (by first | rfl | assumption) rfl rfl rfl rfl (s_placesReachingEnd (d := d) (y := 99) hR hA hn hn2 hV (by omega) (fun i hi => ⟨fun q => absurd ((nI_inj (by omega) (by omega)).mp q) (by omega), fun q => absurd q (by omega)⟩)) (fun v h' hq => ?_)
  obtain ⟨⟨T1, rfl, t1⟩, rfl⟩ := hq
  refine y_loc (pc' := 9) xD_21 rfl rfl rfl rfl ?_
  refine y_loc (pc' := 10) xD_21 rfl rfl rfl rfl ?_
  refine y_callV xD_21 rfl rfl rfl rfl (by first | rfl | assumption) rfl rfl rfl rfl (s_placesReachingEnd (d := d) (y := y) hR hA hn hn2 hV (by omega) (fun i hi => nI_inj (by omega) (by omega))) (fun v h' hq => ?_)
  obtain ⟨⟨T2, rfl, t2⟩, rfl⟩ := hq
  refine y_ci (pc' := 14) (-1) xD_21 rfl rfl rfl rfl ?_
  refine y_op (pc' := 15) xD_21 rfl rfl rfl rfl ?_
  refine y_op (pc' := 16) xD_21 rfl rfl rfl rfl ?_
  refine y_retI xD_21 rfl rfl ?_
  refine ⟨⟨_, rfl, fun x hx => ?_⟩, rfl⟩
  rw [ib_and, ib_not hx, Bool.and_eq_true, t1 x hx, Bool.not_eq_true', ← Bool.not_eq_true, t2 x hx]
  exact ⟨fun q => ⟨q.1.1, q.1.2, fun t => q.2 ⟨q.1.1, t⟩⟩, fun q => ⟨⟨q.1, q.2.1⟩, fun t => q.2.2 t.2⟩⟩
/-- the model's way(m, x, y) -/
theorem s_way (hR : RF R) (hm : m < 2) (hn : I 265 m = nI n) (hn2 : n ≤ 10) (hV : VC (cdM I m) n) (x : Nat) (hx : x ≤ n) (hy : y ≠ n) {xy : Int32} (hb : ∀ v, v ≤ n → (nI v = xy ↔ v = y)) :
    XP S (d + 3) 115 0 (xent [.ref 261, .int (nI m), .int (nI x), .int xy] 10) [] (hh I J R) (fun v h' => (∃ t : Bool, (t = true ↔ wy (cdM I m) n y x) ∧ v = some (.int (zB t))) ∧ h' = hh I J R) := by
  obtain ⟨cd, ecd⟩ : ∃ cd, cd = cdM I m := ⟨_, rfl⟩
  have inner : ∀ (r : Nat) {Q : Option Value → XH → Prop}, (∀ (T : Int32) (q7 q8 q9 : Option Value), (∀ v, v < 32 → ib T v = true → v ≤ n ∧ v ≠ y ∧ x ≠ y ∧ ∃ j, q_P (gE cd n y) x j v) → (x ≠ y → ∀ v, (∃ j, j ≤ r + 1 ∧ q_P (gE cd n y) x j v) → ib T v = true) → XP S (d + 3) 115 25 [some (.ref 261), some (.int (nI m)), some (.int (nI x)), some (.int xy), some (.int (nI n)), some (.int T), some (.int (nI (r + 1))), q7, q8, q9] [] (hh I J R) Q) → ∀ (f p : Nat), p + f = n → ∀ (T : Int32) (q8 q9 : Option Value), (∀ v, v < 32 → ib T v = true → v ≤ n ∧ v ≠ y ∧ x ≠ y ∧ ∃ j, q_P (gE cd n y) x j v) → (x ≠ y → ∀ v, (∃ j, j ≤ r ∧ q_P (gE cd n y) x j v) → ib T v = true) → (x ≠ y → ∀ a v, a < p → (∃ j, j ≤ r ∧ q_P (gE cd n y) x j a) → gE cd n y a v → ib T v = true) → XP S (d + 3) 115 35 [some (.ref 261), some (.int (nI m)), some (.int (nI x)), some (.int xy), some (.int (nI n)), some (.int T), some (.int (nI r)), some (.int (nI p)), q8, q9] [] (hh I J R) Q := by
    intro r Q K f
    induction f with
    | zero =>
      intro p hp T q8 q9 h1 h2 h3
      have hp : p = n := by omega
      subst hp
      have z : x ≠ y → ∀ v, (∃ j, j ≤ r + 1 ∧ q_P (gE cd p y) x j v) → ib T v = true := by
        rintro hxy v ⟨j, hj, hq⟩
        by_cases e : j ≤ r
        · exact h2 hxy v ⟨j, e, hq⟩
        · have : j = r + 1 := by omega
          subst this
          obtain ⟨a, ha, he⟩ := hq
          exact h3 hxy a v he.1 ⟨r, Nat.le_refl _, ha⟩ he
      refine y_loc (pc' := 37) xD_115 rfl rfl rfl rfl ?_
      refine y_loc (pc' := 39) xD_115 rfl rfl rfl rfl ?_
      refine y_icge (pt := 119) (pf := 42) xD_115 rfl rfl rfl (fun h39 => ?_) (fun h39 => ?_)
      · skip
        refine y_inc (pc' := 122) (nI (r + 1)) xD_115 rfl rfl rfl (nI_1 (r)) rfl rfl ?_
        refine y_goto (pc' := 25) xD_115 rfl rfl ?_
        exact K T _ _ _ h1 z
      · skip
        exact absurd (Int32.le_refl _) h39
    | succ f ih =>
      intro p hp T q8 q9 h1 h2 h3
      have p10 : p < 10 := by omega
      have b1 := bit1 (g := p) (by omega) T
      have vp := hV p (by omega)
      have p0 := s_lead (S := S) (d := d) (I := I) (J := J) (R := R) hR hm hn hn2 p (by omega) vp (xm := nI m) (xp := nI p) (xo := 0) rfl rfl
      have p1 := s_lead (S := S) (d := d) (I := I) (J := J) (R := R) hR hm hn hn2 p (by omega) vp (xm := nI m) (xp := nI p) (xo := 1) rfl rfl
      rw [show decide ((0 : Int32) = 1) = false from rfl, ← ecd] at p0
      rw [show decide ((1 : Int32) = 1) = true from rfl, ← ecd] at p1
      have l1 := q_lead_le (cd := cd) (n := n) (p := p) (o := false)
      have l2 := q_lead_le (cd := cd) (n := n) (p := p) (o := true)
      obtain ⟨u1, eu1⟩ : ∃ u, u = q_lead cd n p false := ⟨_, rfl⟩
      obtain ⟨u2, eu2⟩ : ∃ u, u = q_lead cd n p true := ⟨_, rfl⟩
      rw [← eu1] at p0 l1
      rw [← eu2] at p1 l2
      have hb1 := hb u1 l1
      have hb2 := hb u2 l2
      have nxt : ∀ (T' : Int32) (q8 q9 : Option Value), (∀ v, v < 32 → ib T' v = true → v ≤ n ∧ v ≠ y ∧ x ≠ y ∧ ∃ j, q_P (gE cd n y) x j v) → (∀ v, ib T v = true → ib T' v = true) → (x ≠ y → (∃ j, j ≤ r ∧ q_P (gE cd n y) x j p) → ∀ v, gE cd n y p v → ib T' v = true) → XP S (d + 3) 115 113 [some (.ref 261), some (.int (nI m)), some (.int (nI x)), some (.int xy), some (.int (nI n)), some (.int T'), some (.int (nI r)), some (.int (nI p)), q8, q9] [] (hh I J R) Q := by
        intro T' q8 q9 a1 a2 a3
        refine y_inc (pc' := 116) (nI (p + 1)) xD_115 rfl rfl rfl (nI_1 (p)) rfl rfl ?_
        refine y_goto (pc' := 35) xD_115 rfl rfl ?_
        refine ih (p + 1) (by omega) T' q8 q9 a1 (fun hxy v q => a2 v (h2 hxy v q)) (fun hxy a v ha q he => ?_)
        by_cases e : a = p
        · rw [e] at q he; exact a3 hxy q v he
        · exact a2 v (h3 hxy a v (by omega) q he)
      have or1 : ∀ {T1 : Int32} {u v : Nat}, u ≤ n → v < 32 → (ib (T1 ||| (1 <<< (nI u &&& 31))) v = true ↔ ib T1 v = true ∨ v = u) := fun hu hv => by
        rw [ib_or, Bool.or_eq_true, ib_shl (by omega) _ hv, decide_eq_true_eq]
      have hi32 : ∀ {T1 : Int32} {v : Nat}, ib T1 v = true → v < 32 := fun {T1 v} q => Nat.lt_of_not_le (fun t => by rw [ib_ge t] at q; exact absurd q (by decide))
      have tail2 : ib T p = true → ∀ T1 : Int32, (∀ v, v < 32 → ib T1 v = true → v ≤ n ∧ v ≠ y ∧ x ≠ y ∧ ∃ j, q_P (gE cd n y) x j v) → (∀ v, ib T v = true → ib T1 v = true) → (u1 ≠ y → ib T1 u1 = true) → XP S (d + 3) 115 93 [some (.ref 261), some (.int (nI m)), some (.int (nI x)), some (.int xy), some (.int (nI n)), some (.int T1), some (.int (nI r)), some (.int (nI p)), some (.int (nI u1)), some (.int (nI u2))] [] (hh I J R) Q := by
        intro hpT T1 a1 a2 a3
        obtain ⟨-, -, hxy, jj, hjj⟩ := h1 p (by omega) hpT
        have fin : ∀ T2 : Int32, (∀ v, v < 32 → ib T2 v = true → v ≤ n ∧ v ≠ y ∧ x ≠ y ∧ ∃ j, q_P (gE cd n y) x j v) → (∀ v, ib T1 v = true → ib T2 v = true) → (u2 ≠ y → ib T2 u2 = true) → XP S (d + 3) 115 111 [some (.ref 261), some (.int (nI m)), some (.int (nI x)), some (.int xy), some (.int (nI n)), some (.int T1), some (.int (nI r)), some (.int (nI p)), some (.int (nI u1)), some (.int (nI u2))] [.int T2] (hh I J R) Q := by
          intro T2 c1 c2 c3
          refine y_loc (pc' := 113) xD_115 rfl rfl rfl rfl ?_
          refine nxt T2 _ _ c1 (fun v q => c2 v (a2 v q)) (fun _ _ v he => ?_)
          rcases he.2.2 with e | e
          · rw [e, ← eu1]; exact c2 _ (a3 (by rw [eu1, ← e]; exact he.2.1))
          · rw [e, ← eu2]; exact c3 (by rw [eu2, ← e]; exact he.2.1)
        refine y_loc (pc' := 95) xD_115 rfl rfl rfl rfl ?_
        refine y_loc (pc' := 96) xD_115 rfl rfl rfl rfl ?_
        refine y_icne (pt := 104) (pf := 99) xD_115 rfl rfl rfl (fun h96 => ?_) (fun h96 => ?_)
        · skip
          refine y_loc (pc' := 106) xD_115 rfl rfl rfl rfl ?_
          refine y_ci (pc' := 107) (1) xD_115 rfl rfl rfl rfl ?_
          refine y_loc (pc' := 109) xD_115 rfl rfl rfl rfl ?_
          refine y_op (pc' := 110) xD_115 rfl rfl rfl rfl ?_
          refine y_op (pc' := 111) xD_115 rfl rfl rfl rfl ?_
          first
          | exact fin T1 a1 (fun _ q => q) (fun q => absurd (hb2.mp h96) q)
          | exact fin _ (fun v hv q => ((or1 l2 hv).mp q).elim (fun t => a1 v hv t) (fun t => by rw [t]; exact ⟨l2, fun u => h96 (hb2.mpr u), hxy, jj + 1, p, hjj, by omega, fun u => h96 (hb2.mpr u), Or.inr eu2⟩)) (fun v q => (or1 l2 (hi32 q)).mpr (Or.inl q)) (fun _ => (or1 l2 (by omega)).mpr (Or.inr rfl))
        · skip
          refine y_loc (pc' := 101) xD_115 rfl rfl rfl rfl ?_
          refine y_goto (pc' := 111) xD_115 rfl rfl ?_
          first
          | exact fin T1 a1 (fun _ q => q) (fun q => absurd (hb2.mp h96) q)
          | exact fin _ (fun v hv q => ((or1 l2 hv).mp q).elim (fun t => a1 v hv t) (fun t => by rw [t]; exact ⟨l2, fun u => h96 (hb2.mpr u), hxy, jj + 1, p, hjj, by omega, fun u => h96 (hb2.mpr u), Or.inr eu2⟩)) (fun v q => (or1 l2 (hi32 q)).mpr (Or.inl q)) (fun _ => (or1 l2 (by omega)).mpr (Or.inr rfl))
      refine y_loc (pc' := 37) xD_115 rfl rfl rfl rfl ?_
      refine y_loc (pc' := 39) xD_115 rfl rfl rfl rfl ?_
      refine y_icge (pt := 119) (pf := 42) xD_115 rfl rfl rfl (fun h39 => ?_) (fun h39 => ?_)
      · skip
        exact absurd h39 (nI_ge (a := p) (b := n) (by omega) (by omega))
      · skip
        refine y_loc (pc' := 44) xD_115 rfl rfl rfl rfl ?_
        refine y_loc (pc' := 46) xD_115 rfl rfl rfl rfl ?_
        refine y_op (pc' := 47) xD_115 rfl rfl rfl rfl ?_
        refine y_ci (pc' := 48) (1) xD_115 rfl rfl rfl rfl ?_
        refine y_op (pc' := 49) xD_115 rfl rfl rfl rfl ?_
        refine y_ci (pc' := 50) (1) xD_115 rfl rfl rfl rfl ?_
        refine y_icne (pt := 113) (pf := 53) xD_115 rfl rfl rfl (fun h50 => ?_) (fun h50 => ?_)
        · skip
          exact nxt T _ _ h1 (fun _ q => q) (fun hxy q => absurd (h2 hxy p q) (fun t => h50 (b1.mpr t)))
        · skip
          refine y_loc (pc' := 54) xD_115 rfl rfl rfl rfl ?_
          refine y_loc (pc' := 55) xD_115 rfl rfl rfl rfl ?_
          refine y_loc (pc' := 57) xD_115 rfl rfl rfl rfl ?_
          refine y_ci (pc' := 58) (0) xD_115 rfl rfl rfl rfl ?_
          refine y_callV xD_115 rfl rfl rfl rfl (by first | rfl | assumption) rfl rfl rfl rfl (p0) (fun v h' hq => ?_)
          obtain ⟨rfl, rfl⟩ := hq
          refine y_loc (pc' := 63) xD_115 rfl rfl rfl rfl ?_
          refine y_loc (pc' := 64) xD_115 rfl rfl rfl rfl ?_
          refine y_loc (pc' := 65) xD_115 rfl rfl rfl rfl ?_
          refine y_loc (pc' := 67) xD_115 rfl rfl rfl rfl ?_
          refine y_ci (pc' := 68) (1) xD_115 rfl rfl rfl rfl ?_
          refine y_callV xD_115 rfl rfl rfl rfl (by first | rfl | assumption) rfl rfl rfl rfl (p1) (fun v h' hq => ?_)
          obtain ⟨rfl, rfl⟩ := hq
          refine y_loc (pc' := 73) xD_115 rfl rfl rfl rfl ?_
          refine y_loc (pc' := 75) xD_115 rfl rfl rfl rfl ?_
          refine y_loc (pc' := 76) xD_115 rfl rfl rfl rfl ?_
          refine y_icne (pt := 84) (pf := 79) xD_115 rfl rfl rfl (fun h76 => ?_) (fun h76 => ?_)
          · skip
            refine y_loc (pc' := 86) xD_115 rfl rfl rfl rfl ?_
            refine y_ci (pc' := 87) (1) xD_115 rfl rfl rfl rfl ?_
            refine y_loc (pc' := 89) xD_115 rfl rfl rfl rfl ?_
            refine y_op (pc' := 90) xD_115 rfl rfl rfl rfl ?_
            refine y_op (pc' := 91) xD_115 rfl rfl rfl rfl ?_
            refine y_loc (pc' := 93) xD_115 rfl rfl rfl rfl ?_
            first
            | exact tail2 (b1.mp h50) T h1 (fun _ q => q) (fun q => absurd (hb1.mp h76) q)
            | exact tail2 (b1.mp h50) _ (fun v hv q => ((or1 l1 hv).mp q).elim (fun t => h1 v hv t) (fun t => by obtain ⟨-, -, hxy, jj, hjj⟩ := h1 p (by omega) (b1.mp h50); rw [t]; exact ⟨l1, fun u => h76 (hb1.mpr u), hxy, jj + 1, p, hjj, by omega, fun u => h76 (hb1.mpr u), Or.inl eu1⟩)) (fun v q => (or1 l1 (hi32 q)).mpr (Or.inl q)) (fun _ => (or1 l1 (by omega)).mpr (Or.inr rfl))
          · skip
            refine y_loc (pc' := 81) xD_115 rfl rfl rfl rfl ?_
            refine y_goto (pc' := 91) xD_115 rfl rfl ?_
            refine y_loc (pc' := 93) xD_115 rfl rfl rfl rfl ?_
            first
            | exact tail2 (b1.mp h50) T h1 (fun _ q => q) (fun q => absurd (hb1.mp h76) q)
            | exact tail2 (b1.mp h50) _ (fun v hv q => ((or1 l1 hv).mp q).elim (fun t => h1 v hv t) (fun t => by obtain ⟨-, -, hxy, jj, hjj⟩ := h1 p (by omega) (b1.mp h50); rw [t]; exact ⟨l1, fun u => h76 (hb1.mpr u), hxy, jj + 1, p, hjj, by omega, fun u => h76 (hb1.mpr u), Or.inl eu1⟩)) (fun v q => (or1 l1 (hi32 q)).mpr (Or.inl q)) (fun _ => (or1 l1 (by omega)).mpr (Or.inr rfl))
  have outer : ∀ (f r : Nat), r + f = n + 1 → ∀ (T : Int32) (q7 q8 q9 : Option Value), (∀ v, v < 32 → ib T v = true → v ≤ n ∧ v ≠ y ∧ x ≠ y ∧ ∃ j, q_P (gE cd n y) x j v) → (x ≠ y → ∀ v, (∃ j, j ≤ r ∧ q_P (gE cd n y) x j v) → ib T v = true) → XP S (d + 3) 115 25 [some (.ref 261), some (.int (nI m)), some (.int (nI x)), some (.int xy), some (.int (nI n)), some (.int T), some (.int (nI r)), q7, q8, q9] [] (hh I J R) (fun v h' => (∃ t : Bool, (t = true ↔ wy cd n y x) ∧ v = some (.int (zB t))) ∧ h' = hh I J R) := by
    intro f
    induction f with
    | zero =>
      intro r hr T q7 q8 q9 h1 h2
      have b1 := bit1 (g := n) (by omega) T
      have key : ib T n = true ↔ wy cd n y x := ⟨fun q => ⟨(h1 n (by omega) q).2.2.1, (h1 n (by omega) q).2.2.2⟩, fun q => by
        obtain ⟨j, hj, hp⟩ := wy_n hx q
        exact h2 q.1 n ⟨j, by omega, hp⟩⟩
      refine y_loc (pc' := 27) xD_115 rfl rfl rfl rfl ?_
      refine y_loc (pc' := 29) xD_115 rfl rfl rfl rfl ?_
      refine y_icgt (pt := 125) (pf := 32) xD_115 rfl rfl rfl (fun h29 => ?_) (fun h29 => ?_)
      · skip
        refine y_loc (pc' := 127) xD_115 rfl rfl rfl rfl ?_
        refine y_loc (pc' := 129) xD_115 rfl rfl rfl rfl ?_
        refine y_op (pc' := 130) xD_115 rfl rfl rfl rfl ?_
        refine y_ci (pc' := 131) (1) xD_115 rfl rfl rfl rfl ?_
        refine y_op (pc' := 132) xD_115 rfl rfl rfl rfl ?_
        refine y_ci (pc' := 133) (1) xD_115 rfl rfl rfl rfl ?_
        refine y_icne (pt := 140) (pf := 136) xD_115 rfl rfl rfl (fun h133 => ?_) (fun h133 => ?_)
        · skip
          refine y_ci (pc' := 141) (0) xD_115 rfl rfl rfl rfl ?_
          refine y_retZ xD_115 rfl rfl (by first | decide | assumption) ?_
          first | exact ⟨⟨true, ⟨fun _ => key.mp (b1.mp h133), fun _ => rfl⟩, rfl⟩, rfl⟩ | exact ⟨⟨false, ⟨fun q => absurd q (by decide), fun q => absurd (b1.mpr (key.mpr q)) h133⟩, rfl⟩, rfl⟩
        · skip
          refine y_ci (pc' := 137) (1) xD_115 rfl rfl rfl rfl ?_
          refine y_goto (pc' := 141) xD_115 rfl rfl ?_
          refine y_retZ xD_115 rfl rfl (by first | decide | assumption) ?_
          first | exact ⟨⟨true, ⟨fun _ => key.mp (b1.mp h133), fun _ => rfl⟩, rfl⟩, rfl⟩ | exact ⟨⟨false, ⟨fun q => absurd q (by decide), fun q => absurd (b1.mpr (key.mpr q)) h133⟩, rfl⟩, rfl⟩
      · skip
        exact absurd (nI_lt (a := n) (b := r) (by omega) (by omega)) h29
    | succ f ih =>
      intro r hr T q7 q8 q9 h1 h2
      refine y_loc (pc' := 27) xD_115 rfl rfl rfl rfl ?_
      refine y_loc (pc' := 29) xD_115 rfl rfl rfl rfl ?_
      refine y_icgt (pt := 125) (pf := 32) xD_115 rfl rfl rfl (fun h29 => ?_) (fun h29 => ?_)
      · skip
        exact absurd h29 (nI_nlt (by omega) (by omega))
      · skip
        refine y_ci (pc' := 33) (0) xD_115 rfl rfl rfl rfl ?_
        refine y_loc (pc' := 35) xD_115 rfl rfl rfl rfl ?_
        exact inner r (fun T a b c e1 e2 => ih (r + 1) (by omega) T a b c e1 e2) n 0 (by omega) T _ _ h1 h2 (fun _ a v ha => absurd ha (by omega))
  have hbx := hb x hx
  rw [← ecd]
  refine y_loc (pc' := 1) xD_115 rfl rfl rfl rfl ?_
  first | refine m_getR (pc' := 4) xD_115 rfl rfl rfl rfl (hR.1 _ _ _ rfl) rfl ?_ | refine m_getR (pc' := 4) xD_115 rfl rfl (by first | rfl | assumption) rfl (by assumption) rfl ?_
  refine y_loc (pc' := 5) xD_115 rfl rfl rfl rfl ?_
  refine m_iald (pc' := 6) (m) xD_115 rfl (by first | rfl | assumption) (by first | assumption | omega) (by first | decide | assumption) (by first | decide | omega) (by first | rfl | assumption) rfl ?_
  rw [hn]
  refine y_loc (pc' := 8) xD_115 rfl rfl rfl rfl ?_
  refine y_loc (pc' := 9) xD_115 rfl rfl rfl rfl ?_
  refine y_loc (pc' := 10) xD_115 rfl rfl rfl rfl ?_
  refine y_icne (pt := 17) (pf := 13) xD_115 rfl rfl rfl (fun h10 => ?_) (fun h10 => ?_)
  · skip
    refine y_ci (pc' := 18) (1) xD_115 rfl rfl rfl rfl ?_
    refine y_loc (pc' := 19) xD_115 rfl rfl rfl rfl ?_
    refine y_op (pc' := 20) xD_115 rfl rfl rfl rfl ?_
    refine y_loc (pc' := 22) xD_115 rfl rfl rfl rfl ?_
    refine y_ci (pc' := 23) (0) xD_115 rfl rfl rfl rfl ?_
    refine y_loc (pc' := 25) xD_115 rfl rfl rfl rfl ?_
    first
    | exact outer (n + 1) 0 (by omega) 0 _ _ _ (fun v hv q => by rw [ib_0] at q; exact absurd q (by decide)) (fun hxy => absurd (hbx.mp h10) hxy)
    | exact outer (n + 1) 0 (by omega) _ _ _ _ (fun v hv q => by rw [ib_shl (by omega) v hv, decide_eq_true_eq] at q; rw [q]; exact ⟨hx, fun t => h10 (hbx.mpr t), fun t => h10 (hbx.mpr t), 0, rfl⟩) (fun hxy v q => by obtain ⟨j, hj, hp⟩ := q; have e : j = 0 := (by omega); subst e; have e : v = x := hp; rw [e, ib_shl (by omega) x (by omega), decide_eq_true rfl])
  · skip
    refine y_ci (pc' := 14) (0) xD_115 rfl rfl rfl rfl ?_
    refine y_goto (pc' := 20) xD_115 rfl rfl ?_
    refine y_loc (pc' := 22) xD_115 rfl rfl rfl rfl ?_
    refine y_ci (pc' := 23) (0) xD_115 rfl rfl rfl rfl ?_
    refine y_loc (pc' := 25) xD_115 rfl rfl rfl rfl ?_
    first
    | exact outer (n + 1) 0 (by omega) 0 _ _ _ (fun v hv q => by rw [ib_0] at q; exact absurd q (by decide)) (fun hxy => absurd (hbx.mp h10) hxy)
    | exact outer (n + 1) 0 (by omega) _ _ _ _ (fun v hv q => by rw [ib_shl (by omega) v hv, decide_eq_true_eq] at q; rw [q]; exact ⟨hx, fun t => h10 (hbx.mpr t), fun t => h10 (hbx.mpr t), 0, rfl⟩) (fun hxy v q => by obtain ⟨j, hj, hp⟩ := q; have e : j = 0 := (by omega); subst e; have e : v = x := hp; rw [e, ib_shl (by omega) x (by omega), decide_eq_true rfl])
/-- the model's must(m, y, x) -/
theorem s_must (hR : RF R) (hm : m < 2) (hn : I 265 m = nI n) (hn2 : n ≤ 10) (hV : VC (cdM I m) n) (x : Nat) (hx : x ≤ n) (hy : y < n) {xm xy xx : Int32} (e1 : xm = nI m) (e2 : xy = nI y) (e3 : xx = nI x) :
    XP S (d + 4) 114 0 (xent [.ref 261, .int xm, .int xy, .int xx] 4) [] (hh I J R) (fun v h' => (∃ t : Bool, (t = true ↔ ms (cdM I m) n y x) ∧ v = some (.int (zB t))) ∧ h' = hh I J R) := by
  subst e1; subst e2; subst e3
  refine y_loc (pc' := 1) xD_114 rfl rfl rfl rfl ?_
  refine y_loc (pc' := 2) xD_114 rfl rfl rfl rfl ?_
  refine y_loc (pc' := 3) xD_114 rfl rfl rfl rfl ?_
  refine y_ci (pc' := 4) (-1) xD_114 rfl rfl rfl rfl ?_
  refine y_callV xD_114 rfl rfl rfl rfl (by first | rfl | assumption) rfl rfl rfl rfl (s_way (d := d) (y := 99) hR hm hn hn2 hV x hx (by omega) (fun v hv => ⟨fun q => absurd q (nI_m1 (by omega)), fun q => absurd q (by omega)⟩)) (fun v h' hq => ?_)
  obtain ⟨⟨t1, k1, rfl⟩, rfl⟩ := hq
  refine y_ifeq (pt := 24) (pf := 10) xD_114 rfl rfl rfl (fun h7 => ?_) (fun h7 => ?_)
  · skip
    refine y_ci (pc' := 25) (0) xD_114 rfl rfl rfl rfl ?_
    refine y_retZ xD_114 rfl rfl (by first | decide | assumption) ?_
    refine ⟨⟨false, ⟨fun q => absurd q (by decide), fun q => ?_⟩, rfl⟩, rfl⟩
    have := k1.mpr q.1
    rw [zB_f.mp h7] at this
    exact absurd this (by decide)
  · skip
    have y1 : wy (cdM I m) n 99 x := k1.mp (by rw [zB_f, Bool.not_eq_false] at h7; exact h7)
    refine y_loc (pc' := 11) xD_114 rfl rfl rfl rfl ?_
    refine y_loc (pc' := 12) xD_114 rfl rfl rfl rfl ?_
    refine y_loc (pc' := 13) xD_114 rfl rfl rfl rfl ?_
    refine y_loc (pc' := 14) xD_114 rfl rfl rfl rfl ?_
    refine y_callV xD_114 rfl rfl rfl rfl (by first | rfl | assumption) rfl rfl rfl rfl (s_way (d := d) (y := y) hR hm hn hn2 hV x hx (by omega) (fun v hv => nI_inj (by omega) (by omega))) (fun v h' hq => ?_)
    obtain ⟨⟨t2, k2, rfl⟩, rfl⟩ := hq
    refine y_ifne (pt := 24) (pf := 20) xD_114 rfl rfl rfl (fun h17 => ?_) (fun h17 => ?_)
    · skip
      refine y_ci (pc' := 25) (0) xD_114 rfl rfl rfl rfl ?_
      refine y_retZ xD_114 rfl rfl (by first | decide | assumption) ?_
      exact ⟨⟨false, ⟨fun q => absurd q (by decide), fun q => absurd (k2.mp (by rw [zB_f, Bool.not_eq_false] at h17; exact h17)) q.2⟩, rfl⟩, rfl⟩
    · skip
      refine y_ci (pc' := 21) (1) xD_114 rfl rfl rfl rfl ?_
      refine y_goto (pc' := 25) xD_114 rfl rfl ?_
      refine y_retZ xD_114 rfl rfl (by first | decide | assumption) ?_
      exact ⟨⟨true, ⟨fun _ => ⟨y1, fun q => by have := k2.mpr q; rw [zB_f.mp h17] at this; exact absurd this (by decide)⟩, fun _ => rfl⟩, rfl⟩, rfl⟩
end WY

