/-! The fronts and the places: the model. -/
theorem bn_up {F : Nat → Nat → Int64} {act : Int32} {fr : Nat → Nat} {f k o : Nat} (h : bn F act fr f k o = true) : ∀ m, bn F act fr f k (o + m) = true
  | 0 => h
  | m + 1 => by
    show (bn F act fr f k (o + m) || _) = true
    rw [bn_up h m]; rfl
theorem e1_le {f x : Nat} (hf : f ≤ 7) (h : x = 8 ∨ x ≤ f) : e1 f x ≤ 30 ∧ (e1 f x < 10 ↔ x < f) ∧ (e1 f x = 30 ↔ x = 8) ∧ (e1 f x = 10 + f ↔ x = f) := by
  unfold e1
  split
  · omega
  · split <;> omega
section MF
variable {S : XS} {d n : Nat} {I : Nat → Nat → Int32} {J : Nat → Nat → Int64} {R : Nat → Nat → Option Nat} {sz : Nat → Nat} {F : Nat → Nat → Int64} {act : Int32}
theorem s_fr_o (hR : RF R) (hn : n ≤ 7) (hF : FM J F act n) {f k : Nat} (hf : f ≤ 7) {fr : Nat → Nat} (hok : ∀ j, fr j = 8 ∨ fr j ≤ f) {r : Nat → Int32} (hr : ∀ j, j < n → r j = nI (e1 f (fr j))) (hk : k < n) {Q : Option Value → XH → Prop}
    (K : ∀ q6 : Option Value, XP S (d + 2) 134 98 [some (.ref 261), some (.int (nI n)), some (.int act), some (.int (nI f)), some (.int (nI k)), some (.int (zB (decide (fr k = 8) && !bn F act fr f k n))), q6] [] (hh (xrow I 275 r) J R) Q) : ∀ (m o : Nat), o + m = n →
    XP S (d + 2) 134 38 [some (.ref 261), some (.int (nI n)), some (.int act), some (.int (nI f)), some (.int (nI k)), some (.int (zB (decide (fr k = 8) && !bn F act fr f k o))), some (.int (nI o))] [] (hh (xrow I 275 r) J R) Q := by
  intro m
  induction m with
  | zero =>
    intro o ho
    have ho : o = n := by omega
    subst ho
    refine y_loc (pc' := 40) xD_134 rfl rfl rfl rfl ?_
    refine y_loc (pc' := 41) xD_134 rfl rfl rfl rfl ?_
    refine y_icge (pt := 98) (pf := 44) xD_134 rfl rfl rfl (fun h41 => ?_) (fun h41 => ?_)
    · skip
      exact K _
    · skip
      exact absurd (Int32.le_refl _) h41
  | succ m ih =>
    intro o ho
    have el := e1_le hf (hok o)
    have ro := hr o (by omega)
    have b1 := bt_le (F := F) (act := act) (o := o) (k := k)
    have b2 := bt_le (F := F) (act := act) (o := k) (k := o)
    have l10 : nI (e1 f (fr o)) < 10 ↔ e1 f (fr o) < 10 := nI_ltI (b := 10) (by omega) (by decide)
    have z1 : nI (bt F act o k) = 0 ↔ bt F act o k = 0 := nI_z (by omega)
    have l2 : nI (bt F act k o) ≤ 0 ↔ bt F act k o ≤ 0 := nI_leI (b := 0) (by omega) (by decide)
    have stop : (decide (fr k = 8) && !bn F act fr f k o) = false → (decide (fr k = 8) && !bn F act fr f k n) = false := by
      intro q
      by_cases e : fr k = 8
      · rw [decide_eq_true e, Bool.true_and, Bool.not_eq_false'] at q
        have := bn_up q (m + 1)
        rw [show o + (m + 1) = n by omega] at this
        rw [this, Bool.not_true, Bool.and_false]
      · rw [decide_eq_false e, Bool.false_and]
    have nx : ∀ z : Int32, (decide (fr k = 8) && !bn F act fr f k o) = true → (z = 1 ∧ ¬ (f ≤ fr o ∧ 0 < bt F act o k ∧ bt F act k o = 0) ∨ z = 0 ∧ (f ≤ fr o ∧ 0 < bt F act o k ∧ bt F act k o = 0)) → z = zB (decide (fr k = 8) && !bn F act fr f k (o + 1)) := by
      intro z q hz
      rw [Bool.and_eq_true, Bool.not_eq_true'] at q
      simp only [bn]
      rw [q.1, q.2, Bool.true_and, Bool.false_or]
      rcases hz with ⟨rfl, t⟩ | ⟨rfl, t⟩
      · have : (decide (f ≤ fr o) && decide (0 < bt F act o k) && decide (bt F act k o = 0)) = false := by
          rw [← Bool.not_eq_true, Bool.and_eq_true, Bool.and_eq_true, decide_eq_true_eq, decide_eq_true_eq, decide_eq_true_eq]
          exact fun u => t ⟨u.1.1, u.1.2, u.2⟩
        rw [this]; rfl
      · rw [decide_eq_true t.1, decide_eq_true t.2.1, decide_eq_true t.2.2]; rfl
    have tail : ∀ z : Int32, z = zB (decide (fr k = 8) && !bn F act fr f k (o + 1)) → XP S (d + 2) 134 90 [some (.ref 261), some (.int (nI n)), some (.int act), some (.int (nI f)), some (.int (nI k)), some (.int (zB (decide (fr k = 8) && !bn F act fr f k o))), some (.int (nI o))] [.int z] (hh (xrow I 275 r) J R) Q := by
      intro z hz
      subst hz
      refine y_loc (pc' := 92) xD_134 rfl rfl rfl rfl ?_
      refine y_inc (pc' := 95) (nI (o + 1)) xD_134 rfl rfl rfl (nI_1 (o)) rfl rfl ?_
      refine y_goto (pc' := 38) xD_134 rfl rfl ?_
      exact ih (o + 1) (by omega)
    have tt : ¬ zB (decide (fr k = 8) && !bn F act fr f k o) = 0 → (decide (fr k = 8) && !bn F act fr f k o) = true := fun q => by
      rw [zB_f] at q
      exact Bool.not_eq_false _ ▸ q
    refine y_loc (pc' := 40) xD_134 rfl rfl rfl rfl ?_
    refine y_loc (pc' := 41) xD_134 rfl rfl rfl rfl ?_
    refine y_icge (pt := 98) (pf := 44) xD_134 rfl rfl rfl (fun h41 => ?_) (fun h41 => ?_)
    · skip
      first
      | exact absurd h41 (nI_ge (a := o) (b := n) (by omega) (by omega))
      | (have := K (some (.int (nI o)))
         rw [stop (zB_f.mp h46)] at this
         rw [zB_f.mp h46]
         exact this)
    · skip
      refine y_loc (pc' := 46) xD_134 rfl rfl rfl rfl ?_
      refine y_ifeq (pt := 98) (pf := 49) xD_134 rfl rfl rfl (fun h46 => ?_) (fun h46 => ?_)
      · skip
        first
        | exact absurd h41 (nI_ge (a := o) (b := n) (by omega) (by omega))
        | (have := K (some (.int (nI o)))
           rw [stop (zB_f.mp h46)] at this
           rw [zB_f.mp h46]
           exact this)
      · skip
        refine y_loc (pc' := 50) xD_134 rfl rfl rfl rfl ?_
        first | refine m_getR (pc' := 53) xD_134 rfl rfl rfl rfl (hR.1 _ _ _ rfl) rfl ?_ | refine m_getR (pc' := 53) xD_134 rfl rfl (by first | rfl | assumption) rfl (by assumption) rfl ?_
        refine y_loc (pc' := 55) xD_134 rfl rfl rfl rfl ?_
        refine m_iald (pc' := 56) (o) xD_134 rfl (by first | rfl | assumption) (by first | assumption | omega) (by first | decide | assumption) (by first | decide | omega) (by first | rfl | assumption) rfl ?_
        rw [xrow_at, ro]
        refine y_ci (pc' := 58) (10) xD_134 rfl rfl rfl rfl ?_
        refine y_iclt (pt := 85) (pf := 61) xD_134 rfl rfl rfl (fun h58 => ?_) (fun h58 => ?_)
        · skip
          refine y_ci (pc' := 86) (1) xD_134 rfl rfl rfl rfl ?_
          refine y_goto (pc' := 90) xD_134 rfl rfl ?_
          first
          | exact tail _ (nx 1 (tt h46) (Or.inl ⟨rfl, fun t => absurd (el.2.1.mp (l10.mp h58)) (by omega)⟩))
          | exact tail _ (nx 1 (tt h46) (Or.inl ⟨rfl, fun t => absurd (z1.mp h70) (by omega)⟩))
          | exact tail _ (nx 0 (tt h46) (Or.inr ⟨rfl, Nat.le_of_not_lt (fun q => h58 (l10.mpr (el.2.1.mpr q))), Nat.pos_of_ne_zero (fun q => h70 (z1.mpr q)), Nat.le_zero.mp (l2.mp h82)⟩))
          | exact tail _ (nx 1 (tt h46) (Or.inl ⟨rfl, fun t => h82 (l2.mpr (Nat.le_of_eq t.2.2))⟩))
        · skip
          refine y_loc (pc' := 62) xD_134 rfl rfl rfl rfl ?_
          refine y_loc (pc' := 64) xD_134 rfl rfl rfl rfl ?_
          refine y_loc (pc' := 66) xD_134 rfl rfl rfl rfl ?_
          refine y_loc (pc' := 67) xD_134 rfl rfl rfl rfl ?_
          refine y_callV xD_134 rfl rfl rfl rfl (by first | rfl | assumption) rfl rfl rfl rfl (s_better (d := d) (F := F) (n := n) hR hn hF (o := o) (k := k) (by omega) hk rfl rfl) (fun v h' hq => ?_)
          obtain ⟨rfl, rfl⟩ := hq
          refine y_ifeq (pt := 85) (pf := 73) xD_134 rfl rfl rfl (fun h70 => ?_) (fun h70 => ?_)
          · skip
            refine y_ci (pc' := 86) (1) xD_134 rfl rfl rfl rfl ?_
            refine y_goto (pc' := 90) xD_134 rfl rfl ?_
            first
            | exact tail _ (nx 1 (tt h46) (Or.inl ⟨rfl, fun t => absurd (el.2.1.mp (l10.mp h58)) (by omega)⟩))
            | exact tail _ (nx 1 (tt h46) (Or.inl ⟨rfl, fun t => absurd (z1.mp h70) (by omega)⟩))
            | exact tail _ (nx 0 (tt h46) (Or.inr ⟨rfl, Nat.le_of_not_lt (fun q => h58 (l10.mpr (el.2.1.mpr q))), Nat.pos_of_ne_zero (fun q => h70 (z1.mpr q)), Nat.le_zero.mp (l2.mp h82)⟩))
            | exact tail _ (nx 1 (tt h46) (Or.inl ⟨rfl, fun t => h82 (l2.mpr (Nat.le_of_eq t.2.2))⟩))
          · skip
            refine y_loc (pc' := 74) xD_134 rfl rfl rfl rfl ?_
            refine y_loc (pc' := 76) xD_134 rfl rfl rfl rfl ?_
            refine y_loc (pc' := 78) xD_134 rfl rfl rfl rfl ?_
            refine y_loc (pc' := 79) xD_134 rfl rfl rfl rfl ?_
            refine y_callV xD_134 rfl rfl rfl rfl (by first | rfl | assumption) rfl rfl rfl rfl (s_better (d := d) (F := F) (n := n) hR hn hF (o := k) (k := o) hk (by omega) rfl rfl) (fun v h' hq => ?_)
            obtain ⟨rfl, rfl⟩ := hq
            refine y_ifle (pt := 89) (pf := 85) xD_134 rfl rfl rfl (fun h82 => ?_) (fun h82 => ?_)
            · skip
              refine y_ci (pc' := 90) (0) xD_134 rfl rfl rfl rfl ?_
              first
              | exact tail _ (nx 1 (tt h46) (Or.inl ⟨rfl, fun t => absurd (el.2.1.mp (l10.mp h58)) (by omega)⟩))
              | exact tail _ (nx 1 (tt h46) (Or.inl ⟨rfl, fun t => absurd (z1.mp h70) (by omega)⟩))
              | exact tail _ (nx 0 (tt h46) (Or.inr ⟨rfl, Nat.le_of_not_lt (fun q => h58 (l10.mpr (el.2.1.mpr q))), Nat.pos_of_ne_zero (fun q => h70 (z1.mpr q)), Nat.le_zero.mp (l2.mp h82)⟩))
              | exact tail _ (nx 1 (tt h46) (Or.inl ⟨rfl, fun t => h82 (l2.mpr (Nat.le_of_eq t.2.2))⟩))
            · skip
              refine y_ci (pc' := 86) (1) xD_134 rfl rfl rfl rfl ?_
              refine y_goto (pc' := 90) xD_134 rfl rfl ?_
              first
              | exact tail _ (nx 1 (tt h46) (Or.inl ⟨rfl, fun t => absurd (el.2.1.mp (l10.mp h58)) (by omega)⟩))
              | exact tail _ (nx 1 (tt h46) (Or.inl ⟨rfl, fun t => absurd (z1.mp h70) (by omega)⟩))
              | exact tail _ (nx 0 (tt h46) (Or.inr ⟨rfl, Nat.le_of_not_lt (fun q => h58 (l10.mpr (el.2.1.mpr q))), Nat.pos_of_ne_zero (fun q => h70 (z1.mpr q)), Nat.le_zero.mp (l2.mp h82)⟩))
              | exact tail _ (nx 1 (tt h46) (Or.inl ⟨rfl, fun t => h82 (l2.mpr (Nat.le_of_eq t.2.2))⟩))
/-- fronts(n, set) -/
theorem s_fronts (hR : RF R) (hn : n ≤ 7) (hF : FM J F act n) {r0 : Nat → Int32} (h0 : ∀ k, k < n → r0 k = nI (e0 (ff F sz act n 0 k))) :
    XP S (d + 2) 134 0 (xent [.ref 261, .int (nI n), .int act] 7) [] (hh (xrow I 275 r0) J R) (fun v h' => v = none ∧ ∃ r, h' = hh (xrow I 275 r) J R ∧ ∀ k, k < n → r k = nI (e0 (ff F sz act n n k))) := by
  have conv : ∀ (f : Nat), 1 ≤ f → f ≤ 7 → ∀ fr : Nat → Nat, (∀ j, fr j = 8 ∨ fr j ≤ f) → ∀ {Q : Option Value → XH → Prop}, (∀ (r : Nat → Int32) (q4 q5 q6 : Option Value), (∀ j, j < n → r j = nI (e0 (fr j))) → XP S (d + 2) 134 2 [some (.ref 261), some (.int (nI n)), some (.int act), some (.int (nI (f + 1))), q4, q5, q6] [] (hh (xrow I 275 r) J R) Q) → ∀ (m i : Nat), i + m = n → ∀ (r : Nat → Int32) (q5 q6 : Option Value), (∀ j, j < n → r j = nI (if j < i then e0 (fr j) else e1 f (fr j))) → XP S (d + 2) 134 133 [some (.ref 261), some (.int (nI n)), some (.int act), some (.int (nI f)), some (.int (nI i)), q5, q6] [] (hh (xrow I 275 r) J R) Q := by
    intro f f1 f7 fr hok Q K m
    have e10 : (10 : Int32) + nI f = nI (10 + f) := nI_add 10 f
    induction m with
    | zero =>
      intro i hi r q5 q6 hr
      have hi : i = n := by omega
      subst hi
      refine y_loc (pc' := 135) xD_134 rfl rfl rfl rfl ?_
      refine y_loc (pc' := 136) xD_134 rfl rfl rfl rfl ?_
      refine y_icge (pt := 177) (pf := 139) xD_134 rfl rfl rfl (fun h136 => ?_) (fun h136 => ?_)
      · skip
        refine y_inc (pc' := 180) (nI (f + 1)) xD_134 rfl rfl rfl (nI_1 (f)) rfl rfl ?_
        refine y_goto (pc' := 2) xD_134 rfl rfl ?_
        exact K r _ _ _ (fun j hj => by rw [hr j hj, if_pos hj])
      · skip
        exact absurd (Int32.le_refl _) h136
    | succ m ih =>
      intro i hi r q5 q6 hr
      have el := e1_le f7 (hok i)
      have ri : r i = nI (e1 f (fr i)) := by rw [hr i (by omega), if_neg (by omega)]
      have eq : nI (e1 f (fr i)) = nI (10 + f) ↔ fr i = f := by rw [nI_inj (by omega) (by omega)]; exact el.2.2.2
      have tail : ∀ z : Int32, z = nI (e0 (fr i)) → XP S (d + 2) 134 170 [some (.ref 261), some (.int (nI n)), some (.int act), some (.int (nI f)), some (.int (nI i)), q5, q6] [.int z, .int (nI i), .ref 275] (hh (xrow I 275 r) J R) Q := by
        intro z hz
        subst hz
        refine m_iast (pc' := 171) (i) xD_134 rfl (by first | rfl | assumption) (by first | assumption | omega) (by first | decide | assumption) (by first | rfl | assumption) rfl ?_
        refine y_inc (pc' := 174) (nI (i + 1)) xD_134 rfl rfl rfl (nI_1 (i)) rfl rfl ?_
        refine y_goto (pc' := 133) xD_134 rfl rfl ?_
        rw [xu_row, xrow_row, xrow_at]
        refine ih (i + 1) (by omega) _ q5 q6 (fun j hj => ?_)
        by_cases e : j = i
        · subst e; rw [if_pos rfl, if_pos (by omega)]
        · rw [if_neg e, hr j hj]
          by_cases l : j < i
          · rw [if_pos l, if_pos (by omega)]
          · rw [if_neg l, if_neg (by omega)]
      refine y_loc (pc' := 135) xD_134 rfl rfl rfl rfl ?_
      refine y_loc (pc' := 136) xD_134 rfl rfl rfl rfl ?_
      refine y_icge (pt := 177) (pf := 139) xD_134 rfl rfl rfl (fun h136 => ?_) (fun h136 => ?_)
      · skip
        exact absurd h136 (nI_ge (a := i) (b := n) (by omega) (by omega))
      · skip
        refine y_loc (pc' := 140) xD_134 rfl rfl rfl rfl ?_
        first | refine m_getR (pc' := 143) xD_134 rfl rfl rfl rfl (hR.1 _ _ _ rfl) rfl ?_ | refine m_getR (pc' := 143) xD_134 rfl rfl (by first | rfl | assumption) rfl (by assumption) rfl ?_
        refine y_loc (pc' := 145) xD_134 rfl rfl rfl rfl ?_
        refine y_loc (pc' := 146) xD_134 rfl rfl rfl rfl ?_
        first | refine m_getR (pc' := 149) xD_134 rfl rfl rfl rfl (hR.1 _ _ _ rfl) rfl ?_ | refine m_getR (pc' := 149) xD_134 rfl rfl (by first | rfl | assumption) rfl (by assumption) rfl ?_
        refine y_loc (pc' := 151) xD_134 rfl rfl rfl rfl ?_
        refine m_iald (pc' := 152) (i) xD_134 rfl (by first | rfl | assumption) (by first | assumption | omega) (by first | decide | assumption) (by first | decide | omega) (by first | rfl | assumption) rfl ?_
        rw [xrow_at, ri]
        refine y_ci (pc' := 154) (10) xD_134 rfl rfl rfl rfl ?_
        refine y_loc (pc' := 155) xD_134 rfl rfl rfl rfl ?_
        refine y_iadd (pc' := 156) xD_134 rfl (e10) rfl ?_
        refine y_icne (pt := 163) (pf := 159) xD_134 rfl rfl rfl (fun h156 => ?_) (fun h156 => ?_)
        · skip
          refine y_loc (pc' := 164) xD_134 rfl rfl rfl rfl ?_
          first | refine m_getR (pc' := 167) xD_134 rfl rfl rfl rfl (hR.1 _ _ _ rfl) rfl ?_ | refine m_getR (pc' := 167) xD_134 rfl rfl (by first | rfl | assumption) rfl (by assumption) rfl ?_
          refine y_loc (pc' := 169) xD_134 rfl rfl rfl rfl ?_
          refine m_iald (pc' := 170) (i) xD_134 rfl (by first | rfl | assumption) (by first | assumption | omega) (by first | decide | assumption) (by first | decide | omega) (by first | rfl | assumption) rfl ?_
          rw [xrow_at, ri]
          first
          | exact tail _ (by rw [eq.mp h156]; unfold e0; rw [if_neg (by omega)])
          | exact tail _ (by have := fun q => h156 (eq.mpr q); unfold e0 e1; by_cases t : fr i = 8; rw [if_pos t, if_pos t]; rw [if_neg t, if_neg t, if_neg this])
        · skip
          refine y_loc (pc' := 160) xD_134 rfl rfl rfl rfl ?_
          refine y_goto (pc' := 170) xD_134 rfl rfl ?_
          first
          | exact tail _ (by rw [eq.mp h156]; unfold e0; rw [if_neg (by omega)])
          | exact tail _ (by have := fun q => h156 (eq.mpr q); unfold e0 e1; by_cases t : fr i = 8; rw [if_pos t, if_pos t]; rw [if_neg t, if_neg t, if_neg this])
  have inner : ∀ (f : Nat), f < n → ∀ {Q : Option Value → XH → Prop}, (∀ (r : Nat → Int32) (q4 q5 q6 : Option Value), (∀ j, j < n → r j = nI (e0 (ff F sz act n (f + 1) j))) → XP S (d + 2) 134 2 [some (.ref 261), some (.int (nI n)), some (.int act), some (.int (nI (f + 2))), q4, q5, q6] [] (hh (xrow I 275 r) J R) Q) → ∀ (m k : Nat), k + m = n → ∀ (r : Nat → Int32) (q5 q6 : Option Value), (∀ j, j < n → r j = nI (e1 (f + 1) (fi F act n (f + 1) (ff F sz act n f) k j))) → XP S (d + 2) 134 10 [some (.ref 261), some (.int (nI n)), some (.int act), some (.int (nI (f + 1))), some (.int (nI k)), q5, q6] [] (hh (xrow I 275 r) J R) Q := by
    intro f hf Q K m
    have fok := fi_ok (F := F) (act := act) (n := n) (f := f + 1) (fr := ff F sz act n f) (fun k => (ff_ok f k).imp id (fun q => by omega))
    have e10 : (10 : Int32) + nI (f + 1) = nI (10 + (f + 1)) := nI_add 10 (f + 1)
    induction m with
    | zero =>
      intro k hk r q5 q6 hr
      have hk : k = n := by omega
      subst hk
      refine y_loc (pc' := 12) xD_134 rfl rfl rfl rfl ?_
      refine y_loc (pc' := 13) xD_134 rfl rfl rfl rfl ?_
      refine y_icge (pt := 130) (pf := 16) xD_134 rfl rfl rfl (fun h13 => ?_) (fun h13 => ?_)
      · skip
        refine y_ci (pc' := 131) (0) xD_134 rfl rfl rfl rfl ?_
        refine y_loc (pc' := 133) xD_134 rfl rfl rfl rfl ?_
        exact conv (f + 1) (by omega) (by omega) _ (fok k) K k 0 (by omega) r _ _ (fun j hj => by rw [if_neg (by omega)]; exact hr j hj)
      · skip
        exact absurd (Int32.le_refl _) h13
    | succ m ih =>
      intro k hk r q5 q6 hr
      obtain ⟨fr, efr⟩ : ∃ fr, fr = fi F act n (f + 1) (ff F sz act n f) k := ⟨_, rfl⟩
      have fok' := fok k
      rw [← efr] at hr fok'
      have el := e1_le (f := f + 1) (by omega) (fok' k)
      have rk := hr k (by omega)
      have e30 : nI (e1 (f + 1) (fr k)) = 30 ↔ fr k = 8 := by rw [show (30 : Int32) = nI 30 from rfl, nI_inj (by omega) (by omega)]; exact el.2.2.1
      have nxt : ∀ (r' : Nat → Int32) (q5 q6 : Option Value), (∀ j, j < n → r' j = nI (e1 (f + 1) ((if fr k = 8 ∧ bn F act fr (f + 1) k n = false then un fr k (f + 1) else fr) j))) → XP S (d + 2) 134 124 [some (.ref 261), some (.int (nI n)), some (.int act), some (.int (nI (f + 1))), some (.int (nI k)), q5, q6] [] (hh (xrow I 275 r') J R) Q := by
        intro r' q5 q6 hr'
        refine y_inc (pc' := 127) (nI (k + 1)) xD_134 rfl rfl rfl (nI_1 (k)) rfl rfl ?_
        refine y_goto (pc' := 10) xD_134 rfl rfl ?_
        refine ih (k + 1) (by omega) r' q5 q6 ?_
        simp only [fi]
        rw [← efr]
        exact hr'
      have K98 : ∀ q6 : Option Value, XP S (d + 2) 134 98 [some (.ref 261), some (.int (nI n)), some (.int act), some (.int (nI (f + 1))), some (.int (nI k)), some (.int (zB (decide (fr k = 8) && !bn F act fr (f + 1) k n))), q6] [] (hh (xrow I 275 r) J R) Q := by
        intro q6
        cases hb : (decide (fr k = 8) && !bn F act fr (f + 1) k n) with
        | true =>
          rw [Bool.and_eq_true, decide_eq_true_eq, Bool.not_eq_true'] at hb
          refine y_loc (pc' := 99) xD_134 rfl rfl rfl rfl ?_
          first | refine m_getR (pc' := 102) xD_134 rfl rfl rfl rfl (hR.1 _ _ _ rfl) rfl ?_ | refine m_getR (pc' := 102) xD_134 rfl rfl (by first | rfl | assumption) rfl (by assumption) rfl ?_
          refine y_loc (pc' := 104) xD_134 rfl rfl rfl rfl ?_
          refine y_loc (pc' := 106) xD_134 rfl rfl rfl rfl ?_
          refine y_ifeq (pt := 116) (pf := 109) xD_134 rfl rfl rfl (fun h106 => ?_) (fun h106 => ?_)
          · skip
            exact absurd h106 (by decide)
          · skip
            refine y_ci (pc' := 111) (10) xD_134 rfl rfl rfl rfl ?_
            refine y_loc (pc' := 112) xD_134 rfl rfl rfl rfl ?_
            refine y_iadd (pc' := 113) xD_134 rfl (e10) rfl ?_
            refine y_goto (pc' := 123) xD_134 rfl rfl ?_
            refine m_iast (pc' := 124) (k) xD_134 rfl (by first | rfl | assumption) (by first | assumption | omega) (by first | decide | assumption) (by first | rfl | assumption) rfl ?_
            rw [xu_row, xrow_row, xrow_at]
            refine nxt _ _ _ (fun j hj => ?_)
            rw [if_pos hb]
            unfold un
            by_cases e : j = k
            rw [if_pos e, if_pos e]
            rw [(e1_le (f := f + 1) (x := f + 1) (by omega) (by omega)).2.2.2.mpr rfl]
            rw [if_neg e, if_neg e]
            exact hr j hj
        | false =>
          have hb' : ¬ (fr k = 8 ∧ bn F act fr (f + 1) k n = false) := fun q => by
            rw [decide_eq_true q.1, q.2] at hb
            exact absurd hb (by decide)
          refine y_loc (pc' := 99) xD_134 rfl rfl rfl rfl ?_
          first | refine m_getR (pc' := 102) xD_134 rfl rfl rfl rfl (hR.1 _ _ _ rfl) rfl ?_ | refine m_getR (pc' := 102) xD_134 rfl rfl (by first | rfl | assumption) rfl (by assumption) rfl ?_
          refine y_loc (pc' := 104) xD_134 rfl rfl rfl rfl ?_
          refine y_loc (pc' := 106) xD_134 rfl rfl rfl rfl ?_
          refine y_ifeq (pt := 116) (pf := 109) xD_134 rfl rfl rfl (fun h106 => ?_) (fun h106 => ?_)
          · skip
            refine y_loc (pc' := 117) xD_134 rfl rfl rfl rfl ?_
            first | refine m_getR (pc' := 120) xD_134 rfl rfl rfl rfl (hR.1 _ _ _ rfl) rfl ?_ | refine m_getR (pc' := 120) xD_134 rfl rfl (by first | rfl | assumption) rfl (by assumption) rfl ?_
            refine y_loc (pc' := 122) xD_134 rfl rfl rfl rfl ?_
            refine m_iald (pc' := 123) (k) xD_134 rfl (by first | rfl | assumption) (by first | assumption | omega) (by first | decide | assumption) (by first | decide | omega) (by first | rfl | assumption) rfl ?_
            rw [xrow_at]
            refine m_iast (pc' := 124) (k) xD_134 rfl (by first | rfl | assumption) (by first | assumption | omega) (by first | decide | assumption) (by first | rfl | assumption) rfl ?_
            rw [xu_row, xrow_row, xrow_at]
            refine nxt _ _ _ (fun j hj => ?_)
            rw [if_neg hb']
            by_cases e : j = k
            rw [if_pos e, ← e]
            exact hr j hj
            rw [if_neg e]
            exact hr j hj
          · skip
            exact absurd rfl h106
      refine y_loc (pc' := 12) xD_134 rfl rfl rfl rfl ?_
      refine y_loc (pc' := 13) xD_134 rfl rfl rfl rfl ?_
      refine y_icge (pt := 130) (pf := 16) xD_134 rfl rfl rfl (fun h13 => ?_) (fun h13 => ?_)
      · skip
        exact absurd h13 (nI_ge (a := k) (b := n) (by omega) (by omega))
      · skip
        refine y_loc (pc' := 17) xD_134 rfl rfl rfl rfl ?_
        first | refine m_getR (pc' := 20) xD_134 rfl rfl rfl rfl (hR.1 _ _ _ rfl) rfl ?_ | refine m_getR (pc' := 20) xD_134 rfl rfl (by first | rfl | assumption) rfl (by assumption) rfl ?_
        refine y_loc (pc' := 22) xD_134 rfl rfl rfl rfl ?_
        refine m_iald (pc' := 23) (k) xD_134 rfl (by first | rfl | assumption) (by first | assumption | omega) (by first | decide | assumption) (by first | decide | omega) (by first | rfl | assumption) rfl ?_
        rw [xrow_at, rk]
        refine y_ci (pc' := 25) (30) xD_134 rfl rfl rfl rfl ?_
        refine y_icne (pt := 32) (pf := 28) xD_134 rfl rfl rfl (fun h25 => ?_) (fun h25 => ?_)
        · skip
          refine y_ci (pc' := 33) (0) xD_134 rfl rfl rfl rfl ?_
          refine y_loc (pc' := 35) xD_134 rfl rfl rfl rfl ?_
          refine y_ci (pc' := 36) (0) xD_134 rfl rfl rfl rfl ?_
          refine y_loc (pc' := 38) xD_134 rfl rfl rfl rfl ?_
          first
          | (have h := s_fr_o (S := S) (d := d) (I := I) (F := F) (act := act) (Q := Q) hR hn hF (f := f + 1) (k := k) (by omega) fok' hr (by omega) K98 n 0 (by omega)
             rw [show (decide (fr k = 8) && !bn F act fr (f + 1) k 0) = true from by rw [decide_eq_true (e30.mp h25)]; rfl] at h
             exact h)
          | (have h := s_fr_o (S := S) (d := d) (I := I) (F := F) (act := act) (Q := Q) hR hn hF (f := f + 1) (k := k) (by omega) fok' hr (by omega) K98 n 0 (by omega)
             rw [show (decide (fr k = 8) && !bn F act fr (f + 1) k 0) = false from by rw [decide_eq_false (fun q => h25 (e30.mpr q))]; rfl] at h
             exact h)
        · skip
          refine y_ci (pc' := 29) (1) xD_134 rfl rfl rfl rfl ?_
          refine y_goto (pc' := 33) xD_134 rfl rfl ?_
          refine y_loc (pc' := 35) xD_134 rfl rfl rfl rfl ?_
          refine y_ci (pc' := 36) (0) xD_134 rfl rfl rfl rfl ?_
          refine y_loc (pc' := 38) xD_134 rfl rfl rfl rfl ?_
          first
          | (have h := s_fr_o (S := S) (d := d) (I := I) (F := F) (act := act) (Q := Q) hR hn hF (f := f + 1) (k := k) (by omega) fok' hr (by omega) K98 n 0 (by omega)
             rw [show (decide (fr k = 8) && !bn F act fr (f + 1) k 0) = true from by rw [decide_eq_true (e30.mp h25)]; rfl] at h
             exact h)
          | (have h := s_fr_o (S := S) (d := d) (I := I) (F := F) (act := act) (Q := Q) hR hn hF (f := f + 1) (k := k) (by omega) fok' hr (by omega) K98 n 0 (by omega)
             rw [show (decide (fr k = 8) && !bn F act fr (f + 1) k 0) = false from by rw [decide_eq_false (fun q => h25 (e30.mpr q))]; rfl] at h
             exact h)
  have outer : ∀ (m f : Nat), f + m = n → ∀ (r : Nat → Int32) (q4 q5 q6 : Option Value), (∀ j, j < n → r j = nI (e0 (ff F sz act n f j))) → XP S (d + 2) 134 2 [some (.ref 261), some (.int (nI n)), some (.int act), some (.int (nI (f + 1))), q4, q5, q6] [] (hh (xrow I 275 r) J R) (fun v h' => v = none ∧ ∃ r, h' = hh (xrow I 275 r) J R ∧ ∀ k, k < n → r k = nI (e0 (ff F sz act n n k))) := by
    intro m
    induction m with
    | zero =>
      intro f hf r q4 q5 q6 hr
      have hf : f = n := by omega
      subst hf
      refine y_loc (pc' := 3) xD_134 rfl rfl rfl rfl ?_
      refine y_loc (pc' := 4) xD_134 rfl rfl rfl rfl ?_
      refine y_icgt (pt := 183) (pf := 7) xD_134 rfl rfl rfl (fun h4 => ?_) (fun h4 => ?_)
      · skip
        refine y_retV xD_134 rfl rfl ?_
        exact ⟨rfl, r, rfl, hr⟩
      · skip
        exact absurd (nI_lt (a := f) (b := f + 1) (by omega) (by omega)) h4
    | succ m ih =>
      intro f hf r q4 q5 q6 hr
      refine y_loc (pc' := 3) xD_134 rfl rfl rfl rfl ?_
      refine y_loc (pc' := 4) xD_134 rfl rfl rfl rfl ?_
      refine y_icgt (pt := 183) (pf := 7) xD_134 rfl rfl rfl (fun h4 => ?_) (fun h4 => ?_)
      · skip
        exact absurd h4 (nI_nlt (by omega) (by omega))
      · skip
        refine y_ci (pc' := 8) (0) xD_134 rfl rfl rfl rfl ?_
        refine y_loc (pc' := 10) xD_134 rfl rfl rfl rfl ?_
        exact inner f (by omega) (fun r' a b c hr' => ih (f + 1) (by omega) r' a b c hr') n 0 (by omega) r _ _ (fun j hj => by rw [hr j hj]; show nI (e0 _) = nI (e1 (f + 1) (ff F sz act n f j)); unfold e0 e1; have := ff_ok (F := F) (sz := sz) (act := act) (n := n) f j; by_cases t : ff F sz act n f j = 8; rw [if_pos t, if_pos t]; rw [if_neg t, if_neg t, if_neg (by omega)])
  refine y_ci (pc' := 1) (1) xD_134 rfl rfl rfl rfl ?_
  refine y_loc (pc' := 2) xD_134 rfl rfl rfl rfl ?_
  exact outer n 0 (by omega) r0 _ _ _ h0
end MF

