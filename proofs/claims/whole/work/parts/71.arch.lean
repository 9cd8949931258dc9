/-! The archive: both sides. -/
def adm (ar : Nat → CA) (st : Int32) (c : CA) : Nat → CA := fun g => if ib st g = true ∧ ((ar g).1 = 0 ∨ c.1 < (ar g).1) then c else ar g
theorem RC.fr {I I' : Nat → Nat → Int32} {a : Nat} {c : CA} (h : RC I a c) (h0 : I' a = I a) (h1 : I' (a + 1) = I (a + 1)) : RC I' a c := by
  unfold RC; rw [h0, h1]; exact h
theorem RX.fr {I I' : Nat → Nat → Int32} {J J' : Nat → Nat → Int64} {P : Nat → Nat → Int32} {nb a : Nat} {c : CA} (h : RX I J P nb a c) (h0 : I' a = I a) (h1 : I' (a + 1) = I (a + 1)) (h2 : J' (a + 2) = J (a + 2)) (h3 : J' (a + 3) = J (a + 3)) : RX I' J' P nb a c := by
  unfold RX RC; rw [h0, h1, h2, h3]; exact h
def SF (p : Nat → Prop) (I I' : Nat → Nat → Int32) : Prop := ∀ t, p t → I' 263 t = I 263 t ∧ ∀ q, q < 24 → slM I' t q = slM I t q
theorem SF.tr {p : Nat → Prop} {I I' I'' : Nat → Nat → Int32} (h : SF p I I') (h' : SF p I' I'') : SF p I I'' := fun t ht => ⟨(h' t ht).1.trans (h t ht).1, fun q hq => ((h' t ht).2 q hq).trans ((h t ht).2 q hq)⟩
theorem SF.rfl' {p : Nat → Prop} {I I' : Nat → Nat → Int32} (h2 : I' 262 = I 262) (h3 : I' 263 = I 263) : SF p I I' := fun t _ => ⟨by rw [h3], fun q _ => by unfold slM; rw [h2]⟩
theorem SF.w {p p' : Nat → Prop} {I I' : Nat → Nat → Int32} (h : SF p I I') (hp : ∀ t, p' t → p t) : SF p' I I' := fun t ht => h t (hp t ht)
theorem RM.sf {p : Nat → Prop} {I I' : Nat → Nat → Int32} {s : Nat} {c : CA} (h : RM I s c) (w : WC c) (f : SF p I I') (hs : p s) : RM I' s c :=
  ⟨(f s hs).1.trans h.1, fun i hi => ((f s hs).2 i (by have := w.1; omega)).trans (h.2 i hi)⟩
theorem RM.row {I I' : Nat → Nat → Int32} {s : Nat} {c : CA} (h : RM I s c) (h2 : I' 262 = I 262) (h3 : I' 263 = I 263) : RM I' s c := by
  unfold RM slM; rw [h2, h3]; exact h
/-- the class's archive -/
def CAr (I : Nat → Nat → Int32) (J : Nat → Nat → Int64) (P : Nat → Nat → Int32) (nb : Nat) (ar : Nat → CA) : Prop := (∀ g, g < 32 → (ib (I 23 1) g = true ↔ g < 24 ∧ 0 < (ar g).1)) ∧ ∀ g, g < 24 → WC (ar g) ∧ RC I (25 + 4 * g) (ar g) ∧ (0 < (ar g).1 → RX I J P nb (25 + 4 * g) (ar g))
def MAr (I : Nat → Nat → Int32) (ar : Nat → CA) : Prop := ∀ g, g < 24 → WC (ar g) ∧ RM I (9 + g) (ar g)
def CAl (I : Nat → Nat → Int32) (J : Nat → Nat → Int64) (P : Nat → Nat → Int32) (nb : Nat) (ar : Nat → CA) : Prop := ∀ g, g < 24 → WC (ar g) ∧ RC I (25 + 4 * g) (ar g) ∧ (0 < (ar g).1 → RX I J P nb (25 + 4 * g) (ar g))
def admk (ar : Nat → CA) (st : Int32) (c : CA) (k : Nat) : Nat → CA := fun g => if g < k then adm ar st c g else ar g
theorem admk_n {ar : Nat → CA} {st : Int32} {c : CA} {k : Nat} (h : adm ar st c k = ar k) : admk ar st c (k + 1) = admk ar st c k := by
  funext g
  unfold admk
  by_cases h1 : g < k
  · rw [if_pos h1, if_pos (by omega)]
  · rw [if_neg h1]
    by_cases h2 : g = k
    · subst h2; rw [if_pos (by omega), h]
    · rw [if_neg (by omega)]
theorem admk_k {ar : Nat → CA} {st : Int32} {c : CA} {k : Nat} : admk ar st c k k = ar k := by unfold admk; rw [if_neg (by omega)]
theorem admk_o {ar : Nat → CA} {st : Int32} {c : CA} {k g : Nat} (h : g ≠ k) : admk ar st c (k + 1) g = admk ar st c k g := by
  unfold admk
  by_cases h1 : g < k
  · rw [if_pos h1, if_pos (by omega)]
  · rw [if_neg h1, if_neg (by omega)]
theorem admk_s {ar : Nat → CA} {st : Int32} {c : CA} {k : Nat} (h : ib st k = true ∧ ((ar k).1 = 0 ∨ c.1 < (ar k).1)) : admk ar st c (k + 1) k = c := by unfold admk adm; rw [if_pos (by omega), if_pos h]
theorem aCase {g : Nat} (h : g < 24) : isCase (25 + 4 * g) := Or.inl ⟨by omega, by omega, by omega⟩
theorem rBest {R : Nat → Nat → Option Nat} (hR : RF R) {g : Nat} (h : g < 24) : R 24 g = some (25 + 4 * g) := by
  refine hR.1 24 g _ ?_
  have : ∀ k, k < 24 → rfF 24 k = some (25 + 4 * k) := by decide
  exact this g h
section AR
variable {S : XS} {d a s nb : Nat} {I P : Nat → Nat → Int32} {J : Nat → Nat → Int64} {R : Nat → Nat → Option Nat} {c : CA} {ar : Nat → CA}
theorem CAl.copy {b : Nat} (hnb : nb ≤ 12) (hb : isCase b) (hb2 : 121 ≤ b) {I' : Nat → Nat → Int32} {J' : Nat → Nat → Int64} {k : Nat} (hk : k < 24) (w : WC c) (x : RX I J P nb b c)
    (h : CAl I' J' P nb (admk ar (kS P nb c) c k)) (hi : ∀ x, x < 25 ∨ 121 ≤ x → I' x = I x ∧ J' x = J x) (hs : ib (kS P nb c) k = true ∧ ((ar k).1 = 0 ∨ c.1 < (ar k).1)) :
    CAl (xu (xu (xrow I' (25 + 4 * k + 1) (va_cpy (I' (b + 1)) (I' (25 + 4 * k + 1)) 0 0 24)) (25 + 4 * k) 3 (I' b 3)) (25 + 4 * k) 4 (I' b 4)) (xrow (xrow J' (25 + 4 * k + 2) (va_cpy (J' (b + 2)) (J' (25 + 4 * k + 2)) 0 0 6)) (25 + 4 * k + 3) (va_cpy (J' (b + 3)) (J' (25 + 4 * k + 3)) 0 0 24)) P nb (admk ar (kS P nb c) c (k + 1)) := by
  intro g hg
  by_cases e : g = k
  · subst e
    rw [admk_s hs]
    have e0 := (hi b (by omega)).1
    have e1 := (hi (b + 1) (by omega)).1
    have e2 := (hi (b + 2) (by omega)).2
    have e3 := (hi (b + 3) (by omega)).2
    rw [e0, e1, e2, e3]
    have r : RC (xu (xu (xrow I' (25 + 4 * g + 1) (va_cpy (I (b + 1)) (I' (25 + 4 * g + 1)) 0 0 24)) (25 + 4 * g) 3 (I b 3)) (25 + 4 * g) 4 (I b 4)) (25 + 4 * g) c := by
      refine ⟨?_, fun i hi => ?_⟩
      · show (if _ then _ else _) = _
        rw [if_neg (by omega), xu_ii]; exact x.1.1
      · rw [xu_ne (by omega), xu_ne (by omega), xrow_at, cpy_lt (by have := w.1; omega)]
        exact x.1.2 i hi
    refine ⟨w, r, fun _ => ⟨r, ?_, fun i hi => ?_, fun q hq => ?_⟩⟩
    · rw [xu_ii]; exact x.2.1
    · rw [xrow_ne (by omega), xrow_at, cpy_lt (by have := w.1; omega)]; exact x.2.2.1 i hi
    · rw [xrow_at, cpy_lt (by omega)]; exact x.2.2.2 q hq
  · rw [admk_o e]
    obtain ⟨w1, r1, x1⟩ := h g hg
    have f0 : ∀ x, x = 25 + 4 * g ∨ x = 25 + 4 * g + 1 → xu (xu (xrow I' (25 + 4 * k + 1) (va_cpy (I' (b + 1)) (I' (25 + 4 * k + 1)) 0 0 24)) (25 + 4 * k) 3 (I' b 3)) (25 + 4 * k) 4 (I' b 4) x = I' x := fun x hx => by rw [xu_ne (by omega), xu_ne (by omega), xrow_ne (by omega)]
    have f1 : ∀ x, x = 25 + 4 * g + 2 ∨ x = 25 + 4 * g + 3 → xrow (xrow J' (25 + 4 * k + 2) (va_cpy (J' (b + 2)) (J' (25 + 4 * k + 2)) 0 0 6)) (25 + 4 * k + 3) (va_cpy (J' (b + 3)) (J' (25 + 4 * k + 3)) 0 0 24) x = J' x := fun x hx => by rw [xrow_ne (by omega), xrow_ne (by omega)]
    exact ⟨w1, r1.fr (f0 _ (Or.inl rfl)) (f0 _ (Or.inr rfl)), fun h0 => (x1 h0).fr (f0 _ (Or.inl rfl)) (f0 _ (Or.inr rfl)) (f1 _ (Or.inl rfl)) (f1 _ (Or.inr rfl))⟩
/-- Archive takes a case -/
theorem s_admit (hR : RF R) (ha : isCase a) (ha2 : 121 ≤ a) (hnb : nb ≤ 12) (w : WC c) (x : RX I J P nb a c) (h : CAr I J P nb ar) (h0 : 0 < c.1) :
    XP S (d + 3) 51 0 (xent [.ref 23, .ref a] 3) [] (hh I J R) (fun v h' => v = none ∧ ∃ I' J', h' = hh I' J' R ∧ CAr I' J' P nb (adm ar (kS P nb c) c) ∧ ∀ x, x < 23 ∨ 121 ≤ x → I' x = I x ∧ J' x = J x) := by
  have ka := (kCase ha).1
  have loop : ∀ (f k : Nat), k + f = 24 → ∀ I' J', CAl I' J' P nb (admk ar (kS P nb c) c k) → (∀ x, x < 25 ∨ 121 ≤ x → I' x = I x ∧ J' x = J x) → XP S (d + 3) 51 2 [some (.ref 23), some (.ref a), some (.int (nI k))] [] (hh I' J' R) (fun v h' => v = none ∧ ∃ I' J', h' = hh I' J' R ∧ CAr I' J' P nb (adm ar (kS P nb c) c) ∧ ∀ x, x < 23 ∨ 121 ≤ x → I' x = I x ∧ J' x = J x) := by
    intro f
    induction f with
    | zero =>
      intro k hk I' J' hl hi
      have hk : k = 24 := by omega
      subst hk
      have ea := (hi a (by omega)).1
      have e23 := (hi 23 (by omega)).1
      have fin : ∃ I1 J1, hh (xu I' 23 1 (I 23 1 ||| kS P nb c)) J' R = hh I1 J1 R ∧ CAr I1 J1 P nb (adm ar (kS P nb c) c) ∧ ∀ x, x < 23 ∨ 121 ≤ x → I1 x = I x ∧ J1 x = J x := by
        refine ⟨_, _, rfl, ⟨fun g hg => ?_, fun g hg => ?_⟩, fun x hx => ?_⟩
        · rw [xu_ii, ib_or, Bool.or_eq_true, h.1 g hg]
          unfold adm
          by_cases hs : ib (kS P nb c) g = true
          · have h24 := kS_lt hnb hg hs
            by_cases hq : (ar g).1 = 0 ∨ c.1 < (ar g).1
            · rw [if_pos ⟨hs, hq⟩]
              exact ⟨fun _ => ⟨by omega, h0⟩, fun _ => Or.inr hs⟩
            · rw [if_neg (fun q => hq q.2)]
              exact ⟨fun _ => ⟨by omega, by omega⟩, fun _ => Or.inr hs⟩
          · rw [if_neg (fun q => hs q.1)]
            exact ⟨fun q => q.elim id (fun q => absurd q hs), fun q => Or.inl q⟩
        · obtain ⟨w1, r1, x1⟩ := hl g hg
          rw [show admk ar (kS P nb c) c 24 g = adm ar (kS P nb c) c g from by unfold admk; rw [if_pos hg]] at w1 r1 x1
          exact ⟨w1, r1.fr (xu_ne (by omega)) (xu_ne (by omega)), fun h0 => (x1 h0).fr (xu_ne (by omega)) (xu_ne (by omega)) rfl rfl⟩
        · exact ⟨(xu_ne (by omega)).trans (hi x (by omega)).1, (hi x (by omega)).2⟩
      refine y_loc (pc' := 3) xD_51 rfl rfl rfl rfl ?_
      refine y_ci (pc' := 5) (24) xD_51 rfl rfl rfl rfl ?_
      refine y_icge (pt := 62) (pf := 8) xD_51 rfl rfl rfl (fun h5 => ?_) (fun h5 => ?_)
      · skip
        refine y_loc (pc' := 63) xD_51 rfl rfl rfl rfl ?_
        refine y_op (pc' := 64) xD_51 rfl rfl rfl rfl ?_
        refine m_getI (pc' := 67) xD_51 rfl rfl rfl (by first | rfl | assumption) ((congrFun e23 1)) rfl ?_
        refine y_loc (pc' := 68) xD_51 rfl rfl rfl rfl ?_
        refine m_getI (pc' := 71) xD_51 rfl rfl rfl (by first | rfl | assumption) (((congrFun ea 4).trans x.2.1)) rfl ?_
        refine y_op (pc' := 72) xD_51 rfl rfl rfl rfl ?_
        refine m_putI (pc' := 75) xD_51 rfl rfl (by first | rfl | assumption) rfl rfl rfl ?_
        refine y_retV xD_51 rfl rfl ?_
        exact ⟨rfl, fin⟩
      · skip
        exact absurd (Int32.le_refl _) h5
    | succ f ih =>
      intro k hk I' J' hl hi
      have k24 : k < 24 := by omega
      have kb := (kCase (aCase k24)).1
      have ea := (hi a (by omega)).1
      have e23 := (hi 23 (by omega)).1
      have rb := rBest hR k24
      have hk1 := hl k k24
      rw [admk_k] at hk1
      have next : adm ar (kS P nb c) c k = ar k → XP S (d + 3) 51 56 [some (.ref 23), some (.ref a), some (.int (nI k))] [] (hh I' J' R) (fun v h' => v = none ∧ ∃ I' J', h' = hh I' J' R ∧ CAr I' J' P nb (adm ar (kS P nb c) c) ∧ ∀ x, x < 23 ∨ 121 ≤ x → I' x = I x ∧ J' x = J x) := by
        intro e
        refine y_inc (pc' := 59) (nI (k + 1)) xD_51 rfl rfl rfl (nI_1 (k)) rfl rfl ?_
        refine y_goto (pc' := 2) xD_51 rfl rfl ?_
        exact ih (k + 1) (by omega) I' J' (by rw [admk_n e]; exact hl) hi
      have take : (ib (kS P nb c) k = true ∧ ((ar k).1 = 0 ∨ c.1 < (ar k).1)) → XP S (d + 3) 51 46 [some (.ref 23), some (.ref a), some (.int (nI k))] [] (hh I' J' R) (fun v h' => v = none ∧ ∃ I' J', h' = hh I' J' R ∧ CAr I' J' P nb (adm ar (kS P nb c) c) ∧ ∀ x, x < 23 ∨ 121 ≤ x → I' x = I x ∧ J' x = J x) := by
        intro e
        refine y_loc (pc' := 47) xD_51 rfl rfl rfl rfl ?_
        first | refine m_getR (pc' := 50) xD_51 rfl rfl rfl rfl (hR.1 _ _ _ rfl) rfl ?_ | refine m_getR (pc' := 50) xD_51 rfl rfl (by first | rfl | assumption) rfl (by assumption) rfl ?_
        refine y_loc (pc' := 51) xD_51 rfl rfl rfl rfl ?_
        refine m_aald (pc' := 52) (k) (q := 0) xD_51 rfl (by first | rfl | assumption) (by first | decide | assumption) (by first | assumption | omega) (by first | decide | assumption) (by first | rfl | assumption) rb rfl ?_
        refine y_loc (pc' := 53) xD_51 rfl rfl rfl rfl ?_
        refine y_callV xD_51 rfl rfl rfl rfl (by first | rfl | assumption) rfl rfl rfl rfl (s_copy (d := d) hR (aCase k24) ha) (fun v h' hq => ?_)
        obtain ⟨rfl, rfl⟩ := hq
        refine y_inc (pc' := 59) (nI (k + 1)) xD_51 rfl rfl rfl (nI_1 (k)) rfl rfl ?_
        refine y_goto (pc' := 2) xD_51 rfl rfl ?_
        refine ih (k + 1) (by omega) _ _ (CAl.copy hnb ha ha2 k24 w x hl hi e) (fun x hx => ?_)
        refine ⟨?_, ?_⟩
        · rw [xu_ne (by omega), xu_ne (by omega), xrow_ne (by omega)]; exact (hi x hx).1
        · rw [xrow_ne (by omega), xrow_ne (by omega)]; exact (hi x hx).2
      have g1 : ¬ zB (decide (¬ bitI (kS P nb c) (nI k) = 0)) = 0 → ib (kS P nb c) k = true := by
        intro q
        have := zB_n0.mp q
        rw [bit0 k24, Bool.not_eq_false] at this
        exact this
      have n1 : zB (decide (¬ bitI (kS P nb c) (nI k) = 0)) = 0 → adm ar (kS P nb c) c k = ar k := by
        intro q
        have q := Classical.not_not.mp (zB_0.mp q)
        rw [bit0 k24] at q
        unfold adm
        rw [q, if_neg (fun r => absurd r.1 (by decide))]
      have le : nI (ar k).1 ≤ nI c.1 ↔ (ar k).1 ≤ c.1 := nI_leI (by have := hk1.1.1; omega) (by have := w.1; omega)
      have n2 : ¬ zB (decide (¬ bitI (I 23 1) (nI k) = 0)) = 0 → nI (ar k).1 ≤ nI c.1 → adm ar (kS P nb c) c k = ar k := by
        intro q1 q2
        have q1 := zB_n0.mp q1
        rw [bit0 k24, Bool.not_eq_false] at q1
        have q3 := ((h.1 k (by omega)).mp q1).2
        have q4 := le.mp q2
        unfold adm
        rw [if_neg (fun r => by have := r.2; omega)]
      have t1 : ¬ zB (decide (¬ bitI (kS P nb c) (nI k) = 0)) = 0 → zB (decide (¬ bitI (I 23 1) (nI k) = 0)) = 0 → (ib (kS P nb c) k = true ∧ ((ar k).1 = 0 ∨ c.1 < (ar k).1)) := by
        intro q1 q2
        have q2 := Classical.not_not.mp (zB_0.mp q2)
        rw [bit0 k24] at q2
        refine ⟨g1 q1, Or.inl ?_⟩
        have q3 := fun r => (h.1 k (by omega)).mpr r
        rw [q2] at q3
        have q4 : ¬ 0 < (ar k).1 := fun r => absurd (q3 ⟨k24, r⟩) (by decide)
        omega
      have t2 : ¬ zB (decide (¬ bitI (kS P nb c) (nI k) = 0)) = 0 → ¬ nI (ar k).1 ≤ nI c.1 → (ib (kS P nb c) k = true ∧ ((ar k).1 = 0 ∨ c.1 < (ar k).1)) := fun q1 q2 => ⟨g1 q1, Or.inr (Nat.lt_of_not_le (fun q => q2 (le.mpr q)))⟩
      refine y_loc (pc' := 3) xD_51 rfl rfl rfl rfl ?_
      refine y_ci (pc' := 5) (24) xD_51 rfl rfl rfl rfl ?_
      refine y_icge (pt := 62) (pf := 8) xD_51 rfl rfl rfl (fun h5 => ?_) (fun h5 => ?_)
      · skip
        exact absurd h5 (nI_ge (a := k) (b := 24) (by omega) (by decide))
      · skip
        refine y_loc (pc' := 9) xD_51 rfl rfl rfl rfl ?_
        refine m_getI (pc' := 12) xD_51 rfl rfl rfl (by first | rfl | assumption) (((congrFun ea 4).trans x.2.1)) rfl ?_
        refine y_loc (pc' := 13) xD_51 rfl rfl rfl rfl ?_
        refine y_callS xD_51 rfl rfl rfl rfl rfl rfl rfl rfl (s_hasGoal) (fun v h' hq => ?_)
        obtain ⟨rfl, rfl⟩ := hq
        refine y_ifeq (pt := 56) (pf := 19) xD_51 rfl rfl rfl (fun h16 => ?_) (fun h16 => ?_)
        · skip
          first
          | exact next (n1 h16)
          | exact next (n2 h27 h43)
        · skip
          refine y_loc (pc' := 20) xD_51 rfl rfl rfl rfl ?_
          refine m_getI (pc' := 23) xD_51 rfl rfl rfl (by first | rfl | assumption) ((congrFun e23 1)) rfl ?_
          refine y_loc (pc' := 24) xD_51 rfl rfl rfl rfl ?_
          refine y_callS xD_51 rfl rfl rfl rfl rfl rfl rfl rfl (s_hasGoal) (fun v h' hq => ?_)
          obtain ⟨rfl, rfl⟩ := hq
          refine y_ifeq (pt := 46) (pf := 30) xD_51 rfl rfl rfl (fun h27 => ?_) (fun h27 => ?_)
          · skip
            first
            | exact take (t1 h16 h27)
            | exact take (t2 h16 h43)
          · skip
            refine y_loc (pc' := 31) xD_51 rfl rfl rfl rfl ?_
            first | refine m_getR (pc' := 34) xD_51 rfl rfl rfl rfl (hR.1 _ _ _ rfl) rfl ?_ | refine m_getR (pc' := 34) xD_51 rfl rfl (by first | rfl | assumption) rfl (by assumption) rfl ?_
            refine y_loc (pc' := 35) xD_51 rfl rfl rfl rfl ?_
            refine m_aald (pc' := 36) (k) (q := 0) xD_51 rfl (by first | rfl | assumption) (by first | decide | assumption) (by first | assumption | omega) (by first | decide | assumption) (by first | rfl | assumption) rb rfl ?_
            refine m_getI (pc' := 39) xD_51 rfl rfl rfl (by first | rfl | assumption) (hk1.2.1.1) rfl ?_
            refine y_loc (pc' := 40) xD_51 rfl rfl rfl rfl ?_
            refine m_getI (pc' := 43) xD_51 rfl rfl rfl (by first | rfl | assumption) (((congrFun ea 3).trans x.1.1)) rfl ?_
            refine y_icle (pt := 56) (pf := 46) xD_51 rfl rfl rfl (fun h43 => ?_) (fun h43 => ?_)
            · skip
              first
              | exact next (n1 h16)
              | exact next (n2 h27 h43)
            · skip
              first
              | exact take (t1 h16 h27)
              | exact take (t2 h16 h43)
  refine y_ci (pc' := 1) (0) xD_51 rfl rfl rfl rfl ?_
  refine y_loc (pc' := 2) xD_51 rfl rfl rfl rfl ?_
  exact loop 24 0 rfl I J (fun g hg => h.2 g hg) (fun x _ => ⟨rfl, rfl⟩)
end AR

