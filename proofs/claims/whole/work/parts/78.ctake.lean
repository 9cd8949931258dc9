/-! The order: the class's sort; children taken in. -/
theorem nI_dec (p : Nat) : nI (p + 1) + Int32.ofInt (-1) = nI p := by
  rw [← nI_1 p, show Int32.ofInt (-1) = -1 from by decide, Int32.add_assoc, show (1 : Int32) + -1 = 0 from by decide, Int32.add_zero]
section ST
variable {S : XS} {d n : Nat} {I : Nat → Nat → Int32} {J : Nat → Nat → Int64} {R : Nat → Nat → Option Nat} {A sz fr cr : Nat → Nat} {F : Nat → Nat → Int64} {act : Int32}
/-- Population.sort -/
theorem s_sort (hR : RF R) (h7 : C7 R A) (hn : n ≤ 7) (hn0 : 0 < n) (hS : SA I A sz n) (hfr : ∀ k, k < n → I (A k) 5 = nI (fr k) ∧ fr k ≤ 8) (hcr : ∀ k, k < n → I (A k) 6 = nI (cr k) ∧ cr k ≤ 24) :
    XP S (d + 1) 62 0 (xent [.ref 121, .int (nI n)] 5) [] (hh I J R) (fun v h' => v = none ∧ ∃ g s, h' = hh I J (xrow R 122 g) ∧ isO fr cr sz n s ∧ (∀ j, n ≤ j → s j = j) ∧ ∀ j, j < 7 → g j = some (A (s j))) := by
  have k122 : kq 122 = (103 + 0, 7) := by decide
  have inner : ∀ (i : Nat), i < n → ∀ s, isO fr cr sz i s → (∀ j, i ≤ j → s j = j) → ∀ {Q : Option Value → XH → Prop}, (∀ (g' : Nat → Option Nat) (q3 q4 : Option Value) (s' : Nat → Nat), isO fr cr sz (i + 1) s' → (∀ j, i + 1 ≤ j → s' j = j) → (∀ j, j < 7 → g' j = some (A (s' j))) → XP S (d + 1) 62 2 [some (.ref 121), some (.int (nI n)), some (.int (nI (i + 1))), q3, q4] [] (hh I J (xrow R 122 g')) Q) → ∀ (p : Nat), p ≤ i → (∀ j, p ≤ j → j < i → gB fr cr sz i (s j)) → ∀ g : Nat → Option Nat, (∀ j, j < 7 → g j = some (A (if j ≤ p then s j else if j ≤ i then s (j - 1) else s j))) → XP S (d + 1) 62 17 [some (.ref 121), some (.int (nI n)), some (.int (nI i)), some (.ref (A i)), some (.int (nI p))] [] (hh I J (xrow R 122 g)) Q := by
    intro i hi s hO hs Q K p
    obtain ⟨-, ci, -, -, -⟩ := h7 i (by omega)
    have ki := (kCase ci).1
    have fin : ∀ p, p ≤ i → (∀ j, p ≤ j → j < i → gB fr cr sz i (s j)) → (p = 0 ∨ ¬ gB fr cr sz i (s (p - 1))) → ∀ g : Nat → Option Nat, (∀ j, j < 7 → g j = some (A (if j ≤ p then s j else if j ≤ i then s (j - 1) else s j))) → XP S (d + 1) 62 60 [some (.ref 121), some (.int (nI n)), some (.int (nI i)), some (.ref (A i)), some (.int (nI p))] [] (hh I J (xrow R 122 g)) Q := by
      intro p hp hg h0 g eg
      have hR' : RF (xrow R 122 g) := RF_row hR (Or.inl rfl)
      refine y_loc (pc' := 61) xD_62 rfl rfl rfl rfl ?_
      refine m_getR (pc' := 64) xD_62 rfl rfl (by first | rfl | assumption) rfl (hR'.1 _ _ _ rfl) rfl ?_
      refine y_loc (pc' := 66) xD_62 rfl rfl rfl rfl ?_
      refine y_loc (pc' := 67) xD_62 rfl rfl rfl rfl ?_
      refine m_aast (pc' := 68) (p) (q := 0) xD_62 rfl (by first | rfl | assumption) (by first | decide | assumption) (by first | assumption | omega) (by first | decide | assumption) (by first | rfl | assumption) (by first | rfl | assumption) rfl ?_
      refine y_inc (pc' := 71) (nI (i + 1)) xD_62 rfl rfl rfl (nI_1 (i)) rfl rfl ?_
      refine y_goto (pc' := 2) xD_62 rfl rfl ?_
      rw [xu_row, xrow_row, xrow_at]
      refine K _ _ _ (ins s p i) (isO_ins hO hp hg h0) (fun j hj => ?_) (fun j hj => ?_)
      · unfold ins
        rw [if_neg (by omega), if_neg (by omega), if_neg (by omega)]
        exact hs j (by omega)
      · by_cases e : j = p
        · subst e; rw [if_pos rfl, ins_at]
        · rw [if_neg e, eg j hj]
          unfold ins
          by_cases l : j < p
          · rw [if_pos (by omega), if_pos l]
          · rw [if_neg (by omega), if_neg l, if_neg e]
    induction p with
    | zero =>
      intro hp hg g eg
      refine y_loc (pc' := 19) xD_62 rfl rfl rfl rfl ?_
      refine y_ifle (pt := 60) (pf := 22) xD_62 rfl rfl rfl (fun h19 => ?_) (fun h19 => ?_)
      · skip
        exact fin 0 (by omega) hg (Or.inl rfl) g eg
      · skip
        exact absurd (Int32.le_refl _) h19
    | succ p ih =>
      intro hp hg g eg
      have hR' : RF (xrow R 122 g) := RF_row hR (Or.inl rfl)
      have sp : s p < i := hO.1 p (by omega)
      obtain ⟨-, cp, -, -, -⟩ := h7 (s p) (by omega)
      have kp := (kCase cp).1
      have e1 : nI (p + 1) - 1 = nI p := by rw [show nI (p + 1) - 1 = nI (p + 1 - 1) from pk_sub (b := 1) (by omega)]; rfl
      have rp : xrow R 122 g 122 p = some (A (s p)) := by rw [xrow_at, eg p (by omega), if_pos (by omega)]
      have fi := hfr i hi
      have fp := hfr (s p) (by omega)
      have ci6 := hcr i hi
      have cp6 := hcr (s p) (by omega)
      have si := hS i hi
      have sp3 := hS (s p) (by omega)
      refine y_loc (pc' := 19) xD_62 rfl rfl rfl rfl ?_
      refine y_ifle (pt := 60) (pf := 22) xD_62 rfl rfl rfl (fun h19 => ?_) (fun h19 => ?_)
      · skip
        exact absurd h19 (by rw [show (0 : Int32) = nI 0 from rfl]; exact nI_ge (a := 0) (b := p + 1) (by omega) (by omega))
      · skip
        refine y_loc (pc' := 23) xD_62 rfl rfl rfl rfl ?_
        refine y_loc (pc' := 24) xD_62 rfl rfl rfl rfl ?_
        refine m_getR (pc' := 27) xD_62 rfl rfl (by first | rfl | assumption) rfl (hR'.1 _ _ _ rfl) rfl ?_
        refine y_loc (pc' := 29) xD_62 rfl rfl rfl rfl ?_
        refine y_ci (pc' := 30) (1) xD_62 rfl rfl rfl rfl ?_
        refine y_isub (pc' := 31) xD_62 rfl (e1) rfl ?_
        refine m_aald (pc' := 32) (p) (q := 0) xD_62 rfl (by first | rfl | assumption) (by first | decide | assumption) (by first | assumption | omega) (by first | decide | assumption) (by first | rfl | assumption) rp rfl ?_
        skip
        refine y_callS xD_62 rfl rfl rfl rfl rfl rfl rfl rfl (s_goesBefore (d := d) (i := i) (j := s p) (fr := fr) (cr := cr) (sz := sz) ci cp fi.1 fp.1 ci6.1 cp6.1 si.1 sp3.1 fi.2 fp.2 ci6.2 cp6.2 si.2 sp3.2) (fun v h' hq => ?_)
        obtain ⟨⟨t, ht, rfl⟩, rfl⟩ := hq
        refine y_ifeq (pt := 60) (pf := 38) xD_62 rfl rfl rfl (fun h35 => ?_) (fun h35 => ?_)
        · skip
          exact fin (p + 1) hp hg (Or.inr (by rw [show p + 1 - 1 = p from rfl, ← ht, zB_f.mp h35]; decide)) g eg
        · skip
          refine y_loc (pc' := 39) xD_62 rfl rfl rfl rfl ?_
          refine m_getR (pc' := 42) xD_62 rfl rfl (by first | rfl | assumption) rfl (hR'.1 _ _ _ rfl) rfl ?_
          refine y_loc (pc' := 44) xD_62 rfl rfl rfl rfl ?_
          refine y_loc (pc' := 45) xD_62 rfl rfl rfl rfl ?_
          refine m_getR (pc' := 48) xD_62 rfl rfl (by first | rfl | assumption) rfl (hR'.1 _ _ _ rfl) rfl ?_
          refine y_loc (pc' := 50) xD_62 rfl rfl rfl rfl ?_
          refine y_ci (pc' := 51) (1) xD_62 rfl rfl rfl rfl ?_
          refine y_isub (pc' := 52) xD_62 rfl (e1) rfl ?_
          refine m_aald (pc' := 53) (p) (q := 0) xD_62 rfl (by first | rfl | assumption) (by first | decide | assumption) (by first | assumption | omega) (by first | decide | assumption) (by first | rfl | assumption) rp rfl ?_
          refine m_aast (pc' := 54) ((p + 1)) (q := 0) xD_62 rfl (by first | rfl | assumption) (by first | decide | assumption) (by first | assumption | omega) (by first | decide | assumption) (by first | rfl | assumption) (by first | rfl | assumption) rfl ?_
          refine y_inc (pc' := 57) (nI p) xD_62 rfl rfl rfl (nI_dec p) rfl rfl ?_
          refine y_goto (pc' := 17) xD_62 rfl rfl ?_
          skip
          rw [xu_row, xrow_row, xrow_at]
          refine ih (by omega) (fun j a b => ?_) _ (fun j hj => ?_)
          · by_cases e : j = p
            · subst e
              refine ht.mp ?_
              cases t with
              | true => rfl
              | false => exact absurd rfl h35
            · exact hg j (by omega) b
          · by_cases e : j = p + 1
            · subst e
              rw [if_pos rfl, if_neg (by omega), if_pos (by omega)]
              rfl
            · rw [if_neg e, eg j hj]
              by_cases l : j ≤ p
              · rw [if_pos (by omega), if_pos l]
              · rw [if_neg (by omega), if_neg l]
  have outer : ∀ (m i : Nat), i + m = n → ∀ (s : Nat → Nat) (g : Nat → Option Nat) (q3 q4 : Option Value), isO fr cr sz i s → (∀ j, i ≤ j → s j = j) → (∀ j, j < 7 → g j = some (A (s j))) → XP S (d + 1) 62 2 [some (.ref 121), some (.int (nI n)), some (.int (nI i)), q3, q4] [] (hh I J (xrow R 122 g)) (fun v h' => v = none ∧ ∃ g s, h' = hh I J (xrow R 122 g) ∧ isO fr cr sz n s ∧ (∀ j, n ≤ j → s j = j) ∧ ∀ j, j < 7 → g j = some (A (s j))) := by
    intro m
    induction m with
    | zero =>
      intro i hi s g q3 q4 hO hs eg
      have hi : i = n := by omega
      subst hi
      refine y_loc (pc' := 3) xD_62 rfl rfl rfl rfl ?_
      refine y_loc (pc' := 4) xD_62 rfl rfl rfl rfl ?_
      refine y_icge (pt := 74) (pf := 7) xD_62 rfl rfl rfl (fun h4 => ?_) (fun h4 => ?_)
      · skip
        refine y_retV xD_62 rfl rfl ?_
        exact ⟨rfl, g, s, rfl, hO, hs, eg⟩
      · skip
        exact absurd (Int32.le_refl _) h4
    | succ m ih =>
      intro i hi s g q3 q4 hO hs eg
      have hR' : RF (xrow R 122 g) := RF_row hR (Or.inl rfl)
      have ri : xrow R 122 g 122 i = some (A i) := by rw [xrow_at, eg i (by omega), hs i (Nat.le_refl _)]
      refine y_loc (pc' := 3) xD_62 rfl rfl rfl rfl ?_
      refine y_loc (pc' := 4) xD_62 rfl rfl rfl rfl ?_
      refine y_icge (pt := 74) (pf := 7) xD_62 rfl rfl rfl (fun h4 => ?_) (fun h4 => ?_)
      · skip
        exact absurd h4 (nI_ge (a := i) (b := n) (by omega) (by omega))
      · skip
        refine y_loc (pc' := 8) xD_62 rfl rfl rfl rfl ?_
        refine m_getR (pc' := 11) xD_62 rfl rfl (by first | rfl | assumption) rfl (hR'.1 _ _ _ rfl) rfl ?_
        refine y_loc (pc' := 12) xD_62 rfl rfl rfl rfl ?_
        refine m_aald (pc' := 13) (i) (q := 0) xD_62 rfl (by first | rfl | assumption) (by first | decide | assumption) (by first | assumption | omega) (by first | decide | assumption) (by first | rfl | assumption) ri rfl ?_
        refine y_loc (pc' := 14) xD_62 rfl rfl rfl rfl ?_
        refine y_loc (pc' := 15) xD_62 rfl rfl rfl rfl ?_
        refine y_loc (pc' := 17) xD_62 rfl rfl rfl rfl ?_
        skip
        refine inner i (by omega) s hO hs (fun g' q3 q4 s' a b c => ih (i + 1) (by omega) s' g' q3 q4 a b c) i (Nat.le_refl _) (fun j a b => absurd b (by omega)) g (fun j hj => ?_)
        rw [eg j hj]
        by_cases l : j ≤ i
        · rw [if_pos l]
        · rw [if_neg l, if_neg l]
  have o1 : isO fr cr sz 1 (fun j => j) := ⟨fun p hp => hp, fun p q a b => absurd b (by omega), fun Q => rfl⟩
  refine y_ci (pc' := 1) (1) xD_62 rfl rfl rfl rfl ?_
  refine y_loc (pc' := 2) xD_62 rfl rfl rfl rfl ?_
  have := outer (n - 1) 1 (by omega) (fun j => j) (R 122) none none o1 (fun _ _ => rfl) (fun j hj => (h7 j hj).1)
  rw [xrow_id] at this
  exact this
/-- Population.takeInChildren -/
theorem s_takeIn (hR : RF R) (h7 : C7 R A) (np : Nat) (hnp : np ≤ 5) (e1 : I 121 1 = nI np) (hF : FA J A F act (np + 2)) (hB : FB F (np + 2)) (hS : SA I A sz (np + 2)) :
    XP S (d + 4) 55 0 (xent [.ref 121, .int act] 4) [] (hh I J R) (fun v h' => v = none ∧ ∃ I' g s, h' = hh I' J (xrow R 122 g) ∧ isO (ff F sz act (np + 2) (np + 2)) (fun k => cw F act (ff F sz act (np + 2) (np + 2)) k (np + 2)) sz (np + 2) s ∧ (∀ j, np + 2 ≤ j → s j = j) ∧ (∀ j, j < 7 → g j = some (A (s j))) ∧ I' 121 1 = nI (if np + 2 ≤ 5 then np + 2 else 5) ∧ (∀ x j, x ≠ 121 → j ≠ 5 → j ≠ 6 → I' x j = I x j) ∧ ∀ x, x ≠ 121 → (∀ k, k < 7 → x ≠ A k) → I' x = I x) := by
  obtain ⟨n, hn⟩ : ∃ n, n = np + 2 := ⟨_, rfl⟩
  have e2 : nI np + 2 = nI n := by rw [hn]; exact nI_add np 2
  rw [← hn] at hF hB hS ⊢
  have hn7 : n ≤ 7 := by omega
  have a121 : ∀ k, k < 7 → (121 : Nat) ≠ A k := fun k hk q => by have := (h7 k hk).2.2.1; omega
  have crowds : ∀ (m i : Nat), i + m = n → ∀ I1 I', FrF 5 A n I I1 → (∀ k, k < n → I1 (A k) 5 = nI (ff F sz act n n k)) → FrF 6 A n I1 I' → (∀ k, k < i → I' (A k) 6 = nI (cw F act (ff F sz act n n) k n)) → XP S (d + 4) 55 15 [some (.ref 121), some (.int act), some (.int (nI n)), some (.int (nI i))] [] (hh I' J R) (fun v h' => v = none ∧ ∃ I' g s, h' = hh I' J (xrow R 122 g) ∧ isO (ff F sz act n n) (fun k => cw F act (ff F sz act n n) k n) sz n s ∧ (∀ j, n ≤ j → s j = j) ∧ (∀ j, j < 7 → g j = some (A (s j))) ∧ I' 121 1 = nI (if n ≤ 5 then n else 5) ∧ (∀ x j, x ≠ 121 → j ≠ 5 → j ≠ 6 → I' x j = I x j) ∧ ∀ x, x ≠ 121 → (∀ k, k < 7 → x ≠ A k) → I' x = I x) := by
    intro m
    induction m with
    | zero =>
      intro i hi I1 I' f1 h5 f2 h6
      have hi : i = n := by omega
      subst hi
      have me : (if nI i ≤ 5 then nI i else 5) = nI (if i ≤ 5 then i else 5) := by
        have : nI i ≤ 5 ↔ i ≤ 5 := nI_leI (b := 5) (by omega) (by decide)
        by_cases q : i ≤ 5
        · rw [if_pos q, if_pos (this.mpr q)]
        · rw [if_neg q, if_neg (fun t => q (this.mp t))]; rfl
      refine y_loc (pc' := 16) xD_55 rfl rfl rfl rfl ?_
      refine y_loc (pc' := 17) xD_55 rfl rfl rfl rfl ?_
      refine y_icge (pt := 47) (pf := 20) xD_55 rfl rfl rfl (fun h17 => ?_) (fun h17 => ?_)
      · skip
        refine y_loc (pc' := 48) xD_55 rfl rfl rfl rfl ?_
        refine y_loc (pc' := 49) xD_55 rfl rfl rfl rfl ?_
        refine y_callV xD_55 rfl rfl rfl rfl (by first | rfl | assumption) rfl rfl rfl rfl (s_sort (d := d + 2) (A := A) (n := i) (sz := sz) (fr := ff F sz act i i) (cr := fun k => cw F act (ff F sz act i i) k i) hR h7 hn7 (by omega) (fun k hk => ⟨(f2.1 _ 3 (by decide)).trans ((f1.1 _ 3 (by decide)).trans (hS k hk).1), (hS k hk).2⟩) (fun k hk => ⟨(f2.1 _ 5 (by decide)).trans (h5 k hk), by have := ff_ok (F := F) (sz := sz) (act := act) (n := i) i k; omega⟩) (fun k hk => ⟨h6 k hk, cw_le _⟩)) (fun v h' hq => ?_)
        obtain ⟨rfl, g, s, rfl, hO, hs, eg⟩ := hq
        refine y_loc (pc' := 53) xD_55 rfl rfl rfl rfl ?_
        refine y_loc (pc' := 54) xD_55 rfl rfl rfl rfl ?_
        refine y_ci (pc' := 55) (5) xD_55 rfl rfl rfl rfl ?_
        refine y_callS xD_55 rfl rfl rfl rfl rfl rfl rfl rfl (s_min) (fun v h' hq => ?_)
        obtain ⟨rfl, rfl⟩ := hq
        rw [me]
        refine m_putI (pc' := 61) xD_55 rfl rfl (by first | rfl | assumption) rfl rfl rfl ?_
        refine y_retV xD_55 rfl rfl ?_
        exact ⟨rfl, _, g, s, rfl, hO, hs, eg, xu_ii, fun x j a b c => by rw [xu_ne a]; exact (f2.1 x j c).trans (f1.1 x j b), fun x a b => by rw [xu_ne a]; exact (f2.2 x (fun k hk => b k (by omega))).trans (f1.2 x (fun k hk => b k (by omega)))⟩
      · skip
        exact absurd (Int32.le_refl _) h17
    | succ m ih =>
      intro i hi I1 I' f1 h5 f2 h6
      obtain ⟨ri, ci, -, -, -⟩ := h7 i (by omega)
      obtain ⟨ki0, -, -, -⟩ := kCase ci
      refine y_loc (pc' := 16) xD_55 rfl rfl rfl rfl ?_
      refine y_loc (pc' := 17) xD_55 rfl rfl rfl rfl ?_
      refine y_icge (pt := 47) (pf := 20) xD_55 rfl rfl rfl (fun h17 => ?_) (fun h17 => ?_)
      · skip
        exact absurd h17 (nI_ge (a := i) (b := n) (by omega) (by omega))
      · skip
        refine y_loc (pc' := 21) xD_55 rfl rfl rfl rfl ?_
        first | refine m_getR (pc' := 24) xD_55 rfl rfl rfl rfl (hR.1 _ _ _ rfl) rfl ?_ | refine m_getR (pc' := 24) xD_55 rfl rfl (by first | rfl | assumption) rfl (by assumption) rfl ?_
        refine y_loc (pc' := 25) xD_55 rfl rfl rfl rfl ?_
        refine m_aald (pc' := 26) (i) (q := 0) xD_55 rfl (by first | rfl | assumption) (by first | decide | assumption) (by first | assumption | omega) (by first | decide | assumption) (by first | rfl | assumption) ri rfl ?_
        refine y_loc (pc' := 27) xD_55 rfl rfl rfl rfl ?_
        refine y_loc (pc' := 28) xD_55 rfl rfl rfl rfl ?_
        first | refine m_getR (pc' := 31) xD_55 rfl rfl rfl rfl (hR.1 _ _ _ rfl) rfl ?_ | refine m_getR (pc' := 31) xD_55 rfl rfl (by first | rfl | assumption) rfl (by assumption) rfl ?_
        refine y_loc (pc' := 32) xD_55 rfl rfl rfl rfl ?_
        refine m_aald (pc' := 33) (i) (q := 0) xD_55 rfl (by first | rfl | assumption) (by first | decide | assumption) (by first | assumption | omega) (by first | decide | assumption) (by first | rfl | assumption) ri rfl ?_
        refine y_loc (pc' := 34) xD_55 rfl rfl rfl rfl ?_
        refine y_loc (pc' := 35) xD_55 rfl rfl rfl rfl ?_
        refine y_callV xD_55 rfl rfl rfl rfl (by first | rfl | assumption) rfl rfl rfl rfl (s_crowdOf (d := d + 1) (A := A) (n := n) (F := F) (fr := ff F sz act n n) hR h7 hn7 hF (fun k hk => ⟨(f2.1 _ 5 (by decide)).trans (h5 k hk), by have := ff_ok (F := F) (sz := sz) (act := act) (n := n) n k; omega⟩) i (by omega)) (fun v h' hq => ?_)
        obtain ⟨rfl, rfl⟩ := hq
        refine m_putI (pc' := 41) xD_55 rfl rfl (by first | rfl | assumption) rfl rfl rfl ?_
        refine y_inc (pc' := 44) (nI (i + 1)) xD_55 rfl rfl rfl (nI_1 (i)) rfl rfl ?_
        refine y_goto (pc' := 15) xD_55 rfl rfl ?_
        refine ih (i + 1) (by omega) I1 _ f1 h5 (f2.put (by omega)) (fun k hk => ?_)
        by_cases e : k = i
        · subst e; rw [xu_ii]
        · rw [xu_ne (fun q => e ((h7 k (by omega)).2.2.2.2 i (by omega) q))]
          exact h6 k (by omega)
  refine y_loc (pc' := 1) xD_55 rfl rfl rfl rfl ?_
  refine m_getI (pc' := 4) xD_55 rfl rfl rfl (by first | rfl | assumption) (e1) rfl ?_
  refine y_ci (pc' := 5) (2) xD_55 rfl rfl rfl rfl ?_
  refine y_iadd (pc' := 6) xD_55 rfl (e2) rfl ?_
  refine y_loc (pc' := 7) xD_55 rfl rfl rfl rfl ?_
  refine y_loc (pc' := 8) xD_55 rfl rfl rfl rfl ?_
  refine y_loc (pc' := 9) xD_55 rfl rfl rfl rfl ?_
  refine y_loc (pc' := 10) xD_55 rfl rfl rfl rfl ?_
  refine y_callV xD_55 rfl rfl rfl rfl (by first | rfl | assumption) rfl rfl rfl rfl (s_placeFronts (d := d) (A := A) (n := n) (F := F) (sz := sz) (act := act) hR h7 hn7 (by omega) hF hB hS) (fun v h' hq => ?_)
  obtain ⟨rfl, I1, rfl, f1, h5⟩ := hq
  refine y_ci (pc' := 14) (0) xD_55 rfl rfl rfl rfl ?_
  refine y_loc (pc' := 15) xD_55 rfl rfl rfl rfl ?_
  exact crowds n 0 (by omega) I1 I1 f1 h5 FrF.rfl' (fun k hk => absurd hk (by omega))
end ST

