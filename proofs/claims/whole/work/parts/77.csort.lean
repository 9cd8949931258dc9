/-! Fronts, crowds and the order: the class. -/
theorem RF_row {R : Nat → Nat → Option Nat} {x : Nat} {g : Nat → Option Nat} (hR : RF R) (hx : x = 122 ∨ x = 152) : RF (xrow R x g) := by
  have hall : rfT.all (fun q => q.1 != 122 && q.1 != 152) = true := by decide
  refine ⟨fun a j t h => ?_, fun a ha => ?_⟩
  · have : a ≠ x := by
      unfold rfF at h
      cases hf : rfT.find? (fun q => q.1 == a && q.2.1 == j) with
      | none => rw [hf] at h; cases h
      | some r =>
        have h1 := List.find?_some hf
        have h2 := List.all_eq_true.mp hall r (List.mem_of_find?_eq_some hf)
        simp only [Bool.and_eq_true, beq_iff_eq, bne_iff_ne, ne_eq] at h1 h2
        rw [← h1.1]
        omega
    rw [xrow_ne this]
    exact hR.1 a j t h
  · have : a ≠ x := by unfold isCase at ha; omega
    rw [xrow_ne this]
    exact hR.2 a ha
theorem zB_f {b : Bool} : zB b = 0 ↔ b = false := by cases b <;> simp [zB]
section CS
variable {S : XS} {d n : Nat} {I : Nat → Nat → Int32} {J : Nat → Nat → Int64} {R : Nat → Nat → Option Nat} {A sz : Nat → Nat} {F : Nat → Nat → Int64} {act : Int32}
theorem FrU (h7 : C7 R A) (hn : n ≤ 7) {I' : Nat → Nat → Int32} {fr : Nat → Nat} {i j v : Nat} (hi : i < n) (h : ∀ k, k < n → I' (A k) j = nI (fr k)) : ∀ k, k < n → xu I' (A i) j (nI v) (A k) j = nI (un fr i v k) := by
  intro k hk
  unfold un
  by_cases e : k = i
  · subst e; rw [if_pos rfl, xu_ii]
  · rw [if_neg e, xu_ne (fun q => e ((h7 k (by omega)).2.2.2.2 i (by omega) q))]
    exact h k hk
/-- Population.placeFronts -/
theorem s_placeFronts (hR : RF R) (h7 : C7 R A) (hn : n ≤ 7) (hn0 : 0 < n) (hF : FA J A F act n) (hB : FB F n) (hS : SA I A sz n) :
    XP S (d + 3) 56 0 (xent [.ref 121, .int (nI n), .int act] 5) [] (hh I J R) (fun v h' => v = none ∧ ∃ I', h' = hh I' J R ∧ FrF 5 A n I I' ∧ ∀ k, k < n → I' (A k) 5 = nI (ff F sz act n n k)) := by
  have inner : ∀ (f : Nat), f < n → (∀ I' (q4 : Option Value), FrF 5 A n I I' → (∀ k, k < n → I' (A k) 5 = nI (ff F sz act n (f + 1) k)) → XP S (d + 3) 56 58 [some (.ref 121), some (.int (nI n)), some (.int act), some (.int (nI (f + 2))), q4] [] (hh I' J R) (fun v h' => v = none ∧ ∃ I', h' = hh I' J R ∧ FrF 5 A n I I' ∧ ∀ k, k < n → I' (A k) 5 = nI (ff F sz act n n k))) → ∀ (m i : Nat), i + m = n → ∀ I', FrF 5 A n I I' → (∀ k, k < n → I' (A k) 5 = nI (fi F act n (f + 1) (ff F sz act n f) i k)) → XP S (d + 3) 56 66 [some (.ref 121), some (.int (nI n)), some (.int act), some (.int (nI (f + 1))), some (.int (nI i))] [] (hh I' J R) (fun v h' => v = none ∧ ∃ I', h' = hh I' J R ∧ FrF 5 A n I I' ∧ ∀ k, k < n → I' (A k) 5 = nI (ff F sz act n n k)) := by
    intro f hf K m
    have fok := fi_ok (F := F) (act := act) (n := n) (f := f + 1) (fr := ff F sz act n f) (fun k => (ff_ok f k).imp id (fun q => by omega))
    induction m with
    | zero =>
      intro i hi I' hI h5
      have hi : i = n := by omega
      subst hi
      refine y_loc (pc' := 68) xD_56 rfl rfl rfl rfl ?_
      refine y_loc (pc' := 69) xD_56 rfl rfl rfl rfl ?_
      refine y_icge (pt := 121) (pf := 72) xD_56 rfl rfl rfl (fun h69 => ?_) (fun h69 => ?_)
      · skip
        refine y_inc (pc' := 124) (nI ((f + 1) + 1)) xD_56 rfl rfl rfl (nI_1 ((f + 1))) rfl rfl ?_
        refine y_goto (pc' := 58) xD_56 rfl rfl ?_
        exact K I' _ hI h5
      · skip
        exact absurd (Int32.le_refl _) h69
    | succ m ih =>
      intro i hi I' hI h5
      obtain ⟨ri, ci, -, -, -⟩ := h7 i (by omega)
      obtain ⟨ki0, -, -, -⟩ := kCase ci
      have fe := h5 i (by omega)
      have e8 : nI (fi F act n (f + 1) (ff F sz act n f) i i) = 8 ↔ fi F act n (f + 1) (ff F sz act n f) i i = 8 := nI_eq (b := 8) (by have := fok i i; omega) (by decide)
      have stepG : ∀ I1, FrF 5 A n I I1 → (∀ k, k < n → I1 (A k) 5 = nI (fi F act n (f + 1) (ff F sz act n f) (i + 1) k)) → XP S (d + 3) 56 115 [some (.ref 121), some (.int (nI n)), some (.int act), some (.int (nI (f + 1))), some (.int (nI i))] [] (hh I1 J R) (fun v h' => v = none ∧ ∃ I', h' = hh I' J R ∧ FrF 5 A n I I' ∧ ∀ k, k < n → I' (A k) 5 = nI (ff F sz act n n k)) := by
        intro I1 a1 a2
        refine y_inc (pc' := 118) (nI (i + 1)) xD_56 rfl rfl rfl (nI_1 (i)) rfl rfl ?_
        refine y_goto (pc' := 66) xD_56 rfl rfl ?_
        exact ih (i + 1) (by omega) I1 a1 a2
      have n1 : ¬ (fi F act n (f + 1) (ff F sz act n f) i i = 8 ∧ bn F act (fi F act n (f + 1) (ff F sz act n f) i) (f + 1) i n = false) → ∀ k, k < n → I' (A k) 5 = nI (fi F act n (f + 1) (ff F sz act n f) (i + 1) k) := fun q => by
        simp only [fi]
        rw [if_neg q]
        exact h5
      have y1 : (fi F act n (f + 1) (ff F sz act n f) i i = 8 ∧ bn F act (fi F act n (f + 1) (ff F sz act n f) i) (f + 1) i n = false) → ∀ k, k < n → xu I' (A i) 5 (nI (f + 1)) (A k) 5 = nI (fi F act n (f + 1) (ff F sz act n f) (i + 1) k) := fun q => by
        simp only [fi]
        rw [if_pos q]
        exact FrU h7 hn (by omega) h5
      refine y_loc (pc' := 68) xD_56 rfl rfl rfl rfl ?_
      refine y_loc (pc' := 69) xD_56 rfl rfl rfl rfl ?_
      refine y_icge (pt := 121) (pf := 72) xD_56 rfl rfl rfl (fun h69 => ?_) (fun h69 => ?_)
      · skip
        exact absurd h69 (nI_ge (a := i) (b := n) (by omega) (by omega))
      · skip
        refine y_loc (pc' := 73) xD_56 rfl rfl rfl rfl ?_
        first | refine m_getR (pc' := 76) xD_56 rfl rfl rfl rfl (hR.1 _ _ _ rfl) rfl ?_ | refine m_getR (pc' := 76) xD_56 rfl rfl (by first | rfl | assumption) rfl (by assumption) rfl ?_
        refine y_loc (pc' := 78) xD_56 rfl rfl rfl rfl ?_
        refine m_aald (pc' := 79) (i) (q := 0) xD_56 rfl (by first | rfl | assumption) (by first | decide | assumption) (by first | assumption | omega) (by first | decide | assumption) (by first | rfl | assumption) ri rfl ?_
        refine m_getI (pc' := 82) xD_56 rfl rfl rfl (by first | rfl | assumption) (fe) rfl ?_
        refine y_ci (pc' := 84) (8) xD_56 rfl rfl rfl rfl ?_
        refine y_icne (pt := 115) (pf := 87) xD_56 rfl rfl rfl (fun h84 => ?_) (fun h84 => ?_)
        · skip
          first
          | exact stepG _ hI (n1 (fun q => h84 (e8.mpr q.1)))
          | exact stepG _ hI (n1 (fun q => h101 (by rw [q.2]; rfl)))
          | exact stepG _ (hI.put (by omega)) (y1 ⟨e8.mp h84, zB_f.mp h101⟩)
        · skip
          refine y_loc (pc' := 88) xD_56 rfl rfl rfl rfl ?_
          refine y_loc (pc' := 89) xD_56 rfl rfl rfl rfl ?_
          first | refine m_getR (pc' := 92) xD_56 rfl rfl rfl rfl (hR.1 _ _ _ rfl) rfl ?_ | refine m_getR (pc' := 92) xD_56 rfl rfl (by first | rfl | assumption) rfl (by assumption) rfl ?_
          refine y_loc (pc' := 94) xD_56 rfl rfl rfl rfl ?_
          refine m_aald (pc' := 95) (i) (q := 0) xD_56 rfl (by first | rfl | assumption) (by first | decide | assumption) (by first | assumption | omega) (by first | decide | assumption) (by first | rfl | assumption) ri rfl ?_
          refine y_loc (pc' := 96) xD_56 rfl rfl rfl rfl ?_
          refine y_loc (pc' := 97) xD_56 rfl rfl rfl rfl ?_
          refine y_loc (pc' := 98) xD_56 rfl rfl rfl rfl ?_
          refine y_callV xD_56 rfl rfl rfl rfl (by first | rfl | assumption) rfl rfl rfl rfl (s_isBeaten (d := d) (F := F) (A := A) (n := n) (fr := fi F act n (f + 1) (ff F sz act n f) i) hR h7 hn hF (fun k hk => ⟨h5 k hk, by have := fok i k; omega⟩) i (f + 1) (by omega) (by omega)) (fun v h' hq => ?_)
          obtain ⟨rfl, rfl⟩ := hq
          refine y_ifne (pt := 115) (pf := 104) xD_56 rfl rfl rfl (fun h101 => ?_) (fun h101 => ?_)
          · skip
            first
            | exact stepG _ hI (n1 (fun q => h84 (e8.mpr q.1)))
            | exact stepG _ hI (n1 (fun q => h101 (by rw [q.2]; rfl)))
            | exact stepG _ (hI.put (by omega)) (y1 ⟨e8.mp h84, zB_f.mp h101⟩)
          · skip
            refine y_loc (pc' := 105) xD_56 rfl rfl rfl rfl ?_
            first | refine m_getR (pc' := 108) xD_56 rfl rfl rfl rfl (hR.1 _ _ _ rfl) rfl ?_ | refine m_getR (pc' := 108) xD_56 rfl rfl (by first | rfl | assumption) rfl (by assumption) rfl ?_
            refine y_loc (pc' := 110) xD_56 rfl rfl rfl rfl ?_
            refine m_aald (pc' := 111) (i) (q := 0) xD_56 rfl (by first | rfl | assumption) (by first | decide | assumption) (by first | assumption | omega) (by first | decide | assumption) (by first | rfl | assumption) ri rfl ?_
            refine y_loc (pc' := 112) xD_56 rfl rfl rfl rfl ?_
            refine m_putI (pc' := 115) xD_56 rfl rfl (by first | rfl | assumption) rfl rfl rfl ?_
            first
            | exact stepG _ hI (n1 (fun q => h84 (e8.mpr q.1)))
            | exact stepG _ hI (n1 (fun q => h101 (by rw [q.2]; rfl)))
            | exact stepG _ (hI.put (by omega)) (y1 ⟨e8.mp h84, zB_f.mp h101⟩)
  have outer : ∀ (m f : Nat), f + m = n → ∀ I' (q4 : Option Value), FrF 5 A n I I' → (∀ k, k < n → I' (A k) 5 = nI (ff F sz act n f k)) → XP S (d + 3) 56 58 [some (.ref 121), some (.int (nI n)), some (.int act), some (.int (nI (f + 1))), q4] [] (hh I' J R) (fun v h' => v = none ∧ ∃ I', h' = hh I' J R ∧ FrF 5 A n I I' ∧ ∀ k, k < n → I' (A k) 5 = nI (ff F sz act n n k)) := by
    intro m
    induction m with
    | zero =>
      intro f hf I' q4 hI h5
      have hf : f = n := by omega
      subst hf
      refine y_loc (pc' := 59) xD_56 rfl rfl rfl rfl ?_
      refine y_loc (pc' := 60) xD_56 rfl rfl rfl rfl ?_
      refine y_icgt (pt := 127) (pf := 63) xD_56 rfl rfl rfl (fun h60 => ?_) (fun h60 => ?_)
      · skip
        refine y_retV xD_56 rfl rfl ?_
        exact ⟨rfl, I', rfl, hI, h5⟩
      · skip
        exact absurd (nI_lt (a := f) (b := f + 1) (by omega) (by omega)) h60
    | succ m ih =>
      intro f hf I' q4 hI h5
      refine y_loc (pc' := 59) xD_56 rfl rfl rfl rfl ?_
      refine y_loc (pc' := 60) xD_56 rfl rfl rfl rfl ?_
      refine y_icgt (pt := 127) (pf := 63) xD_56 rfl rfl rfl (fun h60 => ?_) (fun h60 => ?_)
      · skip
        exact absurd h60 (nI_nlt (by omega) (by omega))
      · skip
        refine y_ci (pc' := 64) (0) xD_56 rfl rfl rfl rfl ?_
        refine y_loc (pc' := 66) xD_56 rfl rfl rfl rfl ?_
        exact inner f (by omega) (fun I1 q a b => ih (f + 1) (by omega) I1 q a b) n 0 (by omega) I' hI h5
  have goals : ∀ (m g : Nat), g + m = 24 → ∀ I' (q4 : Option Value), FrF 5 A n I I' → (∀ k, k < n → I' (A k) 5 = nI (fp F sz act n g k)) → XP S (d + 3) 56 26 [some (.ref 121), some (.int (nI n)), some (.int act), some (.int (nI g)), q4] [] (hh I' J R) (fun v h' => v = none ∧ ∃ I', h' = hh I' J R ∧ FrF 5 A n I I' ∧ ∀ k, k < n → I' (A k) 5 = nI (ff F sz act n n k)) := by
    intro m
    induction m with
    | zero =>
      intro g hg I' q4 hI h5
      have hg : g = 24 := by omega
      subst hg
      refine y_loc (pc' := 27) xD_56 rfl rfl rfl rfl ?_
      refine y_ci (pc' := 29) (24) xD_56 rfl rfl rfl rfl ?_
      refine y_icge (pt := 56) (pf := 32) xD_56 rfl rfl rfl (fun h29 => ?_) (fun h29 => ?_)
      · skip
        refine y_ci (pc' := 57) (1) xD_56 rfl rfl rfl rfl ?_
        refine y_loc (pc' := 58) xD_56 rfl rfl rfl rfl ?_
        exact outer n 0 (by omega) I' q4 hI h5
      · skip
        exact absurd (Int32.le_refl _) h29
    | succ m ih =>
      intro g hg I' q4 hI h5
      have g24 : g < 24 := by omega
      have stepG : ∀ I1, FrF 5 A n I I1 → (∀ k, k < n → I1 (A k) 5 = nI (fp F sz act n (g + 1) k)) → XP S (d + 3) 56 50 [some (.ref 121), some (.int (nI n)), some (.int act), some (.int (nI g)), q4] [] (hh I1 J R) (fun v h' => v = none ∧ ∃ I', h' = hh I' J R ∧ FrF 5 A n I I' ∧ ∀ k, k < n → I' (A k) 5 = nI (ff F sz act n n k)) := by
        intro I1 a1 a2
        refine y_inc (pc' := 53) (nI (g + 1)) xD_56 rfl rfl rfl (nI_1 (g)) rfl rfl ?_
        refine y_goto (pc' := 26) xD_56 rfl rfl ?_
        exact ih (g + 1) (by omega) I1 q4 a1 a2
      have n1 : ¬ ib act g = true → ∀ k, k < n → I' (A k) 5 = nI (fp F sz act n (g + 1) k) := fun q => by
        simp only [fp]
        rw [if_neg q]
        exact h5
      have y1 : ib act g = true → ∀ k, k < n → xu I' (A (pf F sz g n)) 5 (nI 0) (A k) 5 = nI (fp F sz act n (g + 1) k) := fun q => by
        simp only [fp]
        rw [if_pos q]
        exact FrU h7 hn (pf_lt n hn0) h5
      have g1 : ¬ zB (decide (¬ bitI act (nI g) = 0)) = 0 → ib act g = true := fun q => by
        have := zB_n0.mp q
        rw [bit0 g24, Bool.not_eq_false] at this
        exact this
      have g0 : zB (decide (¬ bitI act (nI g) = 0)) = 0 → ¬ ib act g = true := fun q => by
        have q := Classical.not_not.mp (zB_0.mp q)
        rw [bit0 g24] at q
        rw [q]; decide
      have kp := (kCase (h7 (pf F sz g n) (by have := pf_lt (F := F) (sz := sz) (g := g) n hn0; omega)).2.1).1
      refine y_loc (pc' := 27) xD_56 rfl rfl rfl rfl ?_
      refine y_ci (pc' := 29) (24) xD_56 rfl rfl rfl rfl ?_
      refine y_icge (pt := 56) (pf := 32) xD_56 rfl rfl rfl (fun h29 => ?_) (fun h29 => ?_)
      · skip
        exact absurd h29 (nI_ge (a := g) (b := 24) (by omega) (by decide))
      · skip
        refine y_loc (pc' := 33) xD_56 rfl rfl rfl rfl ?_
        refine y_loc (pc' := 34) xD_56 rfl rfl rfl rfl ?_
        refine y_callS xD_56 rfl rfl rfl rfl rfl rfl rfl rfl (s_hasGoal) (fun v h' hq => ?_)
        obtain ⟨rfl, rfl⟩ := hq
        refine y_ifeq (pt := 50) (pf := 40) xD_56 rfl rfl rfl (fun h37 => ?_) (fun h37 => ?_)
        · skip
          first
          | exact stepG _ hI (n1 (g0 h37))
          | exact stepG _ (hI.put (pf_lt n hn0)) (y1 (g1 h37))
        · skip
          refine y_loc (pc' := 41) xD_56 rfl rfl rfl rfl ?_
          refine y_loc (pc' := 42) xD_56 rfl rfl rfl rfl ?_
          refine y_loc (pc' := 43) xD_56 rfl rfl rfl rfl ?_
          refine y_callV xD_56 rfl rfl rfl rfl (by first | rfl | assumption) rfl rfl rfl rfl (s_preferredFor (d := d + 2) (A := A) (F := F) (sz := sz) (act := act) hR h7 hn hn0 hF hB (fun k hk => ⟨(hI.1 _ 3 (by decide)).trans (hS k hk).1, (hS k hk).2⟩) g g24 (g1 h37)) (fun v h' hq => ?_)
          obtain ⟨rfl, rfl⟩ := hq
          refine y_ci (pc' := 47) (0) xD_56 rfl rfl rfl rfl ?_
          refine m_putI (pc' := 50) xD_56 rfl rfl (by first | rfl | assumption) rfl rfl rfl ?_
          first
          | exact stepG _ hI (n1 (g0 h37))
          | exact stepG _ (hI.put (pf_lt n hn0)) (y1 (g1 h37))
  have first8 : ∀ (m i : Nat), i + m = n → ∀ I' (q4 : Option Value), FrF 5 A n I I' → (∀ k, k < i → I' (A k) 5 = nI 8) → XP S (d + 3) 56 2 [some (.ref 121), some (.int (nI n)), some (.int act), some (.int (nI i)), q4] [] (hh I' J R) (fun v h' => v = none ∧ ∃ I', h' = hh I' J R ∧ FrF 5 A n I I' ∧ ∀ k, k < n → I' (A k) 5 = nI (ff F sz act n n k)) := by
    intro m
    induction m with
    | zero =>
      intro i hi I' q4 hI h5
      have hi : i = n := by omega
      subst hi
      refine y_loc (pc' := 3) xD_56 rfl rfl rfl rfl ?_
      refine y_loc (pc' := 4) xD_56 rfl rfl rfl rfl ?_
      refine y_icge (pt := 24) (pf := 7) xD_56 rfl rfl rfl (fun h4 => ?_) (fun h4 => ?_)
      · skip
        refine y_ci (pc' := 25) (0) xD_56 rfl rfl rfl rfl ?_
        refine y_loc (pc' := 26) xD_56 rfl rfl rfl rfl ?_
        exact goals 24 0 (by omega) I' q4 hI h5
      · skip
        exact absurd (Int32.le_refl _) h4
    | succ m ih =>
      intro i hi I' q4 hI h5
      obtain ⟨ri, ci, -, -, -⟩ := h7 i (by omega)
      obtain ⟨ki0, -, -, -⟩ := kCase ci
      refine y_loc (pc' := 3) xD_56 rfl rfl rfl rfl ?_
      refine y_loc (pc' := 4) xD_56 rfl rfl rfl rfl ?_
      refine y_icge (pt := 24) (pf := 7) xD_56 rfl rfl rfl (fun h4 => ?_) (fun h4 => ?_)
      · skip
        exact absurd h4 (nI_ge (a := i) (b := n) (by omega) (by omega))
      · skip
        refine y_loc (pc' := 8) xD_56 rfl rfl rfl rfl ?_
        first | refine m_getR (pc' := 11) xD_56 rfl rfl rfl rfl (hR.1 _ _ _ rfl) rfl ?_ | refine m_getR (pc' := 11) xD_56 rfl rfl (by first | rfl | assumption) rfl (by assumption) rfl ?_
        refine y_loc (pc' := 12) xD_56 rfl rfl rfl rfl ?_
        refine m_aald (pc' := 13) (i) (q := 0) xD_56 rfl (by first | rfl | assumption) (by first | decide | assumption) (by first | assumption | omega) (by first | decide | assumption) (by first | rfl | assumption) ri rfl ?_
        refine y_ci (pc' := 15) (8) xD_56 rfl rfl rfl rfl ?_
        refine m_putI (pc' := 18) xD_56 rfl rfl (by first | rfl | assumption) rfl rfl rfl ?_
        refine y_inc (pc' := 21) (nI (i + 1)) xD_56 rfl rfl rfl (nI_1 (i)) rfl rfl ?_
        refine y_goto (pc' := 2) xD_56 rfl rfl ?_
        refine ih (i + 1) (by omega) _ q4 (hI.put (by omega)) (fun k hk => ?_)
        by_cases e : k = i
        · subst e; rw [xu_ii]; rfl
        · rw [xu_ne (fun q => e ((h7 k (by omega)).2.2.2.2 i (by omega) q))]
          exact h5 k (by omega)
  refine y_ci (pc' := 1) (0) xD_56 rfl rfl rfl rfl ?_
  refine y_loc (pc' := 2) xD_56 rfl rfl rfl rfl ?_
  exact first8 n 0 (by omega) I _ FrF.rfl' (fun k hk => absurd hk (by omega))
/-- Population.crowdOf -/
theorem s_crowdOf (hR : RF R) (h7 : C7 R A) (hn : n ≤ 7) (hF : FA J A F act n) {fr : Nat → Nat} (hfr : ∀ k, k < n → I (A k) 5 = nI (fr k) ∧ fr k ≤ 8) (k : Nat) (hk : k < n) :
    XP S (d + 2) 60 0 (xent [.ref 121, .ref (A k), .int (nI n), .int act] 6) [] (hh I J R) (rI (nI (cw F act fr k n)) (hh I J R)) := by
  obtain ⟨rk, ck, -, -, -⟩ := h7 k (by omega)
  obtain ⟨kk0, -, -, -⟩ := kCase ck
  have loop : ∀ (m o : Nat), o + m = n → XP S (d + 2) 60 6 [some (.ref 121), some (.ref (A k)), some (.int (nI n)), some (.int act), some (.int (nI (cw F act fr k o))), some (.int (nI o))] [] (hh I J R) (rI (nI (cw F act fr k n)) (hh I J R)) := by
    intro m
    induction m with
    | zero =>
      intro o ho
      have ho : o = n := by omega
      subst ho
      refine y_loc (pc' := 8) xD_60 rfl rfl rfl rfl ?_
      refine y_loc (pc' := 9) xD_60 rfl rfl rfl rfl ?_
      refine y_icge (pt := 54) (pf := 12) xD_60 rfl rfl rfl (fun h9 => ?_) (fun h9 => ?_)
      · skip
        refine y_loc (pc' := 56) xD_60 rfl rfl rfl rfl ?_
        refine y_retI xD_60 rfl rfl ?_
        exact ⟨rfl, rfl⟩
      · skip
        exact absurd (Int32.le_refl _) h9
    | succ m ih =>
      intro o ho
      obtain ⟨ro, co, -, -, -⟩ := h7 o (by omega)
      obtain ⟨ko0, -, -, -⟩ := kCase co
      have b1 := bt_le (F := F) (act := act) (o := o) (k := k)
      have b2 := cw_le (F := F) (act := act) (fr := fr) (k := k) o
      have fe : nI (fr o) = nI (fr k) ↔ fr o = fr k := nI_inj (by have := (hfr o (by omega)).2; omega) (by have := (hfr k hk).2; omega)
      have me : (if nI (bt F act o k) ≤ nI (cw F act fr k o) then nI (cw F act fr k o) else nI (bt F act o k)) = nI (if bt F act o k ≤ cw F act fr k o then cw F act fr k o else bt F act o k) := by
        by_cases q : bt F act o k ≤ cw F act fr k o
        · rw [if_pos q, if_pos (nI_le q (by omega))]
        · rw [if_neg q, if_neg (nI_ge (by omega) (by omega))]
      have step := ih (o + 1) (by omega)
      simp only [cw] at step
      have stepY := fun (q : fr o = fr k) => (show (if fr o = fr k then (if bt F act o k ≤ cw F act fr k o then cw F act fr k o else bt F act o k) else cw F act fr k o) = _ from if_pos q) ▸ step
      have stepN := fun (q : ¬ fr o = fr k) => (show (if fr o = fr k then (if bt F act o k ≤ cw F act fr k o then cw F act fr k o else bt F act o k) else cw F act fr k o) = _ from if_neg q) ▸ step
      refine y_loc (pc' := 8) xD_60 rfl rfl rfl rfl ?_
      refine y_loc (pc' := 9) xD_60 rfl rfl rfl rfl ?_
      refine y_icge (pt := 54) (pf := 12) xD_60 rfl rfl rfl (fun h9 => ?_) (fun h9 => ?_)
      · skip
        exact absurd h9 (nI_ge (a := o) (b := n) (by omega) (by omega))
      · skip
        refine y_loc (pc' := 13) xD_60 rfl rfl rfl rfl ?_
        first | refine m_getR (pc' := 16) xD_60 rfl rfl rfl rfl (hR.1 _ _ _ rfl) rfl ?_ | refine m_getR (pc' := 16) xD_60 rfl rfl (by first | rfl | assumption) rfl (by assumption) rfl ?_
        refine y_loc (pc' := 18) xD_60 rfl rfl rfl rfl ?_
        refine m_aald (pc' := 19) (o) (q := 0) xD_60 rfl (by first | rfl | assumption) (by first | decide | assumption) (by first | assumption | omega) (by first | decide | assumption) (by first | rfl | assumption) ro rfl ?_
        refine m_getI (pc' := 22) xD_60 rfl rfl rfl (by first | rfl | assumption) ((hfr o (by omega)).1) rfl ?_
        refine y_loc (pc' := 23) xD_60 rfl rfl rfl rfl ?_
        refine m_getI (pc' := 26) xD_60 rfl rfl rfl (by first | rfl | assumption) ((hfr k hk).1) rfl ?_
        refine y_icne (pt := 48) (pf := 29) xD_60 rfl rfl rfl (fun h26 => ?_) (fun h26 => ?_)
        · skip
          refine y_inc (pc' := 51) (nI (o + 1)) xD_60 rfl rfl rfl (nI_1 (o)) rfl rfl ?_
          refine y_goto (pc' := 6) xD_60 rfl rfl ?_
          first
          | exact stepN (fun q => h26 (fe.mpr q))
          | exact stepY (fe.mp h26)
        · skip
          refine y_loc (pc' := 31) xD_60 rfl rfl rfl rfl ?_
          refine y_loc (pc' := 32) xD_60 rfl rfl rfl rfl ?_
          first | refine m_getR (pc' := 35) xD_60 rfl rfl rfl rfl (hR.1 _ _ _ rfl) rfl ?_ | refine m_getR (pc' := 35) xD_60 rfl rfl (by first | rfl | assumption) rfl (by assumption) rfl ?_
          refine y_loc (pc' := 37) xD_60 rfl rfl rfl rfl ?_
          refine m_aald (pc' := 38) (o) (q := 0) xD_60 rfl (by first | rfl | assumption) (by first | decide | assumption) (by first | assumption | omega) (by first | decide | assumption) (by first | rfl | assumption) ro rfl ?_
          refine y_loc (pc' := 39) xD_60 rfl rfl rfl rfl ?_
          refine y_loc (pc' := 40) xD_60 rfl rfl rfl rfl ?_
          refine y_callS xD_60 rfl rfl rfl rfl rfl rfl rfl rfl (s_goalsNearer (d := d) (F := F) (o := o) (k := k) hR co ck (hF o (by omega)) (hF k hk)) (fun v h' hq => ?_)
          obtain ⟨rfl, rfl⟩ := hq
          refine y_callS xD_60 rfl rfl rfl rfl rfl rfl rfl rfl (s_max) (fun v h' hq => ?_)
          obtain ⟨rfl, rfl⟩ := hq
          rw [me]
          refine y_loc (pc' := 48) xD_60 rfl rfl rfl rfl ?_
          refine y_inc (pc' := 51) (nI (o + 1)) xD_60 rfl rfl rfl (nI_1 (o)) rfl rfl ?_
          refine y_goto (pc' := 6) xD_60 rfl rfl ?_
          first
          | exact stepN (fun q => h26 (fe.mpr q))
          | exact stepY (fe.mp h26)
  refine y_ci (pc' := 1) (0) xD_60 rfl rfl rfl rfl ?_
  refine y_loc (pc' := 3) xD_60 rfl rfl rfl rfl ?_
  refine y_ci (pc' := 4) (0) xD_60 rfl rfl rfl rfl ?_
  refine y_loc (pc' := 6) xD_60 rfl rfl rfl rfl ?_
  exact loop n 0 (by omega)
/-- Population.goesBefore -/
theorem s_goesBefore {a b i j : Nat} {fr cr : Nat → Nat} (ha : isCase a) (hb : isCase b) (f1 : I a 5 = nI (fr i)) (f2 : I b 5 = nI (fr j)) (c1 : I a 6 = nI (cr i)) (c2 : I b 6 = nI (cr j)) (s1 : I a 3 = nI (sz i)) (s2 : I b 3 = nI (sz j)) (hf1 : fr i ≤ 8) (hf2 : fr j ≤ 8) (hc1 : cr i ≤ 24) (hc2 : cr j ≤ 24) (hs1 : sz i ≤ 6) (hs2 : sz j ≤ 6) :
    XP S d 63 0 (xent [.ref a, .ref b] 2) [] (hh I J R) (fun v h' => (∃ t : Bool, (t = true ↔ gB fr cr sz i j) ∧ v = some (.int (zB t))) ∧ h' = hh I J R) := by
  have ka := (kCase ha).1
  have kb := (kCase hb).1
  have ef : nI (fr i) = nI (fr j) ↔ fr i = fr j := nI_inj (by omega) (by omega)
  have ec : nI (cr i) = nI (cr j) ↔ cr i = cr j := nI_inj (by omega) (by omega)
  have lf : nI (fr j) ≤ nI (fr i) ↔ fr j ≤ fr i := nI_leI (by omega) (by omega)
  have lc : nI (cr j) ≤ nI (cr i) ↔ cr j ≤ cr i := nI_leI (by omega) (by omega)
  have ls : nI (sz j) ≤ nI (sz i) ↔ sz j ≤ sz i := nI_leI (by omega) (by omega)
  refine y_loc (pc' := 1) xD_63 rfl rfl rfl rfl ?_
  refine m_getI (pc' := 4) xD_63 rfl rfl rfl (by first | rfl | assumption) (f1) rfl ?_
  refine y_loc (pc' := 5) xD_63 rfl rfl rfl rfl ?_
  refine m_getI (pc' := 8) xD_63 rfl rfl rfl (by first | rfl | assumption) (f2) rfl ?_
  refine y_iceq (pt := 28) (pf := 11) xD_63 rfl rfl rfl (fun h8 => ?_) (fun h8 => ?_)
  · skip
    refine y_loc (pc' := 29) xD_63 rfl rfl rfl rfl ?_
    refine m_getI (pc' := 32) xD_63 rfl rfl rfl (by first | rfl | assumption) (c1) rfl ?_
    refine y_loc (pc' := 33) xD_63 rfl rfl rfl rfl ?_
    refine m_getI (pc' := 36) xD_63 rfl rfl rfl (by first | rfl | assumption) (c2) rfl ?_
    refine y_iceq (pt := 56) (pf := 39) xD_63 rfl rfl rfl (fun h36 => ?_) (fun h36 => ?_)
    · skip
      refine y_loc (pc' := 57) xD_63 rfl rfl rfl rfl ?_
      refine m_getI (pc' := 60) xD_63 rfl rfl rfl (by first | rfl | assumption) (s1) rfl ?_
      refine y_loc (pc' := 61) xD_63 rfl rfl rfl rfl ?_
      refine m_getI (pc' := 64) xD_63 rfl rfl rfl (by first | rfl | assumption) (s2) rfl ?_
      refine y_icge (pt := 71) (pf := 67) xD_63 rfl rfl rfl (fun h64 => ?_) (fun h64 => ?_)
      · skip
        refine y_ci (pc' := 72) (0) xD_63 rfl rfl rfl rfl ?_
        refine y_retZ xD_63 rfl rfl (by first | decide | assumption) ?_
        first | exact ⟨⟨true, ⟨fun _ => Or.inr (by rw [ef] at h8; rw [ec] at h36; rw [ls] at h64; omega), fun _ => rfl⟩, rfl⟩, rfl⟩ | exact ⟨⟨false, ⟨fun q => absurd q (by decide), fun q => by rw [ef] at h8; rw [ec] at h36; rw [ls] at h64; unfold gB at q; omega⟩, rfl⟩, rfl⟩
      · skip
        refine y_ci (pc' := 68) (1) xD_63 rfl rfl rfl rfl ?_
        refine y_goto (pc' := 72) xD_63 rfl rfl ?_
        refine y_retZ xD_63 rfl rfl (by first | decide | assumption) ?_
        first | exact ⟨⟨true, ⟨fun _ => Or.inr (by rw [ef] at h8; rw [ec] at h36; rw [ls] at h64; omega), fun _ => rfl⟩, rfl⟩, rfl⟩ | exact ⟨⟨false, ⟨fun q => absurd q (by decide), fun q => by rw [ef] at h8; rw [ec] at h36; rw [ls] at h64; unfold gB at q; omega⟩, rfl⟩, rfl⟩
    · skip
      refine y_loc (pc' := 40) xD_63 rfl rfl rfl rfl ?_
      refine m_getI (pc' := 43) xD_63 rfl rfl rfl (by first | rfl | assumption) (c1) rfl ?_
      refine y_loc (pc' := 44) xD_63 rfl rfl rfl rfl ?_
      refine m_getI (pc' := 47) xD_63 rfl rfl rfl (by first | rfl | assumption) (c2) rfl ?_
      refine y_icge (pt := 54) (pf := 50) xD_63 rfl rfl rfl (fun h47 => ?_) (fun h47 => ?_)
      · skip
        refine y_ci (pc' := 55) (0) xD_63 rfl rfl rfl rfl ?_
        refine y_retZ xD_63 rfl rfl (by first | decide | assumption) ?_
        first | exact ⟨⟨true, ⟨fun _ => Or.inr (by rw [ef] at h8; rw [ec] at h36; rw [lc] at h47; omega), fun _ => rfl⟩, rfl⟩, rfl⟩ | exact ⟨⟨false, ⟨fun q => absurd q (by decide), fun q => by rw [ef] at h8; rw [ec] at h36; rw [lc] at h47; unfold gB at q; omega⟩, rfl⟩, rfl⟩
      · skip
        refine y_ci (pc' := 51) (1) xD_63 rfl rfl rfl rfl ?_
        refine y_goto (pc' := 55) xD_63 rfl rfl ?_
        refine y_retZ xD_63 rfl rfl (by first | decide | assumption) ?_
        first | exact ⟨⟨true, ⟨fun _ => Or.inr (by rw [ef] at h8; rw [ec] at h36; rw [lc] at h47; omega), fun _ => rfl⟩, rfl⟩, rfl⟩ | exact ⟨⟨false, ⟨fun q => absurd q (by decide), fun q => by rw [ef] at h8; rw [ec] at h36; rw [lc] at h47; unfold gB at q; omega⟩, rfl⟩, rfl⟩
  · skip
    refine y_loc (pc' := 12) xD_63 rfl rfl rfl rfl ?_
    refine m_getI (pc' := 15) xD_63 rfl rfl rfl (by first | rfl | assumption) (f1) rfl ?_
    refine y_loc (pc' := 16) xD_63 rfl rfl rfl rfl ?_
    refine m_getI (pc' := 19) xD_63 rfl rfl rfl (by first | rfl | assumption) (f2) rfl ?_
    refine y_icge (pt := 26) (pf := 22) xD_63 rfl rfl rfl (fun h19 => ?_) (fun h19 => ?_)
    · skip
      refine y_ci (pc' := 27) (0) xD_63 rfl rfl rfl rfl ?_
      refine y_retZ xD_63 rfl rfl (by first | decide | assumption) ?_
      first | exact ⟨⟨true, ⟨fun _ => Or.inl (by rw [ef] at h8; rw [lf] at h19; omega), fun _ => rfl⟩, rfl⟩, rfl⟩ | exact ⟨⟨false, ⟨fun q => absurd q (by decide), fun q => by rw [ef] at h8; rw [lf] at h19; unfold gB at q; omega⟩, rfl⟩, rfl⟩
    · skip
      refine y_ci (pc' := 23) (1) xD_63 rfl rfl rfl rfl ?_
      refine y_goto (pc' := 27) xD_63 rfl rfl ?_
      refine y_retZ xD_63 rfl rfl (by first | decide | assumption) ?_
      first | exact ⟨⟨true, ⟨fun _ => Or.inl (by rw [ef] at h8; rw [lf] at h19; omega), fun _ => rfl⟩, rfl⟩, rfl⟩ | exact ⟨⟨false, ⟨fun q => absurd q (by decide), fun q => by rw [ef] at h8; rw [lf] at h19; unfold gB at q; omega⟩, rfl⟩, rfl⟩
end CS

