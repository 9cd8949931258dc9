/-! The cases put in order: the model. -/
def plc (fr cr sz : Nat → Nat) (n k : Nat) : Nat := cnt (fun o => gLb fr cr sz o k) n
theorem cnt_le {Q : Nat → Bool} : ∀ n, cnt Q n ≤ n
  | 0 => Nat.le_refl _
  | n + 1 => by
    have := cnt_le (Q := Q) n
    simp only [cnt]
    split <;> omega
theorem isO_plc {fr cr sz s : Nat → Nat} {n : Nat} (h : isO fr cr sz n s) {p : Nat} (hp : p < n) : plc fr cr sz n (s p) = p := h.place hp (fun o => gLb_iff)
theorem isO_pl {fr cr sz s : Nat → Nat} {n : Nat} (h : isO fr cr sz n s) {k : Nat} (hk : k < n) : plc fr cr sz n k < n := by
  obtain ⟨p, hp, e⟩ := h.onto hk
  rw [← e, isO_plc h hp]; exact hp
theorem isO_pi {fr cr sz s : Nat → Nat} {n : Nat} (h : isO fr cr sz n s) {k j : Nat} (hk : k < n) (hj : j < n) (e : plc fr cr sz n k = plc fr cr sz n j) : k = j := by
  obtain ⟨p, hp, ep⟩ := h.onto hk
  obtain ⟨q, hq, eq⟩ := h.onto hj
  rw [← ep, ← eq, isO_plc h hp, isO_plc h hq] at e
  rw [← ep, ← eq, e]
section RR
variable {S : XS} {d n nb : Nat} {I P : Nat → Nat → Int32} {J : Nat → Nat → Int64} {R : Nat → Nat → Option Nat} {sz fr cr : Nat → Nat} {F : Nat → Nat → Int64} {act : Int32} {pop : Nat → CA} {ar : Nat → CA}
theorem SF_cp {I : Nat → Nat → Int32} {t : Nat} {g : Nat → Int32} {x : Int32} : SF (fun u => u ≠ t) I (xu (xrow I 262 (sl1 (I 262) t g)) 263 t x) := by
  intro u hu
  refine ⟨?_, fun q hq => ?_⟩
  · show (if _ then _ else _) = _
    rw [if_neg (fun q => hu q.2), xrow_ne (by decide)]
  · show xu (xrow I 262 (sl1 (I 262) t g)) 263 t x 262 (24 * u + q) = _
    rw [xu_ne (by decide), xrow_at, sl1_ne hq hu]; rfl
theorem RM_cp {I : Nat → Nat → Int32} {s t : Nat} {c : CA} (w : WC c) (r : RM I s c) : RM (xu (xrow I 262 (sl1 (I 262) t (slM I s))) 263 t (I 263 s)) t c := by
  refine ⟨by rw [xu_ii]; exact r.1, fun i hi => ?_⟩
  show xu (xrow I 262 (sl1 (I 262) t (slM I s))) 263 t (I 263 s) 262 (24 * t + i) = _
  rw [xu_ne (by decide), xrow_at, sl1_at (by have := w.1; omega)]
  exact r.2 i hi
/-- rearrange(n) -/
theorem s_rearrange (hR : RF R) (hn : n ≤ 7) {s : Nat → Nat} (hO : isO fr cr sz n s) (hf : ∀ k, k < n → I 275 k = nI (e0 (fr k)) ∧ fr k ≤ 8) (hc : ∀ k, k < n → I 276 k = nI (cr k) ∧ cr k ≤ 24) (hS : SM I sz n) (hp : ∀ k, k < n → WC (pop k) ∧ RM I (60 + k) (pop k)) :
    XP S (d + 1) 136 0 (xent [.ref 261, .int (nI n)] 5) [] (hh I J R) (fun v h' => v = none ∧ ∃ I', h' = hh I' J R ∧ (∀ p, p < n → RM I' p (pop (s p))) ∧ I' 261 11 = nI (if n ≤ 5 then n else 5) ∧ (∀ j, j ≠ 11 → I' 261 j = I 261 j) ∧ SF (fun t => n ≤ t) I I' ∧ ∀ x, x ≠ 261 → x ≠ 262 → x ≠ 263 → x ≠ 277 → I' x = I x) := by
  have copies : ∀ (m k : Nat), k + m = n → ∀ (I' : Nat → Nat → Int32) (r : Nat → Int32) (q3 q4 : Option Value), (∀ j, j < n → r j = nI (plc fr cr sz n j)) → I' 277 = r → (∀ j, j < k → RM I' (plc fr cr sz n j) (pop j)) → SF (fun t => n ≤ t) I I' → (∀ x, x ≠ 262 → x ≠ 263 → x ≠ 277 → I' x = I x) → XP S (d + 1) 136 57 [some (.ref 261), some (.int (nI n)), some (.int (nI k)), q3, q4] [] (hh I' J R) (fun v h' => v = none ∧ ∃ I', h' = hh I' J R ∧ (∀ p, p < n → RM I' p (pop (s p))) ∧ I' 261 11 = nI (if n ≤ 5 then n else 5) ∧ (∀ j, j ≠ 11 → I' 261 j = I 261 j) ∧ SF (fun t => n ≤ t) I I' ∧ ∀ x, x ≠ 261 → x ≠ 262 → x ≠ 263 → x ≠ 277 → I' x = I x) := by
    intro m
    induction m with
    | zero =>
      intro k hk I' r q3 q4 hr h277 hRM hsf hx
      have hk : k = n := by omega
      subst hk
      have l5 : nI k ≤ 5 ↔ k ≤ 5 := nI_leI (b := 5) (by omega) (by decide)
      have fin : ∀ z : Int32, z = nI (if k ≤ 5 then k else 5) → ∃ I1, hh (xu I' 261 11 z) J R = hh I1 J R ∧ (∀ p, p < k → RM I1 p (pop (s p))) ∧ I1 261 11 = nI (if k ≤ 5 then k else 5) ∧ (∀ j, j ≠ 11 → I1 261 j = I 261 j) ∧ SF (fun t => k ≤ t) I I1 ∧ ∀ x, x ≠ 261 → x ≠ 262 → x ≠ 263 → x ≠ 277 → I1 x = I x := by
        intro z hz
        refine ⟨_, rfl, fun p hp => ?_, by rw [xu_ii]; exact hz, fun j hj => ?_, hsf.tr (SF.rfl' (xu_ne (by decide)) (xu_ne (by decide))), fun x a b c e => ?_⟩
        · have := hRM (s p) (hO.1 p hp)
          rw [isO_plc hO hp] at this
          exact this.row (xu_ne (by decide)) (xu_ne (by decide))
        · show (if _ then _ else _) = _
          rw [if_neg (fun q => hj q.2), hx 261 (by decide) (by decide) (by decide)]
        · rw [xu_ne a]; exact hx x b c e
      refine y_loc (pc' := 58) xD_136 rfl rfl rfl rfl ?_
      refine y_loc (pc' := 59) xD_136 rfl rfl rfl rfl ?_
      refine y_icge (pt := 82) (pf := 62) xD_136 rfl rfl rfl (fun h59 => ?_) (fun h59 => ?_)
      · skip
        refine y_loc (pc' := 83) xD_136 rfl rfl rfl rfl ?_
        refine y_loc (pc' := 84) xD_136 rfl rfl rfl rfl ?_
        refine y_ci (pc' := 85) (5) xD_136 rfl rfl rfl rfl ?_
        refine y_icle (pt := 92) (pf := 88) xD_136 rfl rfl rfl (fun h85 => ?_) (fun h85 => ?_)
        · skip
          refine y_loc (pc' := 93) xD_136 rfl rfl rfl rfl ?_
          refine m_putI (pc' := 96) xD_136 rfl rfl (by first | rfl | assumption) rfl rfl rfl ?_
          refine y_retV xD_136 rfl rfl ?_
          first | exact ⟨rfl, fin _ (by rw [if_pos (l5.mp h85)])⟩ | exact ⟨rfl, fin _ (by rw [if_neg (fun q => h85 (l5.mpr q))]; rfl)⟩
        · skip
          refine y_ci (pc' := 89) (5) xD_136 rfl rfl rfl rfl ?_
          refine y_goto (pc' := 93) xD_136 rfl rfl ?_
          refine m_putI (pc' := 96) xD_136 rfl rfl (by first | rfl | assumption) rfl rfl rfl ?_
          refine y_retV xD_136 rfl rfl ?_
          first | exact ⟨rfl, fin _ (by rw [if_pos (l5.mp h85)])⟩ | exact ⟨rfl, fin _ (by rw [if_neg (fun q => h85 (l5.mpr q))]; rfl)⟩
      · skip
        exact absurd (Int32.le_refl _) h59
    | succ m ih =>
      intro k hk I' r q3 q4 hr h277 hRM hsf hx
      have pl := isO_pl hO (k := k) (by omega)
      have e60 : (60 : Int32) + nI k = nI (60 + k) := nI_add 60 k
      have r60 : RM I' (60 + k) (pop k) := (hp k (by omega)).2.sf (hp k (by omega)).1 hsf (show n ≤ 60 + k by omega)
      refine y_loc (pc' := 58) xD_136 rfl rfl rfl rfl ?_
      refine y_loc (pc' := 59) xD_136 rfl rfl rfl rfl ?_
      refine y_icge (pt := 82) (pf := 62) xD_136 rfl rfl rfl (fun h59 => ?_) (fun h59 => ?_)
      · skip
        exact absurd h59 (nI_ge (a := k) (b := n) (by omega) (by omega))
      · skip
        refine y_loc (pc' := 63) xD_136 rfl rfl rfl rfl ?_
        refine y_ci (pc' := 65) (60) xD_136 rfl rfl rfl rfl ?_
        refine y_loc (pc' := 66) xD_136 rfl rfl rfl rfl ?_
        refine y_iadd (pc' := 67) xD_136 rfl (e60) rfl ?_
        refine y_loc (pc' := 68) xD_136 rfl rfl rfl rfl ?_
        first | refine m_getR (pc' := 71) xD_136 rfl rfl rfl rfl (hR.1 _ _ _ rfl) rfl ?_ | refine m_getR (pc' := 71) xD_136 rfl rfl (by first | rfl | assumption) rfl (by assumption) rfl ?_
        refine y_loc (pc' := 72) xD_136 rfl rfl rfl rfl ?_
        refine m_iald (pc' := 73) (k) xD_136 rfl (by first | rfl | assumption) (by first | assumption | omega) (by first | decide | assumption) (by first | decide | omega) (by first | rfl | assumption) rfl ?_
        rw [h277]
        refine y_callV xD_136 rfl rfl rfl rfl (by first | rfl | assumption) rfl rfl rfl rfl (s_mcopy (d := d) hR (s := 60 + k) (t := plc fr cr sz n k) (by omega) (by omega) (by omega) rfl (hr k (by omega))) (fun v h' hq => ?_)
        obtain ⟨rfl, rfl⟩ := hq
        refine y_inc (pc' := 79) (nI (k + 1)) xD_136 rfl rfl rfl (nI_1 (k)) rfl rfl ?_
        refine y_goto (pc' := 57) xD_136 rfl rfl ?_
        refine ih (k + 1) (by omega) _ r _ _ hr ?_ ?_ ?_ ?_
        · rw [xu_ne (by decide), xrow_ne (by decide)]; exact h277
        · intro j hj
          by_cases e : j = k
          · subst e; exact RM_cp (hp j (by omega)).1 r60
          · exact (hRM j (by omega)).sf (hp j (by omega)).1 SF_cp (fun q => e (isO_pi hO (by omega) (by omega) q))
        · exact hsf.tr (SF_cp.w (fun t (ht : n ≤ t) => show t ≠ plc fr cr sz n k by omega))
        · intro x a b c
          rw [xu_ne b, xrow_ne a]; exact hx x a b c
  have count : ∀ (k : Nat), k < n → ∀ {Q : Option Value → XH → Prop} (r : Nat → Int32), (∀ (q4 : Option Value), XP S (d + 1) 136 42 [some (.ref 261), some (.int (nI n)), some (.int (nI k)), some (.int (nI (plc fr cr sz n k))), q4] [] (hh (xrow I 277 r) J R) Q) → ∀ (m o : Nat), o + m = n → XP S (d + 1) 136 12 [some (.ref 261), some (.int (nI n)), some (.int (nI k)), some (.int (nI (cnt (fun o => gLb fr cr sz o k) o))), some (.int (nI o))] [] (hh (xrow I 277 r) J R) Q := by
    intro k hk Q r K m
    induction m with
    | zero =>
      intro o ho
      have ho : o = n := by omega
      subst ho
      refine y_loc (pc' := 14) xD_136 rfl rfl rfl rfl ?_
      refine y_loc (pc' := 15) xD_136 rfl rfl rfl rfl ?_
      refine y_icge (pt := 42) (pf := 18) xD_136 rfl rfl rfl (fun h15 => ?_) (fun h15 => ?_)
      · skip
        exact K _
      · skip
        exact absurd (Int32.le_refl _) h15
    | succ m ih =>
      intro o ho
      have step := ih (o + 1) (by omega)
      simp only [cnt] at step
      have stepY := fun (q : gLb fr cr sz o k = true) => (show (if gLb fr cr sz o k = true then cnt (fun o => gLb fr cr sz o k) o + 1 else cnt (fun o => gLb fr cr sz o k) o) = _ from if_pos q) ▸ step
      have stepN := fun (q : ¬ gLb fr cr sz o k = true) => (show (if gLb fr cr sz o k = true then cnt (fun o => gLb fr cr sz o k) o + 1 else cnt (fun o => gLb fr cr sz o k) o) = _ from if_neg q) ▸ step
      have f5 : xrow I 277 r 275 = I 275 := xrow_ne (by decide)
      have f6 : xrow I 277 r 276 = I 276 := xrow_ne (by decide)
      have f3 : xrow I 277 r 263 = I 263 := xrow_ne (by decide)
      refine y_loc (pc' := 14) xD_136 rfl rfl rfl rfl ?_
      refine y_loc (pc' := 15) xD_136 rfl rfl rfl rfl ?_
      refine y_icge (pt := 42) (pf := 18) xD_136 rfl rfl rfl (fun h15 => ?_) (fun h15 => ?_)
      · skip
        exact absurd h15 (nI_ge (a := o) (b := n) (by omega) (by omega))
      · skip
        refine y_loc (pc' := 19) xD_136 rfl rfl rfl rfl ?_
        refine y_loc (pc' := 21) xD_136 rfl rfl rfl rfl ?_
        refine y_loc (pc' := 22) xD_136 rfl rfl rfl rfl ?_
        refine y_callV xD_136 rfl rfl rfl rfl (by first | rfl | assumption) rfl rfl rfl rfl (s_before (d := d) (I := xrow I 277 r) (fr := fr) (cr := cr) (sz := sz) hR (i := o) (j := k) (by omega) (by omega) (by rw [f5]; exact (hf o (by omega)).1) (by rw [f5]; exact (hf k hk).1) (by rw [f6]; exact (hc o (by omega)).1) (by rw [f6]; exact (hc k hk).1) (by rw [f3]; exact (hS o (by omega)).1) (by rw [f3]; exact (hS k hk).1) (hf o (by omega)).2 (hf k hk).2 (hc o (by omega)).2 (hc k hk).2 (hS o (by omega)).2 (hS k hk).2) (fun v h' hq => ?_)
        obtain ⟨rfl, rfl⟩ := hq
        refine y_ifeq (pt := 34) (pf := 28) xD_136 rfl rfl rfl (fun h25 => ?_) (fun h25 => ?_)
        · skip
          refine y_loc (pc' := 35) xD_136 rfl rfl rfl rfl ?_
          refine y_loc (pc' := 36) xD_136 rfl rfl rfl rfl ?_
          refine y_inc (pc' := 39) (nI (o + 1)) xD_136 rfl rfl rfl (nI_1 (o)) rfl rfl ?_
          refine y_goto (pc' := 12) xD_136 rfl rfl ?_
          first
          | exact stepN (by rw [zB_f.mp h25]; decide)
          | exact stepY (by rw [zB_f, Bool.not_eq_false] at h25; exact h25)
        · skip
          refine y_loc (pc' := 29) xD_136 rfl rfl rfl rfl ?_
          refine y_ci (pc' := 30) (1) xD_136 rfl rfl rfl rfl ?_
          refine y_iadd (pc' := 31) xD_136 rfl (nI_1 _) rfl ?_
          refine y_goto (pc' := 35) xD_136 rfl rfl ?_
          refine y_loc (pc' := 36) xD_136 rfl rfl rfl rfl ?_
          refine y_inc (pc' := 39) (nI (o + 1)) xD_136 rfl rfl rfl (nI_1 (o)) rfl rfl ?_
          refine y_goto (pc' := 12) xD_136 rfl rfl ?_
          first
          | exact stepN (by rw [zB_f.mp h25]; decide)
          | exact stepY (by rw [zB_f, Bool.not_eq_false] at h25; exact h25)
  have outer : ∀ (m k : Nat), k + m = n → ∀ (r : Nat → Int32) (q3 q4 : Option Value), (∀ j, j < k → r j = nI (plc fr cr sz n j)) → XP S (d + 1) 136 2 [some (.ref 261), some (.int (nI n)), some (.int (nI k)), q3, q4] [] (hh (xrow I 277 r) J R) (fun v h' => v = none ∧ ∃ I', h' = hh I' J R ∧ (∀ p, p < n → RM I' p (pop (s p))) ∧ I' 261 11 = nI (if n ≤ 5 then n else 5) ∧ (∀ j, j ≠ 11 → I' 261 j = I 261 j) ∧ SF (fun t => n ≤ t) I I' ∧ ∀ x, x ≠ 261 → x ≠ 262 → x ≠ 263 → x ≠ 277 → I' x = I x) := by
    intro m
    induction m with
    | zero =>
      intro k hk r q3 q4 hr
      have hk : k = n := by omega
      subst hk
      refine y_loc (pc' := 3) xD_136 rfl rfl rfl rfl ?_
      refine y_loc (pc' := 4) xD_136 rfl rfl rfl rfl ?_
      refine y_icge (pt := 55) (pf := 7) xD_136 rfl rfl rfl (fun h4 => ?_) (fun h4 => ?_)
      · skip
        refine y_ci (pc' := 56) (0) xD_136 rfl rfl rfl rfl ?_
        refine y_loc (pc' := 57) xD_136 rfl rfl rfl rfl ?_
        exact copies k 0 (by omega) _ r _ _ hr xrow_at (fun j hj => absurd hj (by omega)) (SF.rfl' (xrow_ne (by decide)) (xrow_ne (by decide))) (fun x a b c => xrow_ne c)
      · skip
        exact absurd (Int32.le_refl _) h4
    | succ m ih =>
      intro k hk r q3 q4 hr
      have K42 : ∀ q4 : Option Value, XP S (d + 1) 136 42 [some (.ref 261), some (.int (nI n)), some (.int (nI k)), some (.int (nI (plc fr cr sz n k))), q4] [] (hh (xrow I 277 r) J R) (fun v h' => v = none ∧ ∃ I', h' = hh I' J R ∧ (∀ p, p < n → RM I' p (pop (s p))) ∧ I' 261 11 = nI (if n ≤ 5 then n else 5) ∧ (∀ j, j ≠ 11 → I' 261 j = I 261 j) ∧ SF (fun t => n ≤ t) I I' ∧ ∀ x, x ≠ 261 → x ≠ 262 → x ≠ 263 → x ≠ 277 → I' x = I x) := by
        intro q4
        refine y_loc (pc' := 43) xD_136 rfl rfl rfl rfl ?_
        first | refine m_getR (pc' := 46) xD_136 rfl rfl rfl rfl (hR.1 _ _ _ rfl) rfl ?_ | refine m_getR (pc' := 46) xD_136 rfl rfl (by first | rfl | assumption) rfl (by assumption) rfl ?_
        refine y_loc (pc' := 47) xD_136 rfl rfl rfl rfl ?_
        refine y_loc (pc' := 48) xD_136 rfl rfl rfl rfl ?_
        refine m_iast (pc' := 49) (k) xD_136 rfl (by first | rfl | assumption) (by first | assumption | omega) (by first | decide | assumption) (by first | rfl | assumption) rfl ?_
        refine y_inc (pc' := 52) (nI (k + 1)) xD_136 rfl rfl rfl (nI_1 (k)) rfl rfl ?_
        refine y_goto (pc' := 2) xD_136 rfl rfl ?_
        rw [xu_row, xrow_row, xrow_at]
        refine ih (k + 1) (by omega) _ _ _ (fun j hj => ?_)
        by_cases e : j = k
        · subst e; rw [if_pos rfl]
        · rw [if_neg e]; exact hr j (by omega)
      refine y_loc (pc' := 3) xD_136 rfl rfl rfl rfl ?_
      refine y_loc (pc' := 4) xD_136 rfl rfl rfl rfl ?_
      refine y_icge (pt := 55) (pf := 7) xD_136 rfl rfl rfl (fun h4 => ?_) (fun h4 => ?_)
      · skip
        exact absurd h4 (nI_ge (a := k) (b := n) (by omega) (by omega))
      · skip
        refine y_ci (pc' := 8) (0) xD_136 rfl rfl rfl rfl ?_
        refine y_loc (pc' := 9) xD_136 rfl rfl rfl rfl ?_
        refine y_ci (pc' := 10) (0) xD_136 rfl rfl rfl rfl ?_
        refine y_loc (pc' := 12) xD_136 rfl rfl rfl rfl ?_
        exact count k (by omega) r K42 n 0 (by omega)
  refine y_ci (pc' := 1) (0) xD_136 rfl rfl rfl rfl ?_
  refine y_loc (pc' := 2) xD_136 rfl rfl rfl rfl ?_
  have := outer n 0 (by omega) (I 277) none none (fun j hj => absurd hj (by omega))
  rw [xrow_id] at this
  exact this
end RR

