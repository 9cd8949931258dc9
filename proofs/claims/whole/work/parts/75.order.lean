/-! The order of the population: the words. -/
def un (f : Nat → Nat) (i v : Nat) : Nat → Nat := fun k => if k = i then v else f k
def btn (F : Nat → Nat → Int64) (act : Int32) (o k : Nat) : Nat → Nat
  | 0 => 0
  | g + 1 => if ib act g = true ∧ F o g < F k g then btn F act o k g + 1 else btn F act o k g
theorem btn_le {F : Nat → Nat → Int64} {act : Int32} {o k : Nat} : ∀ g, btn F act o k g ≤ g
  | 0 => Nat.le_refl _
  | g + 1 => by
    have := btn_le (F := F) (act := act) (o := o) (k := k) g
    simp only [btn]
    split <;> omega
def bt (F : Nat → Nat → Int64) (act : Int32) (o k : Nat) : Nat := btn F act o k 24
theorem bt_le {F : Nat → Nat → Int64} {act : Int32} {o k : Nat} : bt F act o k ≤ 24 := btn_le 24
def pf (F : Nat → Nat → Int64) (sz : Nat → Nat) (g : Nat) : Nat → Nat
  | 0 => 0
  | k + 1 => if F k g < F (pf F sz g k) g ∨ (F k g = F (pf F sz g k) g ∧ sz k < sz (pf F sz g k)) then k else pf F sz g k
theorem pf_lt {F : Nat → Nat → Int64} {sz : Nat → Nat} {g : Nat} : ∀ k, 0 < k → pf F sz g k < k
  | 0, h => absurd h (by omega)
  | k + 1, _ => by
    simp only [pf]
    split
    · omega
    · cases k with
      | zero => exact Nat.zero_lt_one
      | succ k => exact Nat.lt_succ_of_lt (pf_lt (k + 1) (by omega))
def fp (F : Nat → Nat → Int64) (sz : Nat → Nat) (act : Int32) (n : Nat) : Nat → Nat → Nat
  | 0 => fun _ => 8
  | g + 1 => if ib act g = true then un (fp F sz act n g) (pf F sz g n) 0 else fp F sz act n g
/-- whether one of the first m beats k among those that no front before f took in -/
def bn (F : Nat → Nat → Int64) (act : Int32) (fr : Nat → Nat) (f k : Nat) : Nat → Bool
  | 0 => false
  | o + 1 => bn F act fr f k o || (decide (f ≤ fr o) && decide (0 < bt F act o k) && decide (bt F act k o = 0))
def fi (F : Nat → Nat → Int64) (act : Int32) (n f : Nat) (fr : Nat → Nat) : Nat → Nat → Nat
  | 0 => fr
  | i + 1 => if fi F act n f fr i i = 8 ∧ bn F act (fi F act n f fr i) f i n = false then un (fi F act n f fr i) i f else fi F act n f fr i
def ff (F : Nat → Nat → Int64) (sz : Nat → Nat) (act : Int32) (n : Nat) : Nat → Nat → Nat
  | 0 => fp F sz act n 24
  | f + 1 => fi F act n (f + 1) (ff F sz act n f) n
def cw (F : Nat → Nat → Int64) (act : Int32) (fr : Nat → Nat) (k : Nat) : Nat → Nat
  | 0 => 0
  | o + 1 => if fr o = fr k then (if bt F act o k ≤ cw F act fr k o then cw F act fr k o else bt F act o k) else cw F act fr k o
theorem cw_le {F : Nat → Nat → Int64} {act : Int32} {fr : Nat → Nat} {k : Nat} : ∀ o, cw F act fr k o ≤ 24
  | 0 => Nat.zero_le _
  | o + 1 => by
    have := cw_le (F := F) (act := act) (fr := fr) (k := k) o
    have := bt_le (F := F) (act := act) (o := o) (k := k)
    simp only [cw]
    split
    · split <;> omega
    · omega
/-- goes before: without and with the places -/
def gB (fr cr sz : Nat → Nat) (a b : Nat) : Prop := fr a < fr b ∨ (fr a = fr b ∧ (cr a < cr b ∨ (cr a = cr b ∧ sz a < sz b)))
def gL (fr cr sz : Nat → Nat) (a b : Nat) : Prop := fr a < fr b ∨ (fr a = fr b ∧ (cr a < cr b ∨ (cr a = cr b ∧ (sz a < sz b ∨ (sz a = sz b ∧ a < b)))))
def cnt (Q : Nat → Bool) : Nat → Nat
  | 0 => 0
  | n + 1 => if Q n = true then cnt Q n + 1 else cnt Q n
/-- s puts the first n in order -/
def isO (fr cr sz : Nat → Nat) (n : Nat) (s : Nat → Nat) : Prop := (∀ p, p < n → s p < n) ∧ (∀ p q, p < q → q < n → gL fr cr sz (s p) (s q)) ∧ ∀ Q : Nat → Bool, cnt Q n = cnt (fun p => Q (s p)) n
theorem fp_ok {F : Nat → Nat → Int64} {sz : Nat → Nat} {act : Int32} {n : Nat} : ∀ g k, fp F sz act n g k = 8 ∨ fp F sz act n g k = 0
  | 0, _ => Or.inl rfl
  | g + 1, k => by
    simp only [fp]
    split
    · unfold un; split
      · exact Or.inr rfl
      · exact fp_ok g k
    · exact fp_ok g k
theorem fi_ok {F : Nat → Nat → Int64} {act : Int32} {n f : Nat} {fr : Nat → Nat} (h : ∀ k, fr k = 8 ∨ fr k ≤ f) : ∀ i k, fi F act n f fr i k = 8 ∨ fi F act n f fr i k ≤ f
  | 0, k => h k
  | i + 1, k => by
    simp only [fi]
    split
    · unfold un; split
      · exact Or.inr (Nat.le_refl _)
      · exact fi_ok h i k
    · exact fi_ok h i k
theorem ff_ok {F : Nat → Nat → Int64} {sz : Nat → Nat} {act : Int32} {n : Nat} : ∀ f k, ff F sz act n f k = 8 ∨ ff F sz act n f k ≤ f
  | 0, k => (fp_ok 24 k).imp id (fun q => by show fp F sz act n 24 k ≤ 0; omega)
  | f + 1, k => fi_ok (fun k => (ff_ok f k).imp id (fun q => by omega)) n k
theorem cnt_c {Q Q' : Nat → Bool} : ∀ n, (∀ i, i < n → Q i = Q' i) → cnt Q n = cnt Q' n
  | 0, _ => rfl
  | n + 1, h => by
    simp only [cnt]
    rw [h n (by omega), cnt_c n (fun i hi => h i (by omega))]
theorem cnt_lt {p : Nat} : ∀ n, p ≤ n → cnt (fun q => decide (q < p)) n = p
  | 0, h => by simp only [cnt]; omega
  | n + 1, h => by
    simp only [cnt, decide_eq_true_eq]
    by_cases e : n < p
    · have : p = n + 1 := by omega
      subst this
      rw [if_pos e]
      have := cnt_c (Q := fun q => decide (q < n + 1)) (Q' := fun q => decide (q < n)) n (fun i hi => by simp only [decide_eq_decide]; omega)
      rw [this, cnt_lt n (Nat.le_refl _)]
    · rw [if_neg e]; exact cnt_lt n (by omega)
theorem cnt_ex {Q : Nat → Bool} : ∀ n, 0 < cnt Q n → ∃ p, p < n ∧ Q p = true
  | 0, h => absurd h (by simp [cnt])
  | n + 1, h => by
    simp only [cnt] at h
    by_cases e : Q n = true
    · exact ⟨n, by omega, e⟩
    · rw [if_neg e] at h
      obtain ⟨p, hp, hq⟩ := cnt_ex n h
      exact ⟨p, by omega, hq⟩
theorem cnt_pos {Q : Nat → Bool} {k : Nat} (hk : Q k = true) : ∀ n, k < n → 0 < cnt Q n
  | 0, h => absurd h (by omega)
  | n + 1, h => by
    simp only [cnt]
    by_cases e : k = n
    · subst e; rw [if_pos hk]; omega
    · have := cnt_pos hk n (by omega)
      split <;> omega
section IO
variable {fr cr sz s : Nat → Nat} {n : Nat}
/-- how many go before -/
theorem isO.place (h : isO fr cr sz n s) {p : Nat} (hp : p < n) {Q : Nat → Bool} (hQ : ∀ o, Q o = true ↔ gL fr cr sz o (s p)) : cnt Q n = p := by
  rw [h.2.2 Q, cnt_c (Q' := fun q => decide (q < p)) n, cnt_lt n (by omega)]
  intro q hq
  have h1 := h.2.1 q p
  have h2 := h.2.1 p q
  have h3 := hQ (s q)
  by_cases e : q < p
  · rw [decide_eq_true e]; exact h3.mpr (h1 e hp)
  · rw [decide_eq_false e, ← Bool.not_eq_true, h3]
    by_cases e2 : q = p
    · subst e2; unfold gL; omega
    · have := h2 (by omega) hq
      unfold gL at this ⊢; omega
theorem isO.onto (h : isO fr cr sz n s) {k : Nat} (hk : k < n) : ∃ p, p < n ∧ s p = k := by
  have h1 := h.2.2 (fun q => decide (q = k))
  have h2 := cnt_pos (Q := fun q => decide (q = k)) (k := k) (decide_eq_true rfl) n hk
  rw [h1] at h2
  obtain ⟨p, hp, hq⟩ := cnt_ex n h2
  exact ⟨p, hp, of_decide_eq_true hq⟩
/-- one more put in at place p -/
def ins (s : Nat → Nat) (p i : Nat) : Nat → Nat := fun q => if q < p then s q else if q = p then i else if q ≤ i then s (q - 1) else s q
theorem ins_at {i p : Nat} : ins s p i p = i := by unfold ins; rw [if_neg (by omega), if_pos rfl]
theorem ins_cnt {i p : Nat} (Q : Nat → Bool) : ∀ m, p ≤ m → m ≤ i → cnt (fun q => Q (ins s p i q)) (m + 1) = cnt (fun q => Q (s q)) m + (if Q i = true then 1 else 0) := by
  intro m hm hi
  induction m with
  | zero =>
    have : p = 0 := by omega
    subst this
    show (if Q (ins s 0 i 0) = true then 0 + 1 else 0) = 0 + _
    rw [ins_at]
    split <;> rfl
  | succ m ih =>
    by_cases e : p = m + 1
    · subst e
      have := cnt_c (Q := fun q => Q (ins s (m + 1) i q)) (Q' := fun q => Q (s q)) (m + 1) (fun q hq => by show Q (ins s (m + 1) i q) = _; unfold ins; rw [if_pos hq])
      show (if Q (ins s (m + 1) i (m + 1)) = true then _ else _) = _
      rw [this, ins_at]
      split <;> rfl
    · have ih := ih (by omega) (by omega)
      show (if Q (ins s p i (m + 1)) = true then cnt (fun q => Q (ins s p i q)) (m + 1) + 1 else cnt (fun q => Q (ins s p i q)) (m + 1)) = (if Q (s m) = true then _ else _) + _
      rw [ih]
      have : ins s p i (m + 1) = s m := by
        unfold ins
        rw [if_neg (by omega), if_neg (by omega), if_pos hi]
        rfl
      rw [this]
      split <;> omega
theorem isO_ins {i p : Nat} (h : isO fr cr sz i s) (hp : p ≤ i) (h1 : ∀ j, p ≤ j → j < i → gB fr cr sz i (s j)) (h0 : p = 0 ∨ ¬ gB fr cr sz i (s (p - 1))) : isO fr cr sz (i + 1) (ins s p i) := by
  refine ⟨fun q hq => ?_, fun q r hqr hr => ?_, fun Q => ?_⟩
  · unfold ins
    by_cases e1 : q < p
    · rw [if_pos e1]; have := h.1 q (by omega); omega
    · rw [if_neg e1]
      by_cases e2 : q = p
      · rw [if_pos e2]; omega
      · rw [if_neg e2, if_pos (by omega)]; have := h.1 (q - 1) (by omega); omega
  · have below : ∀ q, q < p → gL fr cr sz (s q) i := by
      intro q hq
      rcases h0 with h0 | h0
      · omega
      · have a1 := h.1 (p - 1) (by omega)
        have a2 : gL fr cr sz (s (p - 1)) i := by unfold gB at h0; unfold gL; omega
        by_cases e : q = p - 1
        · rw [e]; exact a2
        · have := h.2.1 q (p - 1) (by omega) (by omega)
          unfold gL at *; omega
    have above : ∀ j, p ≤ j → j < i → gL fr cr sz i (s j) := fun j a b => by have := h1 j a b; unfold gB at this; unfold gL; omega
    unfold ins
    by_cases e1 : q < p
    · rw [if_pos e1]
      by_cases e3 : r < p
      · rw [if_pos e3]; exact h.2.1 q r hqr (by omega)
      · rw [if_neg e3]
        by_cases e4 : r = p
        · rw [if_pos e4]; exact below q e1
        · rw [if_neg e4, if_pos (by omega)]; exact h.2.1 q (r - 1) (by omega) (by omega)
    · rw [if_neg e1, if_neg (show ¬ r < p by omega), if_neg (show ¬ r = p by omega), if_pos (show r ≤ i by omega)]
      by_cases e2 : q = p
      · rw [if_pos e2]; exact above (r - 1) (by omega) (by omega)
      · rw [if_neg e2, if_pos (by omega)]; exact h.2.1 (q - 1) (r - 1) (by omega) (by omega)
  · have := ins_cnt (s := s) (p := p) (i := i) Q i hp (Nat.le_refl _)
    rw [this, ← h.2.2 Q]
    simp only [cnt]
    split <;> rfl
end IO

