/-! The document's words as functions: what both sides are held to. -/
/-- what a line's numbers must be: cd p q is number q of line p (0 the op) -/
def VL (cd : Nat → Nat → Int32) (p : Nat) : Prop := (∃ t, t < 10 ∧ cd p 0 = nI t) ∧ ((cd p 0 = 5 ∨ cd p 0 = 6 ∨ cd p 0 = 7) → ∃ t, t ≤ 10 ∧ cd p 3 = nI t) ∧ ((cd p 0 ≤ 6 ∨ cd p 0 = 8) → ∃ t, t < 8 ∧ cd p 1 = nI t) ∧ ((1 ≤ cd p 0 ∧ cd p 0 ≤ 6) → ∃ t, t < 8 ∧ cd p 2 = nI t) ∧ ((1 ≤ cd p 0 ∧ cd p 0 ≤ 4) → ∃ t, t < 8 ∧ cd p 3 = nI t)
def VC (cd : Nat → Nat → Int32) (n : Nat) : Prop := ∀ p, p < n → VL cd p
/-- where line p leads -/
def q_to (cd : Nat → Nat → Int32) (p : Nat) (o : Bool) : Nat := if cd p 0 = 7 ∨ ((cd p 0 = 5 ∨ cd p 0 = 6) ∧ o = true) then (cd p 3).toNatClampNeg else if 8 ≤ cd p 0 then 10 else p + 1
def q_lead (cd : Nat → Nat → Int32) (n p : Nat) (o : Bool) : Nat := if n < q_to cd p o then n else q_to cd p o
theorem q_lead_le {cd : Nat → Nat → Int32} {n p : Nat} {o : Bool} : q_lead cd n p o ≤ n := by
  unfold q_lead
  split <;> omega
/-- the lines as the class holds them (method object A), as the model does (method m) -/
def cdC (I : Nat → Nat → Int32) (A : Nat) : Nat → Nat → Int32 := fun p q => I (A + 1 + q) p
def cdM (I : Nat → Nat → Int32) (m : Nat) : Nat → Nat → Int32 := fun p q => I 264 (40 * m + 4 * p + q)
theorem nI10 {t : Nat} (h : t < 10) : t = 0 ∨ t = 1 ∨ t = 2 ∨ t = 3 ∨ t = 4 ∨ t = 5 ∨ t = 6 ∨ t = 7 ∨ t = 8 ∨ t = 9 := by omega
theorem q_to_lt {cd : Nat → Nat → Int32} {p t : Nat} {o : Bool} (h : cd p 0 = nI t) (ht : t < 5) : q_to cd p o = p + 1 := by
  unfold q_to
  rw [h]
  rcases (show t = 0 ∨ t = 1 ∨ t = 2 ∨ t = 3 ∨ t = 4 by omega) with rfl | rfl | rfl | rfl | rfl <;> rfl
theorem q_to_br {cd : Nat → Nat → Int32} {p t w : Nat} {o : Bool} (h : cd p 0 = nI t) (ht : t = 5 ∨ t = 6) (hc : cd p 3 = nI w) (hw : w ≤ 10) : q_to cd p o = if o = true then w else p + 1 := by
  unfold q_to
  rw [h, hc, nI_cl (by omega)]
  rcases ht with rfl | rfl <;> cases o <;> rfl
theorem q_to_go {cd : Nat → Nat → Int32} {p w : Nat} {o : Bool} (h : cd p 0 = nI 7) (hc : cd p 3 = nI w) (hw : w ≤ 10) : q_to cd p o = w := by
  unfold q_to
  rw [h, hc, nI_cl (by omega)]
  rfl
theorem q_to_end {cd : Nat → Nat → Int32} {p t : Nat} {o : Bool} (h : cd p 0 = nI t) (ht : t = 8 ∨ t = 9) : q_to cd p o = 10 := by
  unfold q_to
  rw [h]
  rcases ht with rfl | rfl <;> rfl
theorem q_to_next {cd : Nat → Nat → Int32} {p : Nat} {o : Bool} (h7 : ¬ cd p 0 = 7) (hb : ¬ ((cd p 0 = 5 ∨ cd p 0 = 6) ∧ o = true)) (h8 : ¬ 8 ≤ cd p 0) : q_to cd p o = p + 1 := by
  unfold q_to
  rw [if_neg (fun q => q.elim h7 hb), if_neg h8]
theorem q_to_10 {cd : Nat → Nat → Int32} {p : Nat} {o : Bool} (h7 : ¬ cd p 0 = 7) (hb : ¬ ((cd p 0 = 5 ∨ cd p 0 = 6) ∧ o = true)) (h8 : 8 ≤ cd p 0) : q_to cd p o = 10 := by
  unfold q_to
  rw [if_neg (fun q => q.elim h7 hb), if_pos h8]

