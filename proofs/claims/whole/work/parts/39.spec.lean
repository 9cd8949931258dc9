/-! The document's words as functions: what both sides are held to. -/
/-- what a line's numbers must be: cd p q is number q of line p (0 the op) -/
def VL (cd : Nat → Nat → Int32) (p : Nat) : Prop := (∃ t, t < 10 ∧ cd p 0 = nI t) ∧ ((cd p 0 = 5 ∨ cd p 0 = 6 ∨ cd p 0 = 7) → ∃ t, t ≤ 10 ∧ cd p 3 = nI t) ∧ ((cd p 0 ≤ 6 ∨ cd p 0 = 8) → ∃ t, t < 8 ∧ cd p 1 = nI t) ∧ ((1 ≤ cd p 0 ∧ cd p 0 ≤ 6) → ∃ t, t < 8 ∧ cd p 2 = nI t) ∧ ((1 ≤ cd p 0 ∧ cd p 0 ≤ 4) → ∃ t, t < 8 ∧ cd p 3 = nI t)
def VC (cd : Nat → Nat → Int32) (n : Nat) : Prop := ∀ p, p < n → VL cd p
/-- where line p leads -/
def q_to (cd : Nat → Nat → Int32) (p : Nat) (o : Bool) : Nat := if cd p 0 = 7 ∨ ((cd p 0 = 5 ∨ cd p 0 = 6) ∧ o = true) then (cd p 3).toNatClampNeg else if 8 ≤ cd p 0 then 10 else p + 1
def q_lead (cd : Nat → Nat → Int32) (n p : Nat) (o : Bool) : Nat := if n < q_to cd p o then n else q_to cd p o
theorem q_lead_le {cd : Nat → Nat → Int32} {n p : Nat} {o : Bool} : q_lead cd n p o ≤ n := by
  unfold q_lead
  split <;> omega
/-- the lines as the class holds them (method object A), as the model does (method m) -/
def cdC (I : Nat → Nat → Int32) (A : Nat) : Nat → Nat → Int32 := fun p q => I (A + 1 + q % 4) p
def cdM (I : Nat → Nat → Int32) (m : Nat) : Nat → Nat → Int32 := fun p q => I 264 (40 * m + 4 * p + q)
theorem nI10 {t : Nat} (h : t < 10) : t = 0 ∨ t = 1 ∨ t = 2 ∨ t = 3 ∨ t = 4 ∨ t = 5 ∨ t = 6 ∨ t = 7 ∨ t = 8 ∨ t = 9 := by omega
theorem q_to_lt {cd : Nat → Nat → Int32} {p t : Nat} {o : Bool} (h : cd p 0 = nI t) (ht : t < 5) : q_to cd p o = p + 1 := by
  unfold q_to
  rw [h]
  rcases (show t = 0 ∨ t = 1 ∨ t = 2 ∨ t = 3 ∨ t = 4 by omega) with rfl | rfl | rfl | rfl | rfl <;> rfl
theorem q_to_br {cd : Nat → Nat → Int32} {p t w : Nat} {o : Bool} (h : cd p 0 = nI t) (ht : t = 5 ∨ t = 6) (hc : cd p 3 = nI w) (hw : w ≤ 10) : q_to cd p o = if o = true then w else p + 1 := by
  unfold q_to
  rw [h, hc, nI_cl (by omega)]
  rcases ht with rfl | rfl <;> cases o <;> rfl
theorem q_to_go {cd : Nat → Nat → Int32} {p w : Nat} {o : Bool} (h : cd p 0 = nI 7) (hc : cd p 3 = nI w) (hw : w ≤ 10) : q_to cd p o = w := by
  unfold q_to
  rw [h, hc, nI_cl (by omega)]
  rfl
theorem q_to_end {cd : Nat → Nat → Int32} {p t : Nat} {o : Bool} (h : cd p 0 = nI t) (ht : t = 8 ∨ t = 9) : q_to cd p o = 10 := by
  unfold q_to
  rw [h]
  rcases ht with rfl | rfl <;> rfl
theorem q_to_next {cd : Nat → Nat → Int32} {p : Nat} {o : Bool} (h7 : ¬ cd p 0 = 7) (hb : ¬ ((cd p 0 = 5 ∨ cd p 0 = 6) ∧ o = true)) (h8 : ¬ 8 ≤ cd p 0) : q_to cd p o = p + 1 := by
  unfold q_to
  rw [if_neg (fun q => q.elim h7 hb), if_neg h8]
theorem q_to_10 {cd : Nat → Nat → Int32} {p : Nat} {o : Bool} (h7 : ¬ cd p 0 = 7) (hb : ¬ ((cd p 0 = 5 ∨ cd p 0 = 6) ∧ o = true)) (h8 : 8 ≤ cd p 0) : q_to cd p o = 10 := by
  unfold q_to
  rw [if_neg (fun q => q.elim h7 hb), if_pos h8]
/-- the distances to the outcomes 0 and 1 of a branch (e: IFEQ) -/
def q_no (e : Bool) (x y : Int64) : Int64 := if e = true then (if x = y then 1 else 0) else (if x < y then y - x else 0)
def q_yes (e : Bool) (x y : Int64) : Int64 := if e = true then (if y < x then x - y else y - x) else (if x < y then 0 else x - y + 1)
/-- noting distances: the class's way (a least), the model's (-1: none yet) -/
def UC (k : Nat) (no yes : Int64) (N : Nat → Int64) : Nat → Int64 := fun j => if j = 2 * k + 1 then (if N (2 * k + 1) ≤ yes then N (2 * k + 1) else yes) else if j = 2 * k then (if N (2 * k) ≤ no then N (2 * k) else no) else N j
def UM (k : Nat) (no yes : Int64) (N : Nat → Int64) : Nat → Int64 := fun j => if j = 2 * k + 1 then (if N (2 * k + 1) < 0 ∨ yes < N (2 * k + 1) then yes else N (2 * k + 1)) else if j = 2 * k then (if N (2 * k) < 0 ∨ no < N (2 * k) then no else N (2 * k)) else N j
def q_u (U : Nat → Int64 → Int64 → (Nat → Int64) → Nat → Int64) (b : Option Nat) (no yes : Int64) (N : Nat → Int64) : Nat → Int64 := match b with
  | none => N
  | some k => U k no yes N
def q_calc (o x z : Int32) : Int32 := if o = 1 then x + z else if o = 2 then x - z else if o = 3 then x * z else if z = 0 then 0 else x / z
/-- a line that does not end the call: where it goes on, the variables, the distances -/
def q_line (U : Nat → Int64 → Int64 → (Nat → Int64) → Nat → Int64) (cd : Nat → Nat → Int32) (bn : Nat → Option Nat) (n p : Nat) (v : Nat → Int32) (N : Nat → Int64) : Nat × (Nat → Int32) × (Nat → Int64) :=
  if cd p 0 = 0 then (q_lead cd n p false, upd v (cd p 1).toNatClampNeg (cd p 3), N)
  else if cd p 0 ≤ 4 then (q_lead cd n p false, upd v (cd p 1).toNatClampNeg (q_calc (cd p 0) (v (cd p 2).toNatClampNeg) (v (cd p 3).toNatClampNeg)), N)
  else if cd p 0 ≤ 6 then (q_lead cd n p (decide (q_yes (decide (cd p 0 = 5)) (v (cd p 1).toNatClampNeg).toInt64 (v (cd p 2).toNatClampNeg).toInt64 = 0)), v, q_u U (bn p) (q_no (decide (cd p 0 = 5)) (v (cd p 1).toNatClampNeg).toInt64 (v (cd p 2).toNatClampNeg).toInt64) (q_yes (decide (cd p 0 = 5)) (v (cd p 1).toNatClampNeg).toInt64 (v (cd p 2).toNatClampNeg).toInt64) N)
  else (q_lead cd n p false, v, N)
/-- a call from line p on, with so many lines left -/
def q_call (U : Nat → Int64 → Int64 → (Nat → Int64) → Nat → Int64) (cd : Nat → Nat → Int32) (bn : Nat → Option Nat) (n : Nat) : Nat → Nat → (Nat → Int32) → (Nat → Int64) → Int64 × (Nat → Int32) × (Nat → Int64)
  | 0, p, v, N => (if p < n then 4294967299 else 0, v, N)
  | f + 1, p, v, N => if p < n then (if cd p 0 = 8 then ((v (cd p 1).toNatClampNeg).toInt64, v, N) else if cd p 0 = 9 then (4294967298, v, N) else if cd p 0 = 4 ∧ v (cd p 3).toNatClampNeg = 0 then (4294967297, v, N) else q_call U cd bn n f (q_line U cd bn n p v N).1 (q_line U cd bn n p v N).2.1 (q_line U cd bn n p v N).2.2) else (0, v, N)
theorem toI64_sub (x y : Int32) : (x.toInt64 - y.toInt64).toInt = x.toInt - y.toInt := by
  have h1 := x.toInt_lt
  have h2 := x.le_toInt
  have h3 := y.toInt_lt
  have h4 := y.le_toInt
  rw [Int64.toInt_sub, Int32.toInt_toInt64, Int32.toInt_toInt64]
  simp only [Int.bmod]
  omega
theorem q_abs (x y : Int32) : (if 0 ≤ x.toInt64 - y.toInt64 then x.toInt64 - y.toInt64 else -(x.toInt64 - y.toInt64)) = q_yes true x.toInt64 y.toInt64 := by
  unfold q_yes
  rw [if_pos rfl]
  have h := toI64_sub x y
  have h' := toI64_sub y x
  by_cases hc : y.toInt64 < x.toInt64
  · rw [if_pos hc, if_pos]
    rw [Int64.le_iff_toInt_le, h]
    rw [Int64.lt_iff_toInt_lt, Int32.toInt_toInt64, Int32.toInt_toInt64] at hc
    show (0 : Int) ≤ _
    omega
  · rw [if_neg hc]
    rw [Int64.lt_iff_toInt_lt, Int32.toInt_toInt64, Int32.toInt_toInt64] at hc
    by_cases h0 : 0 ≤ x.toInt64 - y.toInt64
    · rw [if_pos h0]
      rw [Int64.le_iff_toInt_le, h] at h0
      have h0 : (0 : Int) ≤ x.toInt - y.toInt := h0
      apply Int64.toInt_inj.mp
      rw [h, h']
      omega
    · rw [if_neg h0]
      simp [Int64.neg_sub]
theorem qn1 {o : Int32} {x y : Int64} (h : o = 5) (e : x = y) : q_no (decide (o = 5)) x y = 1 := by simp [q_no, h, e]
theorem qn0 {o : Int32} {x y : Int64} (h : o = 5) (e : ¬ x = y) : q_no (decide (o = 5)) x y = 0 := by simp [q_no, h, e]
theorem qnl {o : Int32} {x y : Int64} (h : ¬ o = 5) (e : x < y) : q_no (decide (o = 5)) x y = y - x := by simp [q_no, h, e]
theorem qng {o : Int32} {x y : Int64} (h : ¬ o = 5) (e : ¬ x < y) : q_no (decide (o = 5)) x y = 0 := by simp only [q_no, h]; rw [if_neg (by decide), if_neg e]
theorem qyeq {o x y : Int32} (h : o = 5) : q_yes (decide (o = 5)) x.toInt64 y.toInt64 = if 0 ≤ x.toInt64 - y.toInt64 then x.toInt64 - y.toInt64 else -(x.toInt64 - y.toInt64) := by rw [q_abs]; simp [h]
theorem qyl {o : Int32} {x y : Int64} (h : ¬ o = 5) (e : x < y) : q_yes (decide (o = 5)) x y = 0 := by simp [q_yes, h, e]
theorem qyg {o : Int32} {x y : Int64} (h : ¬ o = 5) (e : ¬ x < y) : q_yes (decide (o = 5)) x y = x - y + 1 := by simp only [q_yes, h]; rw [if_neg (by decide), if_neg e]
theorem zB_1 {P : Prop} [Decidable P] : zB (decide P) = 1 ↔ P := by
  by_cases h : P <;> simp [zB, h]
section QC
variable {U : Nat → Int64 → Int64 → (Nat → Int64) → Nat → Int64} {cd : Nat → Nat → Int32} {bn : Nat → Option Nat} {n f p : Nat} {v : Nat → Int32} {N : Nat → Int64}
theorem q_call_end (hp : ¬ p < n) : q_call U cd bn n f p v N = (0, v, N) := by
  cases f <;> simp only [q_call, if_neg hp]
theorem q_call_0 (hp : p < n) : q_call U cd bn n 0 p v N = (4294967299, v, N) := by simp only [q_call, if_pos hp]
theorem q_call_8 (hp : p < n) (h : cd p 0 = 8) : q_call U cd bn n (f + 1) p v N = ((v (cd p 1).toNatClampNeg).toInt64, v, N) := by simp only [q_call, if_pos hp, if_pos h]
theorem q_call_9 (hp : p < n) (h : cd p 0 = 9) : q_call U cd bn n (f + 1) p v N = (4294967298, v, N) := by
  simp only [q_call, if_pos hp, if_pos h]
  rw [if_neg (by rw [h]; decide)]
theorem q_call_4 (hp : p < n) (h : cd p 0 = 4) (hz : v (cd p 3).toNatClampNeg = 0) : q_call U cd bn n (f + 1) p v N = (4294967297, v, N) := by
  simp only [q_call, if_pos hp]
  rw [if_neg (by rw [h]; decide), if_neg (by rw [h]; decide), if_pos ⟨h, hz⟩]
theorem q_call_n (hp : p < n) (h8 : ¬ cd p 0 = 8) (h9 : ¬ cd p 0 = 9) (h4 : ¬ (cd p 0 = 4 ∧ v (cd p 3).toNatClampNeg = 0)) : q_call U cd bn n (f + 1) p v N = q_call U cd bn n f (q_line U cd bn n p v N).1 (q_line U cd bn n p v N).2.1 (q_line U cd bn n p v N).2.2 := by
  simp only [q_call, if_pos hp, if_neg h8, if_neg h9, if_neg h4]
theorem q_line_le : (q_line U cd bn n p v N).1 ≤ n := by
  unfold q_line
  split
  · exact q_lead_le
  · split
    · exact q_lead_le
    · split <;> exact q_lead_le
end QC
theorem qy1 {o : Int32} {x y : Int64} (h : o = 5) (e : y < x) : q_yes (decide (o = 5)) x y = x - y := by simp only [q_yes, h]; rw [if_pos (by decide), if_pos e]
theorem qy2 {o : Int32} {x y : Int64} (h : o = 5) (e : ¬ y < x) : q_yes (decide (o = 5)) x y = y - x := by simp only [q_yes, h]; rw [if_pos (by decide), if_neg e]
theorem i64_inj {x y : Int32} (h : x.toInt64 = y.toInt64) : x = y := by
  have := congrArg Int64.toInt h
  rw [Int32.toInt_toInt64, Int32.toInt_toInt64] at this
  exact Int32.toInt_inj.mp this
theorem i64_lt {x y : Int32} : x.toInt64 < y.toInt64 ↔ x < y := by
  rw [Int64.lt_iff_toInt_lt, Int32.toInt_toInt64, Int32.toInt_toInt64, Int32.lt_iff_toInt_lt]
theorem i64_sub0 {x y : Int32} (h : x.toInt64 - y.toInt64 = 0) : x = y := by
  have h1 := toI64_sub x y
  rw [h] at h1
  have h2 : (0 : Int) = x.toInt - y.toInt := h1
  exact Int32.toInt_inj.mp (by omega)
theorem qz_eq {o x y : Int32} (h : o = 5) (e : x = y) : q_yes (decide (o = 5)) x.toInt64 y.toInt64 = 0 := by
  subst e
  rw [qy2 h (Int64.lt_irrefl)]
  simp
theorem qz_eq' {o x y : Int32} (h : o = 5) (e : q_yes (decide (o = 5)) x.toInt64 y.toInt64 = 0) : x = y := by
  by_cases hc : y.toInt64 < x.toInt64
  · rw [qy1 h hc] at e; exact i64_sub0 e
  · rw [qy2 h hc] at e; exact (i64_sub0 e).symm
theorem qz_lt {o x y : Int32} (h : ¬ o = 5) (e : x < y) : q_yes (decide (o = 5)) x.toInt64 y.toInt64 = 0 := qyl h (i64_lt.mpr e)
theorem qz_lt' {o x y : Int32} (h : ¬ o = 5) (e : q_yes (decide (o = 5)) x.toInt64 y.toInt64 = 0) : x < y := by
  by_cases hc : x.toInt64 < y.toInt64
  · exact i64_lt.mp hc
  · exfalso
    rw [qyg h hc] at e
    rw [i64_lt, Int32.lt_iff_toInt_lt] at hc
    have h1 := congrArg Int64.toInt e
    have h2 := x.toInt_lt
    have h3 := x.le_toInt
    have h4 := y.toInt_lt
    have h5 := y.le_toInt
    rw [Int64.toInt_add, toI64_sub] at h1
    have h6 : (1 : Int64).toInt = 1 := rfl
    have h7 : (0 : Int64).toInt = 0 := rfl
    rw [h6, h7] at h1
    simp only [Int.bmod] at h1
    omega

