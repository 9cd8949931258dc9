/-! Cases as such: how often, which steps; what a run of one comes to. -/
abbrev CA : Type := Nat × (Nat → Int32)
def WC (c : CA) : Prop := c.1 ≤ 6 ∧ ∀ j, j < c.1 → VT c.2 j
def kr (P : Nat → Nat → Int32) (nb : Nat) (c : CA) : (Nat → Int32) × (Nat → Int64) × (Nat → Int64) × Bool := q_rs UM (cdM P) (fun m => bnM P m nb) (lnM P) c.2 (fun _ => 0) (fun _ => -1) (fun _ => 0) c.1
def kS (P : Nat → Nat → Int32) (nb : Nat) (c : CA) : Int32 := q_set (kr P nb c).2.1 (2 * nb)
def kR (P : Nat → Nat → Int32) (nb : Nat) (c : CA) (i : Nat) : Int64 := (kr P nb c).2.2.1 i
def kF (P : Nat → Nat → Int32) (nb : Nat) (c : CA) (g : Nat) : Int64 := q_level (kr P nb c).2.1 (P 269) nb g
/-- a case in the class's memory, a case that ran, a slot of the model's -/
def RC (I : Nat → Nat → Int32) (a : Nat) (c : CA) : Prop := I a 3 = nI c.1 ∧ ∀ i, i < 4 * c.1 → I (a + 1) i = c.2 i
def RX (I : Nat → Nat → Int32) (J : Nat → Nat → Int64) (P : Nat → Nat → Int32) (nb a : Nat) (c : CA) : Prop := RC I a c ∧ I a 4 = kS P nb c ∧ (∀ i, i < c.1 → J (a + 2) i = kR P nb c i) ∧ ∀ g, g < 2 * nb → J (a + 3) g = kF P nb c g
def RM (I : Nat → Nat → Int32) (s : Nat) (c : CA) : Prop := I 263 s = nI c.1 ∧ ∀ i, i < 4 * c.1 → slM I s i = c.2 i
/-- the program in the class's memory, in the model's -/
def CPg (I P : Nat → Nat → Int32) (nb : Nat) : Prop := I 2 3 = nI nb ∧ nb ≤ 12 ∧ PC I ∧ PrA (fun m => cdC I (4 + 6 * m)) (cdM P) (fun m => bnC I (4 + 6 * m)) (fun m => bnM P m nb) (lnC I) (lnM P) ∧ I 16 = P 269
def MPg (I P : Nat → Nat → Int32) (nb : Nat) : Prop := PM I nb ∧ I 264 = P 264 ∧ I 265 = P 265 ∧ I 267 = P 267 ∧ I 268 = P 268 ∧ I 269 = P 269
theorem VT_fr {f f' : Nat → Int32} {n j : Nat} (h : ∀ i, i < 4 * n → f' i = f i) (hj : j < n) (hv : VT f j) : VT f' j := by
  unfold VT at *
  rw [h (4 * j) (by omega), h (4 * j + 3) (by omega), h (4 * j + 2) (by omega)]
  exact hv
theorem RC.vt {I : Nat → Nat → Int32} {a : Nat} {c : CA} (h : RC I a c) (w : WC c) : ∀ j, j < c.1 → VT (I (a + 1)) j := fun j hj => VT_fr h.2 hj (w.2 j hj)
theorem RM.vt {I : Nat → Nat → Int32} {s : Nat} {c : CA} (h : RM I s c) (w : WC c) : ∀ j, j < c.1 → VT (slM I s) j := fun j hj => VT_fr h.2 hj (w.2 j hj)
theorem q_find_lt {I : Nat → Nat → Int32} {m p : Nat} : ∀ f k j, q_find I m p f k = some j → j < k + f
  | 0, k, j, h => by simp [q_find] at h
  | f + 1, k, j, h => by
    simp only [q_find] at h
    split at h
    · cases h; omega
    · have := q_find_lt f (k + 1) j h; omega
theorem Nr.inj {N M M' : Nat → Int64} (h : Nr N M) (h' : Nr N M') : ∀ g, g < 24 → M g = M' g := by
  intro g hg
  obtain ⟨a1, a2⟩ := h g hg
  obtain ⟨b1, b2⟩ := h' g hg
  rw [a1] at b1
  unfold cN at b1
  have z : ∀ x : Int64, 0 ≤ x → ¬ x < 0 := fun x q => Int64.not_lt.mpr q
  rcases a2 with a2 | a2 <;> rcases b2 with b2 | b2
  · rw [a2, b2]
  · rw [a2, if_pos (by decide), if_neg (z _ b2.1)] at b1
    exact absurd b2.2 (by rw [← b1]; decide)
  · rw [b2, if_pos (show (-1 : Int64) < 0 by decide), if_neg (z _ a2.1)] at b1
    exact absurd a2.2 (by rw [b1]; decide)
  · rw [if_neg (z _ a2.1), if_neg (z _ b2.1)] at b1
    exact b1
theorem kr_class {I P : Nat → Nat → Int32} {J : Nat → Nat → Int64} {nb a : Nat} {c : CA} (h : CPg I P nb) (w : WC c) (r : RC I a c) :
    Nr (rnC I J a c.1).2.1 (kr P nb c).2.1 ∧ ∀ i, i < c.1 → (rnC I J a c.1).2.2.1 i = kR P nb c i := by
  have := q_rs_rel (f := I (a + 1)) (f' := c.2) (v := v0C I) (w := fun _ => 0) (N := n0C J) (M := fun _ => -1) (res := J (a + 2)) (res' := fun _ => 0) h.2.2.2.1 (fun i h4 h8 => by unfold v0C; rw [if_pos h8]) (fun g hg => ⟨by unfold n0C; rw [if_pos hg]; rfl, Or.inl rfl⟩) c.1 w.1 (fun j hj => (r.vt w j hj).s) (fun i hi => (r.2 i hi).symm)
  exact ⟨this.2.1, this.2.2.1⟩
theorem kr_model {I P : Nat → Nat → Int32} {J : Nat → Nat → Int64} {nb s : Nat} {c : CA} (h : MPg I P nb) (w : WC c) (r : RM I s c) :
    (∀ g, g < 24 → (rnM I J nb s c.1).2.1 g = (kr P nb c).2.1 g) ∧ ∀ i, i < c.1 → (rnM I J nb s c.1).2.2.1 i = kR P nb c i := by
  obtain ⟨⟨p1, p2, p3⟩, h4, h5, h7, h8, h9⟩ := h
  have e1 : cdM I = cdM P := by funext m; exact cdM_eq h4
  have e2 : (fun m => bnM I m nb) = (fun m => bnM P m nb) := by funext m; exact bnM_eq h7 h8
  have e3 : lnM I = lnM P := by funext m; unfold lnM; rw [h5]
  have hP : PrA (cdM P) (cdM P) (fun m => bnM P m nb) (fun m => bnM P m nb) (lnM P) (lnM P) := fun m hm => ⟨rfl, fun p hp => ⟨by
    have := (p3 m hm).2.2 p (by rw [e3]; exact hp)
    rw [e1] at this; exact this, fun q hq => rfl, rfl, fun k hk => by have := q_find_lt _ _ _ hk; omega⟩⟩
  have a1 := q_rs_rel (f := c.2) (f' := c.2) (v := fun _ => 0) (w := fun _ => 0) (N := fun _ => 8589934592) (M := fun _ => -1) (res := fun _ => 0) (res' := fun _ => 0) hP (fun i h4 h8 => rfl) (fun g hg => ⟨rfl, Or.inl rfl⟩) c.1 w.1 (fun j hj => (w.2 j hj).s) (fun i hi => rfl)
  have a2 := q_rs_rel (f := c.2) (f' := slM I s) (v := fun _ => 0) (w := v0M I) (N := fun _ => 8589934592) (M := n0M J) (res := fun _ => 0) (res' := J 272) hP (fun i h4 h8 => by unfold v0M; rw [if_pos ⟨h4, h8⟩]) (fun g hg => by unfold n0M; rw [if_pos hg]; exact ⟨rfl, Or.inl rfl⟩) c.1 w.1 (fun j hj => (w.2 j hj).s) (fun i hi => r.2 i hi)
  have e : rnM I J nb s c.1 = q_rs UM (cdM P) (fun m => bnM P m nb) (lnM P) (slM I s) (v0M I) (n0M J) (J 272) c.1 := by unfold rnM rsM; rw [e1, e2, e3]
  rw [e]
  exact ⟨fun g hg => Nr.inj a2.2.1 a1.2.1 g hg, fun i hi => (a2.2.2.1 i hi).symm.trans (a1.2.2.1 i hi)⟩
theorem q_in_cg {N N' : Nat → Int64} {nd : Nat → Int32} {gs : Int32} (h : ∀ g, g < 24 → N g = N' g) : ∀ n, n ≤ 24 → q_in N nd gs n = q_in N' nd gs n
  | 0, _ => rfl
  | n + 1, hn => by
    simp only [q_in]
    rw [h n (by omega), q_in_cg h n (by omega)]
theorem q_lvl_c {N N' : Nat → Int64} {nd : Nat → Int32} {nb : Nat} (hnb : nb ≤ 12) (h : ∀ g, g < 24 → N g = N' g) : ∀ f k gs, q_lvl N nd nb f k gs = q_lvl N' nd nb f k gs
  | 0, _, _ => rfl
  | f + 1, k, gs => by
    simp only [q_lvl]
    rw [q_in_cg h (2 * nb) (by omega), q_lvl_c hnb h f]
theorem q_level_c {N N' : Nat → Int64} {nd : Nat → Int32} {nb g : Nat} (hnb : nb ≤ 12) (hg : g < 24) (h : ∀ g, g < 24 → N g = N' g) : q_level N nd nb g = q_level N' nd nb g := by
  unfold q_level
  rw [h g hg, q_lvl_c hnb h]
theorem q_set_c {N N' : Nat → Int64} (h : ∀ g, g < 24 → N g = N' g) : ∀ n, n ≤ 24 → q_set N n = q_set N' n
  | 0, _ => rfl
  | n + 1, hn => by
    simp only [q_set]
    rw [h n (by omega), q_set_c h n (by omega)]
theorem ib_set {N : Nat → Int64} {g : Nat} (hg : g < 32) : ∀ n, n ≤ 24 → (ib (q_set N n) g = true ↔ g < n ∧ N g = 0)
  | 0, _ => by rw [show q_set N 0 = 0 from rfl, ib_0]; exact ⟨fun q => absurd q (by decide), fun q => absurd q.1 (by omega)⟩
  | n + 1, hn => by
    have ih := ib_set (N := N) hg n (by omega)
    simp only [q_set]
    by_cases h : N n = 0
    · rw [if_pos h, ib_or, ib_shl (by omega) g hg, Bool.or_eq_true, ih, decide_eq_true_eq]
      constructor
      · rintro (q | q)
        · exact ⟨by omega, q.2⟩
        · subst q; exact ⟨by omega, h⟩
      · intro q
        by_cases e : g = n
        · exact Or.inr e
        · exact Or.inl ⟨by omega, q.2⟩
    · rw [if_neg h, ih]
      constructor
      · exact fun q => ⟨by omega, q.2⟩
      · intro q
        by_cases e : g = n
        · subst e; exact absurd q.2 h
        · exact ⟨by omega, q.2⟩
theorem kS_lt {P : Nat → Nat → Int32} {nb g : Nat} {c : CA} (hnb : nb ≤ 12) (hg : g < 32) (h : ib (kS P nb c) g = true) : g < 2 * nb := ((ib_set hg (2 * nb) (by omega)).mp h).1
section RN
variable {S : XS} {d a s nb : Nat} {I P : Nat → Nat → Int32} {J : Nat → Nat → Int64} {R : Nat → Nat → Option Nat} {c : CA}
/-- Runner.perform, of a case as such -/
theorem s_run (hR : RF R) (ha : isCase a) (hP : CPg I P nb) (w : WC c) (r : RC I a c) :
    XP S (d + 5) 34 0 (xent [.ref 20, .ref a, .ref 2] 5) [] (hh I J R) (fun v h' => v = none ∧ ∃ I' J', h' = hh I' J' R ∧ RX I' J' P nb a c ∧ I' 20 2 = I 20 2 + 1 ∧ (∀ x, x ≠ 20 → x ≠ 21 → x ≠ a → I' x = I x) ∧ ∀ x, x ≠ 22 → x ≠ a + 2 → x ≠ a + 3 → J' x = J x) := by
  have hk := kr_class (J := J) hP w r
  have x0 : a ≠ 20 ∧ a ≠ 21 ∧ a + 1 ≠ 20 ∧ a + 1 ≠ 21 ∧ a + 1 ≠ a ∧ a + 2 ≠ a + 3 := by unfold isCase at ha; omega
  refine XP.conseq (s_perform (nb := nb) hR ha hP.2.2.1 hP.1 hP.2.1 r.1 w.1 (fun j hj => (r.vt w j hj).s)) (fun v h' hq => ?_)
  obtain ⟨rfl, rfl⟩ := hq
  refine ⟨rfl, _, _, rfl, ⟨⟨?_, ?_⟩, ?_, ?_, ?_⟩, ?_, ?_, ?_⟩
  · rw [show ∀ (f : Nat → Nat → Int32) x, xu f a 4 x a 3 = f a 3 from fun f x => by unfold xu; rw [if_neg (by omega)], xrow_ne x0.2.1, xu_ne x0.1]
    exact r.1
  · intro i hi
    rw [xu_ne x0.2.2.2.2.1, xrow_ne x0.2.2.2.1, xu_ne x0.2.2.1]
    exact r.2 i hi
  · rw [xu_ii]
    exact q_set_rel hk.1 (2 * nb) (by have := hP.2.1; omega)
  · intro i hi
    rw [xrow_ne x0.2.2.2.2.2, xrow_at]
    exact hk.2 i hi
  · intro g hg
    rw [xrow_at]
    unfold ftC kF
    rw [if_pos hg, hP.2.2.2.2]
    exact q_fit_level hP.2.1 hk.1 hg
  · rw [xu_ne (Ne.symm x0.1), xrow_ne (by decide), xu_ii]
  · intro x h1 h2 h3
    rw [xu_ne h3, xrow_ne h2, xu_ne h1]
  · intro x h1 h2 h3
    rw [xrow_ne h3, xrow_ne h2, xrow_ne h1]
/-- the model's perform, of a case as such -/
theorem s_kperform (hR : RF R) (hs : s < 67) (hP : MPg I P nb) (w : WC c) (r : RM I s c) {xs : Int32} (e1 : xs = nI s) :
    XP S (d + 5) 124 0 (xent [.ref 261, .int xs] 6) [] (hh I J R) (fun v h' => v = none ∧ ∃ vv N res, h' = hh (xrow I 271 vv) (xrow (xrow J 273 N) 272 res) R ∧ (∀ g, g < 24 → N g = (kr P nb c).2.1 g) ∧ ∀ i, i < c.1 → res i = kR P nb c i) := by
  have hk := kr_model (J := J) hP w r
  refine XP.conseq (s_mperform (nb := nb) hR hs hP.1 r.1 w.1 (fun j hj => (r.vt w j hj).s) e1) (fun v h' hq => ?_)
  obtain ⟨rfl, rfl⟩ := hq
  exact ⟨rfl, _, _, _, rfl, hk.1, hk.2⟩
theorem s_kreached (hR : RF R) (hs : s < 67) (hP : MPg I P nb) (w : WC c) (r : RM I s c) {xs : Int32} (e1 : xs = nI s) :
    XP S (d + 6) 123 0 (xent [.ref 261, .int xs] 4) [] (hh I J R) (fun v h' => v = some (.int (kS P nb c)) ∧ ∃ vv N res, h' = hh (xrow I 271 vv) (xrow (xrow J 273 N) 272 res) R) := by
  have hk := kr_model (J := J) hP w r
  refine XP.conseq (s_reached (nb := nb) hR hs hP.1 r.1 w.1 (fun j hj => (r.vt w j hj).s) e1) (fun v h' hq => ?_)
  obtain ⟨rfl, rfl⟩ := hq
  refine ⟨?_, _, _, _, rfl⟩
  rw [q_set_c hk.1 (2 * nb) (by have := hP.1.2.1; omega)]
  rfl
end RN

