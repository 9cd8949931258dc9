/-! The suite: the words; appendCut. -/
def ctC (c : CA) (p : Nat) : CA := (c.1 - 1, fun i => tkO c.2 p (i / 4) (i % 4))
theorem ctC_w {c : CA} {p : Nat} (w : WC c) (hp : p < c.1) : WC (ctC c p) := by
  have key := fun j (hj : j < c.1 - 1) => tkO_w (p := p) w.2 w.1 hp (show j + 1 < c.1 by omega)
  exact WC_mk (g := tkO c.2 p) (by have := w.1; omega) (fun j hj => (key j hj).1) (fun j hj => (key j hj).2)
/-- a case cut for goal g: from step p on downwards; with the number of runs -/
def ctS (P : Nat → Nat → Int32) (nb g : Nat) : Nat → CA → Int32 → CA × Int32
  | 0, c, r => (c, r)
  | p + 1, c, r => if 1 < c.1 ∧ rfd c.2 p c.1 = false then (if ib (kS P nb (ctC c p)) g = true then ctS P nb g p (ctC c p) (r + 1) else ctS P nb g p c (r + 1)) else ctS P nb g p c r
theorem ctS_w {P : Nat → Nat → Int32} {nb g : Nat} : ∀ (p : Nat) (c : CA) (r : Int32), WC c → 0 < c.1 → p ≤ c.1 → WC (ctS P nb g p c r).1 ∧ 0 < (ctS P nb g p c r).1.1
  | 0, c, r, w, z, _ => ⟨w, z⟩
  | p + 1, c, r, w, z, h => by
    simp only [ctS]
    split
    · rename_i q
      split
      · exact ctS_w p _ _ (ctC_w w (by omega)) (by show 0 < c.1 - 1; omega) (by show p ≤ c.1 - 1; omega)
      · exact ctS_w p _ _ w z (by omega)
    · exact ctS_w p _ _ w z (by omega)
theorem rfd_c {f f' : Nat → Int32} {p n : Nat} (h : ∀ i, i < 4 * n → f i = f' i) : ∀ k, k ≤ n → rfd f p k = rfd f' p k
  | 0, _ => rfl
  | k + 1, hk => by
    simp only [rfd]
    rw [rfd_c h k (by omega), h (4 * k + 3) (by omega)]
def orS (f : Nat → Int32) : Nat → Int32
  | 0 => 0
  | n + 1 => orS f n ||| f n
theorem ib_orS {f : Nat → Int32} {g : Nat} : ∀ n, ib (orS f n) g = true ↔ ∃ i, i < n ∧ ib (f i) g = true
  | 0 => by rw [show orS f 0 = 0 from rfl, ib_0]; exact ⟨fun q => absurd q (by decide), fun ⟨i, h, _⟩ => absurd h (by omega)⟩
  | n + 1 => by
    simp only [orS]
    rw [ib_or, Bool.or_eq_true, ib_orS n]
    constructor
    · rintro (⟨i, h, q⟩ | q)
      · exact ⟨i, by omega, q⟩
      · exact ⟨n, by omega, q⟩
    · rintro ⟨i, h, q⟩
      by_cases e : i = n
      · subst e; exact Or.inr q
      · exact Or.inl ⟨i, by omega, q⟩
/-- the suite's places -/
def C24 (R : Nat → Nat → Option Nat) (B : Nat → Nat) : Prop := ∀ i, i < 24 → R 152 i = some (B i) ∧ isCase (B i) ∧ 153 ≤ B i ∧ B i < 249 ∧ ∀ j, j < 24 → B i = B j → i = j
theorem RX.cp {I : Nat → Nat → Int32} {J : Nat → Nat → Int64} {P : Nat → Nat → Int32} {nb a o : Nat} {c : CA} (hnb : nb ≤ 12) (w : WC c) (x : RX I J P nb o c) : RX (xu (xu (xrow I (a + 1) (va_cpy (I (o + 1)) (I (a + 1)) 0 0 24)) a 3 (I o 3)) a 4 (I o 4)) (xrow (xrow J (a + 2) (va_cpy (J (o + 2)) (J (a + 2)) 0 0 6)) (a + 3) (va_cpy (J (o + 3)) (J (a + 3)) 0 0 24)) P nb a c := by
  have w6 := w.1
  refine ⟨⟨?_, fun i hi => ?_⟩, ?_, fun i hi => ?_, fun q hq => ?_⟩
  · show (if _ then _ else _) = _
    rw [if_neg (by omega), xu_ii]; exact x.1.1
  · rw [xu_ne (by omega), xu_ne (by omega), xrow_at, cpy_lt (by omega)]
    exact x.1.2 i hi
  · rw [xu_ii]; exact x.2.1
  · rw [xrow_ne (by omega), xrow_at, cpy_lt (by omega)]; exact x.2.2.1 i hi
  · rw [xrow_at, cpy_lt (by omega)]; exact x.2.2.2 q hq
theorem RC.cp {I : Nat → Nat → Int32} {a o : Nat} {c : CA} (w : WC c) (x : RC I o c) : RC (xu (xrow I (a + 1) (va_cpy (I (o + 1)) (I (a + 1)) 0 0 24)) a 3 (I o 3)) a c := by
  have w6 := w.1
  refine ⟨by rw [xu_ii]; exact x.1, fun i hi => ?_⟩
  rw [xu_ne (by omega), xrow_at, cpy_lt (by omega)]
  exact x.2 i hi
section SU
variable {S : XS} {d a s nb : Nat} {I P : Nat → Nat → Int32} {J : Nat → Nat → Int64} {R : Nat → Nat → Option Nat} {c : CA} {B : Nat → Nat}
theorem s_takeOutC (hR : RF R) (ha : isCase a) (w : WC c) (r : RC I a c) {p : Nat} (hp : p < c.1) {xp : Int32} (e1 : xp = nI p) :
    XP S (d + 1) 75 0 (xent [.ref a, .int xp] 4) [] (hh I J R) (fun v h' => v = none ∧ ∃ I', h' = hh I' J R ∧ RC I' a (ctC c p) ∧ ∀ x, x ≠ a → x ≠ a + 1 → I' x = I x) := by
  obtain ⟨n, hn⟩ : ∃ n, c.1 = n + 1 := ⟨c.1 - 1, by omega⟩
  have w6 := w.1
  refine XP.conseq (s_takeOut hR ha n p (by rw [← hn]; exact r.1) (by omega) (by omega) (by rw [← hn]; exact r.vt w) e1) (fun v h' hq => ?_)
  obtain ⟨rfl, g, hg, rfl⟩ := hq
  refine ⟨rfl, _, rfl, ⟨?_, ?_⟩, fun x y1 y2 => ?_⟩
  · rw [xrow_ne (by omega), xu_ii]; show nI n = nI (c.1 - 1); rw [hn]; rfl
  · intro i hi
    have hi : i < 4 * (c.1 - 1) := hi
    rw [xrow_at]
    exact row4 (g := tkO c.2 p) (n := n) (fun i q hi hq => (hg i q hi hq).trans (tkO_c r.2 (by omega) hq)) i (by omega)
  · rw [xrow_ne y2, xu_ne y1]
theorem s_mtakeOutC (hR : RF R) (hs : s < 67) (w : WC c) (r : RM I s c) {p : Nat} (hp : p < c.1) {xs xp : Int32} (e0 : xs = nI s) (e1 : xp = nI p) :
    XP S (d + 1) 145 0 (xent [.ref 261, .int xs, .int xp] 6) [] (hh I J R) (fun v h' => v = none ∧ ∃ I', h' = hh I' J R ∧ RM I' s (ctC c p) ∧ SF (fun t => t ≠ s) I I' ∧ ∀ x, x ≠ 262 → x ≠ 263 → I' x = I x) := by
  obtain ⟨n, hn⟩ : ∃ n, c.1 = n + 1 := ⟨c.1 - 1, by omega⟩
  have w6 := w.1
  refine XP.conseq (s_mtakeOut hR hs n p (by rw [← hn]; exact r.1) (by omega) (by omega) (by rw [← hn]; exact r.vt w) e0 e1) (fun v h' hq => ?_)
  obtain ⟨rfl, g, hg, rfl⟩ := hq
  refine ⟨rfl, _, rfl, ⟨?_, ?_⟩, SF_cp, fun x y1 y2 => ?_⟩
  · rw [xu_ii]; show nI n = nI (c.1 - 1); rw [hn]; rfl
  · intro i hi
    have hi : i < 4 * (c.1 - 1) := hi
    show xu (xrow I 262 (sl1 (I 262) s g)) 263 s (nI n) 262 (24 * s + i) = _
    rw [xu_ne (by decide), xrow_at, sl1_at (by omega)]
    exact row4 (g := tkO c.2 p) (n := n) (fun i q hi hq => (hg i q hi hq).trans (tkO_c r.2 (by omega) hq)) i (by omega)
  · rw [xu_ne y2, xrow_ne y1]
/-- Suite.goalsOf -/
theorem s_goalsOf (hR : RF R) (hB : C24 R B) (fr m : Nat) (hm : fr + m ≤ 24) (f : Nat → Int32) (hf : ∀ i, i < m → I (B (fr + i)) 4 = f i) {x1 x2 : Int32} (e1 : x1 = nI fr) (e2 : x2 = nI (fr + m)) :
    XP S d 81 0 (xent [.ref 151, .int x1, .int x2] 5) [] (hh I J R) (rI (orS f m) (hh I J R)) := by
  subst e1; subst e2
  have loop : ∀ (k i : Nat), i + k = m → XP S d 81 5 [some (.ref 151), some (.int (nI fr)), some (.int (nI (fr + m))), some (.int (orS f i)), some (.int (nI (fr + i)))] [] (hh I J R) (rI (orS f m) (hh I J R)) := by
    intro k
    induction k with
    | zero =>
      intro i hi
      have hi : i = m := by omega
      subst hi
      refine y_loc (pc' := 7) xD_81 rfl rfl rfl rfl ?_
      refine y_loc (pc' := 8) xD_81 rfl rfl rfl rfl ?_
      refine y_icge (pt := 30) (pf := 11) xD_81 rfl rfl rfl (fun h8 => ?_) (fun h8 => ?_)
      · skip
        refine y_loc (pc' := 31) xD_81 rfl rfl rfl rfl ?_
        refine y_retI xD_81 rfl rfl ?_
        exact ⟨rfl, rfl⟩
      · skip
        exact absurd (Int32.le_refl _) h8
    | succ k ih =>
      intro i hi
      obtain ⟨ri, ci, -, -, -⟩ := hB (fr + i) (by omega)
      have ki := (kCase ci).1
      refine y_loc (pc' := 7) xD_81 rfl rfl rfl rfl ?_
      refine y_loc (pc' := 8) xD_81 rfl rfl rfl rfl ?_
      refine y_icge (pt := 30) (pf := 11) xD_81 rfl rfl rfl (fun h8 => ?_) (fun h8 => ?_)
      · skip
        exact absurd h8 (nI_ge (a := fr + i) (b := fr + m) (by omega) (by omega))
      · skip
        refine y_loc (pc' := 12) xD_81 rfl rfl rfl rfl ?_
        refine y_loc (pc' := 13) xD_81 rfl rfl rfl rfl ?_
        first | refine m_getR (pc' := 16) xD_81 rfl rfl rfl rfl (hR.1 _ _ _ rfl) rfl ?_ | refine m_getR (pc' := 16) xD_81 rfl rfl (by first | rfl | assumption) rfl (by assumption) rfl ?_
        refine y_loc (pc' := 18) xD_81 rfl rfl rfl rfl ?_
        refine m_aald (pc' := 19) ((fr + i)) (q := 0) xD_81 rfl (by first | rfl | assumption) (by first | decide | assumption) (by first | assumption | omega) (by first | decide | assumption) (by first | rfl | assumption) ri rfl ?_
        refine m_getI (pc' := 22) xD_81 rfl rfl rfl (by first | rfl | assumption) ((hf i (by omega))) rfl ?_
        refine y_op (pc' := 23) xD_81 rfl rfl rfl rfl ?_
        refine y_loc (pc' := 24) xD_81 rfl rfl rfl rfl ?_
        refine y_inc (pc' := 27) (nI ((fr + i) + 1)) xD_81 rfl rfl rfl (nI_1 ((fr + i))) rfl rfl ?_
        refine y_goto (pc' := 5) xD_81 rfl rfl ?_
        exact ih (i + 1) (by omega)
  refine y_ci (pc' := 1) (0) xD_81 rfl rfl rfl rfl ?_
  refine y_loc (pc' := 2) xD_81 rfl rfl rfl rfl ?_
  refine y_loc (pc' := 3) xD_81 rfl rfl rfl rfl ?_
  refine y_loc (pc' := 5) xD_81 rfl rfl rfl rfl ?_
  exact loop m 0 (by omega)
/-- Suite.appendCut -/
theorem s_appendCut (hR : RF R) (hP : CPg I P nb) (hB : C24 R B) (ha : isCase a) (ha2 : a < 121) (ns : Nat) (hns : ns < 24) (e2 : I 151 2 = nI ns) (w : WC c) (z : 0 < c.1) (x : RX I J P nb a c) (g : Nat) (hg : g < 24) :
    XP S (d + 6) 82 0 (xent [.ref 151, .ref a, .int (nI g), .ref 20, .ref 2] 7) [] (hh I J R) (fun v h' => v = none ∧ ∃ I' J', h' = hh I' J' R ∧ RX I' J' P nb (B ns) (ctS P nb g c.1 c (I 20 2)).1 ∧ I' 20 2 = (ctS P nb g c.1 c (I 20 2)).2 ∧ I' 151 2 = nI (ns + 1) ∧ (∀ x, x ≠ 20 → x ≠ 21 → x ≠ 151 → x ≠ B ns → x ≠ B ns + 1 → x ≠ 249 → x ≠ 250 → I' x = I x) ∧ ∀ x, x ≠ 22 → x ≠ B ns + 2 → x ≠ B ns + 3 → x ≠ 251 → x ≠ 252 → J' x = J x) := by
  obtain ⟨rb, cb, lb, ub, -⟩ := hB ns hns
  have ub' : B ns + 3 < 249 := by unfold isCase at cb; omega
  have ct : isCase 249 := Or.inr (Or.inr ⟨by decide, by decide, by decide⟩)
  have ka := (kCase ha).1
  have kb := (kCase cb).1
  have kt := (kCase ct).1
  have aa : a + 3 < 121 := by unfold isCase at ha; omega
  have loop : ∀ (p : Nat) (c' : CA) (I' : Nat → Nat → Int32) (J' : Nat → Nat → Int64), WC c' → 0 < c'.1 → p ≤ c'.1 → RX I' J' P nb (B ns) c' → ctS P nb g p c' (I' 20 2) = ctS P nb g c.1 c (I 20 2) → (∀ x, x ≠ 20 → x ≠ 21 → x ≠ B ns → x ≠ B ns + 1 → x ≠ 249 → x ≠ 250 → I' x = I x) → (∀ x, x ≠ 22 → x ≠ B ns + 2 → x ≠ B ns + 3 → x ≠ 251 → x ≠ 252 → J' x = J x) → XP S (d + 6) 82 25 [some (.ref 151), some (.ref a), some (.int (nI g)), some (.ref 20), some (.ref 2), some (.ref (B ns)), some (.int (nI p - 1))] [] (hh I' J' R) (fun v h' => v = none ∧ ∃ I' J', h' = hh I' J' R ∧ RX I' J' P nb (B ns) (ctS P nb g c.1 c (I 20 2)).1 ∧ I' 20 2 = (ctS P nb g c.1 c (I 20 2)).2 ∧ I' 151 2 = nI (ns + 1) ∧ (∀ x, x ≠ 20 → x ≠ 21 → x ≠ 151 → x ≠ B ns → x ≠ B ns + 1 → x ≠ 249 → x ≠ 250 → I' x = I x) ∧ ∀ x, x ≠ 22 → x ≠ B ns + 2 → x ≠ B ns + 3 → x ≠ 251 → x ≠ 252 → J' x = J x) := by
    intro p
    induction p with
    | zero =>
      intro c' I' J' w' z' h' x' e' fI fJ
      rw [← e']
      have e151 : I' 151 2 = nI ns := (congrFun (fI 151 (by decide) (by decide) (by omega) (by omega) (by decide) (by decide)) 2).trans e2
      refine y_loc (pc' := 27) xD_82 rfl rfl rfl rfl ?_
      refine y_iflt (pt := 106) (pf := 30) xD_82 rfl rfl rfl (fun h27 => ?_) (fun h27 => ?_)
      · skip
        refine y_loc (pc' := 107) xD_82 rfl rfl rfl rfl ?_
        refine y_op (pc' := 108) xD_82 rfl rfl rfl rfl ?_
        refine m_getI (pc' := 111) xD_82 rfl rfl rfl (by first | rfl | assumption) (e151) rfl ?_
        refine y_ci (pc' := 112) (1) xD_82 rfl rfl rfl rfl ?_
        refine y_iadd (pc' := 113) xD_82 rfl (nI_1 ns) rfl ?_
        refine m_putI (pc' := 116) xD_82 rfl rfl (by first | rfl | assumption) rfl rfl rfl ?_
        refine y_retV xD_82 rfl rfl ?_
        exact ⟨rfl, _, J', rfl, x'.fr (xu_ne (by omega)) (xu_ne (by omega)) rfl rfl, by rw [xu_ne (by decide)]; rfl, xu_ii, fun x a b c e f g h => (xu_ne c).trans (fI x a b e f g h), fJ⟩
      · skip
        exact absurd (show nI 0 - 1 < 0 by decide) h27
    | succ p ih =>
      intro c' I' J' w' z' h' x' e' fI fJ
      have c6 := w'.1
      have pe : nI (p + 1) - 1 = nI p := by rw [show nI (p + 1) - 1 = nI (p + 1 - 1) from pk_sub (b := 1) (by omega)]; rfl
      have pd : nI p + Int32.ofInt (-1) = nI p - 1 := by rw [Int32.sub_eq_add_neg]; rfl
      rw [pe]
      simp only [ctS] at e'
      have l1 : nI c'.1 ≤ 1 ↔ c'.1 ≤ 1 := nI_leI (b := 1) (by omega) (by decide)
      have skip : ¬ (1 < c'.1 ∧ rfd c'.2 p c'.1 = false) → XP S (d + 6) 82 100 [some (.ref 151), some (.ref a), some (.int (nI g)), some (.ref 20), some (.ref 2), some (.ref (B ns)), some (.int (nI p))] [] (hh I' J' R) (fun v h' => v = none ∧ ∃ I' J', h' = hh I' J' R ∧ RX I' J' P nb (B ns) (ctS P nb g c.1 c (I 20 2)).1 ∧ I' 20 2 = (ctS P nb g c.1 c (I 20 2)).2 ∧ I' 151 2 = nI (ns + 1) ∧ (∀ x, x ≠ 20 → x ≠ 21 → x ≠ 151 → x ≠ B ns → x ≠ B ns + 1 → x ≠ 249 → x ≠ 250 → I' x = I x) ∧ ∀ x, x ≠ 22 → x ≠ B ns + 2 → x ≠ B ns + 3 → x ≠ 251 → x ≠ 252 → J' x = J x) := by
        intro q
        rw [if_neg q] at e'
        refine y_inc (pc' := 103) (nI p - 1) xD_82 rfl rfl rfl pd rfl rfl ?_
        refine y_goto (pc' := 25) xD_82 rfl rfl ?_
        exact ih c' I' J' w' z' (by omega) x' e' fI fJ
      have hrf := s_isReferredTo (S := S) (d := d + 4) (I := I') (J := J') (R := R) hR cb c'.1 p x'.1.1 c6 (by omega) (x'.1.vt w') (xp := nI p) rfl
      rw [rfd_c x'.1.2 c'.1 (Nat.le_refl _)] at hrf
      refine y_loc (pc' := 27) xD_82 rfl rfl rfl rfl ?_
      refine y_iflt (pt := 106) (pf := 30) xD_82 rfl rfl rfl (fun h27 => ?_) (fun h27 => ?_)
      · skip
        exact absurd h27 (nI_pos (by omega))
      · skip
        refine y_loc (pc' := 32) xD_82 rfl rfl rfl rfl ?_
        refine m_getI (pc' := 35) xD_82 rfl rfl rfl (by first | rfl | assumption) (x'.1.1) rfl ?_
        refine y_ci (pc' := 36) (1) xD_82 rfl rfl rfl rfl ?_
        refine y_icle (pt := 100) (pf := 39) xD_82 rfl rfl rfl (fun h36 => ?_) (fun h36 => ?_)
        · skip
          first
          | exact skip (fun q => absurd (l1.mp h36) (by omega))
          | exact skip (fun q => h46 (by rw [q.2]; rfl))
        · skip
          refine y_loc (pc' := 41) xD_82 rfl rfl rfl rfl ?_
          refine y_loc (pc' := 43) xD_82 rfl rfl rfl rfl ?_
          refine y_callV xD_82 rfl rfl rfl rfl (by first | rfl | assumption) rfl rfl rfl rfl (hrf) (fun v h' hq => ?_)
          obtain ⟨rfl, rfl⟩ := hq
          refine y_ifne (pt := 100) (pf := 49) xD_82 rfl rfl rfl (fun h46 => ?_) (fun h46 => ?_)
          · skip
            first
            | exact skip (fun q => absurd (l1.mp h36) (by omega))
            | exact skip (fun q => h46 (by rw [q.2]; rfl))
          · skip
            skip
            have cond : 1 < c'.1 ∧ rfd c'.2 p c'.1 = false := ⟨Nat.lt_of_not_le (fun q => h36 (l1.mpr q)), zB_f.mp h46⟩
            rw [if_pos cond] at e'
            have r1 := RC.cp (a := 249) w' x'.1
            refine y_loc (pc' := 50) xD_82 rfl rfl rfl rfl ?_
            first | refine m_getR (pc' := 53) xD_82 rfl rfl rfl rfl (hR.1 _ _ _ rfl) rfl ?_ | refine m_getR (pc' := 53) xD_82 rfl rfl (by first | rfl | assumption) rfl (by assumption) rfl ?_
            refine y_loc (pc' := 55) xD_82 rfl rfl rfl rfl ?_
            refine y_callV xD_82 rfl rfl rfl rfl (by first | rfl | assumption) rfl rfl rfl rfl (s_copySteps (a := 249) (o := B ns) (d := d + 4) hR ct cb) (fun v h' hq => ?_)
            obtain ⟨rfl, rfl⟩ := hq
            refine y_loc (pc' := 59) xD_82 rfl rfl rfl rfl ?_
            first | refine m_getR (pc' := 62) xD_82 rfl rfl rfl rfl (hR.1 _ _ _ rfl) rfl ?_ | refine m_getR (pc' := 62) xD_82 rfl rfl (by first | rfl | assumption) rfl (by assumption) rfl ?_
            refine y_loc (pc' := 64) xD_82 rfl rfl rfl rfl ?_
            refine y_callV xD_82 rfl rfl rfl rfl (by first | rfl | assumption) rfl rfl rfl rfl (s_takeOutC (a := 249) (d := d + 4) hR ct w' r1 (p := p) (by omega) rfl) (fun v h' hq => ?_)
            obtain ⟨rfl, I2, rfl, r2, f2⟩ := hq
            have F2 : ∀ x, x ≠ 249 → x ≠ 250 → I2 x = I' x := fun x h1 h2 => (f2 x h1 h2).trans ((xu_ne h1).trans (xrow_ne h2))
            have wt := ctC_w w' (p := p) (by omega)
            have hP2 : CPg I2 P nb := hP.fr (fun x hx => (F2 x (by omega) (by omega)).trans (fI x (by omega) (by omega) (by omega) (by omega) (by omega) (by omega)))
            refine y_loc (pc' := 68) xD_82 rfl rfl rfl rfl ?_
            refine y_loc (pc' := 69) xD_82 rfl rfl rfl rfl ?_
            first | refine m_getR (pc' := 72) xD_82 rfl rfl rfl rfl (hR.1 _ _ _ rfl) rfl ?_ | refine m_getR (pc' := 72) xD_82 rfl rfl (by first | rfl | assumption) rfl (by assumption) rfl ?_
            refine y_loc (pc' := 74) xD_82 rfl rfl rfl rfl ?_
            refine y_callV xD_82 rfl rfl rfl rfl (by first | rfl | assumption) rfl rfl rfl rfl (s_run (a := 249) (d := d) hR ct hP2 wt r2) (fun v h' hq => ?_)
            obtain ⟨rfl, I3, J3, rfl, x3, c3, f3, g3⟩ := hq
            have xc3 : RX I3 J3 P nb (B ns) c' := x'.fr ((f3 _ (by omega) (by omega) (by omega)).trans (F2 _ (by omega) (by omega))) ((f3 _ (by omega) (by omega) (by omega)).trans (F2 _ (by omega) (by omega))) (g3 _ (by omega) (by omega) (by omega)) (g3 _ (by omega) (by omega) (by omega))
            have cnt3 : I3 20 2 = I' 20 2 + 1 := by rw [c3, F2 20 (by decide) (by decide)]
            have fI3 : ∀ x, x ≠ 20 → x ≠ 21 → x ≠ B ns → x ≠ B ns + 1 → x ≠ 249 → x ≠ 250 → I3 x = I x := fun x h1 h2 h3 h4 h5 h6 => (f3 x h1 h2 h5).trans ((F2 x h5 h6).trans (fI x h1 h2 h3 h4 h5 h6))
            have fJ3 : ∀ x, x ≠ 22 → x ≠ B ns + 2 → x ≠ B ns + 3 → x ≠ 251 → x ≠ 252 → J3 x = J x := fun x h1 h2 h3 h4 h5 => (g3 x h1 h4 h5).trans (fJ x h1 h2 h3 h4 h5)
            have b0 := bit0 hg (kS P nb (ctC c' p))
            refine y_loc (pc' := 78) xD_82 rfl rfl rfl rfl ?_
            first | refine m_getR (pc' := 81) xD_82 rfl rfl rfl rfl (hR.1 _ _ _ rfl) rfl ?_ | refine m_getR (pc' := 81) xD_82 rfl rfl (by first | rfl | assumption) rfl (by assumption) rfl ?_
            refine m_getI (pc' := 84) xD_82 rfl rfl rfl (by first | rfl | assumption) (x3.2.1) rfl ?_
            refine y_loc (pc' := 85) xD_82 rfl rfl rfl rfl ?_
            refine y_callS xD_82 rfl rfl rfl rfl rfl rfl rfl rfl (s_hasGoal) (fun v h' hq => ?_)
            obtain ⟨rfl, rfl⟩ := hq
            refine y_ifeq (pt := 100) (pf := 91) xD_82 rfl rfl rfl (fun h88 => ?_) (fun h88 => ?_)
            · skip
              have nb' : ¬ ib (kS P nb (ctC c' p)) g = true := by
                have q := Classical.not_not.mp (zB_0.mp h88)
                rw [b0] at q
                rw [q]; decide
              rw [if_neg nb'] at e'
              refine y_inc (pc' := 103) (nI p - 1) xD_82 rfl rfl rfl pd rfl rfl ?_
              refine y_goto (pc' := 25) xD_82 rfl rfl ?_
              exact ih c' I3 J3 w' z' (by omega) xc3 (by rw [cnt3]; exact e') fI3 fJ3
            · skip
              have yb : ib (kS P nb (ctC c' p)) g = true := by
                have q := zB_n0.mp h88
                rw [b0, Bool.not_eq_false] at q
                exact q
              rw [if_pos yb] at e'
              refine y_loc (pc' := 93) xD_82 rfl rfl rfl rfl ?_
              refine y_loc (pc' := 94) xD_82 rfl rfl rfl rfl ?_
              first | refine m_getR (pc' := 97) xD_82 rfl rfl rfl rfl (hR.1 _ _ _ rfl) rfl ?_ | refine m_getR (pc' := 97) xD_82 rfl rfl (by first | rfl | assumption) rfl (by assumption) rfl ?_
              refine y_callV xD_82 rfl rfl rfl rfl (by first | rfl | assumption) rfl rfl rfl rfl (s_copy (a := B ns) (o := 249) (d := d + 3) hR cb ct) (fun v h' hq => ?_)
              obtain ⟨rfl, rfl⟩ := hq
              refine y_inc (pc' := 103) (nI p - 1) xD_82 rfl rfl rfl pd rfl rfl ?_
              refine y_goto (pc' := 25) xD_82 rfl rfl ?_
              refine ih (ctC c' p) _ _ wt (by show 0 < c'.1 - 1; omega) (by show p ≤ c'.1 - 1; omega) (RX.cp hP.2.1 wt x3) ?_ (fun x h1 h2 h3 h4 h5 h6 => ?_) (fun x h1 h2 h3 h4 h5 => ?_)
              · rw [xu_ne (by omega), xu_ne (by omega), xrow_ne (by omega), cnt3]; exact e'
              · rw [xu_ne h3, xu_ne h3, xrow_ne h4]; exact fI3 x h1 h2 h3 h4 h5 h6
              · rw [xrow_ne h3, xrow_ne h2]; exact fJ3 x h1 h2 h3 h4 h5
  have c6 := w.1
  refine y_loc (pc' := 1) xD_82 rfl rfl rfl rfl ?_
  first | refine m_getR (pc' := 4) xD_82 rfl rfl rfl rfl (hR.1 _ _ _ rfl) rfl ?_ | refine m_getR (pc' := 4) xD_82 rfl rfl (by first | rfl | assumption) rfl (by assumption) rfl ?_
  refine y_loc (pc' := 5) xD_82 rfl rfl rfl rfl ?_
  refine m_getI (pc' := 8) xD_82 rfl rfl rfl (by first | rfl | assumption) (e2) rfl ?_
  refine m_aald (pc' := 9) (ns) (q := 0) xD_82 rfl (by first | rfl | assumption) (by first | decide | assumption) (by first | assumption | omega) (by first | decide | assumption) (by first | rfl | assumption) rb rfl ?_
  refine y_loc (pc' := 11) xD_82 rfl rfl rfl rfl ?_
  refine y_loc (pc' := 13) xD_82 rfl rfl rfl rfl ?_
  refine y_loc (pc' := 14) xD_82 rfl rfl rfl rfl ?_
  refine y_callV xD_82 rfl rfl rfl rfl (by first | rfl | assumption) rfl rfl rfl rfl (s_copy (d := d + 3) hR cb ha) (fun v h' hq => ?_)
  obtain ⟨rfl, rfl⟩ := hq
  have e3 : xu (xu (xrow I (B ns + 1) (va_cpy (I (a + 1)) (I (B ns + 1)) 0 0 24)) (B ns) 3 (I a 3)) (B ns) 4 (I a 4) a 3 = nI c.1 := by rw [xu_ne (by omega), xu_ne (by omega), xrow_ne (by omega)]; exact x.1.1
  refine y_loc (pc' := 18) xD_82 rfl rfl rfl rfl ?_
  refine m_getI (pc' := 21) xD_82 rfl rfl rfl (by first | rfl | assumption) (e3) rfl ?_
  refine y_ci (pc' := 22) (1) xD_82 rfl rfl rfl rfl ?_
  refine y_op (pc' := 23) xD_82 rfl rfl rfl rfl ?_
  refine y_loc (pc' := 25) xD_82 rfl rfl rfl rfl ?_
  refine loop c.1 c _ _ w z (Nat.le_refl _) (RX.cp hP.2.1 w x) ?_ (fun x h1 h2 h3 h4 h5 h6 => ?_) (fun x h1 h2 h3 h4 h5 => ?_)
  · rw [xu_ne (by omega), xu_ne (by omega), xrow_ne (by omega)]
  · rw [xu_ne h3, xu_ne h3, xrow_ne h4]
  · rw [xrow_ne h3, xrow_ne h2]
end SU

