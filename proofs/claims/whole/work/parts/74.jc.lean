/-! Cases joined and changed, as such. -/
def jnK (n s t : Nat) : Nat := if s + n - t ≤ 6 then s + n - t else 6
def jnC (p q : CA) (s t : Nat) : CA := (jnK q.1 s t, fun i => jnO p.2 q.2 s t (i / 4) (i % 4))
def chC (cc : Nat) (con : Nat → Int32) (b : Int64) (c : CA) : CA := (chN c.1 b, fun i => chG cc con c.2 c.1 b (i / 4) (i % 4))
theorem m1_lt {t : Nat} (h : t < 2000) : (-1 : Int32) < nI t := by
  rw [Int32.lt_iff_toInt_lt, nI_toInt (by omega)]
  show (-1 : Int) < _
  omega
theorem nI_ne1 {t : Nat} (h : t < 2000) : ¬ (-1 : Int32) = nI t := fun q => by
  have := m1_lt h
  rw [q] at this
  exact Int32.lt_irrefl this
theorem nI_inj {a b : Nat} (ha : a < 2000) (hb : b < 2000) : nI a = nI b ↔ a = b := nI_eq (by omega) (by omega)
theorem jnO_c {f f' e e' : Nat → Int32} {n m s t i q : Nat} (hf : ∀ i, i < 4 * m → f i = f' i) (he : ∀ i, i < 4 * n → e i = e' i) (hs : s ≤ m) (hi : i < jnK n s t) (hq : q < 4) : jnO f e s t i q = jnO f' e' s t i q := by
  unfold jnO
  by_cases h : i < s
  · rw [if_pos h, if_pos h, hf _ (by omega)]
  · have hk : i - s + t < n := by unfold jnK at hi; split at hi <;> omega
    rw [if_neg h, if_neg h, he _ (by omega), he (4 * (i - s + t) + 2) (by omega), he (4 * (i - s + t) + 3) (by omega)]
theorem jnO_3 {f e : Nat → Int32} {s t j : Nat} (h : ¬ j < s) : jnO f e s t j 3 = if e (4 * (j - s + t) + 3) < nI t then -1 else e (4 * (j - s + t) + 3) - nI t + nI s := by
  unfold jnO; rw [if_neg h]; rfl
theorem jnO_2 {f e : Nat → Int32} {s t j : Nat} (h : ¬ j < s) : jnO f e s t j 2 = e (4 * (j - s + t) + 2) := by
  unfold jnO; rw [if_neg h]; rfl
theorem jnO_0 {f e : Nat → Int32} {s t j : Nat} (h : ¬ j < s) : jnO f e s t j 0 = e (4 * (j - s + t)) := by
  unfold jnO; rw [if_neg h]; rfl
theorem jnC_w {p q : CA} {s t : Nat} (wp : WC p) (wq : WC q) (hs : s < p.1) (ht : t < q.1) : WC (jnC p q s t) ∧ 0 < (jnC p q s t).1 := by
  have p6 := wp.1
  have q6 := wq.1
  refine ⟨WC_mk (g := jnO p.2 q.2 s t) ?_ (fun j hj => ?_) (fun j hj => ?_), ?_⟩
  · unfold jnK; split <;> omega
  · by_cases h : j < s
    · unfold jnO; rw [if_pos h]; exact (wp.2 j (by omega)).1
    · have hk : j - s + t < q.1 := by unfold jnK at hj; split at hj <;> omega
      rw [jnO_0 h]; exact (wq.2 _ hk).1
  · by_cases h : j < s
    · unfold jnO; rw [if_pos h, if_pos h]; exact (wp.2 j (by omega)).2
    · have hk : j - s + t < q.1 := by unfold jnK at hj; split at hj <;> omega
      rw [jnO_3 h, jnO_2 h]
      rcases (wq.2 _ hk).2 with hr | ⟨r, hr, er, ey⟩
      · rw [hr, if_pos (m1_lt (by omega))]; exact Or.inl rfl
      · rw [er]
        by_cases hl : r < t
        · rw [if_pos (nI_lt hl (by omega))]; exact Or.inl rfl
        · rw [if_neg (nI_nlt (by omega) (by omega)), pk_sub (by omega), nI_add]
          exact Or.inr ⟨_, by omega, rfl, ey⟩
  · show 0 < jnK q.1 s t
    unfold jnK; split <;> omega
theorem mkR_c {f f' : Nat → Int32} {n p i q : Nat} (hf : ∀ i, i < 4 * n → f i = f' i) (hp : p ≤ n) (hi : i < n + 1) (hne : i ≠ p) (hq : q < 4) : mkR f p i q = mkR f' p i q := by
  unfold mkR
  by_cases h : i < p
  · rw [if_pos h, if_pos h, hf _ (by omega)]
  · rw [if_neg h, if_neg h, hf (4 * (i - 1) + 3) (by omega)]
    by_cases h3 : q < 3
    · rw [if_pos h3, if_pos h3, hf _ (by omega)]
    · rw [if_neg h3, if_neg h3]
theorem tkO_c {f f' : Nat → Int32} {n p i q : Nat} (hf : ∀ i, i < 4 * n → f i = f' i) (hi : i + 1 < n) (hq : q < 4) : tkO f p i q = tkO f' p i q := by
  unfold tkO
  by_cases h : i < p
  · rw [if_pos h, if_pos h, hf _ (by omega)]
  · rw [if_neg h, if_neg h, hf (4 * (i + 1) + 3) (by omega), hf (4 * (i + 1) + 2) (by omega), hf (4 * (i + 1) + q) (by omega)]
theorem csG_c {cc : Nat} {con f f' : Nat → Int32} {n p i q : Nat} {b : Int64} (hf : ∀ i, i < 4 * n → f i = f' i) (hp : p < n) (hi : i < n) (hq : q < 4) : csG cc con f p b i q = csG cc con f' p b i q := by
  unfold csG
  rw [hf (4 * i + q) (by omega), hf (4 * p + 1) (by omega), hf (4 * p) (by omega)]
theorem csB_c {f f' : Nat → Int32} {n p : Nat} {b : Int64} (hf : ∀ i, i < 4 * n → f i = f' i) (hp : p < n) : csB f p b = csB f' p b := by
  unfold csB
  rw [hf (4 * p) (by omega)]
theorem chG_c {cc : Nat} {con f f' : Nat → Int32} {n i q : Nat} {b : Int64} (hf : ∀ i, i < 4 * n → f i = f' i) (hn : 0 < n) (hi : i < chN n b) (hq : q < 4) : chG cc con f n b i q = chG cc con f' n b i q := by
  have h1 := dv_lt (dn (dn b)) (n := n + 1) (by omega)
  have h2 := dv_lt (dn (dn b)) (n := n) hn
  unfold chN at hi
  unfold chG
  generalize dv (dn (dn b)) (n + 1) = p1 at *
  generalize dv (dn (dn b)) n = p2 at *
  by_cases k0 : dv (dn b) 3 = 0
  · rw [if_pos k0] at hi
    rw [if_pos k0, if_pos k0]
    by_cases n6 : n < 6
    · rw [if_pos n6] at hi
      rw [if_pos n6, if_pos n6]
      by_cases e : i = p1
      · rw [if_pos e, if_pos e]
      · rw [if_neg e, if_neg e]
        exact mkR_c hf (by omega) hi e hq
    · rw [if_neg n6] at hi
      rw [if_neg n6, if_neg n6, hf _ (by omega)]
  · rw [if_neg k0] at hi
    rw [if_neg k0, if_neg k0]
    by_cases k1 : dv (dn b) 3 = 1
    · rw [if_pos k1] at hi
      rw [if_pos k1, if_pos k1]
      by_cases n1 : 1 < n
      · rw [if_pos n1] at hi
        rw [if_pos n1, if_pos n1]
        exact tkO_c hf (by omega) hq
      · rw [if_neg n1] at hi
        rw [if_neg n1, if_neg n1, hf _ (by omega)]
    · rw [if_neg k1] at hi
      rw [if_neg k1, if_neg k1]
      exact csG_c hf h2 hi hq
theorem chB_c {f f' : Nat → Int32} {n : Nat} {b : Int64} (hf : ∀ i, i < 4 * n → f i = f' i) (hn : 0 < n) : chB f n b = chB f' n b := by
  have h2 := dv_lt (dn (dn b)) (n := n) hn
  unfold chB
  generalize dv (dn (dn b)) n = p2 at *
  rw [csB_c hf h2]
theorem chN_ok {n : Nat} {b : Int64} (h0 : 0 < n) (h6 : n ≤ 6) : 0 < chN n b ∧ chN n b ≤ 6 := by
  unfold chN
  split
  · split <;> omega
  · split
    · split <;> omega
    · omega
theorem mkR_3 {f : Nat → Int32} {p j : Nat} (h : ¬ j < p) : mkR f p j 3 = if f (4 * (j - 1) + 3) < nI p then f (4 * (j - 1) + 3) else f (4 * (j - 1) + 3) + 1 := by
  unfold mkR; rw [if_neg h]; rfl
theorem mkR_2 {f : Nat → Int32} {p j : Nat} (h : ¬ j < p) : mkR f p j 2 = f (4 * (j - 1) + 2) := by
  unfold mkR; rw [if_neg h]; rfl
theorem mkR_0 {f : Nat → Int32} {p j : Nat} (h : ¬ j < p) : mkR f p j 0 = f (4 * (j - 1)) := by
  unfold mkR; rw [if_neg h]; rfl
theorem tkO_3 {f : Nat → Int32} {p j : Nat} (h : ¬ j < p) : tkO f p j 3 = if f (4 * (j + 1) + 3) = nI p then -1 else if nI p < f (4 * (j + 1) + 3) then f (4 * (j + 1) + 3) - 1 else f (4 * (j + 1) + 3) := by
  unfold tkO; rw [if_neg h]; rfl
theorem tkO_2 {f : Nat → Int32} {p j : Nat} (h : ¬ j < p) : tkO f p j 2 = if f (4 * (j + 1) + 3) = nI p then 0 else f (4 * (j + 1) + 2) := by
  unfold tkO; rw [if_neg h]; rfl
theorem tkO_0 {f : Nat → Int32} {p j : Nat} (h : ¬ j < p) : tkO f p j 0 = f (4 * (j + 1)) := by
  unfold tkO; rw [if_neg h]; rfl
theorem mkR_w {f : Nat → Int32} {n p j : Nat} (hf : ∀ j, j < n → VT f j) (h6 : n < 6) (hp : p ≤ n) (hj : j < n + 1) (hne : j ≠ p) : (∃ t, t < 8 ∧ ¬ t = 2 ∧ ¬ t = 3 ∧ mkR f p j 0 = nI t) ∧ (mkR f p j 3 = -1 ∨ ∃ r, r < j ∧ mkR f p j 3 = nI r ∧ mkR f p j 2 = 0) := by
  by_cases h : j < p
  · unfold mkR; rw [if_pos h, if_pos h, if_pos h]; exact hf j (by omega)
  · rw [mkR_0 h, mkR_3 h, mkR_2 h]
    refine ⟨(hf (j - 1) (by omega)).1, ?_⟩
    rcases (hf (j - 1) (by omega)).2 with hr | ⟨r, hr, er, ey⟩
    · rw [hr, if_pos (m1_lt (by omega))]; exact Or.inl rfl
    · rw [er]
      by_cases hl : r < p
      · rw [if_pos (nI_lt hl (by omega))]; exact Or.inr ⟨r, by omega, rfl, ey⟩
      · rw [if_neg (nI_nlt (by omega) (by omega)), nI_1]; exact Or.inr ⟨r + 1, by omega, rfl, ey⟩
theorem tkO_w {f : Nat → Int32} {n p j : Nat} (hf : ∀ j, j < n → VT f j) (h6 : n ≤ 6) (hp : p < n) (hj : j + 1 < n) : (∃ t, t < 8 ∧ ¬ t = 2 ∧ ¬ t = 3 ∧ tkO f p j 0 = nI t) ∧ (tkO f p j 3 = -1 ∨ ∃ r, r < j ∧ tkO f p j 3 = nI r ∧ tkO f p j 2 = 0) := by
  by_cases h : j < p
  · unfold tkO; rw [if_pos h, if_pos h, if_pos h]; exact hf j (by omega)
  · rw [tkO_0 h, tkO_3 h, tkO_2 h]
    refine ⟨(hf (j + 1) (by omega)).1, ?_⟩
    rcases (hf (j + 1) (by omega)).2 with hr | ⟨r, hr, er, ey⟩
    · rw [hr, if_neg (nI_ne1 (by omega)), if_neg (fun q => Int32.lt_irrefl (Int32.lt_trans q (m1_lt (by omega))))]; exact Or.inl rfl
    · rw [er]
      by_cases e : r = p
      · rw [if_pos (by rw [e])]; exact Or.inl rfl
      · have e' : ¬ nI r = nI p := fun q => e ((nI_inj (by omega) (by omega)).mp q)
        rw [if_neg e', if_neg e', ey]
        by_cases hl : p < r
        · rw [if_pos (nI_lt hl (by omega)), show nI r - 1 = nI (r - 1) from pk_sub (b := 1) (by omega)]
          exact Or.inr ⟨r - 1, by omega, rfl, rfl⟩
        · rw [if_neg (nI_nlt (by omega) (by omega))]
          exact Or.inr ⟨r, by omega, rfl, rfl⟩
theorem csG_w {cc : Nat} {con f : Nat → Int32} {p j : Nat} {b : Int64} (hf : VT f j) : (∃ t, t < 8 ∧ ¬ t = 2 ∧ ¬ t = 3 ∧ csG cc con f p b j 0 = nI t) ∧ (csG cc con f p b j 3 = -1 ∨ ∃ r, r < j ∧ csG cc con f p b j 3 = nI r ∧ csG cc con f p b j 2 = 0) := by
  unfold csG
  generalize dv (dn b) 3 = u
  generalize dnum (dn b) cc con = z
  generalize f (4 * p + 1) + (nI (dv (dn (dn b)) 9) - 4) = z2
  by_cases u0 : u = 0
  · simp only [if_pos u0]
    rw [if_neg (by omega), if_neg (by omega), if_neg (by omega)]
    exact hf
  · simp only [if_neg u0]
    by_cases u1 : u = 1
    · simp only [if_pos u1]
      rw [if_neg (by omega), if_neg (by omega), if_neg (by omega)]
      exact hf
    · simp only [if_neg u1]
      by_cases k : f (4 * p) < 2
      · simp only [if_pos k]
        rw [if_neg (by omega), if_neg (by omega), if_neg (show ¬ (j = p ∧ (3 : Nat) = 2) by omega)]
        refine ⟨hf.1, ?_⟩
        by_cases e : j = p
        · rw [if_pos ⟨e, trivial⟩]; exact Or.inl rfl
        · rw [if_neg (fun q => e q.1), if_neg (fun q => e q.1), if_neg (fun q => e q.1)]
          exact hf.2
      · simp only [if_neg k]
        exact hf
theorem chC_w {cc : Nat} {con : Nat → Int32} {b : Int64} {c : CA} (w : WC c) (h0 : 0 < c.1) : WC (chC cc con b c) := by
  have hk := chN_ok (b := b) h0 w.1
  have key : ∀ j, j < chN c.1 b → (∃ t, t < 8 ∧ ¬ t = 2 ∧ ¬ t = 3 ∧ chG cc con c.2 c.1 b j 0 = nI t) ∧ (chG cc con c.2 c.1 b j 3 = -1 ∨ ∃ r, r < j ∧ chG cc con c.2 c.1 b j 3 = nI r ∧ chG cc con c.2 c.1 b j 2 = 0) := by
    intro j hj
    have h1 := dv_lt (dn (dn b)) (n := c.1 + 1) (by omega)
    have h2 := dv_lt (dn (dn b)) (n := c.1) h0
    have hF := dF_ok cc con (dv (dn (dn b)) (c.1 + 1)) (dn (dn b))
    have hK := dK_ok (dn (dn b))
    have h6 := w.1
    unfold chN at hj
    unfold chG
    generalize dv (dn (dn b)) (c.1 + 1) = p1 at *
    generalize dv (dn (dn b)) c.1 = p2 at *
    by_cases k0 : dv (dn b) 3 = 0
    · rw [if_pos k0] at hj
      simp only [if_pos k0]
      by_cases n6 : c.1 < 6
      · rw [if_pos n6] at hj
        simp only [if_pos n6]
        by_cases e : j = p1
        · subst e
          rw [if_pos rfl, if_pos rfl, if_pos rfl, st4_0, st4_3, st4_2]
          exact ⟨hK, hF⟩
        · rw [if_neg e, if_neg e, if_neg e]
          exact mkR_w w.2 n6 (by omega) hj e
      · rw [if_neg n6] at hj
        simp only [if_neg n6]
        exact w.2 j hj
    · rw [if_neg k0] at hj
      simp only [if_neg k0]
      by_cases k1 : dv (dn b) 3 = 1
      · rw [if_pos k1] at hj
        simp only [if_pos k1]
        by_cases n1 : 1 < c.1
        · rw [if_pos n1] at hj
          simp only [if_pos n1]
          exact tkO_w w.2 h6 h2 (by omega)
        · rw [if_neg n1] at hj
          simp only [if_neg n1]
          exact w.2 j hj
      · rw [if_neg k1] at hj
        simp only [if_neg k1]
        exact csG_w (w.2 j hj)
  exact WC_mk (g := chG cc con c.2 c.1 b) hk.2 (fun j hj => (key j hj).1) (fun j hj => (key j hj).2)
section JC
variable {S : XS} {d a s nb : Nat} {I P : Nat → Nat → Int32} {J : Nat → Nat → Int64} {R : Nat → Nat → Option Nat} {c : CA}
theorem s_changeC (hR : RF R) (ha : isCase a) (cc : Nat) (hcc : I 18 1 = nI cc) (hcc2 : cc ≤ 20) (w : WC c) (h0 : 0 < c.1) (r : RC I a c) :
    XP S (d + 3) 73 0 (xent [.ref 18, .ref a] 4) [] (hh I J R) (fun v h' => v = none ∧ ∃ I', h' = hh I' (xu J 18 2 (chB c.2 c.1 (J 18 2))) R ∧ RC I' a (chC cc (I 19) (J 18 2) c) ∧ ∀ x, x ≠ a → x ≠ a + 1 → I' x = I x) := by
  refine XP.conseq (s_change hR ha cc hcc hcc2 c.1 r.1 h0 w.1 (r.vt w)) (fun v h' hq => ?_)
  obtain ⟨rfl, g, hg, rfl⟩ := hq
  refine ⟨rfl, xrow (xu I a 3 (nI (chN c.1 (J 18 2)))) (a + 1) g, by rw [chB_c r.2 h0], ⟨?_, ?_⟩, fun x y1 y2 => ?_⟩
  · rw [xrow_ne (by omega), xu_ii]; rfl
  · intro i hi
    rw [xrow_at]
    exact row4 (g := chG cc (I 19) c.2 c.1 (J 18 2)) (n := chN c.1 (J 18 2)) (fun i q hi hq => (hg i q hi hq).trans (chG_c r.2 h0 hi hq)) i hi
  · rw [xrow_ne y2, xu_ne y1]
theorem s_mchangeC (hR : RF R) (hs : s < 67) (hL : PL I) (cc : Nat) (hcc : cc = scnt I 20) (con : Nat → Int32) (hcon : ∀ q, q < 20 → isS I q → con (scnt I q) = cdM I (q / 10) (q % 10) 3) (w : WC c) (h0 : 0 < c.1) (r : RM I s c) {xs : Int32} (e0 : xs = nI s) :
    XP S (d + 4) 143 0 (xent [.ref 261, .int xs] 8) [] (hh I J R) (fun v h' => v = none ∧ ∃ I', h' = hh I' (xu J 261 14 (chB c.2 c.1 (J 261 14))) R ∧ RM I' s (chC cc con (J 261 14) c) ∧ SF (fun t => t ≠ s) I I' ∧ ∀ x, x ≠ 262 → x ≠ 263 → I' x = I x) := by
  refine XP.conseq (s_mchange hR hs hL cc hcc con hcon c.1 r.1 h0 w.1 (r.vt w) e0) (fun v h' hq => ?_)
  obtain ⟨rfl, g, hg, rfl⟩ := hq
  have ck := (chN_ok (b := J 261 14) h0 w.1).2
  refine ⟨rfl, xu (xrow I 262 (sl1 (I 262) s g)) 263 s (nI (chN c.1 (J 261 14))), by rw [chB_c r.2 h0], ⟨?_, ?_⟩, fun t ht => ⟨?_, fun q hq => ?_⟩, fun x y1 y2 => ?_⟩
  · rw [xu_ii]; rfl
  · intro i hi
    show xu (xrow I 262 (sl1 (I 262) s g)) 263 s (nI (chN c.1 (J 261 14))) 262 (24 * s + i) = _
    have hi' : i < 4 * chN c.1 (J 261 14) := hi
    rw [xu_ne (by decide), xrow_at, sl1_at (by omega)]
    exact row4 (g := chG cc con c.2 c.1 (J 261 14)) (n := chN c.1 (J 261 14)) (fun i q hi hq => (hg i q hi hq).trans (chG_c r.2 h0 hi hq)) i hi
  · show (if _ then _ else _) = _
    rw [if_neg (fun q => ht q.2), xrow_ne (by decide)]
  · show xu (xrow I 262 (sl1 (I 262) s g)) 263 s (nI (chN c.1 (J 261 14))) 262 (24 * t + q) = _
    rw [xu_ne (by decide), xrow_at, sl1_ne hq ht]; rfl
  · rw [xu_ne y2, xrow_ne y1]
theorem s_joinC (hR : RF R) {b o : Nat} (ha : isCase a) (hb : isCase b) (ho : isCase o) (hab : a ≠ b) (hao : a ≠ o) {p q : CA} {s t : Nat} (wp : WC p) (wq : WC q) (rp : RC I b p) (rq : RC I o q) (hs : s < p.1) (ht : t < q.1) {xs xt : Int32} (e0 : xs = nI s) (e1 : xt = nI t) :
    XP S (d + 1) 72 0 (xent [.ref a, .ref b, .int xs, .ref o, .int xt] 7) [] (hh I J R) (fun v h' => v = none ∧ ∃ I', h' = hh I' J R ∧ RC I' a (jnC p q s t) ∧ ∀ x, x ≠ a → x ≠ a + 1 → I' x = I x) := by
  have p6 := wp.1
  refine XP.conseq (s_join hR ha hb ho hab hao q.1 s t (by omega) ht rq.1 wq.1 e0 e1 (k := jnK q.1 s t) rfl) (fun v h' hq => ?_)
  obtain ⟨rfl, g, hg, rfl⟩ := hq
  refine ⟨rfl, _, rfl, ⟨?_, ?_⟩, fun x y1 y2 => ?_⟩
  · rw [xrow_ne (by omega), xu_ii]; rfl
  · intro i hi
    rw [xrow_at]
    exact row4 (g := jnO p.2 q.2 s t) (n := jnK q.1 s t) (fun i q hi hq => (hg i q hi hq).trans (jnO_c rp.2 rq.2 (by omega) hi hq)) i hi
  · rw [xrow_ne y2, xu_ne y1]
theorem s_mjoinC (hR : RF R) {to x y s t : Nat} (hx : x < 67) (hy : y < 67) (hto : to < 67) (hxt : x ≠ to) (hyt : y ≠ to) {p q : CA} (wp : WC p) (wq : WC q) (rp : RM I x p) (rq : RM I y q) (hs : s < p.1) (ht : t < q.1) {x1 x2 x3 x4 x5 : Int32} (e1 : x1 = nI to) (e2 : x2 = nI x) (e3 : x3 = nI s) (e4 : x4 = nI y) (e5 : x5 = nI t) :
    XP S (d + 2) 141 0 (xent [.ref 261, .int x1, .int x2, .int x3, .int x4, .int x5] 8) [] (hh I J R) (fun v h' => v = none ∧ ∃ I', h' = hh I' J R ∧ RM I' to (jnC p q s t) ∧ SF (fun t => t ≠ to) I I' ∧ ∀ x, x ≠ 262 → x ≠ 263 → I' x = I x) := by
  have p6 := wp.1
  refine XP.conseq (s_mjoin hR hx hy hto hxt hyt p.1 q.1 s t hs wp.1 ht rq.1 wq.1 (rp.vt wp) (rq.vt wq) e1 e2 e3 e4 e5 (k := jnK q.1 s t) rfl) (fun v h' hq => ?_)
  obtain ⟨rfl, g, hg, rfl⟩ := hq
  have j6 : jnK q.1 s t ≤ 6 := by unfold jnK; split <;> omega
  refine ⟨rfl, _, rfl, ⟨?_, ?_⟩, fun t' ht' => ⟨?_, fun q' hq => ?_⟩, fun x y1 y2 => ?_⟩
  · rw [xu_ii]; rfl
  · intro i hi
    show xu (xrow I 262 (sl1 (I 262) to g)) 263 to (nI (jnK q.1 s t)) 262 (24 * to + i) = _
    have hi' : i < 4 * jnK q.1 s t := hi
    rw [xu_ne (by decide), xrow_at, sl1_at (by omega)]
    exact row4 (g := jnO p.2 q.2 s t) (n := jnK q.1 s t) (fun i q hi hq => (hg i q hi hq).trans (jnO_c rp.2 rq.2 (by omega) hi hq)) i hi
  · show (if _ then _ else _) = _
    rw [if_neg (fun q => ht' q.2), xrow_ne (by decide)]
  · show xu (xrow I 262 (sl1 (I 262) to g)) 263 to (nI (jnK q.1 s t)) 262 (24 * t' + q') = _
    rw [xu_ne (by decide), xrow_at, sl1_ne hq ht']; rfl
  · rw [xu_ne y2, xrow_ne y1]
end JC

