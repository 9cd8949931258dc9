/-! A case drawn: both sides. -/
def dcn (b : Int64) : Nat := 1 + dv (dn b) 2
def dcb (b : Int64) : Nat → Int64
  | 0 => dn b
  | i + 1 => dS i (dcb b i)
def dcG (cc : Nat) (con : Nat → Int32) (b : Int64) (i q : Nat) : Int32 := st4 (dK (dcb b i)) (dX cc con (dcb b i)) (dY cc con i (dcb b i)) (dF i (dcb b i)) q
def dcC (cc : Nat) (con : Nat → Int32) (b : Int64) : CA := (dcn b, fun i => dcG cc con b (i / 4) (i % 4))
theorem dK_ok (b : Int64) : ∃ t, t < 8 ∧ ¬ t = 2 ∧ ¬ t = 3 ∧ dK b = nI t := by
  unfold dK
  have h5 := dv_lt (dn b) (n := 5) (by decide)
  have h4 := dv_lt (dn (dn b)) (n := 4) (by decide)
  by_cases h : dv (dn b) 5 = 4
  · rw [if_pos h]; exact ⟨_, by omega, by omega, by omega, rfl⟩
  · rw [if_neg h]; exact ⟨_, by omega, by omega, by omega, rfl⟩
theorem dF_ok (cc : Nat) (con : Nat → Int32) (i : Nat) (b : Int64) : dF i b = -1 ∨ ∃ r, r < i ∧ dF i b = nI r ∧ dY cc con i b = 0 := by
  unfold dF dY
  by_cases h : dv (dn b) 5 = 4
  · rw [if_pos h]; exact Or.inl rfl
  · rw [if_neg h, if_neg h]
    by_cases h2 : dv (dn (dn (dn (dn b)))) (i + 2) < i
    · rw [if_pos h2, if_pos h2]; exact Or.inr ⟨_, h2, rfl, rfl⟩
    · rw [if_neg h2]; exact Or.inl rfl
theorem m4 (j q : Nat) (hq : q < 4) : (4 * j + q) / 4 = j ∧ (4 * j + q) % 4 = q := by omega
theorem VT_of {f : Nat → Int32} {g : Nat → Nat → Int32} {j : Nat} (h : ∀ q, q < 4 → f (4 * j + q) = g j q) (h0 : ∃ t, t < 8 ∧ ¬ t = 2 ∧ ¬ t = 3 ∧ g j 0 = nI t) (h3 : g j 3 = -1 ∨ ∃ r, r < j ∧ g j 3 = nI r ∧ g j 2 = 0) : VT f j := by
  unfold VT
  rw [show 4 * j = 4 * j + 0 from rfl, h 0 (by decide)]
  show _ ∧ (f (4 * j + 3) = -1 ∨ ∃ r, r < j ∧ f (4 * j + 3) = nI r ∧ f (4 * j + 2) = 0)
  rw [h 3 (by decide), h 2 (by decide)]
  exact ⟨h0, h3⟩
theorem dcn_le (b : Int64) : dcn b ≤ 2 ∧ 0 < dcn b := by
  have h2 := dv_lt (dn b) (n := 2) (by decide)
  unfold dcn
  generalize dv (dn b) 2 = z at *
  omega
theorem WC_mk {n : Nat} {g : Nat → Nat → Int32} (h6 : n ≤ 6) (h0 : ∀ j, j < n → ∃ t, t < 8 ∧ ¬ t = 2 ∧ ¬ t = 3 ∧ g j 0 = nI t) (h3 : ∀ j, j < n → (g j 3 = -1 ∨ ∃ r, r < j ∧ g j 3 = nI r ∧ g j 2 = 0)) : WC (n, fun i => g (i / 4) (i % 4)) :=
  ⟨h6, fun j hj => VT_of (g := g) (fun q hq => by show g ((4 * j + q) / 4) ((4 * j + q) % 4) = _; rw [(m4 j q hq).1, (m4 j q hq).2]) (h0 j hj) (h3 j hj)⟩
theorem st4_0 {a b c e : Int32} : st4 a b c e 0 = a := rfl
theorem st4_2 {a b c e : Int32} : st4 a b c e 2 = c := rfl
theorem st4_3 {a b c e : Int32} : st4 a b c e 3 = e := rfl
theorem dcC_w (cc : Nat) (con : Nat → Int32) (b : Int64) : WC (dcC cc con b) := by
  unfold dcC
  refine WC_mk (g := dcG cc con b) (Nat.le_trans (dcn_le b).1 (by decide)) (fun j _ => ?_) (fun j _ => ?_)
  · unfold dcG
    rw [st4_0]
    exact dK_ok _
  · unfold dcG
    rw [st4_3, st4_2]
    exact dF_ok cc con j _
theorem row4 {f : Nat → Int32} {g : Nat → Nat → Int32} {n : Nat} (h : ∀ i q, i < n → q < 4 → f (4 * i + q) = g i q) : ∀ i, i < 4 * n → f i = g (i / 4) (i % 4) := by
  intro i hi
  have := h (i / 4) (i % 4) (by omega) (by omega)
  rw [← this]
  congr 1
  omega
section DC
variable {S : XS} {d a s nb : Nat} {I P : Nat → Nat → Int32} {J : Nat → Nat → Int64} {R : Nat → Nat → Option Nat} {ar : Nat → CA}
/-- Draws.drawCase -/
theorem s_drawCase (hR : RF R) (ha : isCase a) (cc : Nat) (hcc : I 18 1 = nI cc) (hcc2 : cc ≤ 20) :
    XP S (d + 3) 28 0 (xent [.ref 18, .ref a] 3) [] (hh I J R) (fun v h' => v = none ∧ ∃ I', h' = hh I' (xu J 18 2 (dcb (J 18 2) (dcn (J 18 2)))) R ∧ RC I' a (dcC cc (I 19) (J 18 2)) ∧ ∀ x, x ≠ a → x ≠ a + 1 → I' x = I x) := by
  have ka := (kCase ha).1
  have n18 : (18 : Nat) ≠ a ∧ (19 : Nat) ≠ a ∧ (18 : Nat) ≠ a + 1 ∧ (19 : Nat) ≠ a + 1 := by unfold isCase at ha; omega
  have hd2 := (dcn_le (J 18 2)).1
  obtain ⟨n, hn⟩ : ∃ n, n = dcn (J 18 2) := ⟨_, rfl⟩
  have hn2 : n ≤ 2 := by rw [hn]; exact hd2
  have loop : ∀ (f i : Nat), i + f = n → ∀ I', I' a 3 = nI n → (∀ i' q, i' < i → q < 4 → I' (a + 1) (4 * i' + q) = dcG cc (I 19) (J 18 2) i' q) → (∀ x, x ≠ a → x ≠ a + 1 → I' x = I x) → XP S (d + 3) 28 13 [some (.ref 18), some (.ref a), some (.int (nI i))] [] (hh I' (xu J 18 2 (dcb (J 18 2) i)) R) (fun v h' => v = none ∧ ∃ I', h' = hh I' (xu J 18 2 (dcb (J 18 2) n)) R ∧ RC I' a (dcC cc (I 19) (J 18 2)) ∧ ∀ x, x ≠ a → x ≠ a + 1 → I' x = I x) := by
    intro f
    induction f with
    | zero =>
      intro i hi I' h3 hg hf
      have hi : i = n := by omega
      subst hi
      refine y_loc (pc' := 14) xD_28 rfl rfl rfl rfl ?_
      refine y_loc (pc' := 15) xD_28 rfl rfl rfl rfl ?_
      refine m_getI (pc' := 18) xD_28 rfl rfl rfl (by first | rfl | assumption) (h3) rfl ?_
      refine y_icge (pt := 33) (pf := 21) xD_28 rfl rfl rfl (fun h18 => ?_) (fun h18 => ?_)
      · skip
        refine y_retV xD_28 rfl rfl ?_
        exact ⟨rfl, I', rfl, ⟨by rw [h3, hn]; rfl, fun i hi => row4 hg i (by rw [hn]; exact hi)⟩, hf⟩
      · skip
        exact absurd (Int32.le_refl _) h18
    | succ f ih =>
      intro i hi I' h3 hg hf
      refine y_loc (pc' := 14) xD_28 rfl rfl rfl rfl ?_
      refine y_loc (pc' := 15) xD_28 rfl rfl rfl rfl ?_
      refine m_getI (pc' := 18) xD_28 rfl rfl rfl (by first | rfl | assumption) (h3) rfl ?_
      refine y_icge (pt := 33) (pf := 21) xD_28 rfl rfl rfl (fun h18 => ?_) (fun h18 => ?_)
      · skip
        exact absurd h18 (nI_ge (a := i) (b := n) (by omega) (by omega))
      · skip
        refine y_loc (pc' := 22) xD_28 rfl rfl rfl rfl ?_
        refine y_loc (pc' := 23) xD_28 rfl rfl rfl rfl ?_
        refine y_loc (pc' := 24) xD_28 rfl rfl rfl rfl ?_
        refine y_callV xD_28 rfl rfl rfl rfl (by first | rfl | assumption) rfl rfl rfl rfl (s_drawStep (d := d) hR ha cc (by rw [hf 18 n18.1 n18.2.2.1]; exact hcc) hcc2 i (by omega) rfl) (fun v h' hq => ?_)
        obtain ⟨rfl, rfl⟩ := hq
        rw [hf 19 n18.2.1 n18.2.2.2, xu_ii, xu_xu]
        refine y_inc (pc' := 30) (nI (i + 1)) xD_28 rfl rfl rfl (nI_1 (i)) rfl rfl ?_
        refine y_goto (pc' := 13) xD_28 rfl rfl ?_
        skip
        refine ih (i + 1) (by omega) _ ?_ ?_ ?_
        · rw [xrow_ne (by omega)]; exact h3
        · intro i' q hi' hq
          rw [xrow_at, w4_pt hq]
          by_cases e : i' = i
          · subst e; rw [if_pos rfl]; rfl
          · rw [if_neg e]; exact hg i' q (by omega) hq
        · intro x y1 y2
          rw [xrow_ne y2]; exact hf x y1 y2
  refine y_loc (pc' := 1) xD_28 rfl rfl rfl rfl ?_
  refine y_ci (pc' := 2) (1) xD_28 rfl rfl rfl rfl ?_
  refine y_loc (pc' := 3) xD_28 rfl rfl rfl rfl ?_
  refine y_ci (pc' := 4) (2) xD_28 rfl rfl rfl rfl ?_
  refine y_callV xD_28 rfl rfl rfl rfl (by first | rfl | assumption) rfl rfl rfl rfl (s_draw 2 (by decide) (by decide) rfl) (fun v h' hq => ?_)
  obtain ⟨rfl, rfl⟩ := hq
  refine y_iadd (pc' := 8) xD_28 rfl ((show (1 : Int32) + nI (dv (dn (J 18 2)) 2) = nI n from by rw [hn]; exact nI_add 1 _)) rfl ?_
  refine m_putI (pc' := 11) xD_28 rfl rfl (by first | rfl | assumption) rfl rfl rfl ?_
  refine y_ci (pc' := 12) (0) xD_28 rfl rfl rfl rfl ?_
  refine y_loc (pc' := 13) xD_28 rfl rfl rfl rfl ?_
  rw [← hn]
  refine loop n 0 (by omega) _ (xu_ii) (fun i' q hi' _ => absurd hi' (by omega)) (fun x y1 y2 => xu_ne y1)
/-- the model's drawCase -/
theorem s_mdrawCase (hR : RF R) (hs : s < 9) (cc : Nat) (hP : MPg I P nb) (hcc : cc = scnt I 20) (con : Nat → Int32) (hcon : ∀ q, q < 20 → isS I q → con (scnt I q) = cdM I (q / 10) (q % 10) 3) (h : MAr I ar) :
    XP S (d + 8) 117 0 (xent [.ref 261, .int (nI s)] 3) [] (hh I J R) (fun v h' => v = none ∧ ∃ I' J', h' = hh I' J' R ∧ RM I' s (dcC cc con (J 261 14)) ∧ MAr I' (adm ar (kS P nb (dcC cc con (J 261 14))) (dcC cc con (J 261 14))) ∧ SF (fun t => t ≠ s ∧ (t < 9 ∨ 33 ≤ t)) I I' ∧ (∀ x, x ≠ 261 → x ≠ 262 → x ≠ 263 → x ≠ 271 → I' x = I x) ∧ (∀ j, j ≠ 13 → I' 261 j = I 261 j) ∧ I' 261 13 = I 261 13 + 1 ∧ J' 261 14 = dcb (J 261 14) (dcn (J 261 14)) ∧ ∀ x, x ≠ 261 → x ≠ 272 → x ≠ 273 → J' x = J x) := by
  have hd2 := (dcn_le (J 261 14)).1
  obtain ⟨n, hn⟩ : ∃ n, n = dcn (J 261 14) := ⟨_, rfl⟩
  have hn2 : n ≤ 2 := by rw [hn]; exact hd2
  have hL : PL I := fun m hm => ⟨(hP.1.2.2 m hm).1, (hP.1.2.2 m hm).2.1⟩
  have w := dcC_w cc con (J 261 14)
  have loop : ∀ (f i : Nat), i + f = n → ∀ I', I' 263 s = nI n → (∀ i' q, i' < i → q < 4 → slM I' s (4 * i' + q) = dcG cc con (J 261 14) i' q) → (∀ x, x ≠ 262 → x ≠ 263 → I' x = I x) → SF (fun t => t ≠ s) I I' → XP S (d + 8) 117 15 [some (.ref 261), some (.int (nI s)), some (.int (nI i))] [] (hh I' (xu J 261 14 (dcb (J 261 14) i)) R) (fun v h' => v = none ∧ ∃ I' J', h' = hh I' J' R ∧ RM I' s (dcC cc con (J 261 14)) ∧ MAr I' (adm ar (kS P nb (dcC cc con (J 261 14))) (dcC cc con (J 261 14))) ∧ SF (fun t => t ≠ s ∧ (t < 9 ∨ 33 ≤ t)) I I' ∧ (∀ x, x ≠ 261 → x ≠ 262 → x ≠ 263 → x ≠ 271 → I' x = I x) ∧ (∀ j, j ≠ 13 → I' 261 j = I 261 j) ∧ I' 261 13 = I 261 13 + 1 ∧ J' 261 14 = dcb (J 261 14) n ∧ ∀ x, x ≠ 261 → x ≠ 272 → x ≠ 273 → J' x = J x) := by
    intro f
    induction f with
    | zero =>
      intro i hi I' h3 hg hf hsf
      have hi : i = n := by omega
      subst hi
      have hP' : MPg I' P nb := by
        unfold MPg PM lnM
        rw [hf 261 (by decide) (by decide), hf 264 (by decide) (by decide), hf 265 (by decide) (by decide), hf 267 (by decide) (by decide), hf 268 (by decide) (by decide), hf 269 (by decide) (by decide), show cdM I' = cdM I from by funext m; exact cdM_eq (hf 264 (by decide) (by decide))]
        exact hP
      have rm : RM I' s (dcC cc con (J 261 14)) := ⟨by rw [h3, hn]; rfl, fun i hi => row4 hg i (by rw [hn]; exact hi)⟩
      refine y_loc (pc' := 16) xD_117 rfl rfl rfl rfl ?_
      refine y_loc (pc' := 17) xD_117 rfl rfl rfl rfl ?_
      first | refine m_getR (pc' := 20) xD_117 rfl rfl rfl rfl (hR.1 _ _ _ rfl) rfl ?_ | refine m_getR (pc' := 20) xD_117 rfl rfl (by first | rfl | assumption) rfl (by assumption) rfl ?_
      refine y_loc (pc' := 21) xD_117 rfl rfl rfl rfl ?_
      refine m_iald (pc' := 22) (s) xD_117 rfl (by first | rfl | assumption) (by first | assumption | omega) (by first | decide | assumption) (by first | decide | omega) (by first | rfl | assumption) rfl ?_
      rw [h3]
      refine y_icge (pt := 37) (pf := 25) xD_117 rfl rfl rfl (fun h22 => ?_) (fun h22 => ?_)
      · skip
        refine y_loc (pc' := 38) xD_117 rfl rfl rfl rfl ?_
        refine y_loc (pc' := 39) xD_117 rfl rfl rfl rfl ?_
        refine y_callV xD_117 rfl rfl rfl rfl (by first | rfl | assumption) rfl rfl rfl rfl (s_archive (d := d) hR (by omega) (Or.inl hs) hP' w rm (h.sf hsf (fun t l u => show t ≠ s by omega))) (fun v h' hq => ?_)
        obtain ⟨rfl, I2, J2, rfl, m2, s2, f2, g2, r2, j2⟩ := hq
        refine y_retV xD_117 rfl rfl ?_
        refine ⟨rfl, I2, J2, rfl, rm.sf w s2 (Or.inl hs), m2, (hsf.w (fun t ht => ht.1)).tr (s2.w (fun t ht => ht.2)), fun x y1 y2 y3 y4 => (f2 x y1 y2 y3 y4).trans (hf x y2 y3), fun j hj => (g2 j hj).trans (by rw [hf 261 (by decide) (by decide)]), by rw [r2, hf 261 (by decide) (by decide)], by rw [j2 261 (by decide) (by decide), xu_ii], fun x y1 y2 y3 => (j2 x y2 y3).trans (xu_ne y1)⟩
      · skip
        exact absurd (Int32.le_refl _) h22
    | succ f ih =>
      intro i hi I' h3 hg hf hsf
      have hL' : PL I' := PL_c (hf 265 (by decide) (by decide)) hL
      have e264 := hf 264 (by decide) (by decide)
      have e265 := hf 265 (by decide) (by decide)
      have hcc' : cc = scnt I' 20 := by rw [scnt_c e264 e265]; exact hcc
      have hcon' : ∀ q, q < 20 → isS I' q → con (scnt I' q) = cdM I' (q / 10) (q % 10) 3 := by
        intro q hq hs
        rw [isS_c e264 e265] at hs
        rw [scnt_c e264 e265, cdM_eq e264]
        exact hcon q hq hs
      refine y_loc (pc' := 16) xD_117 rfl rfl rfl rfl ?_
      refine y_loc (pc' := 17) xD_117 rfl rfl rfl rfl ?_
      first | refine m_getR (pc' := 20) xD_117 rfl rfl rfl rfl (hR.1 _ _ _ rfl) rfl ?_ | refine m_getR (pc' := 20) xD_117 rfl rfl (by first | rfl | assumption) rfl (by assumption) rfl ?_
      refine y_loc (pc' := 21) xD_117 rfl rfl rfl rfl ?_
      refine m_iald (pc' := 22) (s) xD_117 rfl (by first | rfl | assumption) (by first | assumption | omega) (by first | decide | assumption) (by first | decide | omega) (by first | rfl | assumption) rfl ?_
      rw [h3]
      refine y_icge (pt := 37) (pf := 25) xD_117 rfl rfl rfl (fun h22 => ?_) (fun h22 => ?_)
      · skip
        exact absurd h22 (nI_ge (a := i) (b := n) (by omega) (by omega))
      · skip
        refine y_loc (pc' := 26) xD_117 rfl rfl rfl rfl ?_
        refine y_loc (pc' := 27) xD_117 rfl rfl rfl rfl ?_
        refine y_loc (pc' := 28) xD_117 rfl rfl rfl rfl ?_
        refine y_callV xD_117 rfl rfl rfl rfl (by first | rfl | assumption) rfl rfl rfl rfl (s_mdrawStep (d := d + 4) hR (by omega) hL' cc hcc' con hcon' i (by omega) rfl rfl) (fun v h' hq => ?_)
        obtain ⟨rfl, rfl⟩ := hq
        rw [xu_ii, xu_xu, w4_sl1 (by omega)]
        refine y_inc (pc' := 34) (nI (i + 1)) xD_117 rfl rfl rfl (nI_1 (i)) rfl rfl ?_
        refine y_goto (pc' := 15) xD_117 rfl rfl ?_
        skip
        refine ih (i + 1) (by omega) _ ?_ ?_ ?_ ?_
        · rw [xrow_ne (by decide)]; exact h3
        · intro i' q hi' hq
          rw [slM_row (by omega), w4_pt hq]
          by_cases e : i' = i
          · subst e; rw [if_pos rfl]; rfl
          · rw [if_neg e]; exact hg i' q (by omega) hq
        · intro x y1 y2
          rw [xrow_ne y1]; exact hf x y1 y2
        · intro t ht
          refine ⟨by rw [xrow_ne (by decide)]; exact (hsf t ht).1, fun q hq => ?_⟩
          show xrow I' 262 _ 262 (24 * t + q) = _
          rw [xrow_at, sl1_ne hq ht]; exact (hsf t ht).2 q hq
  refine y_loc (pc' := 1) xD_117 rfl rfl rfl rfl ?_
  first | refine m_getR (pc' := 4) xD_117 rfl rfl rfl rfl (hR.1 _ _ _ rfl) rfl ?_ | refine m_getR (pc' := 4) xD_117 rfl rfl (by first | rfl | assumption) rfl (by assumption) rfl ?_
  refine y_loc (pc' := 5) xD_117 rfl rfl rfl rfl ?_
  refine y_ci (pc' := 6) (1) xD_117 rfl rfl rfl rfl ?_
  refine y_loc (pc' := 7) xD_117 rfl rfl rfl rfl ?_
  refine y_ci (pc' := 8) (2) xD_117 rfl rfl rfl rfl ?_
  refine y_callV xD_117 rfl rfl rfl rfl (by first | rfl | assumption) rfl rfl rfl rfl (s_mdraw 2 (by decide) (by decide) rfl) (fun v h' hq => ?_)
  obtain ⟨rfl, rfl⟩ := hq
  refine y_iadd (pc' := 12) xD_117 rfl ((show (1 : Int32) + nI (dv (dn (J 261 14)) 2) = nI n from by rw [hn]; exact nI_add 1 _)) rfl ?_
  refine m_iast (pc' := 13) (s) xD_117 rfl (by first | rfl | assumption) (by first | assumption | omega) (by first | decide | assumption) (by first | rfl | assumption) rfl ?_
  refine y_ci (pc' := 14) (0) xD_117 rfl rfl rfl rfl ?_
  refine y_loc (pc' := 15) xD_117 rfl rfl rfl rfl ?_
  rw [← hn]
  refine loop n 0 (by omega) _ (xu_ii) (fun i' q hi' _ => absurd hi' (by omega)) (fun x y1 y2 => xu_ne y2) (fun t ht => ⟨?_, fun q hq => ?_⟩)
  · show (if _ then _ else _) = _
    rw [if_neg (fun q => ht q.2)]
  · show xu I 263 s (nI n) 262 (24 * t + q) = _
    rw [xu_ne (by decide)]; rfl
end DC

