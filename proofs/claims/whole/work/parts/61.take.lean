/-! A step taken out. -/
section YO
variable {S : XS} {d k pc pc' a j ci idx : Nat} {L : XL} {r : List Value} {Q : Option Value → XH → Prop} {T : List (Nat × Instr × Nat)} {x z v : Int32} {h : XH} {I : Nat → Nat → Int32} {J : Nat → Nat → Int64} {R : Nat → Nat → Option Nat}
theorem y_isub (hD : XDec k T) (hd : xat T pc = some (.isub, 1)) (e : x - z = v) (hp : pc + 1 = pc') (K : XP S d k pc' L (.int v :: r) h Q) : XP S d k pc L (.int z :: .int x :: r) h Q := by
  subst e
  exact y_op hD hd rfl rfl hp K
theorem y_iadd (hD : XDec k T) (hd : xat T pc = some (.iadd, 1)) (e : x + z = v) (hp : pc + 1 = pc') (K : XP S d k pc' L (.int v :: r) h Q) : XP S d k pc L (.int z :: .int x :: r) h Q := by
  subst e
  exact y_op hD hd rfl rfl hp K
theorem y_imul (hD : XDec k T) (hd : xat T pc = some (.imul, 1)) (e : x * z = v) (hp : pc + 1 = pc') (K : XP S d k pc' L (.int v :: r) h Q) : XP S d k pc L (.int z :: .int x :: r) h Q := by
  subst e
  exact y_op hD hd rfl rfl hp K
theorem m_getI (hD : XDec k T) (hd : xat T pc = some (.getfield idx, 3)) (hf : xfld (xkc k) idx = some (ci, j)) (hk1 : xft ci j = .int) (hk : kq a = (ci, xnf ci)) (e : I a j = v) (hp : pc + 3 = pc') (K : XP S d k pc' L (.int v :: r) (hh I J R) Q) : XP S d k pc L (.ref a :: r) (hh I J R) Q :=
  m_get hD hd hf hk (by rw [hk1, ← e]; rfl) hp K
end YO
def VT (f : Nat → Int32) (j : Nat) : Prop := (∃ t, t < 8 ∧ ¬ t = 2 ∧ ¬ t = 3 ∧ f (4 * j) = nI t) ∧ (f (4 * j + 3) = -1 ∨ ∃ r, r < j ∧ f (4 * j + 3) = nI r ∧ f (4 * j + 2) = 0)
theorem VT.s {f : Nat → Int32} {j : Nat} (h : VT f j) : VS f j := ⟨h.1, fun _ => h.2.elim Or.inl (fun ⟨r, h1, h2, _⟩ => Or.inr ⟨r, h1, h2⟩)⟩
theorem upd4 {g : Nat → Int32} {k p : Nat} {v : Int32} (hp : p < 4) {i q : Nat} (hq : q < 4) : upd g (4 * k + p) v (4 * i + q) = if i = k ∧ q = p then v else g (4 * i + q) := by
  by_cases h : i = k ∧ q = p
  · rw [if_pos h, h.1, h.2, pk_us]
  · rw [if_neg h, pk_un (by omega)]
theorem w4_pt {g : Nat → Int32} {k : Nat} {a b y r : Int32} {i q : Nat} (hq : q < 4) : w4 g (4 * k) a b y r (4 * i + q) = if i = k then (if q = 0 then a else if q = 1 then b else if q = 2 then y else r) else g (4 * i + q) := by
  have e0 : 4 * k = 4 * k + 0 := rfl
  unfold w4
  rw [upd4 (by decide) hq, upd4 (by decide) hq, upd4 (by decide) hq]
  rw [show upd g (4 * k) a = upd g (4 * k + 0) a from rfl, upd4 (by decide) hq]
  by_cases hi : i = k
  · by_cases h0 : q = 0
    · rw [if_neg (by omega), if_neg (by omega), if_neg (by omega), if_pos ⟨hi, h0⟩, if_pos hi, if_pos h0]
    · by_cases h1 : q = 1
      · rw [if_neg (by omega), if_neg (by omega), if_pos ⟨hi, h1⟩, if_pos hi, if_neg h0, if_pos h1]
      · by_cases h2 : q = 2
        · rw [if_neg (by omega), if_pos ⟨hi, h2⟩, if_pos hi, if_neg h0, if_neg h1, if_pos h2]
        · rw [if_pos ⟨hi, by omega⟩, if_pos hi, if_neg h0, if_neg h1, if_neg h2]
  · rw [if_neg (fun e => hi e.1), if_neg (fun e => hi e.1), if_neg (fun e => hi e.1), if_neg (fun e => hi e.1), if_neg hi]
def tkO (f : Nat → Int32) (p j q : Nat) : Int32 :=
  if j < p then f (4 * j + q) else if q < 2 then f (4 * (j + 1) + q) else if q = 2 then (if f (4 * (j + 1) + 3) = nI p then 0 else f (4 * (j + 1) + 2)) else (if f (4 * (j + 1) + 3) = nI p then -1 else if nI p < f (4 * (j + 1) + 3) then f (4 * (j + 1) + 3) - 1 else f (4 * (j + 1) + 3))
theorem slM_row {I : Nat → Nat → Int32} {F g : Nat → Int32} {s q : Nat} (hq : q < 24) : slM (xrow I 262 (sl1 F s g)) s q = g q := by
  unfold slM
  rw [xrow_at]
  exact sl1_at hq
section TK
variable {S : XS} {d a s : Nat} {I : Nat → Nat → Int32} {J : Nat → Nat → Int64} {R : Nat → Nat → Option Nat}
/-- Case.takeOut -/
theorem s_takeOut (hR : RF R) (hc : isCase a) (n p : Nat) (hn : I a 3 = nI (n + 1)) (hn6 : n + 1 ≤ 6) (hp : p ≤ n) (hV : ∀ j, j < n + 1 → VT (I (a + 1)) j) {xp : Int32} (e1 : xp = nI p) :
    XP S (d + 1) 75 0 (xent [.ref a, .int xp] 4) [] (hh I J R) (fun v h' => v = none ∧ ∃ g, (∀ i q, i < n → q < 4 → g (4 * i + q) = tkO (I (a + 1)) p i q) ∧ h' = hh (xrow (xu I a 3 (nI n)) (a + 1) g) J R) := by
  subst e1
  have ka := (kCase hc).1
  have ka1 := (kCase hc).2.1
  have ra := (hR.2 a hc).1
  have en : I a 3 - 1 = nI n := by rw [hn]; exact pk_sub (b := 1) (by omega)
  have loop : ∀ (f k : Nat) (g : Nat → Int32) (q3 : Option Value), k + f = n → p ≤ k → (∀ i q, i < n → q < 4 → g (4 * i + q) = if i < k then tkO (I (a + 1)) p i q else I (a + 1) (4 * (i + 1) + q)) →
      XP S (d + 1) 75 39 [some (.ref a), some (.int (nI p)), some (.int (nI k)), q3] [] (hh (xrow (xu I a 3 (nI n)) (a + 1) g) J R) (fun v h' => v = none ∧ ∃ g, (∀ i q, i < n → q < 4 → g (4 * i + q) = tkO (I (a + 1)) p i q) ∧ h' = hh (xrow (xu I a 3 (nI n)) (a + 1) g) J R) := by
    intro f
    induction f with
    | zero =>
      intro k g q3 hk hpk hg
      have hk : k = n := by omega
      subst hk
      have ea : xrow (xu I a 3 (nI k)) (a + 1) g a 3 = nI k := by rw [xrow_ne (by omega), xu_ii]
      refine y_loc (pc' := 40) xD_75 rfl rfl rfl rfl ?_
      refine y_loc (pc' := 41) xD_75 rfl rfl rfl rfl ?_
      refine m_getI (pc' := 44) xD_75 rfl rfl rfl (by first | rfl | assumption) (ea) rfl ?_
      refine y_icge (pt := 97) (pf := 47) xD_75 rfl rfl rfl (fun h44 => ?_) (fun h44 => ?_)
      · skip
        refine y_retV xD_75 rfl rfl ?_
        exact ⟨rfl, g, fun i q hi hq => by rw [hg i q hi hq, if_pos hi], rfl⟩
      · exact absurd (Int32.le_refl _) h44
    | succ f ih =>
      intro k g q3 hk hpk hg
      have ea : xrow (xu I a 3 (nI n)) (a + 1) g a 3 = nI n := by rw [xrow_ne (by omega), xu_ii]
      have e5 : nI k + 1 = nI (k + 1) := nI_1 k
      have hr : g (4 * k + 3) = I (a + 1) (4 * (k + 1) + 3) := by rw [hg k 3 (by omega) (by decide), if_neg (by omega)]
      have ix : nI k * 4 + 3 = nI (4 * k + 3) := by show nI k * nI 4 + nI 3 = _; rw [pk_mul, nI_add, Nat.mul_comm]
      have hy : I (a + 1) (4 * (k + 1) + 3) = nI p → I (a + 1) (4 * (k + 1) + 2) = 0 := fun e => by
        rcases (hV (k + 1) (by omega)).2 with h | ⟨r, _, _, h⟩
        · rw [e] at h; exact absurd h (nI_m1 (by omega))
        · exact h
      have up : ∀ v : Int32, v = tkO (I (a + 1)) p k 3 → ∀ i q, i < n → q < 4 → upd g (4 * k + 3) v (4 * i + q) = if i < k + 1 then tkO (I (a + 1)) p i q else I (a + 1) (4 * (i + 1) + q) := by
        intro v hv i q hi hq
        rw [upd4 (by decide) hq]
        by_cases h : i = k ∧ q = 3
        · rw [if_pos h, if_pos (by omega), h.1, h.2]; exact hv
        · rw [if_neg h, hg i q hi hq]
          by_cases h1 : i < k
          · rw [if_pos h1, if_pos (by omega)]
          · rw [if_neg h1]
            by_cases h2 : i = k
            · subst h2
              rw [if_pos (by omega)]
              unfold tkO
              rw [if_neg (by omega)]
              by_cases h3 : q < 2
              · rw [if_pos h3]
              · have h4 : q = 2 := by omega
                rw [if_neg h3, if_pos h4, h4]
                by_cases h5 : I (a + 1) (4 * (i + 1) + 3) = nI p
                · rw [if_pos h5]; exact hy h5
                · rw [if_neg h5]
            · rw [if_neg (by omega)]
      have nu : g = upd g (4 * k + 3) (g (4 * k + 3)) := by
        funext i
        by_cases h : i = 4 * k + 3
        · subst h; rw [pk_us]
        · rw [pk_un h]
      have t3 : tkO (I (a + 1)) p k 3 = if I (a + 1) (4 * (k + 1) + 3) = nI p then -1 else if nI p < I (a + 1) (4 * (k + 1) + 3) then I (a + 1) (4 * (k + 1) + 3) - 1 else I (a + 1) (4 * (k + 1) + 3) := by
        unfold tkO
        rw [if_neg (by omega), if_neg (by decide), if_neg (by decide)]
      refine y_loc (pc' := 40) xD_75 rfl rfl rfl rfl ?_
      refine y_loc (pc' := 41) xD_75 rfl rfl rfl rfl ?_
      refine m_getI (pc' := 44) xD_75 rfl rfl rfl (by first | rfl | assumption) (ea) rfl ?_
      refine y_icge (pt := 97) (pf := 47) xD_75 rfl rfl rfl (fun h44 => ?_) (fun h44 => ?_)
      · exact absurd h44 (nI_ge (by omega) (by omega))
      · skip
        refine y_loc (pc' := 48) xD_75 rfl rfl rfl rfl ?_
        refine y_loc (pc' := 49) xD_75 rfl rfl rfl rfl ?_
        refine y_ci (pc' := 50) (3) xD_75 rfl rfl rfl rfl ?_
        refine y_callV xD_75 rfl rfl rfl rfl (by first | rfl | assumption) rfl rfl rfl rfl (s_part hR hc k 3 (by omega) (by decide) rfl rfl) (fun v h' hq => ?_)
        obtain ⟨rfl, rfl⟩ := hq
        rw [xrow_at, hr]
        refine y_loc (pc' := 54) xD_75 rfl rfl rfl rfl ?_
        refine y_loc (pc' := 55) xD_75 rfl rfl rfl rfl ?_
        refine y_loc (pc' := 56) xD_75 rfl rfl rfl rfl ?_
        refine y_icne (pt := 73) (pf := 59) xD_75 rfl rfl rfl (fun h56 => ?_) (fun h56 => ?_)
        · skip
          refine y_loc (pc' := 74) xD_75 rfl rfl rfl rfl ?_
          refine y_loc (pc' := 75) xD_75 rfl rfl rfl rfl ?_
          refine y_icle (pt := 91) (pf := 78) xD_75 rfl rfl rfl (fun h75 => ?_) (fun h75 => ?_)
          · skip
            refine y_inc (pc' := 94) (nI (k + 1)) xD_75 rfl rfl rfl e5 rfl rfl ?_
            refine y_goto (pc' := 39) xD_75 rfl rfl ?_
            first
              | exact ih (k + 1) _ _ (by omega) (by omega) (up _ (by rw [t3, if_pos h56]))
              | exact ih (k + 1) _ _ (by omega) (by omega) (up _ (by rw [t3, if_neg h56, if_pos (Int32.not_le.mp h75)]))
              | exact ih (k + 1) g _ (by omega) (by omega) (by rw [nu]; exact up _ (by rw [t3, if_neg h56, if_neg (Int32.not_lt.mpr h75), hr]))
            skip
          · skip
            refine y_loc (pc' := 79) xD_75 rfl rfl rfl rfl ?_
            first | refine m_getR (pc' := 82) xD_75 rfl rfl rfl rfl (hR.1 _ _ _ rfl) rfl ?_ | refine m_getR (pc' := 82) xD_75 rfl rfl (by first | rfl | assumption) rfl (by assumption) rfl ?_
            refine y_loc (pc' := 83) xD_75 rfl rfl rfl rfl ?_
            refine y_ci (pc' := 84) (4) xD_75 rfl rfl rfl rfl ?_
            refine y_op (pc' := 85) xD_75 rfl rfl rfl rfl ?_
            refine y_ci (pc' := 86) (3) xD_75 rfl rfl rfl rfl ?_
            refine y_op (pc' := 87) xD_75 rfl rfl rfl rfl ?_
            refine y_loc (pc' := 88) xD_75 rfl rfl rfl rfl ?_
            refine y_ci (pc' := 89) (1) xD_75 rfl rfl rfl rfl ?_
            refine y_op (pc' := 90) xD_75 rfl rfl rfl rfl ?_
            refine m_iast (pc' := 91) (4 * k + 3) xD_75 rfl (by first | rfl | assumption) (by first | assumption | omega) (by first | decide | assumption) ix rfl ?_
            rw [xu_rowI, xrow_row, xrow_at]
            refine y_inc (pc' := 94) (nI (k + 1)) xD_75 rfl rfl rfl e5 rfl rfl ?_
            refine y_goto (pc' := 39) xD_75 rfl rfl ?_
            first
              | exact ih (k + 1) _ _ (by omega) (by omega) (up _ (by rw [t3, if_pos h56]))
              | exact ih (k + 1) _ _ (by omega) (by omega) (up _ (by rw [t3, if_neg h56, if_pos (Int32.not_le.mp h75)]))
              | exact ih (k + 1) g _ (by omega) (by omega) (by rw [nu]; exact up _ (by rw [t3, if_neg h56, if_neg (Int32.not_lt.mpr h75), hr]))
            skip
        · skip
          refine y_loc (pc' := 60) xD_75 rfl rfl rfl rfl ?_
          first | refine m_getR (pc' := 63) xD_75 rfl rfl rfl rfl (hR.1 _ _ _ rfl) rfl ?_ | refine m_getR (pc' := 63) xD_75 rfl rfl (by first | rfl | assumption) rfl (by assumption) rfl ?_
          refine y_loc (pc' := 64) xD_75 rfl rfl rfl rfl ?_
          refine y_ci (pc' := 65) (4) xD_75 rfl rfl rfl rfl ?_
          refine y_op (pc' := 66) xD_75 rfl rfl rfl rfl ?_
          refine y_ci (pc' := 67) (3) xD_75 rfl rfl rfl rfl ?_
          refine y_op (pc' := 68) xD_75 rfl rfl rfl rfl ?_
          refine y_ci (pc' := 69) (-1) xD_75 rfl rfl rfl rfl ?_
          refine m_iast (pc' := 70) (4 * k + 3) xD_75 rfl (by first | rfl | assumption) (by first | assumption | omega) (by first | decide | assumption) ix rfl ?_
          rw [xu_rowI, xrow_row, xrow_at]
          refine y_goto (pc' := 91) xD_75 rfl rfl ?_
          refine y_inc (pc' := 94) (nI (k + 1)) xD_75 rfl rfl rfl e5 rfl rfl ?_
          refine y_goto (pc' := 39) xD_75 rfl rfl ?_
          first
            | exact ih (k + 1) _ _ (by omega) (by omega) (up _ (by rw [t3, if_pos h56]))
            | exact ih (k + 1) _ _ (by omega) (by omega) (up _ (by rw [t3, if_neg h56, if_pos (Int32.not_le.mp h75)]))
            | exact ih (k + 1) g _ (by omega) (by omega) (by rw [nu]; exact up _ (by rw [t3, if_neg h56, if_neg (Int32.not_lt.mpr h75), hr]))
          skip
  refine y_loc (pc' := 1) xD_75 rfl rfl rfl rfl ?_
  refine y_op (pc' := 2) xD_75 rfl rfl rfl rfl ?_
  refine m_get (pc' := 5) xD_75 rfl rfl (by first | rfl | assumption) rfl rfl ?_
  refine y_ci (pc' := 6) (1) xD_75 rfl rfl rfl rfl ?_
  refine y_isub (pc' := 7) xD_75 rfl (en) rfl ?_
  refine m_putI (pc' := 10) xD_75 rfl rfl (by first | rfl | assumption) rfl rfl rfl ?_
  refine y_loc (pc' := 11) xD_75 rfl rfl rfl rfl ?_
  first | refine m_getR (pc' := 14) xD_75 rfl rfl rfl rfl (hR.1 _ _ _ rfl) rfl ?_ | refine m_getR (pc' := 14) xD_75 rfl rfl (by first | rfl | assumption) rfl (by assumption) rfl ?_
  refine y_loc (pc' := 15) xD_75 rfl rfl rfl rfl ?_
  refine y_ci (pc' := 16) (1) xD_75 rfl rfl rfl rfl ?_
  refine y_op (pc' := 17) xD_75 rfl rfl rfl rfl ?_
  refine y_ci (pc' := 18) (4) xD_75 rfl rfl rfl rfl ?_
  refine y_op (pc' := 19) xD_75 rfl rfl rfl rfl ?_
  refine y_loc (pc' := 20) xD_75 rfl rfl rfl rfl ?_
  first | refine m_getR (pc' := 23) xD_75 rfl rfl rfl rfl (hR.1 _ _ _ rfl) rfl ?_ | refine m_getR (pc' := 23) xD_75 rfl rfl (by first | rfl | assumption) rfl (by assumption) rfl ?_
  refine y_loc (pc' := 24) xD_75 rfl rfl rfl rfl ?_
  refine y_ci (pc' := 25) (4) xD_75 rfl rfl rfl rfl ?_
  refine y_op (pc' := 26) xD_75 rfl rfl rfl rfl ?_
  refine y_loc (pc' := 27) xD_75 rfl rfl rfl rfl ?_
  refine m_get (pc' := 30) xD_75 rfl rfl (by first | rfl | assumption) rfl rfl ?_
  refine y_loc (pc' := 31) xD_75 rfl rfl rfl rfl ?_
  refine y_op (pc' := 32) xD_75 rfl rfl rfl rfl ?_
  refine y_ci (pc' := 33) (4) xD_75 rfl rfl rfl rfl ?_
  refine y_op (pc' := 34) xD_75 rfl rfl rfl rfl ?_
  refine m_cpyI (pc' := 37) (4 * (p + 1)) (4 * p) (4 * (n - p)) xD_75 rfl rfl rfl rfl ka1 ka1 (by omega) (by omega) (by decide) (by decide) (by show (nI p + nI 1) * nI 4 = _; rw [nI_add, pk_mul, Nat.mul_comm]) (by show nI p * nI 4 = _; rw [pk_mul, Nat.mul_comm]) (by show (xu I a 3 (nI n) a 3 - nI p) * nI 4 = _; rw [xu_ii, pk_sub hp, pk_mul, Nat.mul_comm]) rfl ?_
  refine y_loc (pc' := 38) xD_75 rfl rfl rfl rfl ?_
  refine y_loc (pc' := 39) xD_75 rfl rfl rfl rfl ?_
  refine loop (n - p) p _ _ (by omega) (Nat.le_refl _) (fun i q hi hq => ?_)
  have ef : xu I a 3 (nI n) (a + 1) = I (a + 1) := by funext y; unfold xu; rw [if_neg (by omega)]
  rw [ef]
  by_cases h : i < p
  · rw [if_pos h, pk_cpy_out (by omega)]
    unfold tkO
    rw [if_pos h]
  · rw [if_neg h, pk_cpy_in (by omega) (by omega)]
    congr 1
    omega
end TK

