/-! The class's run and the model's come to the same: pure. -/
def cN (w : Int64) : Int64 := if w < 0 then 8589934592 else w
def Nr (N M : Nat → Int64) : Prop := ∀ g, g < 24 → N g = cN (M g) ∧ (M g = -1 ∨ (0 ≤ M g ∧ M g < 8589934592))
def Vr (v w : Nat → Int32) : Prop := ∀ i, i < 8 → v i = w i
def Vf (v w : Nat → Int32) : Prop := ∀ i, 4 ≤ i → i < 8 → v i = w i
theorem Vr.f {v w : Nat → Int32} (h : Vr v w) : Vf v w := fun i _ hi => h i hi
def Db (w : Int64) : Prop := 0 ≤ w ∧ w < 8589934592
theorem Db_of {w : Int64} (h0 : 0 ≤ w.toInt) (h1 : w.toInt < 8589934592) : Db w := ⟨by rw [Int64.le_iff_toInt_le]; exact h0, by rw [Int64.lt_iff_toInt_lt]; exact h1⟩
theorem toI64_sub1 (x y : Int32) : (x.toInt64 - y.toInt64 + 1).toInt = x.toInt - y.toInt + 1 := by
  have h1 := x.toInt_lt
  have h2 := x.le_toInt
  have h3 := y.toInt_lt
  have h4 := y.le_toInt
  rw [Int64.toInt_add, toI64_sub]
  have h5 : (1 : Int64).toInt = 1 := rfl
  rw [h5]
  simp only [Int.bmod]
  omega
theorem Db_no (e : Bool) (x y : Int32) : Db (q_no e x.toInt64 y.toInt64) := by
  have h1 := x.toInt_lt
  have h2 := x.le_toInt
  have h3 := y.toInt_lt
  have h4 := y.le_toInt
  unfold q_no
  cases e
  · rw [if_neg (by decide)]
    by_cases hc : x.toInt64 < y.toInt64
    · rw [if_pos hc]
      rw [Int64.lt_iff_toInt_lt, Int32.toInt_toInt64, Int32.toInt_toInt64] at hc
      exact Db_of (by rw [toI64_sub]; omega) (by rw [toI64_sub]; omega)
    · rw [if_neg hc]; exact Db_of (by decide) (by decide)
  · rw [if_pos rfl]
    split <;> exact Db_of (by decide) (by decide)
theorem Db_yes (e : Bool) (x y : Int32) : Db (q_yes e x.toInt64 y.toInt64) := by
  have h1 := x.toInt_lt
  have h2 := x.le_toInt
  have h3 := y.toInt_lt
  have h4 := y.le_toInt
  unfold q_yes
  cases e
  · rw [if_neg (by decide)]
    by_cases hc : x.toInt64 < y.toInt64
    · rw [if_pos hc]; exact Db_of (by decide) (by decide)
    · rw [if_neg hc]
      rw [Int64.lt_iff_toInt_lt, Int32.toInt_toInt64, Int32.toInt_toInt64] at hc
      exact Db_of (by rw [toI64_sub1]; omega) (by rw [toI64_sub1]; omega)
  · rw [if_pos rfl]
    by_cases hc : y.toInt64 < x.toInt64
    · rw [if_pos hc]
      rw [Int64.lt_iff_toInt_lt, Int32.toInt_toInt64, Int32.toInt_toInt64] at hc
      exact Db_of (by rw [toI64_sub]; omega) (by rw [toI64_sub]; omega)
    · rw [if_neg hc]
      rw [Int64.lt_iff_toInt_lt, Int32.toInt_toInt64, Int32.toInt_toInt64] at hc
      exact Db_of (by rw [toI64_sub]; omega) (by rw [toI64_sub]; omega)
theorem cN_min {n m w : Int64} (h : n = cN m) (hm : m = -1 ∨ (0 ≤ m ∧ m < 8589934592)) (hw : Db w) : (if n ≤ w then n else w) = cN (if m < 0 ∨ w < m then w else m) ∧ ((if m < 0 ∨ w < m then w else m) = -1 ∨ (0 ≤ (if m < 0 ∨ w < m then w else m) ∧ (if m < 0 ∨ w < m then w else m) < 8589934592)) := by
  have hw0 : ¬ w < 0 := Int64.not_lt.mpr hw.1
  by_cases hc : m < 0 ∨ w < m
  · rw [if_pos hc]
    refine ⟨?_, Or.inr hw⟩
    unfold cN
    rw [if_neg hw0]
    by_cases h1 : n ≤ w
    · rw [if_pos h1]
      exfalso
      rcases hc with h2 | h2
      · rw [h, cN, if_pos h2] at h1
        exact absurd hw.2 (Int64.not_lt.mpr h1)
      · have h3 : ¬ m < 0 := fun q => by
          have := Int64.lt_trans h2 q
          exact hw0 this
        rw [h, cN, if_neg h3] at h1
        exact absurd h2 (Int64.not_lt.mpr h1)
    · rw [if_neg h1]
  · have hm0 : ¬ m < 0 := fun q => hc (Or.inl q)
    have hmw : m ≤ w := Int64.not_lt.mp (fun q => hc (Or.inr q))
    have hn : n = m := by rw [h, cN, if_neg hm0]
    rw [if_neg hc, hn, if_pos hmw]
    exact ⟨by rw [cN, if_neg hm0], hm⟩
theorem Nr.U {N M : Nat → Int64} {k : Nat} {no yes : Int64} (h : Nr N M) (hk : k < 12) (hn : Db no) (hy : Db yes) : Nr (UC k no yes N) (UM k no yes M) := by
  intro g hg
  unfold UC UM
  by_cases h1 : g = 2 * k + 1
  · rw [if_pos h1, if_pos h1]
    exact cN_min (h (2 * k + 1) (by omega)).1 (h (2 * k + 1) (by omega)).2 hy
  · rw [if_neg h1, if_neg h1]
    by_cases h2 : g = 2 * k
    · rw [if_pos h2, if_pos h2]
      exact cN_min (h (2 * k) (by omega)).1 (h (2 * k) (by omega)).2 hn
    · rw [if_neg h2, if_neg h2]
      exact h g hg
theorem Vr.up {v w : Nat → Int32} (h : Vr v w) (a : Nat) {x y : Int32} (e : x = y) : Vr (upd v a x) (upd w a y) := by
  intro i hi
  subst e
  by_cases hc : i = a
  · subst hc; rw [pk_us, pk_us]
  · rw [pk_un hc, pk_un hc]; exact h i hi
theorem Vf.up {v w : Nat → Int32} (h : Vf v w) (a : Nat) {x y : Int32} (e : x = y) : Vf (upd v a x) (upd w a y) := by
  intro i h4 hi
  subst e
  by_cases hc : i = a
  · subst hc; rw [pk_us, pk_us]
  · rw [pk_un hc, pk_un hc]; exact h i h4 hi
/-- the two programs are one, as far as their lines go -/
def Pr (cd cd' : Nat → Nat → Int32) (bn bn' : Nat → Option Nat) (n : Nat) : Prop := ∀ p, p < n → VL cd p ∧ (∀ q, q < 4 → cd' p q = cd p q) ∧ bn' p = bn p ∧ ∀ k, bn p = some k → k < 12
theorem q_lead_eq {cd cd' : Nat → Nat → Int32} {n p : Nat} {o : Bool} (h0 : cd' p 0 = cd p 0) (h3 : cd' p 3 = cd p 3) : q_lead cd' n p o = q_lead cd n p o := by
  unfold q_lead q_to
  rw [h0, h3]
theorem q_line_rel {cd cd' : Nat → Nat → Int32} {bn bn' : Nat → Option Nat} {n p : Nat} {v w : Nat → Int32} {N M : Nat → Int64} (hP : Pr cd cd' bn bn' n) (hp : p < n) (hv : Vr v w) (hN : Nr N M) :
    (q_line UC cd bn n p v N).1 = (q_line UM cd' bn' n p w M).1 ∧ Vr (q_line UC cd bn n p v N).2.1 (q_line UM cd' bn' n p w M).2.1 ∧ Nr (q_line UC cd bn n p v N).2.2 (q_line UM cd' bn' n p w M).2.2 := by
  obtain ⟨⟨⟨t, ht, hop⟩, hV3, hVa, hVb, hVc⟩, hcd, hbn, hk⟩ := hP p hp
  have c0 := hcd 0 (by decide)
  have c1 := hcd 1 (by decide)
  have c2 := hcd 2 (by decide)
  have c3 := hcd 3 (by decide)
  obtain ⟨n5, n6, n0, n4, n66, -⟩ := nI_5 ht
  unfold q_line
  rw [c0, c1, c2, c3, hbn]
  simp only [q_lead_eq (n := n) c0 c3]
  by_cases h0 : cd p 0 = 0
  · rw [if_pos h0, if_pos h0]
    exact ⟨rfl, hv.up _ rfl, hN⟩
  · rw [if_neg h0, if_neg h0]
    have h1 : 1 ≤ cd p 0 := by
      rw [hop] at h0 ⊢
      exact (nI_leI (a := 1) (by omega) (by omega)).mpr (Nat.pos_of_ne_zero (fun q => h0 (n0.mpr q)))
    by_cases h4 : cd p 0 ≤ 4
    · rw [if_pos h4, if_pos h4]
      obtain ⟨b, hb, eb⟩ := hVb ⟨h1, Int32.le_trans h4 (by decide)⟩
      obtain ⟨c, hc, ec⟩ := hVc ⟨h1, h4⟩
      refine ⟨rfl, hv.up _ ?_, hN⟩
      rw [eb, ec, nI_cl (by omega), nI_cl (by omega), hv b hb, hv c hc]
    · rw [if_neg h4, if_neg h4]
      by_cases h6 : cd p 0 ≤ 6
      · rw [if_pos h6, if_pos h6]
        obtain ⟨a, ha, ea⟩ := hVa (Or.inl h6)
        obtain ⟨b, hb, eb⟩ := hVb ⟨h1, h6⟩
        rw [ea, eb, nI_cl (by omega), nI_cl (by omega), hv a ha, hv b hb]
        refine ⟨rfl, hv, ?_⟩
        cases hbk : bn p with
        | none => exact hN
        | some k => exact hN.U (hk k hbk) (Db_no _ _ _) (Db_yes _ _ _)
      · rw [if_neg h6, if_neg h6]
        exact ⟨rfl, hv, hN⟩
theorem q_call_rel {cd cd' : Nat → Nat → Int32} {bn bn' : Nat → Option Nat} {n : Nat} (hP : Pr cd cd' bn bn' n) : ∀ (f p : Nat) (v w : Nat → Int32) (N M : Nat → Int64), Vr v w → Nr N M →
    (q_call UC cd bn n f p v N).1 = (q_call UM cd' bn' n f p w M).1 ∧ Vr (q_call UC cd bn n f p v N).2.1 (q_call UM cd' bn' n f p w M).2.1 ∧ Nr (q_call UC cd bn n f p v N).2.2 (q_call UM cd' bn' n f p w M).2.2
  | 0, p, v, w, N, M, hv, hN => by
    by_cases hp : p < n
    · rw [q_call_0 hp, q_call_0 hp]; exact ⟨rfl, hv, hN⟩
    · rw [q_call_end hp, q_call_end hp]; exact ⟨rfl, hv, hN⟩
  | f + 1, p, v, w, N, M, hv, hN => by
    by_cases hp : p < n
    · obtain ⟨⟨⟨t, ht, hop⟩, hV3, hVa, hVb, hVc⟩, hcd, -, -⟩ := hP p hp
      have c0 := hcd 0 (by decide)
      have c1 := hcd 1 (by decide)
      have c3 := hcd 3 (by decide)
      by_cases h8 : cd p 0 = 8
      · rw [q_call_8 hp h8, q_call_8 hp (c0.trans h8), c1]
        obtain ⟨a, ha, ea⟩ := hVa (Or.inr h8)
        refine ⟨?_, hv, hN⟩
        show (v _).toInt64 = (w _).toInt64
        rw [ea, nI_cl (by omega), hv a ha]
      · by_cases h9 : cd p 0 = 9
        · rw [q_call_9 hp h9, q_call_9 hp (c0.trans h9)]; exact ⟨rfl, hv, hN⟩
        · have hz : cd p 0 = 4 → v (cd p 3).toNatClampNeg = w (cd p 3).toNatClampNeg := fun q => by
            obtain ⟨c, hc, ec⟩ := hVc (by rw [q]; exact ⟨by decide, by decide⟩)
            rw [ec, nI_cl (by omega), hv c hc]
          by_cases h4 : cd p 0 = 4 ∧ v (cd p 3).toNatClampNeg = 0
          · rw [q_call_4 hp h4.1 h4.2, q_call_4 hp (c0.trans h4.1) (by rw [c3, ← hz h4.1]; exact h4.2)]; exact ⟨rfl, hv, hN⟩
          · obtain ⟨l1, l2, l3⟩ := q_line_rel hP hp hv hN
            rw [q_call_n hp h8 h9 h4, q_call_n hp (by rw [c0]; exact h8) (by rw [c0]; exact h9) (by rw [c0, c3]; exact fun q => h4 ⟨q.1, by rw [hz q.1]; exact q.2⟩), ← l1]
            exact q_call_rel hP f _ _ _ _ _ l2 l3
    · rw [q_call_end hp, q_call_end hp]; exact ⟨rfl, hv, hN⟩
/-- both programs, both methods -/
def PrA (cdf cdf' : Nat → Nat → Nat → Int32) (bnf bnf' : Nat → Nat → Option Nat) (ln ln' : Nat → Nat) : Prop := ∀ m, m < 2 → ln' m = ln m ∧ Pr (cdf m) (cdf' m) (bnf m) (bnf' m) (ln m)
def fr (f f' : Nat → Int32) (n : Nat) : Prop := ∀ i, i < 4 * n → f' i = f i
theorem q_rs_rel {cdf cdf' : Nat → Nat → Nat → Int32} {bnf bnf' : Nat → Nat → Option Nat} {ln ln' : Nat → Nat} {f f' : Nat → Int32} {v w : Nat → Int32} {N M res res' : Nat → Int64} (hP : PrA cdf cdf' bnf bnf' ln ln') (hv : Vf v w) (hN : Nr N M) : ∀ (n : Nat), n ≤ 6 → (∀ j, j < n → VS f j) → fr f f' n →
    Vf (q_rs UC cdf bnf ln f v N res n).1 (q_rs UM cdf' bnf' ln' f' w M res' n).1 ∧ Nr (q_rs UC cdf bnf ln f v N res n).2.1 (q_rs UM cdf' bnf' ln' f' w M res' n).2.1 ∧ (∀ i, i < n → (q_rs UC cdf bnf ln f v N res n).2.2.1 i = (q_rs UM cdf' bnf' ln' f' w M res' n).2.2.1 i) ∧ (q_rs UC cdf bnf ln f v N res n).2.2.2 = (q_rs UM cdf' bnf' ln' f' w M res' n).2.2.2
  | 0, _, _, _ => ⟨hv, hN, fun i hi => absurd hi (by omega), rfl⟩
  | n + 1, hn6, hV, hf => by
    obtain ⟨i1, i2, i3, i4⟩ := q_rs_rel (res := res) (res' := res') hP hv hN n (by omega) (fun j hj => hV j (by omega)) (fun i hi => hf i (by omega))
    have f0 := hf (4 * n) (by omega)
    have f1 := hf (4 * n + 1) (by omega)
    have f2 := hf (4 * n + 2) (by omega)
    have f3 := hf (4 * n + 3) (by omega)
    have upr : ∀ (r r' : Nat → Int64) (x y : Int64), x = y → (∀ i, i < n → r i = r' i) → ∀ i, i < n + 1 → vp_updL r n x i = vp_updL r' n y i := by
      intro r r' x y e h i hi
      subst e
      by_cases hc : i = n
      · subst hc; rw [pk_uLs, pk_uLs]
      · rw [pk_uLn hc, pk_uLn hc]; exact h i (by omega)
    cases ho : (q_rs UC cdf bnf ln f v N res n).2.2.2 with
    | true =>
      have ho' : (q_rs UM cdf' bnf' ln' f' w M res' n).2.2.2 = true := by rw [← i4]; exact ho
      rw [q_rs_t ho, q_rs_t ho']
      exact ⟨i1, i2, upr _ _ _ _ rfl i3, rfl⟩
    | false =>
      have ho' : (q_rs UM cdf' bnf' ln' f' w M res' n).2.2.2 = false := by rw [← i4]; exact ho
      rw [q_rs_f ho, q_rs_f ho']
      obtain ⟨⟨t, ht, ht2, ht3, hkd⟩, hrf⟩ := hV n (by omega)
      have key : (q_do UC cdf bnf ln f n (q_rs UC cdf bnf ln f v N res n).1 (q_rs UC cdf bnf ln f v N res n).2.1 (q_rs UC cdf bnf ln f v N res n).2.2.1).1 = (q_do UM cdf' bnf' ln' f' n (q_rs UM cdf' bnf' ln' f' w M res' n).1 (q_rs UM cdf' bnf' ln' f' w M res' n).2.1 (q_rs UM cdf' bnf' ln' f' w M res' n).2.2.1).1 ∧ Vf (q_do UC cdf bnf ln f n (q_rs UC cdf bnf ln f v N res n).1 (q_rs UC cdf bnf ln f v N res n).2.1 (q_rs UC cdf bnf ln f v N res n).2.2.1).2.1 (q_do UM cdf' bnf' ln' f' n (q_rs UM cdf' bnf' ln' f' w M res' n).1 (q_rs UM cdf' bnf' ln' f' w M res' n).2.1 (q_rs UM cdf' bnf' ln' f' w M res' n).2.2.1).2.1 ∧ Nr (q_do UC cdf bnf ln f n (q_rs UC cdf bnf ln f v N res n).1 (q_rs UC cdf bnf ln f v N res n).2.1 (q_rs UC cdf bnf ln f v N res n).2.2.1).2.2 (q_do UM cdf' bnf' ln' f' n (q_rs UM cdf' bnf' ln' f' w M res' n).1 (q_rs UM cdf' bnf' ln' f' w M res' n).2.1 (q_rs UM cdf' bnf' ln' f' w M res' n).2.2.1).2.2 := by
        unfold q_do
        rw [f0, f1]
        by_cases hc : f (4 * n) < 2
        · rw [if_pos hc, if_pos hc]
          have hc0 := hc
          rw [hkd] at hc
          have ht2 : t < 2 := (nI_ltI (b := 2) (by omega) (by omega)).mp hc
          rw [hkd, nI_cl (by omega)]
          obtain ⟨hl, hPr⟩ := hP t ht2
          rw [hl]
          obtain ⟨r1, r2, r3⟩ := q_call_rel hPr 40 0 (q_arg f n (q_rs UC cdf bnf ln f v N res n).1 (q_rs UC cdf bnf ln f v N res n).2.2.1) (q_arg f' n (q_rs UM cdf' bnf' ln' f' w M res' n).1 (q_rs UM cdf' bnf' ln' f' w M res' n).2.2.1) _ _ (by
            intro i hi
            unfold q_arg
            rw [f1, f2, f3]
            by_cases e3 : i = 3
            · subst e3; rw [pk_us, pk_us]
            · rw [pk_un e3, pk_un e3]
              by_cases e2 : i = 2
              · subst e2; rw [pk_us, pk_us]
              · rw [pk_un e2, pk_un e2]
                by_cases e1 : i = 1
                · subst e1
                  rw [pk_us, pk_us]
                  rcases hrf hc0 with hr | ⟨r, hr, er⟩
                  · rw [if_pos hr, if_pos hr]
                  · rw [if_neg (by rw [er]; exact nI_m1 (by omega)), if_neg (by rw [er]; exact nI_m1 (by omega)), er, nI_cl (by omega), i3 r hr]
                · rw [pk_un e1, pk_un e1]
                  by_cases e0 : i = 0
                  · subst e0; rw [pk_us, pk_us]
                  · rw [pk_un e0, pk_un e0]
                    exact i1 i (by omega) hi) i2
          exact ⟨r1, r2.f, r3⟩
        · rw [if_neg hc, if_neg hc]
          exact ⟨rfl, i1.up _ rfl, i2⟩
      obtain ⟨k1, k2, k3⟩ := key
      exact ⟨k2, k3, upr _ _ _ _ k1 i3, by show decide _ = decide _; rw [k1]⟩
