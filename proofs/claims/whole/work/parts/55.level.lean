/-! Sets of goals, bit by bit. -/
def ib (x : Int32) (g : Nat) : Bool := x.toBitVec.getLsbD g
theorem ib_or (x y : Int32) (g : Nat) : ib (x ||| y) g = (ib x g || ib y g) := by
  show (x ||| y).toBitVec.getLsbD g = _
  rw [Int32.toBitVec_or, BitVec.getLsbD_or]; rfl
theorem ib_and (x y : Int32) (g : Nat) : ib (x &&& y) g = (ib x g && ib y g) := by
  show (x &&& y).toBitVec.getLsbD g = _
  rw [Int32.toBitVec_and, BitVec.getLsbD_and]; rfl
theorem ib_0 (g : Nat) : ib 0 g = false := by
  show (0#32).getLsbD g = false
  exact BitVec.getLsbD_zero
theorem ib_ext {x y : Int32} (h : ∀ g, g < 32 → ib x g = ib y g) : x = y := by
  apply Int32.toBitVec_inj.mp
  apply BitVec.eq_of_getLsbD_eq
  intro i hi
  exact h i hi
theorem ib_sh {g : Nat} (hg : g < 32) (x : Int32) (i : Nat) (hi : g + i < 32) : ib (x >>> (nI g &&& 31)) i = ib x (g + i) := by
  have e : ((nI g &&& 31).toBitVec.smod 32).toNat = g := by
    clear hi; revert g; decide
  show (x >>> (nI g &&& 31)).toBitVec.getLsbD i = _
  rw [show (x >>> (nI g &&& 31)).toBitVec = x.toBitVec.sshiftRight' ((nI g &&& 31).toBitVec.smod 32) from rfl]
  rw [BitVec.sshiftRight', e, BitVec.getLsbD_sshiftRight, if_pos hi]
  have : ¬ 32 ≤ i := by omega
  simp only [this, decide_false, Bool.not_false, Bool.true_and]
  rfl
theorem ib_shl {g : Nat} (hg : g < 32) (i : Nat) (hi : i < 32) : ib (1 <<< (nI g &&& 31)) i = decide (i = g) := by
  revert i; revert g; decide
theorem b1_ib (x : Int32) : (x &&& 1 = 1 ↔ ib x 0 = true) ∧ (x &&& 1 = 0 ↔ ib x 0 = false) := by
  have e : (x &&& 1).toBitVec = BitVec.setWidth 32 (BitVec.ofBool (x.toBitVec.getLsbD 0)) := BitVec.and_one_eq_setWidth_ofBool_getLsbD
  unfold ib
  rw [← Int32.toBitVec_inj, ← Int32.toBitVec_inj, e]
  cases x.toBitVec.getLsbD 0 <;> decide
theorem bit1 {g : Nat} (hg : g < 24) (x : Int32) : bitI x (nI g) = 1 ↔ ib x g = true := by
  unfold bitI
  rw [(b1_ib _).1, ib_sh (by omega) x 0 (by omega)]; rfl
theorem bit0 {g : Nat} (hg : g < 24) (x : Int32) : bitI x (nI g) = 0 ↔ ib x g = false := by
  unfold bitI
  rw [(b1_ib _).2, ib_sh (by omega) x 0 (by omega)]; rfl
theorem bit3 {k : Nat} (hk : k < 12) (x : Int32) : (x >>> ((2 * nI k) &&& 31)) &&& 3 = 0 ↔ (ib x (2 * k) = false ∧ ib x (2 * k + 1) = false) := by
  have e2 : (2 : Int32) * nI k = nI (2 * k) := by revert k; decide
  rw [e2]
  constructor
  · intro h
    have h0 := congrArg (fun y => ib y 0) h
    have h1 := congrArg (fun y => ib y 1) h
    simp only [ib_and, ib_0] at h0 h1
    rw [ib_sh (by omega) x 0 (by omega)] at h0
    rw [ib_sh (by omega) x 1 (by omega)] at h1
    rw [show ib 3 0 = true from rfl, Bool.and_true] at h0
    rw [show ib 3 1 = true from rfl, Bool.and_true] at h1
    exact ⟨h0, h1⟩
  · intro ⟨h0, h1⟩
    apply ib_ext
    intro g hg
    rw [ib_and, ib_0]
    by_cases c0 : g = 0
    · subst c0; rw [ib_sh (by omega) x 0 (by omega)]; rw [show 2 * k + 0 = 2 * k from rfl, h0]; rfl
    · by_cases c1 : g = 1
      · subst c1; rw [ib_sh (by omega) x 1 (by omega), h1]; rfl
      · rw [show ib 3 g = false from by revert g; decide, Bool.and_false]
theorem nd_le : ∀ (n : Nat) (L : List Nat), L.Nodup → (∀ x, x ∈ L → x < n) → L.length ≤ n
  | 0, [], _, _ => Nat.le_refl _
  | 0, a :: L, _, h => absurd (h a List.mem_cons_self) (by omega)
  | n + 1, L, hd, h => by
    by_cases hm : n ∈ L
    · have := nd_le n (L.erase n) (hd.erase n) (fun x hx => by
        have h1 := (List.Nodup.mem_erase_iff hd).mp hx
        have h2 := h x h1.2
        have h3 := h1.1
        omega)
      rw [List.length_erase_of_mem hm] at this
      omega
    · have := nd_le n L hd (fun x hx => by
        have h2 := h x hx
        have h3 : x ≠ n := fun e => hm (e ▸ hx)
        omega)
      omega
def q_P (E : Nat → Nat → Prop) (b0 : Nat) : Nat → Nat → Prop
  | 0, b => b = b0
  | l + 1, b => ∃ a, q_P E b0 l a ∧ E a b
def q_Q (E : Nat → Nat → Prop) (b0 l b : Nat) : Prop := ∃ j, j ≤ l ∧ q_P E b0 j b
theorem q_Q_full {E : Nat → Nat → Prop} {b0 l : Nat} (h : ∀ b, q_Q E b0 (l + 1) b → q_Q E b0 l b) : ∀ (m b : Nat), q_P E b0 m b → q_Q E b0 l b
  | 0, b, hp => ⟨0, Nat.zero_le _, hp⟩
  | m + 1, b, ⟨a, ha, he⟩ => by
    obtain ⟨j, hj, hp⟩ := q_Q_full h m a ha
    exact h b ⟨j + 1, by omega, a, hp, he⟩
theorem q_Q_step {E : Nat → Nat → Prop} {b0 l : Nat} (h : ∃ L : List Nat, L.Nodup ∧ L.length = l + 1 ∧ ∀ x, x ∈ L → q_Q E b0 l x) :
    (∀ (m b : Nat), q_P E b0 m b → q_Q E b0 l b) ∨ ∃ L : List Nat, L.Nodup ∧ L.length = l + 2 ∧ ∀ x, x ∈ L → q_Q E b0 (l + 1) x := by
  by_cases hc : ∀ b, q_Q E b0 (l + 1) b → q_Q E b0 l b
  · exact Or.inl (q_Q_full hc)
  · right
    obtain ⟨b, hb⟩ := Classical.not_forall.mp hc
    have hb1 : q_Q E b0 (l + 1) b := Classical.byContradiction fun q => hb fun r => absurd r q
    have hb2 : ¬ q_Q E b0 l b := fun q => hb fun _ => q
    obtain ⟨L, h1, h2, h3⟩ := h
    refine ⟨b :: L, List.nodup_cons.mpr ⟨fun q => hb2 (h3 b q), h1⟩, by rw [List.length_cons, h2], fun x hx => ?_⟩
    rcases List.mem_cons.mp hx with e | hx
    · rw [e]; exact hb1
    · obtain ⟨j, hj, hp⟩ := h3 x hx
      exact ⟨j, by omega, hp⟩
theorem q_Q_all {E : Nat → Nat → Prop} {b0 : Nat} : ∀ l, (∀ (m b : Nat), q_P E b0 m b → q_Q E b0 l b) ∨ ∃ L : List Nat, L.Nodup ∧ L.length = l + 2 ∧ ∀ x, x ∈ L → q_Q E b0 (l + 1) x
  | 0 => q_Q_step ⟨[b0], List.nodup_cons.mpr ⟨List.not_mem_nil, List.nodup_nil⟩, rfl, fun x hx => ⟨0, Nat.le_refl _, List.mem_singleton.mp hx⟩⟩
  | l + 1 => by
    rcases q_Q_all l with h | h
    · left
      intro m b hp
      obtain ⟨j, hj, hq⟩ := h m b hp
      exact ⟨j, by omega, hq⟩
    · exact q_Q_step h
theorem q_P_lt {E : Nat → Nat → Prop} {b0 n : Nat} (hE : ∀ a b, E a b → b < n) (h0 : b0 < n) : ∀ (m b : Nat), q_P E b0 m b → b < n
  | 0, _, e => e ▸ h0
  | _ + 1, _, ⟨a, _, he⟩ => hE a _ he
theorem q_Q_12 {E : Nat → Nat → Prop} {b0 n : Nat} (hn : n ≤ 12) (hE : ∀ a b, E a b → b < n) (h0 : b0 < n) (m b : Nat) (hp : q_P E b0 m b) : ∃ j, j < 12 ∧ q_P E b0 j b := by
  rcases q_Q_all (E := E) (b0 := b0) 11 with h | ⟨L, h1, h2, h3⟩
  · obtain ⟨j, hj, hq⟩ := h m b hp
    exact ⟨j, by omega, hq⟩
  · have := nd_le n L h1 (fun x hx => by obtain ⟨j, _, hq⟩ := h3 x hx; exact q_P_lt hE h0 j x hq)
    omega
/-! fitness = level -/
theorem q_least_in {N M : Nat → Int64} {nd : Nat → Int32} {gs : Int32} (h : Nr N M) : ∀ n, n ≤ 24 → q_least N gs n = cN (q_in M nd gs n).1 ∧ ((q_in M nd gs n).1 = -1 ∨ (0 ≤ (q_in M nd gs n).1 ∧ (q_in M nd gs n).1 < 8589934592))
  | 0, _ => ⟨rfl, Or.inl rfl⟩
  | n + 1, hn => by
    obtain ⟨i1, i2⟩ := q_least_in (nd := nd) (gs := gs) h n (by omega)
    obtain ⟨e, hb⟩ := h n (by omega)
    simp only [q_least, q_in]
    by_cases hc : ib gs n = true
    · rw [if_neg (fun q => by rw [bit0 (by omega)] at q; rw [q] at hc; exact absurd hc (by decide)), if_pos ((bit1 (by omega) gs).mpr hc)]
      show (if q_least N gs n ≤ N n then q_least N gs n else N n) = cN (if 0 ≤ M n ∧ ((q_in M nd gs n).1 < 0 ∨ M n < (q_in M nd gs n).1) then M n else (q_in M nd gs n).1) ∧ ((if 0 ≤ M n ∧ ((q_in M nd gs n).1 < 0 ∨ M n < (q_in M nd gs n).1) then M n else (q_in M nd gs n).1) = -1 ∨ (0 ≤ (if 0 ≤ M n ∧ ((q_in M nd gs n).1 < 0 ∨ M n < (q_in M nd gs n).1) then M n else (q_in M nd gs n).1) ∧ (if 0 ≤ M n ∧ ((q_in M nd gs n).1 < 0 ∨ M n < (q_in M nd gs n).1) then M n else (q_in M nd gs n).1) < 8589934592))
      rcases hb with hb | hb
      · rw [hb] at e
        have e : N n = 8589934592 := e
        rw [hb, if_neg (show ¬ ((0 : Int64) ≤ -1 ∧ ((q_in M nd gs n).1 < 0 ∨ -1 < (q_in M nd gs n).1)) from fun q => absurd q.1 (by decide)), e]
        refine ⟨?_, i2⟩
        by_cases hq : q_least N gs n ≤ 8589934592
        · rw [if_pos hq]; exact i1
        · exfalso
          apply hq
          rw [i1]
          rcases i2 with r | r
          · rw [r]; decide
          · rw [cN, if_neg (Int64.not_lt.mpr r.1)]; exact Int64.le_of_lt r.2
      · have hM0 : ¬ M n < 0 := Int64.not_lt.mpr hb.1
        rw [cN, if_neg hM0] at e
        obtain ⟨c1, c2⟩ := cN_min i1 i2 hb
        rw [e]
        by_cases hq : (q_in M nd gs n).1 < 0 ∨ M n < (q_in M nd gs n).1
        · rw [if_pos (show 0 ≤ M n ∧ ((q_in M nd gs n).1 < 0 ∨ M n < (q_in M nd gs n).1) from ⟨hb.1, hq⟩)]; rw [if_pos hq] at c1 c2; exact ⟨c1, c2⟩
        · rw [if_neg (show ¬ (0 ≤ M n ∧ ((q_in M nd gs n).1 < 0 ∨ M n < (q_in M nd gs n).1)) from fun q => hq q.2)]; rw [if_neg hq] at c1 c2; exact ⟨c1, c2⟩
    · have hc' : ib gs n = false := by cases h : ib gs n with | true => exact absurd h hc | false => rfl
      rw [if_pos ((bit0 (by omega) gs).mpr hc'), if_neg (fun q => hc ((bit1 (by omega) gs).mp q))]
      exact ⟨i1, i2⟩
theorem orr (x y : Int32) : (x ||| y) ||| y = x ||| y := by
  apply ib_ext
  intro g _
  rw [ib_or, ib_or]
  cases ib x g <;> cases ib y g <;> rfl
theorem q_in_nb {M : Nat → Int64} {nd : Nat → Int32} {gs : Int32} : ∀ n, n ≤ 12 → (q_in M nd gs (2 * n)).2 = q_nb nd gs n
  | 0, _ => rfl
  | n + 1, hn => by
    have ih := q_in_nb (M := M) (nd := nd) (gs := gs) n (by omega)
    have step : ∀ h, h < 24 → (q_in M nd gs (h + 1)).2 = if ib gs h = true then (q_in M nd gs h).2 ||| nd (h / 2) else (q_in M nd gs h).2 := by
      intro h hh
      simp only [q_in]
      by_cases hc : ib gs h = true
      · rw [if_pos ((bit1 hh gs).mpr hc), if_pos hc]
      · rw [if_neg (fun q => hc ((bit1 hh gs).mp q)), if_neg hc]
    rw [show 2 * (n + 1) = (2 * n + 1) + 1 from by omega, step _ (by omega), step _ (by omega), ih, show 2 * n / 2 = n from by omega, show (2 * n + 1) / 2 = n from by omega]
    simp only [q_nb]
    have b3 := bit3 (k := n) (by omega) gs
    cases h0 : ib gs (2 * n) with
    | true =>
      have hc : ¬ (gs >>> ((2 * nI n) &&& 31)) &&& 3 = 0 := fun q => by have := (b3.mp q).1; rw [h0] at this; exact absurd this (by decide)
      rw [if_neg hc]
      cases h1 : ib gs (2 * n + 1) with
      | true => simp only [if_true, orr]
      | false => simp only [if_true]; rfl
    | false =>
      cases h1 : ib gs (2 * n + 1) with
      | true =>
        have hc : ¬ (gs >>> ((2 * nI n) &&& 31)) &&& 3 = 0 := fun q => by have := (b3.mp q).2; rw [h1] at this; exact absurd this (by decide)
        rw [if_neg hc]
        simp only [if_true]; rfl
      | false =>
        rw [if_pos (b3.mpr ⟨h0, h1⟩)]; rfl
theorem ib_nb {nd : Nat → Int32} {gs : Int32} {h : Nat} : ∀ n, n ≤ 12 → (ib (q_nb nd gs n) h = true ↔ ∃ b, b < n ∧ (ib gs (2 * b) = true ∨ ib gs (2 * b + 1) = true) ∧ ib (nd b) h = true)
  | 0, _ => ⟨fun q => by rw [show q_nb nd gs 0 = 0 from rfl, ib_0] at q; exact absurd q (by decide), fun ⟨b, hb, _⟩ => absurd hb (by omega)⟩
  | n + 1, hn => by
    have ih := ib_nb (nd := nd) (gs := gs) (h := h) n (by omega)
    have b3 := bit3 (k := n) (by omega) gs
    have up : (∃ b, b < n ∧ (ib gs (2 * b) = true ∨ ib gs (2 * b + 1) = true) ∧ ib (nd b) h = true) → (∃ b, b < n + 1 ∧ (ib gs (2 * b) = true ∨ ib gs (2 * b + 1) = true) ∧ ib (nd b) h = true) := fun ⟨b, h1, h2⟩ => ⟨b, by omega, h2⟩
    simp only [q_nb]
    by_cases hc : (gs >>> ((2 * nI n) &&& 31)) &&& 3 = 0
    · rw [if_pos hc]
      obtain ⟨c0, c1⟩ := b3.mp hc
      rw [ih]
      refine ⟨up, fun ⟨b, h1, h2, h3⟩ => ?_⟩
      by_cases hb : b = n
      · subst hb
        rw [c0, c1] at h2
        exact absurd h2 (by decide)
      · exact ⟨b, by omega, h2, h3⟩
    · rw [if_neg hc, ib_or, Bool.or_eq_true, ih]
      have hc2 : ib gs (2 * n) = true ∨ ib gs (2 * n + 1) = true := by
        cases h0 : ib gs (2 * n) with
        | true => exact Or.inl rfl
        | false =>
          cases h1 : ib gs (2 * n + 1) with
          | true => exact Or.inr rfl
          | false => exact absurd (b3.mpr ⟨h0, h1⟩) hc
      constructor
      · rintro (q | q)
        · exact up q
        · exact ⟨n, by omega, hc2, q⟩
      · rintro ⟨b, h1, h2, h3⟩
        by_cases hb : b = n
        · subst hb; exact Or.inr h3
        · exact Or.inl ⟨b, by omega, h2, h3⟩
theorem q_in_pos {M : Nat → Int64} {nd : Nat → Int32} {gs : Int32} : ∀ n, n ≤ 24 → (0 ≤ (q_in M nd gs n).1 ↔ ∃ h, h < n ∧ ib gs h = true ∧ 0 ≤ M h)
  | 0, _ => ⟨fun q => absurd q (by show ¬ (0 : Int64) ≤ -1; decide), fun ⟨h, hh, _⟩ => absurd hh (by omega)⟩
  | n + 1, hn => by
    have ih := q_in_pos (M := M) (nd := nd) (gs := gs) n (by omega)
    simp only [q_in]
    by_cases hc : ib gs n = true
    · rw [if_pos ((bit1 (by omega) gs).mpr hc)]
      show 0 ≤ (if 0 ≤ M n ∧ ((q_in M nd gs n).1 < 0 ∨ M n < (q_in M nd gs n).1) then M n else (q_in M nd gs n).1) ↔ _
      by_cases hM : 0 ≤ M n
      · refine ⟨fun _ => ⟨n, by omega, hc, hM⟩, fun _ => ?_⟩
        by_cases hq : 0 ≤ M n ∧ ((q_in M nd gs n).1 < 0 ∨ M n < (q_in M nd gs n).1)
        · rw [if_pos hq]; exact hM
        · rw [if_neg hq]
          exact Int64.not_lt.mp (fun q => hq ⟨hM, Or.inl q⟩)
      · rw [if_neg (fun q => hM q.1), ih]
        refine ⟨fun ⟨h, h1, h2⟩ => ⟨h, by omega, h2⟩, fun ⟨h, h1, h2, h3⟩ => ⟨h, ?_, h2, h3⟩⟩
        have : h ≠ n := fun e => hM (e ▸ h3)
        omega
    · rw [if_neg (fun q => hc ((bit1 (by omega) gs).mp q)), ih]
      refine ⟨fun ⟨h, h1, h2⟩ => ⟨h, by omega, h2⟩, fun ⟨h, h1, h2, h3⟩ => ⟨h, ?_, h2, h3⟩⟩
      have : h ≠ n := fun e => hc (e ▸ h2)
      omega
/-- the sets of the levels -/
def q_S (nd : Nat → Int32) (nb : Nat) (s : Int32) : Nat → Int32
  | 0 => s
  | l + 1 => q_nb nd (q_S nd nb s l) nb
theorem q_S_1 {nd : Nat → Int32} {nb : Nat} {s : Int32} : ∀ l, q_S nd nb (q_nb nd s nb) l = q_S nd nb s (l + 1)
  | 0 => rfl
  | l + 1 => by
    show q_nb nd (q_S nd nb (q_nb nd s nb) l) nb = _
    rw [q_S_1 l]; rfl
theorem q_lvl_F {M : Nat → Int64} {nd : Nat → Int32} {nb : Nat} (hnb : nb ≤ 12) : ∀ (f k : Nat) (s : Int32), (∀ j, ¬ 0 ≤ (q_in M nd (q_S nd nb s j) (2 * nb)).1) → q_lvl M nd nb f k s = 549755813888
  | 0, _, _, _ => rfl
  | f + 1, k, s, h => by
    simp only [q_lvl]
    rw [if_neg (show ¬ 0 ≤ (q_in M nd s (2 * nb)).1 from h 0), q_in_nb nb hnb]
    exact q_lvl_F hnb f (k + 1) _ (fun j => by rw [q_S_1]; exact h (j + 1))
theorem q_lvl_ex {M : Nat → Int64} {nd : Nat → Int32} {nb f' : Nat} (hnb : nb ≤ 12) : ∀ (f k : Nat) (s : Int32), (∀ j, 0 ≤ (q_in M nd (q_S nd nb s j) (2 * nb)).1 → ∃ i, i < f ∧ 0 ≤ (q_in M nd (q_S nd nb s i) (2 * nb)).1) → q_lvl M nd nb (f + f') k s = q_lvl M nd nb f k s
  | 0, k, s, h => by
    rw [Nat.zero_add, q_lvl_F hnb f' k s (fun j q => by obtain ⟨i, hi, _⟩ := h j q; omega)]; rfl
  | f + 1, k, s, h => by
    rw [show f + 1 + f' = (f + f') + 1 from by omega]
    simp only [q_lvl]
    by_cases h0 : 0 ≤ (q_in M nd s (2 * nb)).1
    · rw [if_pos h0, if_pos h0]
    · rw [if_neg h0, if_neg h0, q_in_nb nb hnb]
      refine q_lvl_ex hnb f (k + 1) _ (fun j q => ?_)
      rw [q_S_1] at q
      obtain ⟨i, hi, hq⟩ := h (j + 1) q
      cases i with
      | zero => exact absurd hq h0
      | succ i => exact ⟨i, by omega, by rw [q_S_1]; exact hq⟩
theorem ib_S {nd : Nat → Int32} {nb b0 h : Nat} (hnb : nb ≤ 12) : ∀ l, (ib (q_S nd nb (nd b0) l) h = true ↔ ∃ b, q_P (fun a b => b < nb ∧ (ib (nd a) (2 * b) = true ∨ ib (nd a) (2 * b + 1) = true)) b0 l b ∧ ib (nd b) h = true) := by
  intro l
  induction l generalizing h with
  | zero => exact ⟨fun q => ⟨b0, rfl, q⟩, fun ⟨b, e, q⟩ => by rw [show b = b0 from e] at q; exact q⟩
  | succ l ih =>
    show ib (q_nb nd (q_S nd nb (nd b0) l) nb) h = true ↔ _
    rw [ib_nb nb hnb]
    constructor
    · rintro ⟨b, hb, h1, h2⟩
      rcases h1 with h1 | h1
      · obtain ⟨a, ha, he⟩ := ih.mp h1
        exact ⟨b, ⟨a, ha, hb, Or.inl he⟩, h2⟩
      · obtain ⟨a, ha, he⟩ := ih.mp h1
        exact ⟨b, ⟨a, ha, hb, Or.inr he⟩, h2⟩
    · rintro ⟨b, ⟨a, ha, hb, he⟩, h2⟩
      refine ⟨b, hb, ?_, h2⟩
      rcases he with he | he
      · exact Or.inl (ih.mpr ⟨a, ha, he⟩)
      · exact Or.inr (ih.mpr ⟨a, ha, he⟩)
theorem q_fit_lvl {N M : Nat → Int64} {nd : Nat → Int32} {nb : Nat} (hnb : nb ≤ 12) (h : Nr N M) : ∀ (f lv : Nat) (gs : Int32), q_fit N nd nb f lv gs = q_lvl M nd nb f lv gs
  | 0, _, _ => rfl
  | f + 1, lv, gs => by
    obtain ⟨i1, i2⟩ := q_least_in (nd := nd) (gs := gs) h (2 * nb) (by omega)
    by_cases hz : gs = 0
    · subst hz
      simp only [q_fit]
      rw [if_pos True.intro, q_lvl_F hnb]
      intro j q
      obtain ⟨x, hx, hq, _⟩ := (q_in_pos (2 * nb) (by omega)).mp q
      have : ∀ j, q_S nd nb 0 j = 0 := by
        intro j
        induction j with
        | zero => rfl
        | succ j ihj =>
          show q_nb nd (q_S nd nb 0 j) nb = 0
          rw [ihj]
          apply ib_ext
          intro g _
          rw [ib_0]
          cases hb : ib (q_nb nd 0 nb) g with
          | false => rfl
          | true =>
            obtain ⟨b, _, h1, _⟩ := (ib_nb nb hnb).mp hb
            rw [ib_0, ib_0] at h1
            exact absurd h1 (by decide)
      rw [this, ib_0] at hq
      exact absurd hq (by decide)
    · simp only [q_fit, q_lvl]
      rw [if_neg hz, i1, q_in_nb nb hnb]
      rcases i2 with r | r
      · rw [r, if_neg (show ¬ (0 : Int64) ≤ -1 by decide), if_pos (by decide)]
        exact q_fit_lvl hnb h f (lv + 1) _
      · rw [if_pos r.1, cN, if_neg (Int64.not_lt.mpr r.1), if_neg (fun q => by rw [q] at r; exact absurd r.2 (by decide))]
theorem q_lvl_s {M : Nat → Int64} {nd : Nat → Int32} {nb k : Nat} {gs : Int32} (f : Nat) : q_lvl M nd nb (f + 1) k gs = if 0 ≤ (q_in M nd gs (2 * nb)).1 then (nI k).toInt64 * 8589934592 + (q_in M nd gs (2 * nb)).1 else q_lvl M nd nb f (k + 1) (q_in M nd gs (2 * nb)).2 := rfl
theorem q_fit_level {N M : Nat → Int64} {nd : Nat → Int32} {nb g : Nat} (hnb : nb ≤ 12) (h : Nr N M) (hg : g < 2 * nb) : q_fit N nd nb 13 0 (1 <<< (nI g &&& 31)) = q_level M nd nb g := by
  rw [q_fit_lvl hnb h]
  have e0 : ∀ i, i < 24 → ib (1 <<< (nI g &&& 31)) i = decide (i = g) := fun i hi => ib_shl (by omega) i (by omega)
  have hin : ∀ n, n ≤ 24 → (q_in M nd (1 <<< (nI g &&& 31)) n) = if g < n then (if 0 ≤ M g then M g else -1, 0 ||| nd (g / 2)) else (-1, 0) := by
    intro n
    induction n with
    | zero => intro _; rw [if_neg (by omega)]; rfl
    | succ n ih =>
      intro hn
      have ih := ih (by omega)
      simp only [q_in]
      by_cases hc : n = g
      · subst hc
        rw [if_pos ((bit1 (by omega) _).mpr (by rw [e0 n (by omega)]; exact decide_eq_true rfl)), ih, if_neg (show ¬ n < n by omega), if_pos (show n < n + 1 by omega)]
        by_cases hM : 0 ≤ M n
        · rw [if_pos ⟨hM, Or.inl (by decide)⟩, if_pos hM]
        · rw [if_neg (fun q => hM q.1), if_neg hM]
      · rw [if_neg (fun q => by have := (bit1 (by omega) _).mp q; rw [e0 n (by omega)] at this; exact hc (of_decide_eq_true this)), ih]
        by_cases hgn : g < n
        · rw [if_pos hgn, if_pos (show g < n + 1 by omega)]
        · rw [if_neg hgn, if_neg (show ¬ g < n + 1 by omega)]
  have hg2 : g / 2 < nb := by omega
  unfold q_level
  rw [q_lvl_s 12, hin (2 * nb) (by omega), if_pos hg]
  by_cases hM : 0 ≤ M g
  · rw [if_pos hM, if_pos hM, if_pos hM]
    rw [show (nI 0).toInt64 = 0 from by decide, Int64.zero_mul, Int64.zero_add]
  · rw [if_neg hM, if_neg hM]
    rw [if_neg (show ¬ (0 : Int64) ≤ -1 by decide), show (24 : Nat) = 12 + 12 from rfl, Nat.zero_add]
    rw [show (0 : Int32) ||| nd (g / 2) = nd (g / 2) from by apply ib_ext; intro i _; rw [ib_or, ib_0]; rfl]
    refine (q_lvl_ex hnb 12 1 _ (fun j q => ?_)).symm
    obtain ⟨x, hx, hq, hMx⟩ := (q_in_pos (2 * nb) (by omega)).mp q
    obtain ⟨b, hP, hb⟩ := (ib_S hnb j).mp hq
    obtain ⟨i, hi, hP'⟩ := q_Q_12 hnb (fun a b e => e.1) hg2 j b hP
    exact ⟨i, hi, (q_in_pos (2 * nb) (by omega)).mpr ⟨x, hx, (ib_S hnb i).mpr ⟨b, hP', hb⟩, hMx⟩⟩
theorem q_set_rel {N M : Nat → Int64} (h : Nr N M) : ∀ n, n ≤ 24 → q_set N n = q_set M n
  | 0, _ => rfl
  | n + 1, hn => by
    have ih := q_set_rel h n (by omega)
    obtain ⟨e, hb⟩ := h n (by omega)
    simp only [q_set]
    rw [ih, e]
    rcases hb with hb | hb
    · rw [hb, if_neg (show ¬ cN (-1) = 0 by decide), if_neg (by decide)]
    · rw [cN, if_neg (Int64.not_lt.mpr hb.1)]
