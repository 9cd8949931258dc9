/-! Found and active goals: both sides. -/
def fS (ar : Nat → CA) : Nat → Int32
  | 0 => 0
  | g + 1 => if 0 < (ar g).1 then fS ar g ||| (1 <<< (nI g &&& 31)) else fS ar g
def aS (op : Nat → Bool) (hv : Int32) : Nat → Int32
  | 0 => 0
  | g + 1 => if op (g / 2) = true ∧ ib hv g = false then aS op hv g ||| (1 <<< (nI g &&& 31)) else aS op hv g
def cS (op : Nat → Bool) : Nat → Int32
  | 0 => 0
  | k + 1 => if op k = true then cS op k ||| (3 <<< ((2 * nI k) &&& 31)) else cS op k
def opn (nd al : Nat → Int32) (hv : Int32) (k : Nat) : Bool := decide (nd k = 0 ∨ ¬ al k = 0 ∨ ¬ nd k &&& hv = 0)
theorem ib_fS {ar : Nat → CA} {g : Nat} (hg : g < 32) : ∀ n, n ≤ 24 → (ib (fS ar n) g = true ↔ g < n ∧ 0 < (ar g).1)
  | 0, _ => by rw [show fS ar 0 = 0 from rfl, ib_0]; exact ⟨fun q => absurd q (by decide), fun q => absurd q.1 (by omega)⟩
  | n + 1, hn => by
    have ih := ib_fS (ar := ar) hg n (by omega)
    simp only [fS]
    by_cases h : 0 < (ar n).1
    · rw [if_pos h, ib_or, ib_shl (by omega) g hg, Bool.or_eq_true, ih, decide_eq_true_eq]
      constructor
      · rintro (q | q)
        · exact ⟨by omega, q.2⟩
        · subst q; exact ⟨by omega, h⟩
      · intro q
        by_cases e : g = n
        · exact Or.inr e
        · exact Or.inl ⟨by omega, q.2⟩
    · rw [if_neg h, ih]
      constructor
      · exact fun q => ⟨by omega, q.2⟩
      · intro q
        by_cases e : g = n
        · subst e; exact absurd q.2 h
        · exact ⟨by omega, q.2⟩
theorem ib_aS {op : Nat → Bool} {hv : Int32} {g : Nat} (hg : g < 32) : ∀ n, n ≤ 24 → (ib (aS op hv n) g = true ↔ g < n ∧ op (g / 2) = true ∧ ib hv g = false)
  | 0, _ => by rw [show aS op hv 0 = 0 from rfl, ib_0]; exact ⟨fun q => absurd q (by decide), fun q => absurd q.1 (by omega)⟩
  | n + 1, hn => by
    have ih := ib_aS (op := op) (hv := hv) hg n (by omega)
    simp only [aS]
    by_cases h : op (n / 2) = true ∧ ib hv n = false
    · rw [if_pos h, ib_or, ib_shl (by omega) g hg, Bool.or_eq_true, ih, decide_eq_true_eq]
      constructor
      · rintro (q | q)
        · exact ⟨by omega, q.2⟩
        · subst q; exact ⟨by omega, h⟩
      · intro q
        by_cases e : g = n
        · exact Or.inr e
        · exact Or.inl ⟨by omega, q.2⟩
    · rw [if_neg h, ih]
      constructor
      · exact fun q => ⟨by omega, q.2⟩
      · intro q
        by_cases e : g = n
        · subst e; exact absurd q.2 h
        · exact ⟨by omega, q.2⟩
set_option maxRecDepth 10000 in
theorem ib_3B : (List.range 12).all (fun k => (List.range 32).all (fun i => ib (3 <<< ((2 * nI k) &&& 31)) i == decide (i = 2 * k ∨ i = 2 * k + 1))) = true := by decide +kernel
theorem ib_3 {k i : Nat} (hk : k < 12) (hi : i < 32) : ib (3 <<< ((2 * nI k) &&& 31)) i = decide (i = 2 * k ∨ i = 2 * k + 1) := by
  have := List.all_eq_true.mp ib_3B k (List.mem_range.mpr hk)
  have := List.all_eq_true.mp this i (List.mem_range.mpr hi)
  exact eq_of_beq this
theorem ib_cS {op : Nat → Bool} {g : Nat} (hg : g < 32) : ∀ n, n ≤ 12 → (ib (cS op n) g = true ↔ g < 2 * n ∧ op (g / 2) = true)
  | 0, _ => by rw [show cS op 0 = 0 from rfl, ib_0]; exact ⟨fun q => absurd q (by decide), fun q => absurd q.1 (by omega)⟩
  | n + 1, hn => by
    have ih := ib_cS (op := op) hg n (by omega)
    simp only [cS]
    by_cases h : op n = true
    · rw [if_pos h, ib_or, ib_3 (by omega) hg, Bool.or_eq_true, ih, decide_eq_true_eq]
      constructor
      · rintro (q | q)
        · exact ⟨by omega, q.2⟩
        · refine ⟨by omega, ?_⟩
          rw [show g / 2 = n by omega]; exact h
      · intro q
        by_cases e : g / 2 = n
        · exact Or.inr (by omega)
        · exact Or.inl ⟨by omega, q.2⟩
    · rw [if_neg h, ih]
      constructor
      · exact fun q => ⟨by omega, q.2⟩
      · intro q
        by_cases e : g / 2 = n
        · rw [e] at q; exact absurd q.2 h
        · exact ⟨by omega, q.2⟩
theorem ib_not {x : Int32} {g : Nat} (hg : g < 32) : ib (x ^^^ -1) g = !ib x g := by
  have : (x ^^^ -1) = ~~~x := by
    rw [Int32.xor_neg_one]
  rw [this]
  unfold ib
  rw [Int32.toBitVec_not, BitVec.getLsbD_not, decide_eq_true hg, Bool.true_and]
theorem cS_aS {op : Nat → Bool} {hv : Int32} {n : Nat} (hn : n ≤ 12) : cS op n &&& (hv ^^^ -1) = aS op hv (2 * n) := by
  refine ib_ext (fun g hg => ?_)
  rw [ib_and, ib_not hg, Bool.eq_iff_iff, Bool.and_eq_true, ib_cS hg n hn, ib_aS hg (2 * n) (by omega), Bool.not_eq_true']
  exact ⟨fun q => ⟨q.1.1, q.1.2, q.2⟩, fun q => ⟨⟨q.1, q.2.1⟩, q.2.2⟩⟩
theorem CAr.fS {I : Nat → Nat → Int32} {J : Nat → Nat → Int64} {P : Nat → Nat → Int32} {nb : Nat} {ar : Nat → CA} (h : CAr I J P nb ar) (hnb : nb ≤ 12) (hz : ∀ g, 2 * nb ≤ g → (ar g).1 = 0) : I 23 1 = fS ar (2 * nb) := by
  refine ib_ext (fun g hg => ?_)
  rw [Bool.eq_iff_iff, h.1 g hg, ib_fS hg (2 * nb) (by omega)]
  constructor
  · intro q
    refine ⟨Nat.lt_of_not_le (fun r => ?_), q.2⟩
    have := hz g r
    omega
  · exact fun q => ⟨by omega, q.2⟩
section AG
variable {S : XS} {d nb : Nat} {I P : Nat → Nat → Int32} {J : Nat → Nat → Int64} {R : Nat → Nat → Option Nat} {ar : Nat → CA}
/-- Program.activeGoals -/
theorem s_activeGoals (hR : RF R) (hnb : I 2 3 = nI nb) (hnb2 : nb ≤ 12) {hv : Int32} (op : Nat → Bool) (ho : ∀ k, k < nb → (op k = true ↔ (¬ I 17 k = 0 ∨ ¬ I 16 k &&& hv = 0))) :
    XP S d 54 0 (xent [.ref 2, .int hv] 4) [] (hh I J R) (rI (aS op hv (2 * nb)) (hh I J R)) := by
  have loop : ∀ (f k : Nat), k + f = nb → XP S d 54 4 [some (.ref 2), some (.int hv), some (.int (cS op k)), some (.int (nI k))] [] (hh I J R) (rI (aS op hv (2 * nb)) (hh I J R)) := by
    intro f
    induction f with
    | zero =>
      intro k hk
      have hk : k = nb := by omega
      subst hk
      refine y_loc (pc' := 5) xD_54 rfl rfl rfl rfl ?_
      refine y_loc (pc' := 6) xD_54 rfl rfl rfl rfl ?_
      refine m_getI (pc' := 9) xD_54 rfl rfl rfl (by first | rfl | assumption) (hnb) rfl ?_
      refine y_icge (pt := 46) (pf := 12) xD_54 rfl rfl rfl (fun h9 => ?_) (fun h9 => ?_)
      · skip
        refine y_loc (pc' := 47) xD_54 rfl rfl rfl rfl ?_
        refine y_loc (pc' := 48) xD_54 rfl rfl rfl rfl ?_
        refine y_ci (pc' := 49) (-1) xD_54 rfl rfl rfl rfl ?_
        refine y_op (pc' := 50) xD_54 rfl rfl rfl rfl ?_
        refine y_op (pc' := 51) xD_54 rfl rfl rfl rfl ?_
        refine y_retI xD_54 rfl rfl ?_
        exact rI_e (cS_aS hnb2)
      · skip
        exact absurd (Int32.le_refl _) h9
    | succ f ih =>
      intro k hk
      have h12 : k < 12 := by omega
      have step := ih (k + 1) (by omega)
      simp only [cS] at step
      have stepY := fun (q : op k = true) => (show (if op k = true then cS op k ||| (3 <<< ((2 * nI k) &&& 31)) else cS op k) = _ from if_pos q) ▸ step
      have stepN := fun (q : ¬ op k = true) => (show (if op k = true then cS op k ||| (3 <<< ((2 * nI k) &&& 31)) else cS op k) = _ from if_neg q) ▸ step
      have hok := ho k (by omega)
      refine y_loc (pc' := 5) xD_54 rfl rfl rfl rfl ?_
      refine y_loc (pc' := 6) xD_54 rfl rfl rfl rfl ?_
      refine m_getI (pc' := 9) xD_54 rfl rfl rfl (by first | rfl | assumption) (hnb) rfl ?_
      refine y_icge (pt := 46) (pf := 12) xD_54 rfl rfl rfl (fun h9 => ?_) (fun h9 => ?_)
      · skip
        exact absurd h9 (nI_ge (a := k) (b := nb) (by omega) (by omega))
      · skip
        refine y_loc (pc' := 13) xD_54 rfl rfl rfl rfl ?_
        first | refine m_getR (pc' := 16) xD_54 rfl rfl rfl rfl (hR.1 _ _ _ rfl) rfl ?_ | refine m_getR (pc' := 16) xD_54 rfl rfl (by first | rfl | assumption) rfl (by assumption) rfl ?_
        refine y_loc (pc' := 17) xD_54 rfl rfl rfl rfl ?_
        refine m_zald (pc' := 18) (k) xD_54 rfl (by first | rfl | assumption) (by first | assumption | omega) (by first | decide | assumption) (by first | rfl | assumption) rfl ?_
        refine y_ifne (pt := 32) (pf := 21) xD_54 rfl rfl rfl (fun h18 => ?_) (fun h18 => ?_)
        · skip
          refine y_loc (pc' := 33) xD_54 rfl rfl rfl rfl ?_
          refine y_ci (pc' := 34) (3) xD_54 rfl rfl rfl rfl ?_
          refine y_ci (pc' := 35) (2) xD_54 rfl rfl rfl rfl ?_
          refine y_loc (pc' := 36) xD_54 rfl rfl rfl rfl ?_
          refine y_op (pc' := 37) xD_54 rfl rfl rfl rfl ?_
          refine y_op (pc' := 38) xD_54 rfl rfl rfl rfl ?_
          refine y_op (pc' := 39) xD_54 rfl rfl rfl rfl ?_
          refine y_loc (pc' := 40) xD_54 rfl rfl rfl rfl ?_
          refine y_inc (pc' := 43) (nI (k + 1)) xD_54 rfl rfl rfl (nI_1 (k)) rfl rfl ?_
          refine y_goto (pc' := 4) xD_54 rfl rfl ?_
          first
          | exact stepY (hok.mpr (Or.inl h18))
          | exact stepY (hok.mpr (Or.inr h29))
          | exact stepN (fun q => (hok.mp q).elim (fun t => t h18) (fun t => t h29))
        · skip
          refine y_loc (pc' := 22) xD_54 rfl rfl rfl rfl ?_
          first | refine m_getR (pc' := 25) xD_54 rfl rfl rfl rfl (hR.1 _ _ _ rfl) rfl ?_ | refine m_getR (pc' := 25) xD_54 rfl rfl (by first | rfl | assumption) rfl (by assumption) rfl ?_
          refine y_loc (pc' := 26) xD_54 rfl rfl rfl rfl ?_
          refine m_iald (pc' := 27) (k) xD_54 rfl (by first | rfl | assumption) (by first | assumption | omega) (by first | decide | assumption) (by first | decide | omega) (by first | rfl | assumption) rfl ?_
          refine y_loc (pc' := 28) xD_54 rfl rfl rfl rfl ?_
          refine y_op (pc' := 29) xD_54 rfl rfl rfl rfl ?_
          refine y_ifeq (pt := 40) (pf := 32) xD_54 rfl rfl rfl (fun h29 => ?_) (fun h29 => ?_)
          · skip
            refine y_inc (pc' := 43) (nI (k + 1)) xD_54 rfl rfl rfl (nI_1 (k)) rfl rfl ?_
            refine y_goto (pc' := 4) xD_54 rfl rfl ?_
            first
            | exact stepY (hok.mpr (Or.inl h18))
            | exact stepY (hok.mpr (Or.inr h29))
            | exact stepN (fun q => (hok.mp q).elim (fun t => t h18) (fun t => t h29))
          · skip
            refine y_loc (pc' := 33) xD_54 rfl rfl rfl rfl ?_
            refine y_ci (pc' := 34) (3) xD_54 rfl rfl rfl rfl ?_
            refine y_ci (pc' := 35) (2) xD_54 rfl rfl rfl rfl ?_
            refine y_loc (pc' := 36) xD_54 rfl rfl rfl rfl ?_
            refine y_op (pc' := 37) xD_54 rfl rfl rfl rfl ?_
            refine y_op (pc' := 38) xD_54 rfl rfl rfl rfl ?_
            refine y_op (pc' := 39) xD_54 rfl rfl rfl rfl ?_
            refine y_loc (pc' := 40) xD_54 rfl rfl rfl rfl ?_
            refine y_inc (pc' := 43) (nI (k + 1)) xD_54 rfl rfl rfl (nI_1 (k)) rfl rfl ?_
            refine y_goto (pc' := 4) xD_54 rfl rfl ?_
            first
            | exact stepY (hok.mpr (Or.inl h18))
            | exact stepY (hok.mpr (Or.inr h29))
            | exact stepN (fun q => (hok.mp q).elim (fun t => t h18) (fun t => t h29))
  refine y_ci (pc' := 1) (0) xD_54 rfl rfl rfl rfl ?_
  refine y_loc (pc' := 2) xD_54 rfl rfl rfl rfl ?_
  refine y_ci (pc' := 3) (0) xD_54 rfl rfl rfl rfl ?_
  refine y_loc (pc' := 4) xD_54 rfl rfl rfl rfl ?_
  exact loop nb 0 (by omega)
/-- the model's found -/
theorem s_found (hR : RF R) (hnb : I 261 10 = nI nb) (hnb2 : nb ≤ 12) (h : MAr I ar) :
    XP S d 107 0 (xent [.ref 261] 3) [] (hh I J R) (rI (fS ar (2 * nb)) (hh I J R)) := by
  have e2 : (2 : Int32) * nI nb = nI (2 * nb) := pk_mul 2 nb
  have loop : ∀ (f k : Nat), k + f = 2 * nb → XP S d 107 4 [some (.ref 261), some (.int (fS ar k)), some (.int (nI k))] [] (hh I J R) (rI (fS ar (2 * nb)) (hh I J R)) := by
    intro f
    induction f with
    | zero =>
      intro k hk
      have hk : k = 2 * nb := by omega
      subst hk
      refine y_loc (pc' := 5) xD_107 rfl rfl rfl rfl ?_
      refine y_ci (pc' := 6) (2) xD_107 rfl rfl rfl rfl ?_
      refine y_loc (pc' := 7) xD_107 rfl rfl rfl rfl ?_
      refine m_getI (pc' := 10) xD_107 rfl rfl rfl (by first | rfl | assumption) (hnb) rfl ?_
      refine y_imul (pc' := 11) xD_107 rfl (e2) rfl ?_
      refine y_icge (pt := 42) (pf := 14) xD_107 rfl rfl rfl (fun h11 => ?_) (fun h11 => ?_)
      · skip
        refine y_loc (pc' := 43) xD_107 rfl rfl rfl rfl ?_
        refine y_retI xD_107 rfl rfl ?_
        exact ⟨rfl, rfl⟩
      · skip
        exact absurd (Int32.le_refl _) h11
    | succ f ih =>
      intro k hk
      have k24 : k < 24 := by omega
      have step := ih (k + 1) (by omega)
      simp only [fS] at step
      have stepY := fun (q : 0 < (ar k).1) => (show (if 0 < (ar k).1 then fS ar k ||| (1 <<< (nI k &&& 31)) else fS ar k) = _ from if_pos q) ▸ step
      have stepN := fun (q : ¬ 0 < (ar k).1) => (show (if 0 < (ar k).1 then fS ar k ||| (1 <<< (nI k &&& 31)) else fS ar k) = _ from if_neg q) ▸ step
      have w := (h k k24).1.1
      have l0 : nI (ar k).1 ≤ 0 ↔ (ar k).1 ≤ 0 := nI_leI (b := 0) (by omega) (by decide)
      refine y_loc (pc' := 5) xD_107 rfl rfl rfl rfl ?_
      refine y_ci (pc' := 6) (2) xD_107 rfl rfl rfl rfl ?_
      refine y_loc (pc' := 7) xD_107 rfl rfl rfl rfl ?_
      refine m_getI (pc' := 10) xD_107 rfl rfl rfl (by first | rfl | assumption) (hnb) rfl ?_
      refine y_imul (pc' := 11) xD_107 rfl (e2) rfl ?_
      refine y_icge (pt := 42) (pf := 14) xD_107 rfl rfl rfl (fun h11 => ?_) (fun h11 => ?_)
      · skip
        exact absurd h11 (nI_ge (a := k) (b := 2 * nb) (by omega) (by omega))
      · skip
        refine y_loc (pc' := 15) xD_107 rfl rfl rfl rfl ?_
        first | refine m_getR (pc' := 18) xD_107 rfl rfl rfl rfl (hR.1 _ _ _ rfl) rfl ?_ | refine m_getR (pc' := 18) xD_107 rfl rfl (by first | rfl | assumption) rfl (by assumption) rfl ?_
        refine y_ci (pc' := 20) (9) xD_107 rfl rfl rfl rfl ?_
        refine y_loc (pc' := 21) xD_107 rfl rfl rfl rfl ?_
        refine y_iadd (pc' := 22) xD_107 rfl ((show (9 : Int32) + nI k = nI (9 + k) from nI_add 9 k)) rfl ?_
        refine m_iald (pc' := 23) ((9 + k)) xD_107 rfl (by first | rfl | assumption) (by first | assumption | omega) (by first | decide | assumption) (by first | decide | omega) (by first | rfl | assumption) rfl ?_
        rw [(h k k24).2.1]
        refine y_ifle (pt := 34) (pf := 26) xD_107 rfl rfl rfl (fun h23 => ?_) (fun h23 => ?_)
        · skip
          refine y_loc (pc' := 35) xD_107 rfl rfl rfl rfl ?_
          refine y_loc (pc' := 36) xD_107 rfl rfl rfl rfl ?_
          refine y_inc (pc' := 39) (nI (k + 1)) xD_107 rfl rfl rfl (nI_1 (k)) rfl rfl ?_
          refine y_goto (pc' := 4) xD_107 rfl rfl ?_
          first
          | exact stepN (fun q => absurd (l0.mp h23) (by omega))
          | exact stepY (Nat.lt_of_not_le (fun q => h23 (l0.mpr q)))
        · skip
          refine y_loc (pc' := 27) xD_107 rfl rfl rfl rfl ?_
          refine y_ci (pc' := 28) (1) xD_107 rfl rfl rfl rfl ?_
          refine y_loc (pc' := 29) xD_107 rfl rfl rfl rfl ?_
          refine y_op (pc' := 30) xD_107 rfl rfl rfl rfl ?_
          refine y_op (pc' := 31) xD_107 rfl rfl rfl rfl ?_
          refine y_goto (pc' := 35) xD_107 rfl rfl ?_
          refine y_loc (pc' := 36) xD_107 rfl rfl rfl rfl ?_
          refine y_inc (pc' := 39) (nI (k + 1)) xD_107 rfl rfl rfl (nI_1 (k)) rfl rfl ?_
          refine y_goto (pc' := 4) xD_107 rfl rfl ?_
          first
          | exact stepN (fun q => absurd (l0.mp h23) (by omega))
          | exact stepY (Nat.lt_of_not_le (fun q => h23 (l0.mpr q)))
  refine y_ci (pc' := 1) (0) xD_107 rfl rfl rfl rfl ?_
  refine y_loc (pc' := 2) xD_107 rfl rfl rfl rfl ?_
  refine y_ci (pc' := 3) (0) xD_107 rfl rfl rfl rfl ?_
  refine y_loc (pc' := 4) xD_107 rfl rfl rfl rfl ?_
  exact loop (2 * nb) 0 (by omega)
/-- the model's active -/
theorem s_active (hR : RF R) (hnb : I 261 10 = nI nb) (hnb2 : nb ≤ 12) (h : MAr I ar) :
    XP S (d + 1) 108 0 (xent [.ref 261] 5) [] (hh I J R) (rI (aS (opn (I 269) (I 270) (fS ar (2 * nb))) (fS ar (2 * nb)) (2 * nb)) (hh I J R)) := by
  have e2 : (2 : Int32) * nI nb = nI (2 * nb) := pk_mul 2 nb
  obtain ⟨hv, ehv⟩ : ∃ hv, hv = fS ar (2 * nb) := ⟨_, rfl⟩
  have loop : ∀ (f k : Nat), k + f = 2 * nb → ∀ q4 : Option Value, XP S (d + 1) 108 9 [some (.ref 261), some (.int hv), some (.int (aS (opn (I 269) (I 270) hv) hv k)), some (.int (nI k)), q4] [] (hh I J R) (rI (aS (opn (I 269) (I 270) hv) hv (2 * nb)) (hh I J R)) := by
    intro f
    induction f with
    | zero =>
      intro k hk q4
      have hk : k = 2 * nb := by omega
      subst hk
      refine y_loc (pc' := 10) xD_108 rfl rfl rfl rfl ?_
      refine y_ci (pc' := 11) (2) xD_108 rfl rfl rfl rfl ?_
      refine y_loc (pc' := 12) xD_108 rfl rfl rfl rfl ?_
      refine m_getI (pc' := 15) xD_108 rfl rfl rfl (by first | rfl | assumption) (hnb) rfl ?_
      refine y_imul (pc' := 16) xD_108 rfl (e2) rfl ?_
      refine y_icge (pt := 90) (pf := 19) xD_108 rfl rfl rfl (fun h16 => ?_) (fun h16 => ?_)
      · skip
        refine y_loc (pc' := 91) xD_108 rfl rfl rfl rfl ?_
        refine y_retI xD_108 rfl rfl ?_
        exact ⟨rfl, rfl⟩
      · skip
        exact absurd (Int32.le_refl _) h16
    | succ f ih =>
      intro k hk q4
      have k24 : k < 24 := by omega
      have step := ih (k + 1) (by omega)
      simp only [aS] at step
      have stepY := fun (q : opn (I 269) (I 270) hv (k / 2) = true ∧ ib hv k = false) => (show (if opn (I 269) (I 270) hv (k / 2) = true ∧ ib hv k = false then aS (opn (I 269) (I 270) hv) hv k ||| (1 <<< (nI k &&& 31)) else aS (opn (I 269) (I 270) hv) hv k) = _ from if_pos q) ▸ step
      have stepN := fun (q : ¬ (opn (I 269) (I 270) hv (k / 2) = true ∧ ib hv k = false)) => (show (if opn (I 269) (I 270) hv (k / 2) = true ∧ ib hv k = false then aS (opn (I 269) (I 270) hv) hv k ||| (1 <<< (nI k &&& 31)) else aS (opn (I 269) (I 270) hv) hv k) = _ from if_neg q) ▸ step
      have hop : opn (I 269) (I 270) hv (k / 2) = true ↔ (I 269 (k / 2) = 0 ∨ ¬ I 270 (k / 2) = 0 ∨ ¬ I 269 (k / 2) &&& hv = 0) := by unfold opn; exact decide_eq_true_iff
      have k2 : k / 2 < 12 := by omega
      have ed : nI k / 2 = nI (k / 2) := pk_div (d := 2) (by omega) (by decide) (by decide)
      have b0 := bit0 k24 hv
      have tail : ∀ z : Int32, (z = 1 ∧ opn (I 269) (I 270) hv (k / 2) = true ∨ z = 0 ∧ ¬ opn (I 269) (I 270) hv (k / 2) = true) → XP S (d + 1) 108 59 [some (.ref 261), some (.int hv), some (.int (aS (opn (I 269) (I 270) hv) hv k)), some (.int (nI k)), q4] [.int z] (hh I J R) (rI (aS (opn (I 269) (I 270) hv) hv (2 * nb)) (hh I J R)) := by
        intro z hz
        refine y_loc (pc' := 61) xD_108 rfl rfl rfl rfl ?_
        refine y_loc (pc' := 63) xD_108 rfl rfl rfl rfl ?_
        refine y_ifeq (pt := 82) (pf := 66) xD_108 rfl rfl rfl (fun h63 => ?_) (fun h63 => ?_)
        · skip
          refine y_loc (pc' := 83) xD_108 rfl rfl rfl rfl ?_
          refine y_loc (pc' := 84) xD_108 rfl rfl rfl rfl ?_
          refine y_inc (pc' := 87) (nI (k + 1)) xD_108 rfl rfl rfl (nI_1 (k)) rfl rfl ?_
          refine y_goto (pc' := 9) xD_108 rfl rfl ?_
          first
          | exact stepN (fun q => hz.elim (fun t => absurd (t.1.symm.trans h63) (by decide)) (fun t => t.2 q.1)) _
          | exact stepN (fun q => h71 (b0.mpr q.2)) _
          | exact stepY ⟨hz.elim (fun t => t.2) (fun t => absurd t.1 h63), b0.mp h71⟩ _
        · skip
          refine y_loc (pc' := 67) xD_108 rfl rfl rfl rfl ?_
          refine y_loc (pc' := 68) xD_108 rfl rfl rfl rfl ?_
          refine y_op (pc' := 69) xD_108 rfl rfl rfl rfl ?_
          refine y_ci (pc' := 70) (1) xD_108 rfl rfl rfl rfl ?_
          refine y_op (pc' := 71) xD_108 rfl rfl rfl rfl ?_
          refine y_ifne (pt := 82) (pf := 74) xD_108 rfl rfl rfl (fun h71 => ?_) (fun h71 => ?_)
          · skip
            refine y_loc (pc' := 83) xD_108 rfl rfl rfl rfl ?_
            refine y_loc (pc' := 84) xD_108 rfl rfl rfl rfl ?_
            refine y_inc (pc' := 87) (nI (k + 1)) xD_108 rfl rfl rfl (nI_1 (k)) rfl rfl ?_
            refine y_goto (pc' := 9) xD_108 rfl rfl ?_
            first
            | exact stepN (fun q => hz.elim (fun t => absurd (t.1.symm.trans h63) (by decide)) (fun t => t.2 q.1)) _
            | exact stepN (fun q => h71 (b0.mpr q.2)) _
            | exact stepY ⟨hz.elim (fun t => t.2) (fun t => absurd t.1 h63), b0.mp h71⟩ _
          · skip
            refine y_loc (pc' := 75) xD_108 rfl rfl rfl rfl ?_
            refine y_ci (pc' := 76) (1) xD_108 rfl rfl rfl rfl ?_
            refine y_loc (pc' := 77) xD_108 rfl rfl rfl rfl ?_
            refine y_op (pc' := 78) xD_108 rfl rfl rfl rfl ?_
            refine y_op (pc' := 79) xD_108 rfl rfl rfl rfl ?_
            refine y_goto (pc' := 83) xD_108 rfl rfl ?_
            refine y_loc (pc' := 84) xD_108 rfl rfl rfl rfl ?_
            refine y_inc (pc' := 87) (nI (k + 1)) xD_108 rfl rfl rfl (nI_1 (k)) rfl rfl ?_
            refine y_goto (pc' := 9) xD_108 rfl rfl ?_
            first
            | exact stepN (fun q => hz.elim (fun t => absurd (t.1.symm.trans h63) (by decide)) (fun t => t.2 q.1)) _
            | exact stepN (fun q => h71 (b0.mpr q.2)) _
            | exact stepY ⟨hz.elim (fun t => t.2) (fun t => absurd t.1 h63), b0.mp h71⟩ _
      refine y_loc (pc' := 10) xD_108 rfl rfl rfl rfl ?_
      refine y_ci (pc' := 11) (2) xD_108 rfl rfl rfl rfl ?_
      refine y_loc (pc' := 12) xD_108 rfl rfl rfl rfl ?_
      refine m_getI (pc' := 15) xD_108 rfl rfl rfl (by first | rfl | assumption) (hnb) rfl ?_
      refine y_imul (pc' := 16) xD_108 rfl (e2) rfl ?_
      refine y_icge (pt := 90) (pf := 19) xD_108 rfl rfl rfl (fun h16 => ?_) (fun h16 => ?_)
      · skip
        exact absurd h16 (nI_ge (a := k) (b := 2 * nb) (by omega) (by omega))
      · skip
        refine y_loc (pc' := 20) xD_108 rfl rfl rfl rfl ?_
        first | refine m_getR (pc' := 23) xD_108 rfl rfl rfl rfl (hR.1 _ _ _ rfl) rfl ?_ | refine m_getR (pc' := 23) xD_108 rfl rfl (by first | rfl | assumption) rfl (by assumption) rfl ?_
        refine y_loc (pc' := 24) xD_108 rfl rfl rfl rfl ?_
        refine y_ci (pc' := 25) (2) xD_108 rfl rfl rfl rfl ?_
        refine y_op (pc' := 26) xD_108 rfl rfl rfl rfl ?_
        refine m_iald (pc' := 27) ((k / 2)) xD_108 rfl (by first | rfl | assumption) (by first | assumption | omega) (by first | decide | assumption) (by first | decide | omega) ed rfl ?_
        refine y_ifeq (pt := 54) (pf := 30) xD_108 rfl rfl rfl (fun h27 => ?_) (fun h27 => ?_)
        · skip
          refine y_ci (pc' := 55) (1) xD_108 rfl rfl rfl rfl ?_
          refine y_goto (pc' := 59) xD_108 rfl rfl ?_
          first
          | exact tail _ (Or.inl ⟨rfl, hop.mpr (Or.inl h27)⟩)
          | exact tail _ (Or.inl ⟨rfl, hop.mpr (Or.inr (Or.inl h38))⟩)
          | exact tail _ (Or.inl ⟨rfl, hop.mpr (Or.inr (Or.inr h51))⟩)
          | exact tail _ (Or.inr ⟨rfl, fun q => (hop.mp q).elim h27 (fun t => t.elim (fun t => t h38) (fun t => t h51))⟩)
        · skip
          refine y_loc (pc' := 31) xD_108 rfl rfl rfl rfl ?_
          first | refine m_getR (pc' := 34) xD_108 rfl rfl rfl rfl (hR.1 _ _ _ rfl) rfl ?_ | refine m_getR (pc' := 34) xD_108 rfl rfl (by first | rfl | assumption) rfl (by assumption) rfl ?_
          refine y_loc (pc' := 35) xD_108 rfl rfl rfl rfl ?_
          refine y_ci (pc' := 36) (2) xD_108 rfl rfl rfl rfl ?_
          refine y_op (pc' := 37) xD_108 rfl rfl rfl rfl ?_
          refine m_zald (pc' := 38) ((k / 2)) xD_108 rfl (by first | rfl | assumption) (by first | assumption | omega) (by first | decide | assumption) ed rfl ?_
          refine y_ifne (pt := 54) (pf := 41) xD_108 rfl rfl rfl (fun h38 => ?_) (fun h38 => ?_)
          · skip
            refine y_ci (pc' := 55) (1) xD_108 rfl rfl rfl rfl ?_
            refine y_goto (pc' := 59) xD_108 rfl rfl ?_
            first
            | exact tail _ (Or.inl ⟨rfl, hop.mpr (Or.inl h27)⟩)
            | exact tail _ (Or.inl ⟨rfl, hop.mpr (Or.inr (Or.inl h38))⟩)
            | exact tail _ (Or.inl ⟨rfl, hop.mpr (Or.inr (Or.inr h51))⟩)
            | exact tail _ (Or.inr ⟨rfl, fun q => (hop.mp q).elim h27 (fun t => t.elim (fun t => t h38) (fun t => t h51))⟩)
          · skip
            refine y_loc (pc' := 42) xD_108 rfl rfl rfl rfl ?_
            first | refine m_getR (pc' := 45) xD_108 rfl rfl rfl rfl (hR.1 _ _ _ rfl) rfl ?_ | refine m_getR (pc' := 45) xD_108 rfl rfl (by first | rfl | assumption) rfl (by assumption) rfl ?_
            refine y_loc (pc' := 46) xD_108 rfl rfl rfl rfl ?_
            refine y_ci (pc' := 47) (2) xD_108 rfl rfl rfl rfl ?_
            refine y_op (pc' := 48) xD_108 rfl rfl rfl rfl ?_
            refine m_iald (pc' := 49) ((k / 2)) xD_108 rfl (by first | rfl | assumption) (by first | assumption | omega) (by first | decide | assumption) (by first | decide | omega) ed rfl ?_
            refine y_loc (pc' := 50) xD_108 rfl rfl rfl rfl ?_
            refine y_op (pc' := 51) xD_108 rfl rfl rfl rfl ?_
            refine y_ifeq (pt := 58) (pf := 54) xD_108 rfl rfl rfl (fun h51 => ?_) (fun h51 => ?_)
            · skip
              refine y_ci (pc' := 59) (0) xD_108 rfl rfl rfl rfl ?_
              first
              | exact tail _ (Or.inl ⟨rfl, hop.mpr (Or.inl h27)⟩)
              | exact tail _ (Or.inl ⟨rfl, hop.mpr (Or.inr (Or.inl h38))⟩)
              | exact tail _ (Or.inl ⟨rfl, hop.mpr (Or.inr (Or.inr h51))⟩)
              | exact tail _ (Or.inr ⟨rfl, fun q => (hop.mp q).elim h27 (fun t => t.elim (fun t => t h38) (fun t => t h51))⟩)
            · skip
              refine y_ci (pc' := 55) (1) xD_108 rfl rfl rfl rfl ?_
              refine y_goto (pc' := 59) xD_108 rfl rfl ?_
              first
              | exact tail _ (Or.inl ⟨rfl, hop.mpr (Or.inl h27)⟩)
              | exact tail _ (Or.inl ⟨rfl, hop.mpr (Or.inr (Or.inl h38))⟩)
              | exact tail _ (Or.inl ⟨rfl, hop.mpr (Or.inr (Or.inr h51))⟩)
              | exact tail _ (Or.inr ⟨rfl, fun q => (hop.mp q).elim h27 (fun t => t.elim (fun t => t h38) (fun t => t h51))⟩)
  refine y_loc (pc' := 1) xD_108 rfl rfl rfl rfl ?_
  refine y_callV xD_108 rfl rfl rfl rfl (by first | rfl | assumption) rfl rfl rfl rfl (s_found hR hnb hnb2 h) (fun v h' hq => ?_)
  obtain ⟨rfl, rfl⟩ := hq
  refine y_loc (pc' := 5) xD_108 rfl rfl rfl rfl ?_
  refine y_ci (pc' := 6) (0) xD_108 rfl rfl rfl rfl ?_
  refine y_loc (pc' := 7) xD_108 rfl rfl rfl rfl ?_
  refine y_ci (pc' := 8) (0) xD_108 rfl rfl rfl rfl ?_
  refine y_loc (pc' := 9) xD_108 rfl rfl rfl rfl ?_
  rw [← ehv]
  exact loop (2 * nb) 0 (by omega) _
end AG

