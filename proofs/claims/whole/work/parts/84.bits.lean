/-! Counting the bits of a set. -/
def b1 (M x : Nat) : Nat := x - ((x / 2) &&& M)
def b2 (M x : Nat) : Nat := (x &&& M) + ((x / 4) &&& M)
def b3 (M x : Nat) : Nat := (x + x / 16) &&& M
theorem land8 {a m y M : Nat} (ha : a < 256) (hm : m < 256) : (256 * y + a) &&& (256 * M + m) = 256 * (y &&& M) + (a &&& m) := by
  have h1 : a &&& m < 2 ^ 8 := Nat.and_lt_two_pow _ hm
  apply Nat.eq_of_testBit_eq
  intro i
  rw [Nat.testBit_and, show 256 = 2 ^ 8 from rfl, Nat.testBit_two_pow_mul_add y ha, Nat.testBit_two_pow_mul_add M hm, Nat.testBit_two_pow_mul_add (y &&& M) h1]
  split
  · rw [Nat.testBit_and]
  · rw [Nat.testBit_and]
def f1 (a : Nat) : Nat := a - ((a / 2) &&& 0x55)
def f2 (a : Nat) : Nat := (a &&& 0x33) + ((a / 4) &&& 0x33)
def f3 (a : Nat) : Nat := (a + a / 16) &&& 0x0f
def kb (X : Nat) : Nat → Nat
  | 0 => 0
  | g + 1 => kb X g + (if X.testBit g = true then 1 else 0)
set_option maxRecDepth 20000 in
theorem bt1 : (List.range 256).all (fun a => (List.range 2).all (fun t => ((a / 2 + 128 * t) &&& 0x55) == ((a / 2) &&& 0x55)) && decide ((a / 2) &&& 0x55 ≤ a) && decide (f1 a < 256)) = true := by decide +kernel
set_option maxRecDepth 20000 in
theorem bt2 : (List.range 256).all (fun a => (List.range 4).all (fun t => ((f1 a / 4 + 64 * t) &&& 0x33) == ((f1 a / 4) &&& 0x33)) && decide (f2 (f1 a) ≤ 0x44) && decide (f2 (f1 a) % 16 ≤ 4)) = true := by decide +kernel
set_option maxRecDepth 20000 in
theorem bt3 : (List.range 0x45).all (fun a => (List.range 5).all (fun t => ((a + a / 16 + 16 * t) &&& 0x0f) == ((a + a / 16) &&& 0x0f))) = true := by decide +kernel
set_option maxRecDepth 20000 in
theorem bt4 : (List.range 256).all (fun a => f3 (f2 (f1 a)) == kb a 8 && decide (kb a 8 ≤ 8)) = true := by decide +kernel
theorem bt1' {a t : Nat} (ha : a < 256) (ht : t < 2) : ((a / 2 + 128 * t) &&& 0x55) = ((a / 2) &&& 0x55) ∧ (a / 2) &&& 0x55 ≤ a ∧ f1 a < 256 := by
  have h := List.all_eq_true.mp bt1 a (List.mem_range.mpr ha)
  rw [Bool.and_eq_true, Bool.and_eq_true, decide_eq_true_eq, decide_eq_true_eq] at h
  exact ⟨eq_of_beq (List.all_eq_true.mp h.1.1 t (List.mem_range.mpr ht)), h.1.2, h.2⟩
theorem bt2' {a t : Nat} (ha : a < 256) (ht : t < 4) : ((f1 a / 4 + 64 * t) &&& 0x33) = ((f1 a / 4) &&& 0x33) ∧ f2 (f1 a) ≤ 0x44 ∧ f2 (f1 a) % 16 ≤ 4 := by
  have h := List.all_eq_true.mp bt2 a (List.mem_range.mpr ha)
  rw [Bool.and_eq_true, Bool.and_eq_true, decide_eq_true_eq, decide_eq_true_eq] at h
  exact ⟨eq_of_beq (List.all_eq_true.mp h.1.1 t (List.mem_range.mpr ht)), h.1.2, h.2⟩
theorem bt3' {a t : Nat} (ha : a ≤ 0x44) (ht : t ≤ 4) : ((a + a / 16 + 16 * t) &&& 0x0f) = ((a + a / 16) &&& 0x0f) := by
  have h := List.all_eq_true.mp bt3 a (List.mem_range.mpr (by omega))
  exact eq_of_beq (List.all_eq_true.mp h t (List.mem_range.mpr (by omega)))
theorem bt4' {a : Nat} (ha : a < 256) : f3 (f2 (f1 a)) = kb a 8 ∧ kb a 8 ≤ 8 := by
  have h := List.all_eq_true.mp bt4 a (List.mem_range.mpr ha)
  rw [Bool.and_eq_true, decide_eq_true_eq] at h
  exact ⟨eq_of_beq h.1, h.2⟩
theorem b1_s {a y M : Nat} (ha : a < 256) : b1 (256 * M + 0x55) (256 * y + a) = 256 * b1 M y + f1 a := by
  have h := bt1' (a := a) (t := y % 2) ha (by omega)
  have e : (256 * y + a) / 2 = 256 * (y / 2) + (a / 2 + 128 * (y % 2)) := by omega
  have l : (y / 2) &&& M ≤ y / 2 := Nat.and_le_left
  unfold b1 f1
  rw [e, land8 (by omega) (by decide), h.1]
  have := h.2.1
  omega
theorem b2_s {a y M : Nat} (ha : a < 256) : b2 (256 * M + 0x33) (256 * y + f1 a) = 256 * b2 M y + f2 (f1 a) := by
  have h := bt2' (a := a) (t := y % 4) ha (by omega)
  have h1 := (bt1' (a := a) (t := 0) ha (by omega)).2.2
  have e : (256 * y + f1 a) / 4 = 256 * (y / 4) + (f1 a / 4 + 64 * (y % 4)) := by omega
  unfold b2
  rw [e, land8 h1 (by decide), land8 (by omega) (by decide), h.1]
  show _ = _ + ((f1 a &&& 51) + (f1 a / 4 &&& 51))
  omega
theorem b3_s {a y M : Nat} (ha : a ≤ 0x44) (hy : y % 16 ≤ 4) : b3 (256 * M + 0x0f) (256 * y + a) = 256 * b3 M y + f3 a := by
  have h := bt3' (a := a) (t := y % 16) ha hy
  have e : 256 * y + a + (256 * y + a) / 16 = 256 * (y + y / 16) + (a + a / 16 + 16 * (y % 16)) := by omega
  unfold b3 f3
  rw [e, land8 (by omega) (by decide), h]
theorem kb_s {a y : Nat} (ha : a < 256) : ∀ m, kb (256 * y + a) (8 + m) = kb a 8 + kb y m := by
  have h8 : ∀ g, g ≤ 8 → kb (256 * y + a) g = kb a g := by
    intro g
    induction g with
    | zero => intro _; rfl
    | succ g ih =>
      intro hg
      simp only [kb]
      rw [ih (by omega), show 256 = 2 ^ 8 from rfl, Nat.testBit_two_pow_mul_add y ha, if_pos (show g < 8 by omega)]
  intro m
  induction m with
  | zero => rw [Nat.add_zero, h8 8 (Nat.le_refl _)]; rfl
  | succ m ih =>
    show kb (256 * y + a) (8 + m) + (if (256 * y + a).testBit (8 + m) = true then 1 else 0) = kb a 8 + (kb y m + (if y.testBit m = true then 1 else 0))
    rw [ih, show 256 = 2 ^ 8 from rfl, Nat.testBit_two_pow_mul_add y ha, if_neg (show ¬ 8 + m < 8 by omega), show 8 + m - 8 = m by omega]
    omega
theorem bits24 {X : Nat} (h : X < 16777216) : ((fun z => z + z / 65536) ((fun z => z + z / 256) (b3 0x0f0f0f0f (b2 0x33333333 (b1 0x55555555 X))))) &&& 63 = kb X 24 ∧ kb X 24 ≤ 24 ∧ b1 0x55555555 X < 16777216 ∧ b2 0x33333333 (b1 0x55555555 X) < 16777216 ∧ b3 0x0f0f0f0f (b2 0x33333333 (b1 0x55555555 X)) < 16777216 := by
  obtain ⟨a, b, c, ha, hb, hc, e⟩ : ∃ a b c, a < 256 ∧ b < 256 ∧ c < 256 ∧ X = 256 * (256 * (256 * 0 + c) + b) + a := ⟨X % 256, X / 256 % 256, X / 65536, by omega, by omega, by omega, by omega⟩
  have a1 := (bt1' (t := 0) ha (by omega)).2.2
  have b1' := (bt1' (t := 0) hb (by omega)).2.2
  have c1 := (bt1' (t := 0) hc (by omega)).2.2
  have a2 := (bt2' (t := 0) ha (by omega)).2
  have b2' := (bt2' (t := 0) hb (by omega)).2
  have c2 := (bt2' (t := 0) hc (by omega)).2
  have a4 := bt4' ha
  have b4 := bt4' hb
  have c4 := bt4' hc
  have z1 : b1 0x55 0 = 0 := rfl
  have z2 : b2 0x33 0 = 0 := rfl
  have z3 : b3 0x0f 0 = 0 := rfl
  have s1 : b1 0x55555555 X = 256 * (256 * (256 * 0 + f1 c) + f1 b) + f1 a := by
    rw [e, show 0x55555555 = 256 * (256 * (256 * 0x55 + 0x55) + 0x55) + 0x55 from rfl, b1_s ha, b1_s hb, b1_s hc, z1]
  have s2 : b2 0x33333333 (b1 0x55555555 X) = 256 * (256 * (256 * 0 + f2 (f1 c)) + f2 (f1 b)) + f2 (f1 a) := by
    rw [s1, show 0x33333333 = 256 * (256 * (256 * 0x33 + 0x33) + 0x33) + 0x33 from rfl, b2_s ha, b2_s hb, b2_s hc, z2]
  have s3 : b3 0x0f0f0f0f (b2 0x33333333 (b1 0x55555555 X)) = 256 * (256 * (256 * 0 + kb c 8) + kb b 8) + kb a 8 := by
    rw [s2, show 0x0f0f0f0f = 256 * (256 * (256 * 0x0f + 0x0f) + 0x0f) + 0x0f from rfl, b3_s a2.1 (by omega), b3_s b2'.1 (by omega), b3_s c2.1 (by omega), z3, a4.1, b4.1, c4.1]
  have k24 : kb X 24 = kb a 8 + (kb b 8 + (kb c 8 + 0)) := by
    rw [e, show 24 = 8 + (8 + (8 + 0)) from rfl, kb_s ha, kb_s hb, kb_s hc]; rfl
  have m63 : ∀ z : Nat, z &&& 63 = z % 64 := fun z => Nat.and_two_pow_sub_one_eq_mod z 6
  rw [s3, k24, s2, s1, m63]
  refine ⟨?_, ?_, ?_, ?_, ?_⟩
  · have qa := a4.2
    have qb := b4.2
    have qc := c4.2
    generalize kb a 8 = x at *
    generalize kb b 8 = y at *
    generalize kb c 8 = z at *
    have u : (256 * (256 * (256 * 0 + z) + y) + x) / 256 = 256 * z + y := by omega
    have v : (256 * (256 * (256 * 0 + z) + y) + x + (256 * z + y)) / 65536 = z := by omega
    show (256 * (256 * (256 * 0 + z) + y) + x + (256 * (256 * (256 * 0 + z) + y) + x) / 256 + (256 * (256 * (256 * 0 + z) + y) + x + (256 * (256 * (256 * 0 + z) + y) + x) / 256) / 65536) % 64 = _
    rw [u, v]
    omega
  · omega
  · omega
  · omega
  · omega
theorem nI_and {x y : Nat} : nI x &&& nI y = nI (x &&& y) := by
  unfold nI
  apply Int32.toBitVec_inj.mp
  rw [Int32.toBitVec_and, Int32.toBitVec_ofNat', Int32.toBitVec_ofNat', Int32.toBitVec_ofNat', BitVec.ofNat_and]
theorem ib_nI {X g : Nat} (hg : g < 32) : ib (nI X) g = X.testBit g := by
  unfold ib nI
  rw [Int32.toBitVec_ofNat', BitVec.getLsbD_ofNat, decide_eq_true hg, Bool.true_and]
theorem ushr {X k : Nat} (hX : X < 2147483648) (hk : k < 32) : ((nI X).toUInt32 >>> ((nI k).toUInt32 &&& Int32.toUInt32 31)).toInt32 = nI (X / 2 ^ k) := by
  have e : ∀ z : Nat, z < 4294967296 → (nI z).toUInt32 = UInt32.ofNat z := by
    intro z hz
    apply UInt32.toBitVec_inj.mp
    show (nI z).toBitVec = _
    unfold nI
    rw [Int32.toBitVec_ofNat']
    rfl
  rw [e X (by omega), e k (by omega)]
  apply Int32.toBitVec_inj.mp
  show (UInt32.ofNat X >>> (UInt32.ofNat k &&& Int32.toUInt32 31)).toBitVec = (nI (X / 2 ^ k)).toBitVec
  apply BitVec.eq_of_toNat_eq
  show (UInt32.ofNat X >>> (UInt32.ofNat k &&& Int32.toUInt32 31)).toNat = _
  have m : (UInt32.ofNat k &&& Int32.toUInt32 31).toNat = k := by
    rw [UInt32.toNat_and, UInt32.toNat_ofNat', show (Int32.toUInt32 31).toNat = 2 ^ 5 - 1 from rfl, Nat.and_two_pow_sub_one_eq_mod]
    omega
  rw [UInt32.toNat_shiftRight, m, UInt32.toNat_ofNat', Nat.mod_eq_of_lt (by omega), Nat.mod_eq_of_lt (a := k) (by omega), Nat.shiftRight_eq_div_pow]
  unfold nI
  rw [Int32.toBitVec_ofNat', BitVec.toNat_ofNat, Nat.mod_eq_of_lt]
  exact Nat.lt_of_le_of_lt (Nat.div_le_self _ _) (by omega)
theorem set_nI {x : Int32} (h : ∀ g, g < 32 → 24 ≤ g → ib x g = false) : ∃ X, X < 16777216 ∧ x = nI X := by
  refine ⟨x.toBitVec.toNat, ?_, ?_⟩
  · refine Nat.lt_pow_two_of_testBit (n := 24) _ (fun i hi => ?_)
    rw [BitVec.testBit_toNat]
    by_cases h32 : i < 32
    · exact h i h32 hi
    · exact BitVec.getLsbD_of_ge _ _ (by omega)
  · unfold nI
    apply Int32.toBitVec_inj.mp
    rw [Int32.toBitVec_ofNat', BitVec.ofNat_toNat, BitVec.setWidth_eq]
theorem kb_bit {X g : Nat} (hg : g < 24) : nI (kb X g) + bitI (nI X) (nI g) = nI (kb X (g + 1)) := by
  simp only [kb]
  by_cases h : X.testBit g = true
  · rw [if_pos h, (bit1 hg _).mpr (by rw [ib_nI (by omega)]; exact h)]; exact nI_1 _
  · rw [if_neg h, (bit0 hg _).mpr (by rw [ib_nI (by omega)]; exact Bool.not_eq_true _ ▸ h), Int32.add_zero]; rfl
section BC
variable {S : XS} {d k pc pc' : Nat} {L : XL} {r : List Value} {h : XH} {Q : Option Value → XH → Prop} {T : List (Nat × Instr × Nat)} {x z w v : Int32} {i : Instr} {len : Nat}
theorem y_i2 {st : List Value} (hD : XDec k T) (hd : xat T pc = some (i, len)) (hl : len = xlen i) (ho : xop i st = some (.int w :: r)) (e : w = v) (hp : pc + len = pc') (K : XP S d k pc' L (.int v :: r) h Q) : XP S d k pc L st h Q := by
  subst e
  exact y_op hD hd hl ho hp K
/-- Integer.bitCount, of a set of goals -/
theorem s_bitCount {X : Nat} (hX : X < 16777216) {xx : Int32} (e1 : xx = nI X) : XP S d 77 0 (xent [.int xx] 1) [] h (rI (nI (kb X 24)) h) := by
  subst e1
  obtain ⟨h5, -, h1, h2, h3⟩ := bits24 hX
  have l1 : (X / 2) &&& 0x55555555 ≤ X := Nat.le_trans Nat.and_le_left (Nat.div_le_self _ _)
  refine y_loc (pc' := 1) xD_77 rfl rfl rfl rfl ?_
  refine y_loc (pc' := 2) xD_77 rfl rfl rfl rfl ?_
  refine y_ci (pc' := 3) (1) xD_77 rfl rfl rfl rfl ?_
  refine y_i2 (pc' := 4) (v := (nI (X / 2))) xD_77 rfl rfl rfl (ushr (X := X) (k := 1) (by omega) (by decide)) rfl ?_
  refine y_ldc (pc' := 7) xD_77 rfl rfl rfl rfl ?_
  refine y_i2 (pc' := 8) (v := (nI ((X / 2) &&& 0x55555555))) xD_77 rfl rfl rfl (nI_and (x := X / 2) (y := 0x55555555)) rfl ?_
  refine y_isub (pc' := 9) xD_77 rfl ((show nI X - nI ((X / 2) &&& 0x55555555) = nI (b1 0x55555555 X) from pk_sub l1)) rfl ?_
  refine y_loc (pc' := 10) xD_77 rfl rfl rfl rfl ?_
  refine y_loc (pc' := 11) xD_77 rfl rfl rfl rfl ?_
  refine y_ldc (pc' := 14) xD_77 rfl rfl rfl rfl ?_
  refine y_i2 (pc' := 15) (v := (nI (b1 0x55555555 X &&& 0x33333333))) xD_77 rfl rfl rfl (nI_and (x := b1 0x55555555 X) (y := 0x33333333)) rfl ?_
  refine y_loc (pc' := 16) xD_77 rfl rfl rfl rfl ?_
  refine y_ci (pc' := 17) (2) xD_77 rfl rfl rfl rfl ?_
  refine y_i2 (pc' := 18) (v := (nI (b1 0x55555555 X / 4))) xD_77 rfl rfl rfl (ushr (X := b1 0x55555555 X) (k := 2) (by omega) (by decide)) rfl ?_
  refine y_ldc (pc' := 21) xD_77 rfl rfl rfl rfl ?_
  refine y_i2 (pc' := 22) (v := (nI ((b1 0x55555555 X / 4) &&& 0x33333333))) xD_77 rfl rfl rfl (nI_and (x := b1 0x55555555 X / 4) (y := 0x33333333)) rfl ?_
  refine y_iadd (pc' := 23) xD_77 rfl ((show _ = nI (b2 0x33333333 (b1 0x55555555 X)) from nI_add _ _)) rfl ?_
  refine y_loc (pc' := 24) xD_77 rfl rfl rfl rfl ?_
  refine y_loc (pc' := 25) xD_77 rfl rfl rfl rfl ?_
  refine y_loc (pc' := 26) xD_77 rfl rfl rfl rfl ?_
  refine y_ci (pc' := 27) (4) xD_77 rfl rfl rfl rfl ?_
  refine y_i2 (pc' := 28) (v := (nI (b2 0x33333333 (b1 0x55555555 X) / 16))) xD_77 rfl rfl rfl (ushr (X := b2 0x33333333 (b1 0x55555555 X)) (k := 4) (by omega) (by decide)) rfl ?_
  refine y_iadd (pc' := 29) xD_77 rfl (nI_add _ _) rfl ?_
  refine y_ldc (pc' := 32) xD_77 rfl rfl rfl rfl ?_
  refine y_i2 (pc' := 33) (v := (nI (b3 0x0f0f0f0f (b2 0x33333333 (b1 0x55555555 X))))) xD_77 rfl rfl rfl (nI_and (y := 0x0f0f0f0f)) rfl ?_
  refine y_loc (pc' := 34) xD_77 rfl rfl rfl rfl ?_
  refine y_loc (pc' := 35) xD_77 rfl rfl rfl rfl ?_
  refine y_loc (pc' := 36) xD_77 rfl rfl rfl rfl ?_
  refine y_ci (pc' := 38) (8) xD_77 rfl rfl rfl rfl ?_
  refine y_i2 (pc' := 39) (v := (nI (b3 0x0f0f0f0f (b2 0x33333333 (b1 0x55555555 X)) / 256))) xD_77 rfl rfl rfl (ushr (X := b3 0x0f0f0f0f (b2 0x33333333 (b1 0x55555555 X))) (k := 8) (by omega) (by decide)) rfl ?_
  refine y_iadd (pc' := 40) xD_77 rfl (nI_add _ _) rfl ?_
  refine y_loc (pc' := 41) xD_77 rfl rfl rfl rfl ?_
  refine y_loc (pc' := 42) xD_77 rfl rfl rfl rfl ?_
  refine y_loc (pc' := 43) xD_77 rfl rfl rfl rfl ?_
  refine y_ci (pc' := 45) (16) xD_77 rfl rfl rfl rfl ?_
  refine y_i2 (pc' := 46) (v := (nI ((b3 0x0f0f0f0f (b2 0x33333333 (b1 0x55555555 X)) + b3 0x0f0f0f0f (b2 0x33333333 (b1 0x55555555 X)) / 256) / 65536))) xD_77 rfl rfl rfl (ushr (X := b3 0x0f0f0f0f (b2 0x33333333 (b1 0x55555555 X)) + b3 0x0f0f0f0f (b2 0x33333333 (b1 0x55555555 X)) / 256) (k := 16) (by omega) (by decide)) rfl ?_
  refine y_iadd (pc' := 47) xD_77 rfl (nI_add _ _) rfl ?_
  refine y_loc (pc' := 48) xD_77 rfl rfl rfl rfl ?_
  refine y_loc (pc' := 49) xD_77 rfl rfl rfl rfl ?_
  refine y_ci (pc' := 51) (63) xD_77 rfl rfl rfl rfl ?_
  refine y_i2 (pc' := 52) (v := (nI (kb X 24))) xD_77 rfl rfl rfl ((show _ = _ from by rw [← h5]; exact nI_and (y := 63))) rfl ?_
  refine y_retI xD_77 rfl rfl ?_
  exact ⟨rfl, rfl⟩
/-- the model's count -/
theorem s_count {X : Nat} {xx : Int32} (e1 : xx = nI X) : XP S d 146 0 (xent [.int xx] 3) [] h (rI (nI (kb X 24)) h) := by
  subst e1
  have loop : ∀ (f g : Nat), g + f = 24 → XP S d 146 4 [some (.int (nI X)), some (.int (nI (kb X g))), some (.int (nI g))] [] h (rI (nI (kb X 24)) h) := by
    intro f
    induction f with
    | zero =>
      intro g hg
      have hg : g = 24 := by omega
      subst hg
      refine y_loc (pc' := 5) xD_146 rfl rfl rfl rfl ?_
      refine y_ci (pc' := 7) (24) xD_146 rfl rfl rfl rfl ?_
      refine y_icge (pt := 24) (pf := 10) xD_146 rfl rfl rfl (fun h7 => ?_) (fun h7 => ?_)
      · skip
        refine y_loc (pc' := 25) xD_146 rfl rfl rfl rfl ?_
        refine y_retI xD_146 rfl rfl ?_
        exact ⟨rfl, rfl⟩
      · skip
        exact absurd (Int32.le_refl _) h7
    | succ f ih =>
      intro g hg
      refine y_loc (pc' := 5) xD_146 rfl rfl rfl rfl ?_
      refine y_ci (pc' := 7) (24) xD_146 rfl rfl rfl rfl ?_
      refine y_icge (pt := 24) (pf := 10) xD_146 rfl rfl rfl (fun h7 => ?_) (fun h7 => ?_)
      · skip
        exact absurd h7 (nI_ge (a := g) (b := 24) (by omega) (by decide))
      · skip
        refine y_loc (pc' := 11) xD_146 rfl rfl rfl rfl ?_
        refine y_loc (pc' := 12) xD_146 rfl rfl rfl rfl ?_
        refine y_loc (pc' := 13) xD_146 rfl rfl rfl rfl ?_
        refine y_op (pc' := 14) xD_146 rfl rfl rfl rfl ?_
        refine y_ci (pc' := 15) (1) xD_146 rfl rfl rfl rfl ?_
        refine y_op (pc' := 16) xD_146 rfl rfl rfl rfl ?_
        refine y_iadd (pc' := 17) xD_146 rfl ((kb_bit (X := X) (g := g) (by omega))) rfl ?_
        refine y_loc (pc' := 18) xD_146 rfl rfl rfl rfl ?_
        refine y_inc (pc' := 21) (nI (g + 1)) xD_146 rfl rfl rfl (nI_1 (g)) rfl rfl ?_
        refine y_goto (pc' := 4) xD_146 rfl rfl ?_
        exact ih (g + 1) (by omega)
  refine y_ci (pc' := 1) (0) xD_146 rfl rfl rfl rfl ?_
  refine y_loc (pc' := 2) xD_146 rfl rfl rfl rfl ?_
  refine y_ci (pc' := 3) (0) xD_146 rfl rfl rfl rfl ?_
  refine y_loc (pc' := 4) xD_146 rfl rfl rfl rfl ?_
  exact loop 24 0 rfl
end BC

