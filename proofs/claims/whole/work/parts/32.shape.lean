/-! The memory behind the constructors: its shape (written by wip/gen/mk32.py), and rows for walks over it. -/
def kTl : List (Nat × Nat) := [(999, 0), (8, 9), (5, 4), (104, 2), (3, 7), (100, 10), (100, 10), (100, 10), (100, 10), (100, 10), (3, 7), (100, 10), (100, 10), (100, 10), (100, 10), (100, 10), (100, 12), (102, 12), (2, 3), (100, 20), (6, 3), (100, 8), (101, 24), (0, 2), (103, 24), (1, 7), (100, 24), (101, 6), (101, 24), (1, 7), (100, 24), (101, 6), (101, 24), (1, 7), (100, 24), (101, 6), (101, 24), (1, 7), (100, 24), (101, 6), (101, 24), (1, 7), (100, 24), (101, 6), (101, 24), (1, 7), (100, 24), (101, 6), (101, 24), (1, 7), (100, 24), (101, 6), (101, 24), (1, 7), (100, 24), (101, 6), (101, 24), (1, 7), (100, 24), (101, 6), (101, 24), (1, 7), (100, 24), (101, 6), (101, 24), (1, 7), (100, 24), (101, 6), (101, 24), (1, 7), (100, 24), (101, 6), (101, 24), (1, 7), (100, 24), (101, 6), (101, 24), (1, 7), (100, 24), (101, 6), (101, 24), (1, 7), (100, 24), (101, 6), (101, 24), (1, 7), (100, 24), (101, 6), (101, 24), (1, 7), (100, 24), (101, 6), (101, 24), (1, 7), (100, 24), (101, 6), (101, 24), (1, 7), (100, 24), (101, 6), (101, 24), (1, 7), (100, 24), (101, 6), (101, 24), (1, 7), (100, 24), (101, 6), (101, 24), (1, 7), (100, 24), (101, 6), (101, 24), (1, 7), (100, 24), (101, 6), (101, 24), (1, 7), (100, 24), (101, 6), (101, 24), (4, 2), (103, 7), (1, 7), (100, 24), (101, 6), (101, 24), (1, 7), (100, 24), (101, 6), (101, 24), (1, 7), (100, 24), (101, 6), (101, 24), (1, 7), (100, 24), (101, 6), (101, 24), (1, 7), (100, 24), (101, 6), (101, 24), (1, 7), (100, 24), (101, 6), (101, 24), (1, 7), (100, 24), (101, 6), (101, 24), (7, 3), (103, 24), (1, 7), (100, 24), (101, 6), (101, 24), (1, 7), (100, 24), (101, 6), (101, 24), (1, 7), (100, 24), (101, 6), (101, 24), (1, 7), (100, 24), (101, 6), (101, 24), (1, 7), (100, 24), (101, 6), (101, 24), (1, 7), (100, 24), (101, 6), (101, 24), (1, 7), (100, 24), (101, 6), (101, 24), (1, 7), (100, 24), (101, 6), (101, 24), (1, 7), (100, 24), (101, 6), (101, 24), (1, 7), (100, 24), (101, 6), (101, 24), (1, 7), (100, 24), (101, 6), (101, 24), (1, 7), (100, 24), (101, 6), (101, 24), (1, 7), (100, 24), (101, 6), (101, 24), (1, 7), (100, 24), (101, 6), (101, 24), (1, 7), (100, 24), (101, 6), (101, 24), (1, 7), (100, 24), (101, 6), (101, 24), (1, 7), (100, 24), (101, 6), (101, 24), (1, 7), (100, 24), (101, 6), (101, 24), (1, 7), (100, 24), (101, 6), (101, 24), (1, 7), (100, 24), (101, 6), (101, 24), (1, 7), (100, 24), (101, 6), (101, 24), (1, 7), (100, 24), (101, 6), (101, 24), (1, 7), (100, 24), (101, 6), (101, 24), (1, 7), (100, 24), (101, 6), (101, 24), (1, 7), (100, 24), (101, 6), (101, 24), (1, 7), (100, 24), (101, 6), (101, 24), (1, 7), (100, 24), (101, 6), (101, 24), (9, 22), (100, 1608), (100, 67), (100, 80), (100, 2), (102, 2), (100, 12), (100, 12), (100, 12), (102, 12), (100, 8), (101, 6), (101, 24), (101, 168), (100, 7), (100, 7), (100, 24)]
def kT (a : Nat) : Nat × Nat := kTl.getD a (999, 0)
def hh (I : Nat → Nat → Int32) (J : Nat → Nat → Int64) (R : Nat → Nat → Option Nat) : XH := (278, 5884, kT, I, J, R)
def kq (a : Nat) : Nat × Nat := if 1 ≤ a ∧ a < 278 then kT a else (999, 0)
def rfT : List (Nat × Nat × Nat) := [(1, 0, 2), (2, 0, 3), (4, 0, 5), (4, 1, 6), (4, 2, 7), (4, 3, 8), (4, 4, 9), (3, 0, 4), (10, 0, 11), (10, 1, 12), (10, 2, 13), (10, 3, 14), (10, 4, 15), (3, 1, 10), (2, 1, 16), (2, 2, 17), (1, 1, 18), (18, 0, 19), (1, 2, 20), (20, 0, 21), (20, 1, 22), (1, 3, 23), (23, 0, 24), (24, 0, 25), (24, 1, 29), (24, 2, 33), (24, 3, 37), (24, 4, 41), (24, 5, 45), (24, 6, 49), (24, 7, 53), (24, 8, 57), (24, 9, 61), (24, 10, 65), (24, 11, 69), (24, 12, 73), (24, 13, 77), (24, 14, 81), (24, 15, 85), (24, 16, 89), (24, 17, 93), (24, 18, 97), (24, 19, 101), (24, 20, 105), (24, 21, 109), (24, 22, 113), (24, 23, 117), (1, 4, 121), (121, 0, 122), (1, 5, 151), (151, 0, 152), (151, 1, 249), (1, 6, 253), (1, 7, 257), (261, 0, 262), (261, 1, 263), (261, 2, 264), (261, 3, 265), (261, 4, 266), (261, 5, 267), (261, 6, 268), (261, 7, 269), (261, 8, 270), (261, 15, 271), (261, 16, 272), (261, 17, 273), (261, 18, 274), (261, 19, 275), (261, 20, 276), (261, 21, 277)]
def rfF (a j : Nat) : Option Nat := (rfT.find? (fun q => q.1 == a && q.2.1 == j)).map (fun q => q.2.2)
def isCase (a : Nat) : Prop := (25 ≤ a ∧ a < 121 ∧ a % 4 = 1) ∨ (123 ≤ a ∧ a < 151 ∧ a % 4 = 3) ∨ (153 ≤ a ∧ a < 261 ∧ a % 4 = 1)
def isCaseB (a : Nat) : Bool := (decide (25 ≤ a) && decide (a < 121) && decide (a % 4 = 1)) || (decide (123 ≤ a) && decide (a < 151) && decide (a % 4 = 3)) || (decide (153 ≤ a) && decide (a < 261) && decide (a % 4 = 1))
theorem isCase_b {a : Nat} (h : isCase a) : isCaseB a = true := by
  unfold isCase at h
  unfold isCaseB
  rcases h with ⟨h1, h2, h3⟩ | ⟨h1, h2, h3⟩ | ⟨h1, h2, h3⟩ <;> simp [h1, h2, h3]
set_option maxRecDepth 100000 in
theorem kCaseB : (List.range 278).all (fun a => !isCaseB a || (decide (kq a = (1, 7)) && decide (kq (a + 1) = (100, 24)) && decide (kq (a + 2) = (101, 6)) && decide (kq (a + 3) = (101, 24)))) = true := by decide +kernel
theorem kCase {a : Nat} (h : isCase a) : kq a = (1, 7) ∧ kq (a + 1) = (100, 24) ∧ kq (a + 2) = (101, 6) ∧ kq (a + 3) = (101, 24) := by
  have hlt : a < 278 := by unfold isCase at h; omega
  have h1 := xall_r kCaseB hlt
  simp only [isCase_b h, Bool.not_true, Bool.false_or, Bool.and_eq_true, decide_eq_true_eq] at h1
  exact ⟨h1.1.1.1, h1.1.1.2, h1.1.2, h1.2⟩
/-- the references that stay: the fixed ones, and those of every case -/
def RF (R : Nat → Nat → Option Nat) : Prop := (∀ a j t, rfF a j = some t → R a j = some t) ∧ ∀ a, isCase a → R a 0 = some (a + 1) ∧ R a 1 = some (a + 2) ∧ R a 2 = some (a + 3)
section YR
variable {S : XS} {d k pc pc' len y a j ci n : Nat} {L L1 : XL} {st st' r as : List Value} {I : Nat → Nat → Int32} {J : Nat → Nat → Int64} {R : Nat → Nat → Option Nat} {h : XH} {Q Q' : Option Value → XH → Prop} {i : Instr} {v : Option Value} {T : List (Nat × Instr × Nat)} {x z : Int32} {w u : Int64}
theorem y_op (hD : XDec k T) (hd : xat T pc = some (i, len)) (hl : len = xlen i) (ho : xop i st = some st') (hp : pc + len = pc') (K : XP S d k pc' L st' h Q) : XP S d k pc L st h Q := x_op rfl (hD.at hd) hl ho hp K
theorem y_loc (hD : XDec k T) (hd : xat T pc = some (i, len)) (hl : len = xlen i) (ho : xloc i L st = some (L1, st')) (hp : pc + len = pc') (K : XP S d k pc' L1 st' h Q) : XP S d k pc L st h Q := x_loc rfl (hD.at hd) hl ho hp K
theorem y_ldc (hD : XDec k T) (hd : xat T pc = some (i, len)) (hl : len = xlen i) (ho : xmem S k i st h = some (st', h)) (hp : pc + len = pc') (K : XP S d k pc' L st' h Q) : XP S d k pc L st h Q := x_mem rfl (hD.at hd) hl ho hp K
theorem y_goto {off : Int} (hD : XDec k T) (hd : xat T pc = some (.goto off, 3)) (ht : xtg pc off = some pc') (K : XP S d k pc' L st h Q) : XP S d k pc L st h Q := x_goto rfl (hD.at hd) ht K
theorem y_if {cd : ClassFile.Cond} {off : Int} (hD : XDec k T) (hd : xat T pc = some (.ifCond cd off, 3)) (ht : xtg pc off = some pc') (kt : xcnd cd x 0 = true → XP S d k pc' L r h Q) (kf : xcnd cd x 0 = false → XP S d k (pc + 3) L r h Q) : XP S d k pc L (.int x :: r) h Q := x_if rfl (hD.at hd) ht kt kf
theorem y_icmp {cd : ClassFile.Cond} {off : Int} (hD : XDec k T) (hd : xat T pc = some (.if_icmp cd off, 3)) (ht : xtg pc off = some pc') (kt : xcnd cd x z = true → XP S d k pc' L r h Q) (kf : xcnd cd x z = false → XP S d k (pc + 3) L r h Q) : XP S d k pc L (.int z :: .int x :: r) h Q := x_icmp rfl (hD.at hd) ht kt kf
theorem y_jmp (hD : XDec k T) (hd : xat T pc = some (i, len)) (ho : xjmp i len pc st = some (pc', st')) (K : XP S d k pc' L st' h Q) : XP S d k pc L st h Q := x_jmp rfl (hD.at hd) ho K
theorem y_ret (hD : XDec k T) (hd : xat T pc = some (i, len)) (hr : xret k i len st = some v) (hq : Q v h) : XP S d k pc L st h Q := x_ret rfl (hD.at hd) hr hq
theorem y_call (hD : XDec k T) (hd : xat T pc = some (i, len)) (ho : xcall k i len st h = some (y, as, r)) (hcal : XP S d y 0 (xent as (xml y)) [] h Q') (kk : ∀ v h', Q' v h' → XP S (d + 1) k (pc + 3) L (v.toList ++ r) h' Q) : XP S (d + 1) k pc L st h Q := x_call rfl (hD.at hd) ho hcal kk
theorem xkd_hh : xkd (hh I J R) a = kq a := rfl
-- fields
theorem m_get {idx : Nat} {q : Value} (hD : XDec k T) (hd : xat T pc = some (.getfield idx, 3)) (hf : xfld (xkc k) idx = some (ci, j)) (hk : kq a = (ci, xnf ci)) (hv : xfv (xft ci j) (I a) (J a) (R a) j = q) (hp : pc + 3 = pc') (K : XP S d k pc' L (q :: r) (hh I J R) Q) : XP S d k pc L (.ref a :: r) (hh I J R) Q := by
  refine y_ldc hD hd rfl ?_ hp K
  show xgetf k idx (hh I J R) (.ref a :: r) = _
  unfold xgetf
  simp only [hf, xkd_hh, hk]
  rw [if_pos trivial]
  subst hv
  rfl
theorem m_getR {idx t : Nat} (hD : XDec k T) (hd : xat T pc = some (.getfield idx, 3)) (hf : xfld (xkc k) idx = some (ci, j)) (hk : kq a = (ci, xnf ci)) (hv : xfv (xft ci j) (I a) (J a) (R a) j = va_rf (R a j)) (hr : R a j = some t) (hp : pc + 3 = pc') (K : XP S d k pc' L (.ref t :: r) (hh I J R) Q) : XP S d k pc L (.ref a :: r) (hh I J R) Q := by
  refine m_get hD hd hf hk hv hp ?_
  rw [hr]
  exact K
theorem m_put {idx : Nat} {q : Value} {I' : Nat → Nat → Int32} {J' : Nat → Nat → Int64} (hD : XDec k T) (hd : xat T pc = some (.putfield idx, 3)) (hf : xfld (xkc k) idx = some (ci, j)) (hk : kq a = (ci, xnf ci)) (hpo : xpok k ci j = true) (hv : xfp (xft ci j) (hh I J R) a j q = some (hh I' J' R)) (hp : pc + 3 = pc') (K : XP S d k pc' L r (hh I' J' R) Q) : XP S d k pc L (q :: .ref a :: r) (hh I J R) Q := by
  refine x_mem rfl (hD.at hd) rfl ?_ hp K
  show xputf k idx (hh I J R) (q :: .ref a :: r) = _
  unfold xputf
  simp only [hf, xkd_hh, hk, hpo, and_self, if_true, hv]
  rfl
theorem m_putI {idx : Nat} (hD : XDec k T) (hd : xat T pc = some (.putfield idx, 3)) (hf : xfld (xkc k) idx = some (ci, j)) (hk : kq a = (ci, xnf ci)) (hpo : xpok k ci j = true) (hv : xft ci j = .int) (hp : pc + 3 = pc') (K : XP S d k pc' L r (hh (xu I a j x) J R) Q) : XP S d k pc L (.int x :: .ref a :: r) (hh I J R) Q := m_put hD hd hf hk hpo (by rw [hv]; rfl) hp K
theorem m_putZ {idx : Nat} (hx : x = 0 ∨ x = 1) (hD : XDec k T) (hd : xat T pc = some (.putfield idx, 3)) (hf : xfld (xkc k) idx = some (ci, j)) (hk : kq a = (ci, xnf ci)) (hpo : xpok k ci j = true) (hv : xft ci j = .boolean) (hp : pc + 3 = pc') (K : XP S d k pc' L r (hh (xu I a j x) J R) Q) : XP S d k pc L (.int x :: .ref a :: r) (hh I J R) Q := m_put hD hd hf hk hpo (by rw [hv]; show (if x = 0 ∨ x = 1 then _ else _) = _; rw [if_pos hx]; rfl) hp K
theorem m_putJ {idx : Nat} (hD : XDec k T) (hd : xat T pc = some (.putfield idx, 3)) (hf : xfld (xkc k) idx = some (ci, j)) (hk : kq a = (ci, xnf ci)) (hpo : xpok k ci j = true) (hv : xft ci j = .long) (hp : pc + 3 = pc') (K : XP S d k pc' L r (hh I (xu J a j w) R) Q) : XP S d k pc L (.long w :: .ref a :: r) (hh I J R) Q := m_put hD hd hf hk hpo (by rw [hv]; rfl) hp K
-- arrays: the index is nI j
theorem xinb_nI {j n : Nat} (h : j < n) (hn : n < 2000) : xinb (nI j) n = true := by
  unfold xinb
  exact decide_eq_true (nI_in h (by omega))
theorem nI_cl {j : Nat} (h : j < 2000) : (nI j).toNatClampNeg = j := nI_clamp (by omega)
theorem m_iald (j : Nat) (hD : XDec k T) (hd : xat T pc = some (.iaload, 1)) (hk : kq a = (100, n)) (hj : j < n) (hn : n < 2000) (ha : a ≠ 0) (hx : x = nI j) (hp : pc + 1 = pc') (K : XP S d k pc' L (.int (I a j) :: r) (hh I J R) Q) : XP S d k pc L (.int x :: .ref a :: r) (hh I J R) Q := by
  subst hx
  refine y_ldc hD hd rfl ?_ hp K
  show xiald S (hh I J R) (.int (nI j) :: .ref a :: r) = _
  unfold xiald
  simp only [if_neg ha, xkd_hh, hk, xinb_nI hj hn, nI_cl (Nat.lt_trans hj hn)]
  rfl
theorem m_zald (j : Nat) (hD : XDec k T) (hd : xat T pc = some (.baload, 1)) (hk : kq a = (102, n)) (hj : j < n) (hn : n < 2000) (hx : x = nI j) (hp : pc + 1 = pc') (K : XP S d k pc' L (.int (I a j) :: r) (hh I J R) Q) : XP S d k pc L (.int x :: .ref a :: r) (hh I J R) Q := by
  subst hx
  refine y_ldc hD hd rfl ?_ hp K
  show xzald (hh I J R) (.int (nI j) :: .ref a :: r) = _
  unfold xzald
  simp only [xkd_hh, hk, xinb_nI hj hn, nI_cl (Nat.lt_trans hj hn)]
  rfl
theorem m_jald (j : Nat) (hD : XDec k T) (hd : xat T pc = some (.laload, 1)) (hk : kq a = (101, n)) (hj : j < n) (hn : n < 2000) (hx : x = nI j) (hp : pc + 1 = pc') (K : XP S d k pc' L (.long (J a j) :: r) (hh I J R) Q) : XP S d k pc L (.int x :: .ref a :: r) (hh I J R) Q := by
  subst hx
  refine y_ldc hD hd rfl ?_ hp K
  show xjald (hh I J R) (.int (nI j) :: .ref a :: r) = _
  unfold xjald
  simp only [xkd_hh, hk, xinb_nI hj hn, nI_cl (Nat.lt_trans hj hn)]
  rfl
theorem m_aald (j : Nat) {q t : Nat} (hD : XDec k T) (hd : xat T pc = some (.aaload, 1)) (hk : kq a = (103 + q, n)) (hq : q < 2) (hj : j < n) (hn : n < 2000) (hx : x = nI j) (hr : R a j = some t) (hp : pc + 1 = pc') (K : XP S d k pc' L (.ref t :: r) (hh I J R) Q) : XP S d k pc L (.int x :: .ref a :: r) (hh I J R) Q := by
  subst hx
  refine y_ldc hD hd rfl ?_ hp K
  show xaald (hh I J R) (.int (nI j) :: .ref a :: r) = _
  unfold xaald
  simp only [xkd_hh, hk, xinb_nI hj hn, nI_cl (Nat.lt_trans hj hn)]
  rw [if_pos ⟨by omega, by unfold xnq; omega, trivial⟩]
  show some (va_rf (R a j) :: r, hh I J R) = _
  rw [hr]
  rfl
theorem m_iast (j : Nat) (hD : XDec k T) (hd : xat T pc = some (.iastore, 1)) (hk : kq a = (100, n)) (hj : j < n) (hn : n < 2000) (hx : x = nI j) (hp : pc + 1 = pc') (K : XP S d k pc' L r (hh (xu I a j z) J R) Q) : XP S d k pc L (.int z :: .int x :: .ref a :: r) (hh I J R) Q := by
  subst hx
  refine x_mem rfl (hD.at hd) rfl ?_ hp K
  show xiast (hh I J R) (.int z :: .int (nI j) :: .ref a :: r) = _
  unfold xiast
  simp only [xkd_hh, hk, xinb_nI hj hn, nI_cl (Nat.lt_trans hj hn)]
  rfl
theorem m_zast (j : Nat) (hz : z = 0 ∨ z = 1) (hD : XDec k T) (hd : xat T pc = some (.bastore, 1)) (hk : kq a = (102, n)) (hj : j < n) (hn : n < 2000) (hx : x = nI j) (hp : pc + 1 = pc') (K : XP S d k pc' L r (hh (xu I a j z) J R) Q) : XP S d k pc L (.int z :: .int x :: .ref a :: r) (hh I J R) Q := by
  subst hx
  refine x_mem rfl (hD.at hd) rfl ?_ hp K
  show xzast (hh I J R) (.int z :: .int (nI j) :: .ref a :: r) = _
  unfold xzast
  simp only [xkd_hh, hk, xinb_nI hj hn, nI_cl (Nat.lt_trans hj hn)]
  rw [if_pos ⟨trivial, trivial, hz⟩]
  rfl
theorem m_jast (j : Nat) (hD : XDec k T) (hd : xat T pc = some (.lastore, 1)) (hk : kq a = (101, n)) (hj : j < n) (hn : n < 2000) (hx : x = nI j) (hp : pc + 1 = pc') (K : XP S d k pc' L r (hh I (xu J a j w) R) Q) : XP S d k pc L (.long w :: .int x :: .ref a :: r) (hh I J R) Q := by
  subst hx
  refine x_mem rfl (hD.at hd) rfl ?_ hp K
  show xjast (hh I J R) (.long w :: .int (nI j) :: .ref a :: r) = _
  unfold xjast
  simp only [xkd_hh, hk, xinb_nI hj hn, nI_cl (Nat.lt_trans hj hn)]
  rfl
theorem m_aast (j : Nat) {q t : Nat} (hD : XDec k T) (hd : xat T pc = some (.aastore, 1)) (hk : kq a = (103 + q, n)) (hq : q < 2) (hj : j < n) (hn : n < 2000) (hx : x = nI j) (ht : kq t = (xqc q, xnf (xqc q))) (hp : pc + 1 = pc') (K : XP S d k pc' L r (hh I J (xu R a j (some t))) Q) : XP S d k pc L (.ref t :: .int x :: .ref a :: r) (hh I J R) Q := by
  subst hx
  refine x_mem rfl (hD.at hd) rfl ?_ hp K
  show xaast (hh I J R) (.ref t :: .int (nI j) :: .ref a :: r) = _
  unfold xaast
  simp only [xkd_hh, hk, xinb_nI hj hn, nI_cl (Nat.lt_trans hj hn)]
  rw [if_pos ⟨by omega, by unfold xnq; omega, trivial, by rw [show 103 + q - 103 = q by omega]; exact ht⟩]
  rfl
-- conditions
theorem c_eq {x z : Int32} : xcnd .eq x z = true ↔ x = z := by simp [xcnd]
theorem c_ne {x z : Int32} : xcnd .ne x z = true ↔ ¬ x = z := by simp [xcnd]
theorem c_lt {x z : Int32} : xcnd .lt x z = true ↔ x < z := by simp [xcnd]
theorem c_ge {x z : Int32} : xcnd .ge x z = true ↔ z ≤ x := by simp [xcnd]
theorem c_gt {x z : Int32} : xcnd .gt x z = true ↔ z < x := by simp [xcnd]
theorem c_le {x z : Int32} : xcnd .le x z = true ↔ x ≤ z := by simp [xcnd]
theorem cf_eq {x z : Int32} : xcnd .eq x z = false ↔ ¬ x = z := by simp [xcnd]
theorem cf_ne {x z : Int32} : xcnd .ne x z = false ↔ x = z := by simp [xcnd]
theorem cf_lt {x z : Int32} : xcnd .lt x z = false ↔ ¬ x < z := by simp [xcnd]
theorem cf_ge {x z : Int32} : xcnd .ge x z = false ↔ ¬ z ≤ x := by simp [xcnd]
theorem cf_gt {x z : Int32} : xcnd .gt x z = false ↔ ¬ z < x := by simp [xcnd]
theorem cf_le {x z : Int32} : xcnd .le x z = false ↔ ¬ x ≤ z := by simp [xcnd]
end YR
section YB
variable {S : XS} {d k pc pt pf : Nat} {L : XL} {r : List Value} {h : XH} {Q : Option Value → XH → Prop} {T : List (Nat × Instr × Nat)} {x z : Int32} {off : Int}
theorem y_ifeq (hD : XDec k T) (hd : xat T pc = some (.ifCond .eq off, 3)) (ht : xtg pc off = some pt) (hp : pc + 3 = pf) (kt : x = 0 → XP S d k pt L r h Q) (kf : ¬ x = 0 → XP S d k pf L r h Q) : XP S d k pc L (.int x :: r) h Q := by
  subst hp
  exact y_if hD hd ht (fun q => kt (c_eq.mp q)) (fun q => kf (cf_eq.mp q))
theorem y_iceq (hD : XDec k T) (hd : xat T pc = some (.if_icmp .eq off, 3)) (ht : xtg pc off = some pt) (hp : pc + 3 = pf) (kt : x = z → XP S d k pt L r h Q) (kf : ¬ x = z → XP S d k pf L r h Q) : XP S d k pc L (.int z :: .int x :: r) h Q := by
  subst hp
  exact y_icmp hD hd ht (fun q => kt (c_eq.mp q)) (fun q => kf (cf_eq.mp q))
theorem y_ifne (hD : XDec k T) (hd : xat T pc = some (.ifCond .ne off, 3)) (ht : xtg pc off = some pt) (hp : pc + 3 = pf) (kt : ¬ x = 0 → XP S d k pt L r h Q) (kf : x = 0 → XP S d k pf L r h Q) : XP S d k pc L (.int x :: r) h Q := by
  subst hp
  exact y_if hD hd ht (fun q => kt (c_ne.mp q)) (fun q => kf (cf_ne.mp q))
theorem y_icne (hD : XDec k T) (hd : xat T pc = some (.if_icmp .ne off, 3)) (ht : xtg pc off = some pt) (hp : pc + 3 = pf) (kt : ¬ x = z → XP S d k pt L r h Q) (kf : x = z → XP S d k pf L r h Q) : XP S d k pc L (.int z :: .int x :: r) h Q := by
  subst hp
  exact y_icmp hD hd ht (fun q => kt (c_ne.mp q)) (fun q => kf (cf_ne.mp q))
theorem y_iflt (hD : XDec k T) (hd : xat T pc = some (.ifCond .lt off, 3)) (ht : xtg pc off = some pt) (hp : pc + 3 = pf) (kt : x < 0 → XP S d k pt L r h Q) (kf : ¬ x < 0 → XP S d k pf L r h Q) : XP S d k pc L (.int x :: r) h Q := by
  subst hp
  exact y_if hD hd ht (fun q => kt (c_lt.mp q)) (fun q => kf (cf_lt.mp q))
theorem y_iclt (hD : XDec k T) (hd : xat T pc = some (.if_icmp .lt off, 3)) (ht : xtg pc off = some pt) (hp : pc + 3 = pf) (kt : x < z → XP S d k pt L r h Q) (kf : ¬ x < z → XP S d k pf L r h Q) : XP S d k pc L (.int z :: .int x :: r) h Q := by
  subst hp
  exact y_icmp hD hd ht (fun q => kt (c_lt.mp q)) (fun q => kf (cf_lt.mp q))
theorem y_ifge (hD : XDec k T) (hd : xat T pc = some (.ifCond .ge off, 3)) (ht : xtg pc off = some pt) (hp : pc + 3 = pf) (kt : 0 ≤ x → XP S d k pt L r h Q) (kf : ¬ 0 ≤ x → XP S d k pf L r h Q) : XP S d k pc L (.int x :: r) h Q := by
  subst hp
  exact y_if hD hd ht (fun q => kt (c_ge.mp q)) (fun q => kf (cf_ge.mp q))
theorem y_icge (hD : XDec k T) (hd : xat T pc = some (.if_icmp .ge off, 3)) (ht : xtg pc off = some pt) (hp : pc + 3 = pf) (kt : z ≤ x → XP S d k pt L r h Q) (kf : ¬ z ≤ x → XP S d k pf L r h Q) : XP S d k pc L (.int z :: .int x :: r) h Q := by
  subst hp
  exact y_icmp hD hd ht (fun q => kt (c_ge.mp q)) (fun q => kf (cf_ge.mp q))
theorem y_ifgt (hD : XDec k T) (hd : xat T pc = some (.ifCond .gt off, 3)) (ht : xtg pc off = some pt) (hp : pc + 3 = pf) (kt : 0 < x → XP S d k pt L r h Q) (kf : ¬ 0 < x → XP S d k pf L r h Q) : XP S d k pc L (.int x :: r) h Q := by
  subst hp
  exact y_if hD hd ht (fun q => kt (c_gt.mp q)) (fun q => kf (cf_gt.mp q))
theorem y_icgt (hD : XDec k T) (hd : xat T pc = some (.if_icmp .gt off, 3)) (ht : xtg pc off = some pt) (hp : pc + 3 = pf) (kt : z < x → XP S d k pt L r h Q) (kf : ¬ z < x → XP S d k pf L r h Q) : XP S d k pc L (.int z :: .int x :: r) h Q := by
  subst hp
  exact y_icmp hD hd ht (fun q => kt (c_gt.mp q)) (fun q => kf (cf_gt.mp q))
theorem y_ifle (hD : XDec k T) (hd : xat T pc = some (.ifCond .le off, 3)) (ht : xtg pc off = some pt) (hp : pc + 3 = pf) (kt : x ≤ 0 → XP S d k pt L r h Q) (kf : ¬ x ≤ 0 → XP S d k pf L r h Q) : XP S d k pc L (.int x :: r) h Q := by
  subst hp
  exact y_if hD hd ht (fun q => kt (c_le.mp q)) (fun q => kf (cf_le.mp q))
theorem y_icle (hD : XDec k T) (hd : xat T pc = some (.if_icmp .le off, 3)) (ht : xtg pc off = some pt) (hp : pc + 3 = pf) (kt : x ≤ z → XP S d k pt L r h Q) (kf : ¬ x ≤ z → XP S d k pf L r h Q) : XP S d k pc L (.int z :: .int x :: r) h Q := by
  subst hp
  exact y_icmp hD hd ht (fun q => kt (c_le.mp q)) (fun q => kf (cf_le.mp q))
end YB
section YT
variable {S : XS} {d k pc : Nat} {L : XL} {h : XH} {Q : Option Value → XH → Prop} {T : List (Nat × Instr × Nat)} {x : Int32} {w : Int64} {a : Nat}
theorem y_retI (hD : XDec k T) (hd : xat T pc = some (.ireturn, 1)) (hr : xrty k = some .int) (hq : Q (some (.int x)) h) : XP S d k pc L [.int x] h Q := y_ret hD hd (by unfold xret; simp [hr]) hq
theorem y_retZ (hD : XDec k T) (hd : xat T pc = some (.ireturn, 1)) (hr : xrty k = some .boolean) (hx : x = 0 ∨ x = 1) (hq : Q (some (.int x)) h) : XP S d k pc L [.int x] h Q := y_ret hD hd (by unfold xret; simp [hr, hx]) hq
theorem y_retJ (hD : XDec k T) (hd : xat T pc = some (.lreturn, 1)) (hr : xrty k = some .long) (hq : Q (some (.long w)) h) : XP S d k pc L [.long w] h Q := y_ret hD hd (by unfold xret; simp [hr]) hq
theorem y_retV (hD : XDec k T) (hd : xat T pc = some (.return_, 1)) (hr : xrty k = none) (hq : Q none h) : XP S d k pc L [] h Q := y_ret hD hd (by unfold xret; simp [hr]) hq
theorem y_retA (hD : XDec k T) (hd : xat T pc = some (.areturn, 1)) (hr : xrob k = true) (hq : Q (some (.ref a)) h) : XP S d k pc L [.ref a] h Q := y_ret hD hd (by unfold xret; simp [hr]) hq
theorem y_retN (hD : XDec k T) (hd : xat T pc = some (.areturn, 1)) (hr : xrob k = true) (hq : Q (some .null) h) : XP S d k pc L [.null] h Q := y_ret hD hd (by unfold xret; simp [hr]) hq
end YT
section YC
variable {S : XS} {d k pc y a n idx : Nat} {L : XL} {st r as : List Value} {I : Nat → Nat → Int32} {J : Nat → Nat → Int64} {R : Nat → Nat → Option Nat} {h : XH} {Q Q' : Option Value → XH → Prop} {T : List (Nat × Instr × Nat)}
theorem y_callV (hD : XDec k T) (hd : xat T pc = some (.invokevirtual idx, 3)) (hx : xcal (xkc k) idx = some (y, n)) (hm : xmk y = 1) (hdr : st.drop n = .ref a :: r) (hk : kq a = (xkc y, xnf (xkc y))) (hn : Nat.ble n st.length = true) (hw : Nat.ble (xwid r) 8 = true) (has : (.ref a :: (st.take n).reverse) = as) (hw2 : Nat.ble (xwid as) (xml y) = true) (hcal : XP S d y 0 (xent as (xml y)) [] (hh I J R) Q') (kk : ∀ v h', Q' v h' → XP S (d + 1) k (pc + 3) L (v.toList ++ r) h' Q) : XP S (d + 1) k pc L st (hh I J R) Q := by
  subst has
  refine y_call hD hd ?_ hcal kk
  unfold xcall
  simp only [hx, hdr, hm, xkd_hh, hk, Nat.le_of_ble_eq_true hn, Nat.le_of_ble_eq_true hw, Nat.le_of_ble_eq_true hw2, and_self, if_true]
theorem y_callS (hD : XDec k T) (hd : xat T pc = some (.invokestatic idx, 3)) (hx : xcal (xkc k) idx = some (y, n)) (hm : xmk y = 0) (hdr : st.drop n = r) (hn : Nat.ble n st.length = true) (hw : Nat.ble (xwid r) 8 = true) (has : (st.take n).reverse = as) (hw2 : Nat.ble (xwid as) (xml y) = true) (hcal : XP S d y 0 (xent as (xml y)) [] h Q') (kk : ∀ v h', Q' v h' → XP S (d + 1) k (pc + 3) L (v.toList ++ r) h' Q) : XP S (d + 1) k pc L st h Q := by
  subst has; subst hdr
  refine y_call hD hd ?_ hcal kk
  unfold xcall
  simp only [hx, hm, Nat.le_of_ble_eq_true hn, Nat.le_of_ble_eq_true hw, Nat.le_of_ble_eq_true hw2, and_self, if_true]
theorem y_callI (hD : XDec k T) (hd : xat T pc = some (.invokespecial idx, 3)) (hx : xcal (xkc k) idx = some (y, n)) (hm : xmk y = 2) (hdr : st.drop n = .ref a :: r) (hn : Nat.ble n st.length = true) (hw : Nat.ble (xwid r) 8 = true) (has : (.ref a :: (st.take n).reverse) = as) (hw2 : Nat.ble (xwid as) (xml y) = true) (hcal : XP S d y 0 (xent as (xml y)) [] h Q') (kk : ∀ v h', Q' v h' → XP S (d + 1) k (pc + 3) L (v.toList ++ r) h' Q) : XP S (d + 1) k pc L st h Q := by
  subst has
  refine y_call hD hd ?_ hcal kk
  unfold xcall
  simp only [hx, hdr, hm, Nat.le_of_ble_eq_true hn, Nat.le_of_ble_eq_true hw, Nat.le_of_ble_eq_true hw2, and_self, if_true]
end YC
def rI (x : Int32) (h : XH) : Option Value → XH → Prop := fun v h' => v = some (.int x) ∧ h' = h
def rJ (x : Int64) (h : XH) : Option Value → XH → Prop := fun v h' => v = some (.long x) ∧ h' = h
def rV (h : XH) : Option Value → XH → Prop := fun v h' => v = none ∧ h' = h
def rA (a : Nat) (h : XH) : Option Value → XH → Prop := fun v h' => v = some (.ref a) ∧ h' = h
def zB (b : Bool) : Int32 := if b then 1 else 0
theorem zB_or (b : Bool) : zB b = 0 ∨ zB b = 1 := by cases b <;> simp [zB]
theorem rI_t {P : Prop} [Decidable P] {h : XH} (hp : P) : rI (zB (decide P)) h (some (.int 1)) h := ⟨by simp [zB, hp], rfl⟩
theorem rI_f {P : Prop} [Decidable P] {h : XH} (hp : ¬ P) : rI (zB (decide P)) h (some (.int 0)) h := ⟨by simp [zB, hp], rfl⟩
section YN
variable {S : XS} {d k pc pc' a a0 idx : Nat} {L : XL} {st st' r : List Value} {I : Nat → Nat → Int32} {J : Nat → Nat → Int64} {R : Nat → Nat → Option Nat} {h h' : XH} {Q : Option Value → XH → Prop} {T : List (Nat × Instr × Nat)}
theorem y_nat (hD : XDec k T) (hd : xat T pc = some (.invokestatic idx, 3)) (hcl : xcal (xkc k) idx = none) (ho : xnatv d k (.invokestatic idx) st h = some (st', h')) (hp : pc + 3 = pc') (K : XP S d k pc' L st' h' Q) : XP S d k pc L st h Q := by
  refine XP.one rfl (hD.at hd) (by unfold xret; rfl) (by unfold xcall; simp only [hcl]; rfl) (fun L' hL => ⟨L', ?_, hL⟩) K
  subst hp
  show x1 S d k (.invokestatic idx) 3 pc L' st h = _
  unfold x1
  simp only [xjmp, xop, xloc, xmem, ho]
  rfl
theorem m_cpyI {n0 n1 : Nat} (sp dp n : Nat) {xs xd xn : Int32} (hD : XDec k T) (hd : xat T pc = some (.invokestatic idx, 3)) (hcl : xcal (xkc k) idx = none) (hna : xnat (xkc k) idx = some 7) (hp : pc + 3 = pc') (h0 : kq a0 = (100, n0)) (h1 : kq a = (100, n1)) (hs : sp + n ≤ n0) (hdd : dp + n ≤ n1) (hb0 : n0 < 2000) (hb1 : n1 < 2000) (e1 : xs = nI sp) (e2 : xd = nI dp) (e3 : xn = nI n) (hw : Nat.ble (xwid r) 8 = true)
    (K : XP S (d + 1) k pc' L r (hh (xrow I a (va_cpy (I a0) (I a) sp dp n)) J R) Q) : XP S (d + 1) k pc L (.int xn :: .int xd :: .ref a :: .int xs :: .ref a0 :: r) (hh I J R) Q := by
  subst e1; subst e2; subst e3
  refine y_nat hD hd hcl ?_ hp K
  unfold xnatv
  simp only [hna, Option.bind_some, xnatS]
  unfold xcpy
  simp only [xkd_hh, h0, h1, nI_cl (show sp < 2000 by omega), nI_cl (show dp < 2000 by omega), nI_cl (show n < 2000 by omega)]
  rw [if_neg (by omega), if_pos trivial, if_pos ⟨Nat.le_of_ble_eq_true hw, nI_pos (by omega), nI_pos (by omega), nI_pos (by omega), hs, hdd⟩, if_pos ⟨trivial, trivial⟩]
  rfl
theorem m_cpyJ {n0 n1 : Nat} (sp dp n : Nat) {xs xd xn : Int32} (hD : XDec k T) (hd : xat T pc = some (.invokestatic idx, 3)) (hcl : xcal (xkc k) idx = none) (hna : xnat (xkc k) idx = some 7) (hp : pc + 3 = pc') (h0 : kq a0 = (101, n0)) (h1 : kq a = (101, n1)) (hs : sp + n ≤ n0) (hdd : dp + n ≤ n1) (hb0 : n0 < 2000) (hb1 : n1 < 2000) (e1 : xs = nI sp) (e2 : xd = nI dp) (e3 : xn = nI n) (hw : Nat.ble (xwid r) 8 = true)
    (K : XP S (d + 1) k pc' L r (hh I (xrow J a (va_cpy (J a0) (J a) sp dp n)) R) Q) : XP S (d + 1) k pc L (.int xn :: .int xd :: .ref a :: .int xs :: .ref a0 :: r) (hh I J R) Q := by
  subst e1; subst e2; subst e3
  refine y_nat hD hd hcl ?_ hp K
  unfold xnatv
  simp only [hna, Option.bind_some, xnatS]
  unfold xcpy
  simp only [xkd_hh, h0, h1, nI_cl (show sp < 2000 by omega), nI_cl (show dp < 2000 by omega), nI_cl (show n < 2000 by omega)]
  rw [if_neg (by omega), if_pos trivial, if_pos ⟨Nat.le_of_ble_eq_true hw, nI_pos (by omega), nI_pos (by omega), nI_pos (by omega), hs, hdd⟩, if_neg (by omega), if_pos ⟨trivial, trivial⟩]
  rfl
end YN
section YK
variable {S : XS} {d k pc pc' len : Nat} {L : XL} {st : List Value} {h : XH} {Q : Option Value → XH → Prop} {i : Instr} {T : List (Nat × Instr × Nat)}
theorem y_ci (v : Int32) (hD : XDec k T) (hd : xat T pc = some (i, len)) (hl : len = xlen i) (ho : xop i st = some (.int v :: st)) (hp : pc + len = pc') (K : XP S d k pc' L (.int v :: st) h Q) : XP S d k pc L st h Q := y_op hD hd hl ho hp K
theorem y_cj (v : Int64) (hD : XDec k T) (hd : xat T pc = some (i, len)) (hl : len = xlen i) (ho : xop i st = some (.long v :: st)) (hp : pc + len = pc') (K : XP S d k pc' L (.long v :: st) h Q) : XP S d k pc L st h Q := y_op hD hd hl ho hp K
theorem y_inc {x : Int32} {i0 : Nat} {n : Int} {L1 : XL} (v : Int32) (hD : XDec k T) (hd : xat T pc = some (.iinc i0 n, 3)) (hx : xld L i0 = some (.int x)) (hi : Nat.blt i0 L.length = true) (hv : x + Int32.ofInt n = v) (hL : xst1 L i0 (.int v) = L1) (hp : pc + 3 = pc') (K : XP S d k pc' L1 st h Q) : XP S d k pc L st h Q := by
  refine y_loc hD hd rfl ?_ hp K
  show xinc L i0 n st = _
  unfold xinc
  simp only [hx]
  rw [if_pos (show i0 < L.length from Nat.le_of_ble_eq_true hi), hv, hL]
end YK
theorem rI_e {x y : Int32} {h : XH} (e : x = y) : rI y h (some (.int x)) h := ⟨by rw [e], rfl⟩
theorem rJ_e {x y : Int64} {h : XH} (e : x = y) : rJ y h (some (.long x)) h := ⟨by rw [e], rfl⟩
theorem zB_0 {P : Prop} [Decidable P] : zB (decide P) = 0 ↔ ¬ P := by
  by_cases h : P <;> simp [zB, h]
theorem zB_n0 {P : Prop} [Decidable P] : ¬ zB (decide P) = 0 ↔ P := by
  by_cases h : P <;> simp [zB, h]

