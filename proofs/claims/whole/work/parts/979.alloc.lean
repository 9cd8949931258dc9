/-! The constructors: the memory grows to its shape. -/
def kz (z a : Nat) : Nat × Nat := if a < z then kT a else (999, 0)
def sz : Nat → Nat
  | 0 => 0
  | z + 1 => sz z + (kT z).2
/-- the memory while it is built: z is the next address; all ints are 0 -/
def gh (z : Nat) (J : Nat → Nat → Int64) (R : Nat → Nat → Option Nat) : XH := (z, sz z, kz z, fun _ _ => 0, J, R)
theorem xrow_z {α : Type} {f : Nat → Nat → α} {a : Nat} {v : α} (h : ∀ i, f a i = v) : xrow f a (fun _ => v) = f := by
  funext x y
  unfold xrow
  split
  · rename_i e; rw [e]; exact (h y).symm
  · rfl
theorem kq_kT {z : Nat} (h : 1 ≤ z ∧ z < 278) : kq z = kT z := by unfold kq; rw [if_pos h]
theorem gh_new {z t n : Nat} {J : Nat → Nat → Int64} {R : Nat → Nat → Option Nat} (hz : 1 ≤ z ∧ z < 278) (hk : kq z = (t, n)) (hJ : ∀ i, J z i = 0) : xnew (gh z J R) t n = gh (z + 1) J (xrow R z (fun _ => none)) := by
  rw [kq_kT hz] at hk
  unfold xnew gh
  show (z + 1, sz z + n, _, xrow (fun _ _ => (0 : Int32)) z (fun _ => 0), xrow J z (fun _ => 0), _) = (z + 1, sz z + (kT z).2, _, _, _, _)
  rw [xrow_z (fun _ => rfl), xrow_z hJ, hk]
  refine Prod.ext rfl (Prod.ext rfl (Prod.ext ?_ rfl))
  funext x
  show (if x = z then (t, n) else kz z x) = kz (z + 1) x
  unfold kz
  by_cases e : x = z
  · rw [if_pos e, if_pos (by omega), e, hk]
  · rw [if_neg e]
    by_cases l : x < z
    · rw [if_pos l, if_pos (by omega)]
    · rw [if_neg l, if_neg (by omega)]
theorem gh_kd {z a : Nat} {J : Nat → Nat → Int64} {R : Nat → Nat → Option Nat} (ha : a < z) (hz : z ≤ 278) : xkd (gh z J R) a = kq a := by
  unfold xkd kq
  show (if 1 ≤ a ∧ a < z then kz z a else (999, 0)) = _
  unfold kz
  by_cases e : 1 ≤ a
  · rw [if_pos (show 1 ≤ a ∧ a < z from ⟨e, ha⟩), if_pos (show a < z from ha), if_pos (show 1 ≤ a ∧ a < 278 from ⟨e, by omega⟩)]
  · rw [if_neg (fun q => e q.1), if_neg (fun q => e q.1)]
set_option maxRecDepth 100000 in
theorem gh_end {J : Nat → Nat → Int64} {R : Nat → Nat → Option Nat} : gh 278 J R = hh (fun _ _ => 0) J R := by
  unfold gh hh
  refine Prod.ext rfl (Prod.ext (show sz 278 = 5884 from by decide +kernel) (Prod.ext ?_ rfl))
  funext a
  show kz 278 a = kT a
  unfold kz
  by_cases e : a < 278
  · rw [if_pos e]
  · rw [if_neg e]
    unfold kT
    have : kTl.length = 278 := by decide +kernel
    rw [List.getD_eq_getElem?_getD, List.getElem?_eq_none (by omega)]
    rfl
theorem gh_0 : xh0 = gh 1 (fun _ _ => 0) (fun _ _ => none) := by
  unfold xh0 gh
  refine Prod.ext rfl (Prod.ext (show 0 = sz 1 from by decide) (Prod.ext ?_ rfl))
  funext a
  show (999, 0) = kz 1 a
  unfold kz
  by_cases e : a < 1
  · rw [if_pos e, show a = 0 by omega]; rfl
  · rw [if_neg e]
section GR
variable {S : XS} {d k pc pc' len a j ci n idx z t : Nat} {L : XL} {st r : List Value} {J : Nat → Nat → Int64} {R : Nat → Nat → Option Nat} {Q : Option Value → XH → Prop} {T : List (Nat × Instr × Nat)} {i : Instr} {x : Int32} {w : Int64} {h : XH}
theorem g_new (hD : XDec k T) (hd : xat T pc = some (.new idx, 3)) (hc : xnwc (xkc k) idx = some ci) (hz : 1 ≤ z ∧ z < 278) (hk : kq z = (ci, xnf ci)) (hJ : ∀ i, J z i = 0) (hp : pc + 3 = pc') (K : XP S d k pc' L (.ref z :: st) (gh (z + 1) J (xrow R z (fun _ => none))) Q) : XP S d k pc L st (gh z J R) Q := by
  refine x_mem rfl (hD.at hd) rfl ?_ hp K
  show (xnwc (xkc k) idx).bind (fun ci => xnwo ci (gh z J R) st) = _
  rw [hc]
  show some (Value.ref z :: st, xnew (gh z J R) ci (xnf ci)) = _
  rw [gh_new hz hk hJ]
theorem g_arr (n : Nat) (hD : XDec k T) (hd : xat T pc = some (i, len)) (hl : len = xlen i) (hx : xmem S k i (.int x :: r) (gh z J R) = xnwa t (gh z J R) (.int x :: r)) (hz : 1 ≤ z ∧ z < 278) (hk : kq z = (100 + t, n)) (hn : n < 2000) (he : x = nI n) (hJ : ∀ i, J z i = 0) (hp : pc + len = pc') (K : XP S d k pc' L (.ref z :: r) (gh (z + 1) J (xrow R z (fun _ => none))) Q) : XP S d k pc L (.int x :: r) (gh z J R) Q := by
  refine x_mem rfl (hD.at hd) hl ?_ hp K
  rw [hx]
  unfold xnwa
  simp only [he, nI_cl hn]
  rw [if_pos ⟨nI_pos (by omega), by omega⟩]
  show some (Value.ref z :: r, xnew (gh z J R) (100 + t) n) = _
  rw [gh_new hz hk hJ]
theorem g_put {q : Value} {h' : XH} (hD : XDec k T) (hd : xat T pc = some (.putfield idx, 3)) (hf : xfld (xkc k) idx = some (ci, j)) (ha : a < z) (hz : z ≤ 278) (hk : kq a = (ci, xnf ci)) (hpo : xpok k ci j = true) (hv : xfp (xft ci j) (gh z J R) a j q = some h') (hp : pc + 3 = pc') (K : XP S d k pc' L r h' Q) : XP S d k pc L (q :: .ref a :: r) (gh z J R) Q := by
  refine x_mem rfl (hD.at hd) rfl ?_ hp K
  show xputf k idx (gh z J R) (q :: .ref a :: r) = _
  unfold xputf
  simp only [hf, gh_kd ha hz, hk, hpo, and_self, if_true, hv]
  rfl
theorem g_put0 (hD : XDec k T) (hd : xat T pc = some (.putfield idx, 3)) (hf : xfld (xkc k) idx = some (ci, j)) (ha : a < z) (hz : z ≤ 278) (hk : kq a = (ci, xnf ci)) (hpo : xpok k ci j = true) (hv : xft ci j = .int ∨ xft ci j = .boolean) (hp : pc + 3 = pc') (K : XP S d k pc' L r (gh z J R) Q) : XP S d k pc L (.int 0 :: .ref a :: r) (gh z J R) Q := by
  have e : xsI (gh z J R) (xu (xhI (gh z J R)) a j 0) = gh z J R := by
    refine Prod.ext rfl (Prod.ext rfl (Prod.ext rfl (Prod.ext ?_ rfl)))
    funext x y
    show (if x = a ∧ y = j then (0 : Int32) else 0) = 0
    split <;> rfl
  refine g_put hD hd hf ha hz hk hpo ?_ hp K
  rcases hv with q | q
  · rw [q]
    show some (xsI (gh z J R) (xu (xhI (gh z J R)) a j 0)) = _
    rw [e]
  · rw [q]
    show (if (0 : Int32) = 0 ∨ (0 : Int32) = 1 then some (xsI (gh z J R) (xu (xhI (gh z J R)) a j 0)) else none) = _
    rw [if_pos (Or.inl rfl), e]
theorem g_putJ (hD : XDec k T) (hd : xat T pc = some (.putfield idx, 3)) (hf : xfld (xkc k) idx = some (ci, j)) (ha : a < z) (hz : z ≤ 278) (hk : kq a = (ci, xnf ci)) (hpo : xpok k ci j = true) (hv : xft ci j = .long) (hp : pc + 3 = pc') (K : XP S d k pc' L r (gh z (xu J a j w) R) Q) : XP S d k pc L (.long w :: .ref a :: r) (gh z J R) Q := g_put hD hd hf ha hz hk hpo (by rw [hv]; rfl) hp K
theorem g_putR (hD : XDec k T) (hd : xat T pc = some (.putfield idx, 3)) (hf : xfld (xkc k) idx = some (ci, j)) (ha : a < z) (hz : z ≤ 278) (hk : kq a = (ci, xnf ci)) (hpo : xpok k ci j = true) (hv : xfp (xft ci j) (gh z J R) a j (.ref t) = some (gh z J (xu R a j (some t)))) (hp : pc + 3 = pc') (K : XP S d k pc' L r (gh z J (xu R a j (some t))) Q) : XP S d k pc L (.ref t :: .ref a :: r) (gh z J R) Q := g_put hD hd hf ha hz hk hpo hv hp K
theorem g_aast (j : Nat) {q t : Nat} (hD : XDec k T) (hd : xat T pc = some (.aastore, 1)) (ha : a < z) (ht' : t < z) (hz : z ≤ 278) (hk : kq a = (103 + q, n)) (hq : q < 2) (hj : j < n) (hn : n < 2000) (hx : x = nI j) (ht : kq t = (xqc q, xnf (xqc q))) (hp : pc + 1 = pc') (K : XP S d k pc' L r (gh z J (xu R a j (some t))) Q) : XP S d k pc L (.ref t :: .int x :: .ref a :: r) (gh z J R) Q := by
  subst hx
  refine x_mem rfl (hD.at hd) rfl ?_ hp K
  show xaast (gh z J R) (.ref t :: .int (nI j) :: .ref a :: r) = _
  unfold xaast
  simp only [gh_kd ha hz, gh_kd ht' hz, hk, xinb_nI hj hn, nI_cl (Nat.lt_trans hj hn)]
  rw [if_pos ⟨by omega, by unfold xnq; omega, trivial, by rw [show 103 + q - 103 = q by omega]; exact ht⟩]
  rfl
theorem g_obj (hD : XDec k T) (hd : xat T pc = some (.invokespecial idx, 3)) (hcl : xcal (xkc k) idx = none) (hna : xnat (xkc k) idx = some 0) (hw : Nat.ble (xwid r) 8 = true) (hp : pc + 3 = pc') (K : XP S (d + 1) k pc' L r h Q) : XP S (d + 1) k pc L (.ref a :: r) h Q := by
  refine XP.one rfl (hD.at hd) (by unfold xret; rfl) (by unfold xcall; simp only [hcl]; rfl) (fun L' hL => ⟨L', ?_, hL⟩) K
  subst hp
  have ho : xnatv (d + 1) k (.invokespecial idx) (.ref a :: r) h = some (r, h) := by
    unfold xnatv
    rw [if_neg (by omega)]
    simp only [hna, xn0]
    rw [if_pos trivial, if_pos (Nat.le_of_ble_eq_true hw)]
    rfl
  show x1 S (d + 1) k (.invokespecial idx) 3 pc L' (.ref a :: r) h = _
  unfold x1
  simp only [xjmp, xop, xloc, xmem, ho]
  rfl
theorem s_case (ha : isCase a) (hJ : ∀ x, a < x → ∀ i, J x i = 0) : XP S (d + 1) 7 0 (xent [.ref a] 1) [] (gh (a + 1) J R) (fun v h' => v = none ∧ ∃ R', h' = gh (a + 4) J R' ∧ (R' a 0 = some (a + 1) ∧ R' a 1 = some (a + 2) ∧ R' a 2 = some (a + 3)) ∧ ∀ x, x < a → R' x = R x) := by
  obtain ⟨k0, k1, k2, k3⟩ := kCase ha
  have hz : 1 ≤ a ∧ a + 3 < 278 := by unfold isCase at ha; omega
  refine y_loc (pc' := 1) xD_7 rfl rfl rfl rfl ?_
  refine g_obj (pc' := 4) xD_7 rfl rfl rfl rfl rfl ?_
  refine y_loc (pc' := 5) xD_7 rfl rfl rfl rfl ?_
  refine y_ci (pc' := 7) (24) xD_7 rfl rfl rfl rfl ?_
  refine g_arr (pc' := 9) (24) xD_7 rfl rfl rfl (by first | decide | omega) (by first | rfl | assumption) (by first | decide | assumption | omega) rfl (by first | exact hJ _ (by first | decide | omega) | assumption) rfl ?_
  refine g_putR (pc' := 12) xD_7 rfl rfl (by first | decide | omega) (by first | decide | omega) (by first | rfl | assumption) rfl rfl rfl ?_
  refine y_loc (pc' := 13) xD_7 rfl rfl rfl rfl ?_
  refine y_ci (pc' := 15) (6) xD_7 rfl rfl rfl rfl ?_
  refine g_arr (pc' := 17) (6) xD_7 rfl rfl rfl (by first | decide | omega) (by first | rfl | assumption) (by first | decide | assumption | omega) rfl (by first | exact hJ _ (by first | decide | omega) | assumption) rfl ?_
  refine g_putR (pc' := 20) xD_7 rfl rfl (by first | decide | omega) (by first | decide | omega) (by first | rfl | assumption) rfl rfl rfl ?_
  refine y_loc (pc' := 21) xD_7 rfl rfl rfl rfl ?_
  refine y_ci (pc' := 23) (24) xD_7 rfl rfl rfl rfl ?_
  refine g_arr (pc' := 25) (24) xD_7 rfl rfl rfl (by first | decide | omega) (by first | rfl | assumption) (by first | decide | assumption | omega) rfl (by first | exact hJ _ (by first | decide | omega) | assumption) rfl ?_
  refine g_putR (pc' := 28) xD_7 rfl rfl (by first | decide | omega) (by first | decide | omega) (by first | rfl | assumption) rfl rfl rfl ?_
  refine y_loc (pc' := 29) xD_7 rfl rfl rfl rfl ?_
  refine y_ci (pc' := 30) (0) xD_7 rfl rfl rfl rfl ?_
  refine g_put0 (pc' := 33) xD_7 rfl rfl (by first | decide | omega) (by first | decide | omega) (by first | rfl | assumption) rfl (by decide) rfl ?_
  refine y_loc (pc' := 34) xD_7 rfl rfl rfl rfl ?_
  refine y_ci (pc' := 35) (0) xD_7 rfl rfl rfl rfl ?_
  refine g_put0 (pc' := 38) xD_7 rfl rfl (by first | decide | omega) (by first | decide | omega) (by first | rfl | assumption) rfl (by decide) rfl ?_
  refine y_loc (pc' := 39) xD_7 rfl rfl rfl rfl ?_
  refine y_ci (pc' := 40) (0) xD_7 rfl rfl rfl rfl ?_
  refine g_put0 (pc' := 43) xD_7 rfl rfl (by first | decide | omega) (by first | decide | omega) (by first | rfl | assumption) rfl (by decide) rfl ?_
  refine y_loc (pc' := 44) xD_7 rfl rfl rfl rfl ?_
  refine y_ci (pc' := 45) (0) xD_7 rfl rfl rfl rfl ?_
  refine g_put0 (pc' := 48) xD_7 rfl rfl (by first | decide | omega) (by first | decide | omega) (by first | rfl | assumption) rfl (by decide) rfl ?_
  refine y_retV xD_7 rfl rfl ?_
  refine ⟨rfl, _, rfl, ⟨?_, ?_, ?_⟩, fun x hx => ?_⟩
  · unfold xu xrow; simp; omega
  · unfold xu xrow; simp; omega
  · unfold xu xrow; simp
  · rw [xu_ne (by omega), xrow_ne (by omega), xu_ne (by omega), xrow_ne (by omega), xu_ne (by omega), xrow_ne (by omega)]
theorem s_cases (hz : 1 ≤ z ∧ z + 1 + 4 * n ≤ 278) (hk : kq z = (103, n)) (hc : ∀ i, i < n → isCase (z + 1 + 4 * i)) (hJ : ∀ x, z ≤ x → ∀ i, J x i = 0) : XP S (d + 2) 6 0 (xent [.int (nI n)] 3) [] (gh z J R) (fun v h' => v = some (.ref z) ∧ ∃ R', h' = gh (z + 1 + 4 * n) J R' ∧ (∀ i, i < n → R' z i = some (z + 1 + 4 * i)) ∧ (∀ i, i < n → R' (z + 1 + 4 * i) 0 = some (z + 1 + 4 * i + 1) ∧ R' (z + 1 + 4 * i) 1 = some (z + 1 + 4 * i + 2) ∧ R' (z + 1 + 4 * i) 2 = some (z + 1 + 4 * i + 3)) ∧ ∀ x, x < z → R' x = R x) := by
  have lp : ∀ m i, i + m = n → ∀ R', (∀ q, q < i → R' z q = some (z + 1 + 4 * q)) → (∀ q, q < i → R' (z + 1 + 4 * q) 0 = some (z + 1 + 4 * q + 1) ∧ R' (z + 1 + 4 * q) 1 = some (z + 1 + 4 * q + 2) ∧ R' (z + 1 + 4 * q) 2 = some (z + 1 + 4 * q + 3)) → (∀ x, x < z → R' x = R x) → XP S (d + 2) 6 7 [some (.int (nI n)), some (.ref z), some (.int (nI i))] [] (gh (z + 1 + 4 * i) J R') (fun v h' => v = some (.ref z) ∧ ∃ R', h' = gh (z + 1 + 4 * n) J R' ∧ (∀ i, i < n → R' z i = some (z + 1 + 4 * i)) ∧ (∀ i, i < n → R' (z + 1 + 4 * i) 0 = some (z + 1 + 4 * i + 1) ∧ R' (z + 1 + 4 * i) 1 = some (z + 1 + 4 * i + 2) ∧ R' (z + 1 + 4 * i) 2 = some (z + 1 + 4 * i + 3)) ∧ ∀ x, x < z → R' x = R x) := by
    intro m
    induction m with
    | zero =>
      intro i hi R' f1 f2 f3
      have e : i = n := by omega
      subst e
      refine y_loc (pc' := 8) xD_6 rfl rfl rfl rfl ?_
      refine y_loc (pc' := 9) xD_6 rfl rfl rfl rfl ?_
      refine y_icge (pt := 28) (pf := 12) xD_6 rfl rfl rfl (fun h9 => ?_) (fun h9 => ?_)
      · skip
        refine y_loc (pc' := 29) xD_6 rfl rfl rfl rfl ?_
        refine y_retA xD_6 rfl rfl ?_
        exact ⟨rfl, R', rfl, f1, f2, f3⟩
      · exact absurd (Int32.le_refl _) h9
    | succ m ih =>
      intro i hi R' f1 f2 f3
      have ii : i < n := by omega
      obtain ⟨c0, c1, c2, c3⟩ := kCase (hc i ii)
      refine y_loc (pc' := 8) xD_6 rfl rfl rfl rfl ?_
      refine y_loc (pc' := 9) xD_6 rfl rfl rfl rfl ?_
      refine y_icge (pt := 28) (pf := 12) xD_6 rfl rfl rfl (fun h9 => ?_) (fun h9 => ?_)
      · exact absurd h9 (Int32.not_le.mpr (nI_lt ii (by omega)))
      · skip
        refine y_loc (pc' := 13) xD_6 rfl rfl rfl rfl ?_
        refine y_loc (pc' := 14) xD_6 rfl rfl rfl rfl ?_
        refine g_new (pc' := 17) xD_6 rfl rfl (by first | decide | omega) (by first | rfl | assumption) (by first | exact hJ _ (by first | decide | omega) | assumption) rfl ?_
        refine y_op (pc' := 18) xD_6 rfl rfl rfl rfl ?_
        refine y_callI xD_6 rfl rfl rfl rfl rfl rfl rfl rfl (s_case (d := d) (hc i ii) (fun x hx q => hJ x (by omega) q)) (fun v h' hq => ?_)
        obtain ⟨rfl, R2, rfl, g1, g2⟩ := hq
        refine g_aast (pc' := 22) (q := 0) i xD_6 rfl (by omega) (by omega) (by omega) hk (by decide) ii (by omega) rfl c0 rfl ?_
        refine y_inc (pc' := 25) (nI (i + 1)) xD_6 rfl rfl rfl (nI_1 (i)) rfl rfl ?_
        refine y_goto (pc' := 7) xD_6 rfl rfl ?_
        refine ih (i + 1) (by omega) _ (fun q hq => ?_) (fun q hq => ?_) (fun x hx => ?_)
        · by_cases e : q = i
          · rw [e, xu_ii]
          · show (if _ then _ else _) = _
            rw [if_neg (fun t => e t.2), g2 z (by omega), xrow_ne (by omega)]
            exact f1 q (by omega)
        · rw [xu_ne (by omega)]
          by_cases e : q = i
          · rw [e]; exact g1
          · rw [g2 _ (by omega), xrow_ne (by omega)]
            exact f2 q (by omega)
        · rw [xu_ne (by omega), g2 x (by omega), xrow_ne (by omega)]
          exact f3 x hx
  have hn : n < 2000 := by omega
  refine y_loc (pc' := 1) xD_6 rfl rfl rfl rfl ?_
  refine g_arr (pc' := 4) (n) xD_6 rfl rfl rfl (by first | decide | omega) (by first | rfl | assumption) (by first | decide | assumption | omega) rfl (hJ z (Nat.le_refl _)) rfl ?_
  refine y_loc (pc' := 5) xD_6 rfl rfl rfl rfl ?_
  refine y_ci (pc' := 6) (0) xD_6 rfl rfl rfl rfl ?_
  refine y_loc (pc' := 7) xD_6 rfl rfl rfl rfl ?_
  exact lp n 0 (by omega) _ (fun q hq => absurd hq (Nat.not_lt_zero _)) (fun q hq => absurd hq (Nat.not_lt_zero _)) (fun x hx => xrow_ne (by omega))
end GR

