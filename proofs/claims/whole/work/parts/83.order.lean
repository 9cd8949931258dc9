/-! putInOrder: the model. -/
def kAct (nd al : Nat → Int32) (ar : Nat → CA) (nb : Nat) : Int32 := aS (opn nd al (fS ar (2 * nb))) (fS ar (2 * nb)) (2 * nb)
def kFp (P : Nat → Nat → Int32) (nb : Nat) (pop : Nat → CA) : Nat → Nat → Int64 := fun k g => kF P nb (pop k) g
def kSz (pop : Nat → CA) : Nat → Nat := fun k => (pop k).1
section PO
variable {S : XS} {d n nb : Nat} {I P : Nat → Nat → Int32} {J : Nat → Nat → Int64} {R : Nat → Nat → Option Nat} {pop : Nat → CA} {ar : Nat → CA}
theorem s_putInOrder (hR : RF R) (hn : n ≤ 7) (hn0 : 0 < n) (hP : MPg I P nb) (hM : MAr I ar) (hp : ∀ k, k < n → WC (pop k) ∧ RM I k (pop k)) {act : Int32} (hact : act = kAct (I 269) (I 270) ar nb) {F : Nat → Nat → Int64} (eF : F = kFp P nb pop) {sz : Nat → Nat} (eS : sz = kSz pop) {fr cr : Nat → Nat} (efr : fr = ff F sz act n n) (ecr : cr = fun k => cw F act fr k n) {s : Nat → Nat} (hO : isO fr cr sz n s) :
    XP S (d + 7) 131 0 (xent [.ref 261, .int (nI n)] 6) [] (hh I J R) (fun v h' => v = none ∧ ∃ I' J', h' = hh I' J' R ∧ (∀ p, p < n → RM I' p (pop (s p))) ∧ I' 261 11 = nI (if n ≤ 5 then n else 5) ∧ (∀ j, j ≠ 11 → I' 261 j = I 261 j) ∧ SF (fun t => n ≤ t ∧ t < 60) I I' ∧ (∀ x, x ≠ 261 → x ≠ 262 → x ≠ 263 → x ≠ 271 → x ≠ 275 → x ≠ 276 → x ≠ 277 → I' x = I x) ∧ ∀ x, x ≠ 272 → x ≠ 273 → x ≠ 274 → J' x = J x) := by
  have nb2 := hP.1.2.1
  have e2 : (2 : Int32) * nI nb = nI (2 * nb) := pk_mul 2 nb
  have act2 : ∀ g, g < 24 → ib act g = true → g < 2 * nb := fun g hg q => by
    rw [hact] at q
    exact ((ib_aS (by omega) (2 * nb) (by omega)).mp q).1
  have frk : ∀ k, fr k ≤ 8 := fun k => by rw [efr]; have := ff_ok (F := F) (sz := sz) (act := act) (n := n) n k; omega
  have szk : ∀ k, k < n → I 263 k = nI (sz k) ∧ sz k ≤ 6 := fun k hk => by rw [eS]; exact ⟨(hp k hk).2.1, (hp k hk).1.1⟩
  -- the crowds
  have crow : ∀ (m k : Nat), k + m = n → ∀ I' J' (q4 q5 : Option Value), FM J' F act n → (∀ j, j < n → I' 275 j = nI (e0 (fr j))) → (∀ j, j < k → I' 276 j = nI (cr j)) → (∀ j, j < k → RM I' (60 + j) (pop j)) → SF (fun t => t < 60) I I' → (∀ x, x ≠ 262 → x ≠ 263 → x ≠ 271 → x ≠ 275 → x ≠ 276 → I' x = I x) → (∀ x, x ≠ 272 → x ≠ 273 → x ≠ 274 → J' x = J x) → XP S (d + 7) 131 106 [some (.ref 261), some (.int (nI n)), some (.int act), some (.int (nI k)), q4, q5] [] (hh I' J' R) (fun v h' => v = none ∧ ∃ I' J', h' = hh I' J' R ∧ (∀ p, p < n → RM I' p (pop (s p))) ∧ I' 261 11 = nI (if n ≤ 5 then n else 5) ∧ (∀ j, j ≠ 11 → I' 261 j = I 261 j) ∧ SF (fun t => n ≤ t ∧ t < 60) I I' ∧ (∀ x, x ≠ 261 → x ≠ 262 → x ≠ 263 → x ≠ 271 → x ≠ 275 → x ≠ 276 → x ≠ 277 → I' x = I x) ∧ ∀ x, x ≠ 272 → x ≠ 273 → x ≠ 274 → J' x = J x) := by
    intro m
    induction m with
    | zero =>
      intro k hk I' J' q4 q5 hF h5 h6 h60 hsf hx hj
      have hk : k = n := by omega
      subst hk
      refine y_loc (pc' := 107) xD_131 rfl rfl rfl rfl ?_
      refine y_loc (pc' := 108) xD_131 rfl rfl rfl rfl ?_
      refine y_icge (pt := 206) (pf := 111) xD_131 rfl rfl rfl (fun h108 => ?_) (fun h108 => ?_)
      · skip
        refine y_loc (pc' := 207) xD_131 rfl rfl rfl rfl ?_
        refine y_loc (pc' := 208) xD_131 rfl rfl rfl rfl ?_
        refine y_callV xD_131 rfl rfl rfl rfl (by first | rfl | assumption) rfl rfl rfl rfl (s_rearrange (d := d + 5) (n := k) (fr := fr) (cr := cr) (sz := sz) (pop := pop) hR hn hO (fun j hj => ⟨h5 j hj, frk j⟩) (fun j hj => ⟨h6 j hj, by rw [ecr]; exact cw_le _⟩) (fun j hj => ⟨(hsf j (show j < 60 by omega)).1.trans (szk j hj).1, (szk j hj).2⟩) (fun j hj => ⟨(hp j hj).1, h60 j hj⟩)) (fun v h' hq => ?_)
        obtain ⟨rfl, I2, rfl, r2, p2, f2, s2, x2⟩ := hq
        refine y_retV xD_131 rfl rfl ?_
        exact ⟨rfl, I2, J', rfl, r2, p2, fun j hj => (f2 j hj).trans (by rw [hx 261 (by decide) (by decide) (by decide) (by decide) (by decide)]), (hsf.w (fun t ht => ht.2)).tr (s2.w (fun t ht => ht.1)), fun x a b c e f g i => (x2 x a b c i).trans (hx x b c e f g), hj⟩
      · skip
        exact absurd (Int32.le_refl _) h108
    | succ m ih =>
      intro k hk I' J' q4 q5 hF h5 h6 h60 hsf hx hj
      have k7 : k < 7 := by omega
      have inner : ∀ (m o : Nat), o + m = n → ∀ (I1 : Nat → Nat → Int32) (q5 : Option Value), (∀ x, x ≠ 276 → I1 x = I' x) → (∀ j, j ≠ k → I1 276 j = I' 276 j) → I1 276 k = nI (cw F act fr k o) → XP S (d + 7) 131 121 [some (.ref 261), some (.int (nI n)), some (.int act), some (.int (nI k)), some (.int (nI o)), q5] [] (hh I1 J' R) (fun v h' => v = none ∧ ∃ I' J', h' = hh I' J' R ∧ (∀ p, p < n → RM I' p (pop (s p))) ∧ I' 261 11 = nI (if n ≤ 5 then n else 5) ∧ (∀ j, j ≠ 11 → I' 261 j = I 261 j) ∧ SF (fun t => n ≤ t ∧ t < 60) I I' ∧ (∀ x, x ≠ 261 → x ≠ 262 → x ≠ 263 → x ≠ 271 → x ≠ 275 → x ≠ 276 → x ≠ 277 → I' x = I x) ∧ ∀ x, x ≠ 272 → x ≠ 273 → x ≠ 274 → J' x = J x) := by
        intro m
        induction m with
        | zero =>
          intro o ho I1 q5 y1 y2 y3
          have ho : o = n := by omega
          subst ho
          have e60 : (60 : Int32) + nI k = nI (60 + k) := nI_add 60 k
          have sf1 : SF (fun t => True) I' I1 := SF.rfl' (y1 262 (by decide)) (y1 263 (by decide))
          have rk : RM I1 k (pop k) := ((hp k (by omega)).2.sf (hp k (by omega)).1 hsf (show k < 60 by omega)).sf (hp k (by omega)).1 sf1 trivial
          have z1 : ∀ j, j < o → xu (xrow I1 262 (sl1 (I1 262) (60 + k) (slM I1 k))) 263 (60 + k) (I1 263 k) 275 j = nI (e0 (fr j)) := by
            intro j hj
            rw [xu_ne (by decide), xrow_ne (by decide), y1 275 (by decide)]; exact h5 j hj
          have z2 : ∀ j, j < k + 1 → xu (xrow I1 262 (sl1 (I1 262) (60 + k) (slM I1 k))) 263 (60 + k) (I1 263 k) 276 j = nI (cr j) := by
            intro j hj
            rw [xu_ne (by decide), xrow_ne (by decide)]
            by_cases e : j = k
            · subst e; rw [y3, ecr]
            · rw [y2 j e]; exact h6 j (by omega)
          have z3 : ∀ j, j < k + 1 → RM (xu (xrow I1 262 (sl1 (I1 262) (60 + k) (slM I1 k))) 263 (60 + k) (I1 263 k)) (60 + j) (pop j) := by
            intro j hj
            by_cases e : j = k
            · subst e; exact RM_cp (hp j (by omega)).1 rk
            · exact ((h60 j (by omega)).sf (hp j (by omega)).1 sf1 trivial).sf (hp j (by omega)).1 SF_cp (show 60 + j ≠ 60 + k by omega)
          have z4 : SF (fun t => t < 60) I (xu (xrow I1 262 (sl1 (I1 262) (60 + k) (slM I1 k))) 263 (60 + k) (I1 263 k)) := (hsf.tr (sf1.w (fun _ _ => trivial))).tr (SF_cp.w (fun t (ht : t < 60) => show t ≠ 60 + k by omega))
          have z5 : ∀ x, x ≠ 262 → x ≠ 263 → x ≠ 271 → x ≠ 275 → x ≠ 276 → xu (xrow I1 262 (sl1 (I1 262) (60 + k) (slM I1 k))) 263 (60 + k) (I1 263 k) x = I x := by
            intro x a b c e f
            rw [xu_ne b, xrow_ne a, y1 x f]; exact hx x a b c e f
          refine y_loc (pc' := 123) xD_131 rfl rfl rfl rfl ?_
          refine y_loc (pc' := 124) xD_131 rfl rfl rfl rfl ?_
          refine y_icge (pt := 191) (pf := 127) xD_131 rfl rfl rfl (fun h124 => ?_) (fun h124 => ?_)
          · skip
            refine y_loc (pc' := 192) xD_131 rfl rfl rfl rfl ?_
            refine y_loc (pc' := 193) xD_131 rfl rfl rfl rfl ?_
            refine y_ci (pc' := 195) (60) xD_131 rfl rfl rfl rfl ?_
            refine y_loc (pc' := 196) xD_131 rfl rfl rfl rfl ?_
            refine y_iadd (pc' := 197) xD_131 rfl (e60) rfl ?_
            refine y_callV xD_131 rfl rfl rfl rfl (by first | rfl | assumption) rfl rfl rfl rfl (s_mcopy (d := d + 6) hR (s := k) (t := 60 + k) (by omega) (by omega) (by omega) rfl rfl) (fun v h' hq => ?_)
            obtain ⟨rfl, rfl⟩ := hq
            refine y_inc (pc' := 203) (nI (k + 1)) xD_131 rfl rfl rfl (nI_1 (k)) rfl rfl ?_
            refine y_goto (pc' := 106) xD_131 rfl rfl ?_
            exact ih (k + 1) (by omega) _ J' _ _ hF z1 z2 z3 z4 z5 hj
          · skip
            exact absurd (Int32.le_refl _) h124
        | succ m ih2 =>
          intro o ho I1 q5 y1 y2 y3
          have o7 : o < 7 := by omega
          have fo : I1 275 o = nI (e0 (fr o)) := by rw [y1 275 (by decide)]; exact h5 o (by omega)
          have fk : I1 275 k = nI (e0 (fr k)) := by rw [y1 275 (by decide)]; exact h5 k (by omega)
          have u1 := frk o
          have u2 := frk k
          have g1 : e0 (fr o) ≤ 30 := by unfold e0; split <;> omega
          have g2 : e0 (fr k) ≤ 30 := by unfold e0; split <;> omega
          have ef : nI (e0 (fr o)) = nI (e0 (fr k)) ↔ fr o = fr k := by
            rw [nI_inj (by omega) (by omega)]
            unfold e0; constructor
            · intro q; split at q <;> split at q <;> omega
            · intro q; rw [q]
          have b1 := bt_le (F := F) (act := act) (o := o) (k := k)
          have b2 := cw_le (F := F) (act := act) (fr := fr) (k := k) o
          have lw : ∀ z, z ≤ 24 → (nI z ≤ nI (cw F act fr k o) ↔ z ≤ cw F act fr k o) := fun z hz => nI_leI (by omega) (by omega)
          have tail2 : ∀ z : Int32, z = nI (cw F act fr k (o + 1)) → ∀ q5 : Option Value, XP S (d + 7) 131 184 [some (.ref 261), some (.int (nI n)), some (.int act), some (.int (nI k)), some (.int (nI o)), q5] [.int z, .int (nI k), .ref 276] (hh I1 J' R) (fun v h' => v = none ∧ ∃ I' J', h' = hh I' J' R ∧ (∀ p, p < n → RM I' p (pop (s p))) ∧ I' 261 11 = nI (if n ≤ 5 then n else 5) ∧ (∀ j, j ≠ 11 → I' 261 j = I 261 j) ∧ SF (fun t => n ≤ t ∧ t < 60) I I' ∧ (∀ x, x ≠ 261 → x ≠ 262 → x ≠ 263 → x ≠ 271 → x ≠ 275 → x ≠ 276 → x ≠ 277 → I' x = I x) ∧ ∀ x, x ≠ 272 → x ≠ 273 → x ≠ 274 → J' x = J x) := by
            intro z hz q5
            refine m_iast (pc' := 185) (k) xD_131 rfl (by first | rfl | assumption) (by first | assumption | omega) (by first | decide | assumption) (by first | rfl | assumption) rfl ?_
            refine y_inc (pc' := 188) (nI (o + 1)) xD_131 rfl rfl rfl (nI_1 (o)) rfl rfl ?_
            refine y_goto (pc' := 121) xD_131 rfl rfl ?_
            refine ih2 (o + 1) (by omega) _ _ (fun x hx => by rw [xu_ne hx]; exact y1 x hx) (fun j hj => ?_) (by rw [xu_ii]; exact hz)
            show (if _ then _ else _) = _
            rw [if_neg (fun q => hj q.2)]; exact y2 j hj
          have tail : ∀ z : Nat, z ≤ 24 → cw F act fr k (o + 1) = (if z ≤ cw F act fr k o then cw F act fr k o else z) → XP S (d + 7) 131 155 [some (.ref 261), some (.int (nI n)), some (.int act), some (.int (nI k)), some (.int (nI o)), q5] [.int (nI z)] (hh I1 J' R) (fun v h' => v = none ∧ ∃ I' J', h' = hh I' J' R ∧ (∀ p, p < n → RM I' p (pop (s p))) ∧ I' 261 11 = nI (if n ≤ 5 then n else 5) ∧ (∀ j, j ≠ 11 → I' 261 j = I 261 j) ∧ SF (fun t => n ≤ t ∧ t < 60) I I' ∧ (∀ x, x ≠ 261 → x ≠ 262 → x ≠ 263 → x ≠ 271 → x ≠ 275 → x ≠ 276 → x ≠ 277 → I' x = I x) ∧ ∀ x, x ≠ 272 → x ≠ 273 → x ≠ 274 → J' x = J x) := by
            intro z hz e
            refine y_loc (pc' := 157) xD_131 rfl rfl rfl rfl ?_
            refine y_loc (pc' := 158) xD_131 rfl rfl rfl rfl ?_
            first | refine m_getR (pc' := 161) xD_131 rfl rfl rfl rfl (hR.1 _ _ _ rfl) rfl ?_ | refine m_getR (pc' := 161) xD_131 rfl rfl (by first | rfl | assumption) rfl (by assumption) rfl ?_
            refine y_loc (pc' := 162) xD_131 rfl rfl rfl rfl ?_
            refine y_loc (pc' := 164) xD_131 rfl rfl rfl rfl ?_
            refine y_loc (pc' := 165) xD_131 rfl rfl rfl rfl ?_
            first | refine m_getR (pc' := 168) xD_131 rfl rfl rfl rfl (hR.1 _ _ _ rfl) rfl ?_ | refine m_getR (pc' := 168) xD_131 rfl rfl (by first | rfl | assumption) rfl (by assumption) rfl ?_
            refine y_loc (pc' := 169) xD_131 rfl rfl rfl rfl ?_
            refine m_iald (pc' := 170) (k) xD_131 rfl (by first | rfl | assumption) (by first | assumption | omega) (by first | decide | assumption) (by first | decide | omega) (by first | rfl | assumption) rfl ?_
            rw [y3]
            refine y_icle (pt := 178) (pf := 173) xD_131 rfl rfl rfl (fun h170 => ?_) (fun h170 => ?_)
            · skip
              refine y_loc (pc' := 179) xD_131 rfl rfl rfl rfl ?_
              first | refine m_getR (pc' := 182) xD_131 rfl rfl rfl rfl (hR.1 _ _ _ rfl) rfl ?_ | refine m_getR (pc' := 182) xD_131 rfl rfl (by first | rfl | assumption) rfl (by assumption) rfl ?_
              refine y_loc (pc' := 183) xD_131 rfl rfl rfl rfl ?_
              refine m_iald (pc' := 184) (k) xD_131 rfl (by first | rfl | assumption) (by first | assumption | omega) (by first | decide | assumption) (by first | decide | omega) (by first | rfl | assumption) rfl ?_
              rw [y3]
              first
              | exact tail2 _ (by rw [e, if_pos ((lw z hz).mp h170)]) _
              | exact tail2 _ (by rw [e, if_neg (fun q => h170 ((lw z hz).mpr q))]) _
            · skip
              refine y_loc (pc' := 175) xD_131 rfl rfl rfl rfl ?_
              refine y_goto (pc' := 184) xD_131 rfl rfl ?_
              first
              | exact tail2 _ (by rw [e, if_pos ((lw z hz).mp h170)]) _
              | exact tail2 _ (by rw [e, if_neg (fun q => h170 ((lw z hz).mpr q))]) _
          refine y_loc (pc' := 123) xD_131 rfl rfl rfl rfl ?_
          refine y_loc (pc' := 124) xD_131 rfl rfl rfl rfl ?_
          refine y_icge (pt := 191) (pf := 127) xD_131 rfl rfl rfl (fun h124 => ?_) (fun h124 => ?_)
          · skip
            exact absurd h124 (nI_ge (a := o) (b := n) (by omega) (by omega))
          · skip
            refine y_loc (pc' := 128) xD_131 rfl rfl rfl rfl ?_
            first | refine m_getR (pc' := 131) xD_131 rfl rfl rfl rfl (hR.1 _ _ _ rfl) rfl ?_ | refine m_getR (pc' := 131) xD_131 rfl rfl (by first | rfl | assumption) rfl (by assumption) rfl ?_
            refine y_loc (pc' := 133) xD_131 rfl rfl rfl rfl ?_
            refine m_iald (pc' := 134) (o) xD_131 rfl (by first | rfl | assumption) (by first | assumption | omega) (by first | decide | assumption) (by first | decide | omega) (by first | rfl | assumption) rfl ?_
            rw [fo]
            refine y_loc (pc' := 135) xD_131 rfl rfl rfl rfl ?_
            first | refine m_getR (pc' := 138) xD_131 rfl rfl rfl rfl (hR.1 _ _ _ rfl) rfl ?_ | refine m_getR (pc' := 138) xD_131 rfl rfl (by first | rfl | assumption) rfl (by assumption) rfl ?_
            refine y_loc (pc' := 139) xD_131 rfl rfl rfl rfl ?_
            refine m_iald (pc' := 140) (k) xD_131 rfl (by first | rfl | assumption) (by first | assumption | omega) (by first | decide | assumption) (by first | decide | omega) (by first | rfl | assumption) rfl ?_
            rw [fk]
            refine y_icne (pt := 154) (pf := 143) xD_131 rfl rfl rfl (fun h140 => ?_) (fun h140 => ?_)
            · skip
              refine y_ci (pc' := 155) (0) xD_131 rfl rfl rfl rfl ?_
              first
              | exact tail (bt F act o k) (by omega) (by simp only [cw]; rw [if_pos (ef.mp h140)])
              | exact tail 0 (by omega) (by simp only [cw]; rw [if_neg (fun q => h140 (ef.mpr q)), if_pos (Nat.zero_le _)])
            · skip
              refine y_loc (pc' := 144) xD_131 rfl rfl rfl rfl ?_
              refine y_loc (pc' := 146) xD_131 rfl rfl rfl rfl ?_
              refine y_loc (pc' := 147) xD_131 rfl rfl rfl rfl ?_
              refine y_loc (pc' := 148) xD_131 rfl rfl rfl rfl ?_
              refine y_callV xD_131 rfl rfl rfl rfl (by first | rfl | assumption) rfl rfl rfl rfl (s_better (d := d + 5) (F := F) (n := n) hR hn hF (o := o) (k := k) (by omega) (by omega) rfl rfl) (fun v h' hq => ?_)
              obtain ⟨rfl, rfl⟩ := hq
              refine y_goto (pc' := 155) xD_131 rfl rfl ?_
              first
              | exact tail (bt F act o k) (by omega) (by simp only [cw]; rw [if_pos (ef.mp h140)])
              | exact tail 0 (by omega) (by simp only [cw]; rw [if_neg (fun q => h140 (ef.mpr q)), if_pos (Nat.zero_le _)])
      refine y_loc (pc' := 107) xD_131 rfl rfl rfl rfl ?_
      refine y_loc (pc' := 108) xD_131 rfl rfl rfl rfl ?_
      refine y_icge (pt := 206) (pf := 111) xD_131 rfl rfl rfl (fun h108 => ?_) (fun h108 => ?_)
      · skip
        exact absurd h108 (nI_ge (a := k) (b := n) (by omega) (by omega))
      · skip
        refine y_loc (pc' := 112) xD_131 rfl rfl rfl rfl ?_
        first | refine m_getR (pc' := 115) xD_131 rfl rfl rfl rfl (hR.1 _ _ _ rfl) rfl ?_ | refine m_getR (pc' := 115) xD_131 rfl rfl (by first | rfl | assumption) rfl (by assumption) rfl ?_
        refine y_loc (pc' := 116) xD_131 rfl rfl rfl rfl ?_
        refine y_ci (pc' := 117) (0) xD_131 rfl rfl rfl rfl ?_
        refine m_iast (pc' := 118) (k) xD_131 rfl (by first | rfl | assumption) (by first | assumption | omega) (by first | decide | assumption) (by first | rfl | assumption) rfl ?_
        refine y_ci (pc' := 119) (0) xD_131 rfl rfl rfl rfl ?_
        refine y_loc (pc' := 121) xD_131 rfl rfl rfl rfl ?_
        exact inner n 0 (by omega) _ _ (fun x hx => xu_ne hx) (fun j hj => by show (if _ then _ else _) = _; rw [if_neg (fun q => hj q.2)]) xu_ii
  -- the preferred
  have pref : ∀ (m g : Nat), g + m = 24 → ∀ I' J' (q4 q5 : Option Value), FM J' F act n → (∀ j, j < n → I' 275 j = nI (e0 (fp F sz act n g j))) → (∀ x, x ≠ 271 → x ≠ 275 → I' x = I x) → (∀ x, x ≠ 272 → x ≠ 273 → x ≠ 274 → J' x = J x) → XP S (d + 7) 131 71 [some (.ref 261), some (.int (nI n)), some (.int act), some (.int (nI g)), q4, q5] [] (hh I' J' R) (fun v h' => v = none ∧ ∃ I' J', h' = hh I' J' R ∧ (∀ p, p < n → RM I' p (pop (s p))) ∧ I' 261 11 = nI (if n ≤ 5 then n else 5) ∧ (∀ j, j ≠ 11 → I' 261 j = I 261 j) ∧ SF (fun t => n ≤ t ∧ t < 60) I I' ∧ (∀ x, x ≠ 261 → x ≠ 262 → x ≠ 263 → x ≠ 271 → x ≠ 275 → x ≠ 276 → x ≠ 277 → I' x = I x) ∧ ∀ x, x ≠ 272 → x ≠ 273 → x ≠ 274 → J' x = J x) := by
    intro m
    induction m with
    | zero =>
      intro g hg I' J' q4 q5 hF h5 hx hj
      have hg : g = 24 := by omega
      subst hg
      have hfr := s_fronts (S := S) (d := d + 4) (n := n) (I := I') (J := J') (F := F) (sz := sz) (act := act) hR hn hF (r0 := I' 275) h5
      rw [xrow_id] at hfr
      refine y_loc (pc' := 72) xD_131 rfl rfl rfl rfl ?_
      refine y_ci (pc' := 74) (24) xD_131 rfl rfl rfl rfl ?_
      refine y_icge (pt := 98) (pf := 77) xD_131 rfl rfl rfl (fun h74 => ?_) (fun h74 => ?_)
      · skip
        refine y_loc (pc' := 99) xD_131 rfl rfl rfl rfl ?_
        refine y_loc (pc' := 100) xD_131 rfl rfl rfl rfl ?_
        refine y_loc (pc' := 101) xD_131 rfl rfl rfl rfl ?_
        refine y_callV xD_131 rfl rfl rfl rfl (by first | rfl | assumption) rfl rfl rfl rfl (hfr) (fun v h' hq => ?_)
        obtain ⟨rfl, r, rfl, h5'⟩ := hq
        refine y_ci (pc' := 105) (0) xD_131 rfl rfl rfl rfl ?_
        refine y_loc (pc' := 106) xD_131 rfl rfl rfl rfl ?_
        exact crow n 0 (by omega) _ J' _ _ hF (fun j hj => by rw [xrow_at, efr]; exact h5' j hj) (fun j hj => absurd hj (by omega)) (fun j hj => absurd hj (by omega)) (SF.rfl' (by rw [xrow_ne (by decide), hx 262 (by decide) (by decide)]) (by rw [xrow_ne (by decide), hx 263 (by decide) (by decide)])) (fun x a b c e f => by rw [xrow_ne e]; exact hx x c e) hj
      · skip
        exact absurd (Int32.le_refl _) h74
    | succ m ih =>
      intro g hg I' J' q4 q5 hF h5 hx hj
      have g24 : g < 24 := by omega
      have b1 := bit1 g24 act
      have hS' : SM I' sz n := fun k hk => by rw [hx 263 (by decide) (by decide)]; exact szk k hk
      refine y_loc (pc' := 72) xD_131 rfl rfl rfl rfl ?_
      refine y_ci (pc' := 74) (24) xD_131 rfl rfl rfl rfl ?_
      refine y_icge (pt := 98) (pf := 77) xD_131 rfl rfl rfl (fun h74 => ?_) (fun h74 => ?_)
      · skip
        exact absurd h74 (nI_ge (a := g) (b := 24) (by omega) (by decide))
      · skip
        refine y_loc (pc' := 78) xD_131 rfl rfl rfl rfl ?_
        refine y_loc (pc' := 79) xD_131 rfl rfl rfl rfl ?_
        refine y_op (pc' := 80) xD_131 rfl rfl rfl rfl ?_
        refine y_ci (pc' := 81) (1) xD_131 rfl rfl rfl rfl ?_
        refine y_op (pc' := 82) xD_131 rfl rfl rfl rfl ?_
        refine y_ci (pc' := 83) (1) xD_131 rfl rfl rfl rfl ?_
        refine y_icne (pt := 92) (pf := 86) xD_131 rfl rfl rfl (fun h83 => ?_) (fun h83 => ?_)
        · skip
          refine y_inc (pc' := 95) (nI (g + 1)) xD_131 rfl rfl rfl (nI_1 (g)) rfl rfl ?_
          refine y_goto (pc' := 71) xD_131 rfl rfl ?_
          first
          | exact ih (g + 1) (by omega) _ J' _ _ hF (fun j hj => by simp only [fp]; rw [if_neg (fun q => h83 (b1.mpr q))]; exact h5 j hj) hx hj
          | exact ih (g + 1) (by omega) _ J' _ _ hF (fun j hj => by simp only [fp]; rw [if_pos (b1.mp h83)]; show (if _ then _ else _) = _; unfold un; by_cases e : j = pf F sz g n; rw [if_pos ⟨rfl, e⟩, if_pos e]; rfl; rw [if_neg (fun q => e q.2), if_neg e]; exact h5 j hj) (fun x a b => by rw [xu_ne b]; exact hx x a b) hj
        · skip
          refine y_loc (pc' := 87) xD_131 rfl rfl rfl rfl ?_
          refine y_loc (pc' := 88) xD_131 rfl rfl rfl rfl ?_
          refine y_loc (pc' := 89) xD_131 rfl rfl rfl rfl ?_
          refine y_callV xD_131 rfl rfl rfl rfl (by first | rfl | assumption) rfl rfl rfl rfl (s_prefer (d := d + 6) (F := F) (sz := sz) (act := act) hR hn hn0 hF hS' g g24 (b1.mp h83)) (fun v h' hq => ?_)
          obtain ⟨rfl, rfl⟩ := hq
          refine y_inc (pc' := 95) (nI (g + 1)) xD_131 rfl rfl rfl (nI_1 (g)) rfl rfl ?_
          refine y_goto (pc' := 71) xD_131 rfl rfl ?_
          first
          | exact ih (g + 1) (by omega) _ J' _ _ hF (fun j hj => by simp only [fp]; rw [if_neg (fun q => h83 (b1.mpr q))]; exact h5 j hj) hx hj
          | exact ih (g + 1) (by omega) _ J' _ _ hF (fun j hj => by simp only [fp]; rw [if_pos (b1.mp h83)]; show (if _ then _ else _) = _; unfold un; by_cases e : j = pf F sz g n; rw [if_pos ⟨rfl, e⟩, if_pos e]; rfl; rw [if_neg (fun q => e q.2), if_neg e]; exact h5 j hj) (fun x a b => by rw [xu_ne b]; exact hx x a b) hj
  -- the fitnesses
  have fits : ∀ (m k : Nat), k + m = n → ∀ I' J' (q4 q5 : Option Value), (∀ j, j < k → ∀ g, g < 2 * nb → J' 274 (24 * j + g) = F j g) → (∀ j, j < k → I' 275 j = nI 30) → (∀ x, x ≠ 271 → x ≠ 275 → I' x = I x) → (∀ x, x ≠ 272 → x ≠ 273 → x ≠ 274 → J' x = J x) → XP S (d + 7) 131 7 [some (.ref 261), some (.int (nI n)), some (.int act), some (.int (nI k)), q4, q5] [] (hh I' J' R) (fun v h' => v = none ∧ ∃ I' J', h' = hh I' J' R ∧ (∀ p, p < n → RM I' p (pop (s p))) ∧ I' 261 11 = nI (if n ≤ 5 then n else 5) ∧ (∀ j, j ≠ 11 → I' 261 j = I 261 j) ∧ SF (fun t => n ≤ t ∧ t < 60) I I' ∧ (∀ x, x ≠ 261 → x ≠ 262 → x ≠ 263 → x ≠ 271 → x ≠ 275 → x ≠ 276 → x ≠ 277 → I' x = I x) ∧ ∀ x, x ≠ 272 → x ≠ 273 → x ≠ 274 → J' x = J x) := by
    intro m
    induction m with
    | zero =>
      intro k hk I' J' q4 q5 hF h5 hx hj
      have hk : k = n := by omega
      subst hk
      refine y_loc (pc' := 8) xD_131 rfl rfl rfl rfl ?_
      refine y_loc (pc' := 9) xD_131 rfl rfl rfl rfl ?_
      refine y_icge (pt := 69) (pf := 12) xD_131 rfl rfl rfl (fun h9 => ?_) (fun h9 => ?_)
      · skip
        refine y_ci (pc' := 70) (0) xD_131 rfl rfl rfl rfl ?_
        refine y_loc (pc' := 71) xD_131 rfl rfl rfl rfl ?_
        exact pref 24 0 (by omega) I' J' _ _ (fun j hj g hg q => hF j hj g (act2 g hg q)) (fun j hj => h5 j hj) hx hj
      · skip
        exact absurd (Int32.le_refl _) h9
    | succ m ih =>
      intro k hk I' J' q4 q5 hF h5 hx hj
      have k7 : k < 7 := by omega
      have mk : nI k * 24 = nI (k * 24) := pk_mul k 24
      have inner : ∀ (m g : Nat), g + m = 2 * nb → ∀ I1 J1 (q5 : Option Value), (∀ j, j < k → ∀ g, g < 2 * nb → J1 274 (24 * j + g) = F j g) → (∀ i, i < g → J1 274 (24 * k + i) = F k i) → (∀ i, i < 24 → J1 273 i = (kr P nb (pop k)).2.1 i) → (∀ j, j < k + 1 → I1 275 j = nI 30) → (∀ x, x ≠ 271 → x ≠ 275 → I1 x = I x) → (∀ x, x ≠ 272 → x ≠ 273 → x ≠ 274 → J1 x = J x) → XP S (d + 7) 131 28 [some (.ref 261), some (.int (nI n)), some (.int act), some (.int (nI k)), some (.int (nI g)), q5] [] (hh I1 J1 R) (fun v h' => v = none ∧ ∃ I' J', h' = hh I' J' R ∧ (∀ p, p < n → RM I' p (pop (s p))) ∧ I' 261 11 = nI (if n ≤ 5 then n else 5) ∧ (∀ j, j ≠ 11 → I' 261 j = I 261 j) ∧ SF (fun t => n ≤ t ∧ t < 60) I I' ∧ (∀ x, x ≠ 261 → x ≠ 262 → x ≠ 263 → x ≠ 271 → x ≠ 275 → x ≠ 276 → x ≠ 277 → I' x = I x) ∧ ∀ x, x ≠ 272 → x ≠ 273 → x ≠ 274 → J' x = J x) := by
        intro m
        induction m with
        | zero =>
          intro g hg I1 J1 q5 f1 f2 f3 f4 f5 f6
          have hg : g = 2 * nb := by omega
          subst hg
          have h10 : I1 261 10 = nI nb := by rw [f5 261 (by decide) (by decide)]; exact hP.1.1
          refine y_loc (pc' := 30) xD_131 rfl rfl rfl rfl ?_
          refine y_ci (pc' := 31) (2) xD_131 rfl rfl rfl rfl ?_
          refine y_loc (pc' := 32) xD_131 rfl rfl rfl rfl ?_
          refine m_getI (pc' := 35) xD_131 rfl rfl rfl (by first | rfl | assumption) (h10) rfl ?_
          refine y_imul (pc' := 36) xD_131 rfl (e2) rfl ?_
          refine y_icge (pt := 63) (pf := 39) xD_131 rfl rfl rfl (fun h36 => ?_) (fun h36 => ?_)
          · skip
            refine y_inc (pc' := 66) (nI (k + 1)) xD_131 rfl rfl rfl (nI_1 (k)) rfl rfl ?_
            refine y_goto (pc' := 7) xD_131 rfl rfl ?_
            exact ih (k + 1) (by omega) I1 J1 _ _ (fun j hj g hg => by by_cases e : j = k; subst e; exact f2 g hg; exact f1 j (by omega) g hg) f4 f5 f6
          · skip
            exact absurd (Int32.le_refl _) h36
        | succ m ih2 =>
          intro g hg I1 J1 q5 f1 f2 f3 f4 f5 f6
          have g24 : g < 24 := by omega
          have ak : nI (k * 24) + nI g = nI (24 * k + g) := by rw [nI_add, Nat.mul_comm]
          have h10 : I1 261 10 = nI nb := by rw [f5 261 (by decide) (by decide)]; exact hP.1.1
          have lv : q_level (J1 273) (I1 269) nb g = F k g := by
            rw [f5 269 (by decide) (by decide), hP.2.2.2.2.2, eF]
            exact q_level_c nb2 g24 f3
          refine y_loc (pc' := 30) xD_131 rfl rfl rfl rfl ?_
          refine y_ci (pc' := 31) (2) xD_131 rfl rfl rfl rfl ?_
          refine y_loc (pc' := 32) xD_131 rfl rfl rfl rfl ?_
          refine m_getI (pc' := 35) xD_131 rfl rfl rfl (by first | rfl | assumption) (h10) rfl ?_
          refine y_imul (pc' := 36) xD_131 rfl (e2) rfl ?_
          refine y_icge (pt := 63) (pf := 39) xD_131 rfl rfl rfl (fun h36 => ?_) (fun h36 => ?_)
          · skip
            exact absurd h36 (nI_ge (a := g) (b := 2 * nb) (by omega) (by omega))
          · skip
            refine y_loc (pc' := 40) xD_131 rfl rfl rfl rfl ?_
            first | refine m_getR (pc' := 43) xD_131 rfl rfl rfl rfl (hR.1 _ _ _ rfl) rfl ?_ | refine m_getR (pc' := 43) xD_131 rfl rfl (by first | rfl | assumption) rfl (by assumption) rfl ?_
            refine y_loc (pc' := 44) xD_131 rfl rfl rfl rfl ?_
            refine y_ci (pc' := 46) (24) xD_131 rfl rfl rfl rfl ?_
            refine y_imul (pc' := 47) xD_131 rfl (mk) rfl ?_
            refine y_loc (pc' := 49) xD_131 rfl rfl rfl rfl ?_
            refine y_iadd (pc' := 50) xD_131 rfl (ak) rfl ?_
            refine y_loc (pc' := 51) xD_131 rfl rfl rfl rfl ?_
            refine y_loc (pc' := 53) xD_131 rfl rfl rfl rfl ?_
            refine y_callV xD_131 rfl rfl rfl rfl (by first | rfl | assumption) rfl rfl rfl rfl (s_level (d := d + 6) hR h10 nb2 g g24 rfl) (fun v h' hq => ?_)
            obtain ⟨rfl, rfl⟩ := hq
            rw [lv]
            refine m_jast (pc' := 57) ((24 * k + g)) xD_131 rfl (by first | rfl | assumption) (by first | assumption | omega) (by first | decide | assumption) (by first | rfl | assumption) rfl ?_
            refine y_inc (pc' := 60) (nI (g + 1)) xD_131 rfl rfl rfl (nI_1 (g)) rfl rfl ?_
            refine y_goto (pc' := 28) xD_131 rfl rfl ?_
            refine ih2 (g + 1) (by omega) I1 _ _ (fun j hj i hi => ?_) (fun i hi => ?_) (fun i hi => ?_) f4 f5 (fun x a b c => ?_)
            · show (if _ then _ else _) = _
              rw [if_neg (by omega)]; exact f1 j hj i hi
            · show (if _ then _ else _) = _
              by_cases e : i = g
              · subst e; rw [if_pos ⟨rfl, rfl⟩]
              · rw [if_neg (by omega)]; exact f2 i (by omega)
            · rw [xu_ne (by decide)]; exact f3 i hi
            · rw [xu_ne c]; exact f6 x a b c
      have hP' : MPg (xu I' 275 k 30) P nb := by
        have q : ∀ x, x ≠ 271 → x ≠ 275 → xu I' 275 k 30 x = I x := fun x a b => by rw [xu_ne b]; exact hx x a b
        unfold MPg PM lnM
        rw [q 261 (by decide) (by decide), q 264 (by decide) (by decide), q 265 (by decide) (by decide), q 267 (by decide) (by decide), q 268 (by decide) (by decide), q 269 (by decide) (by decide), show cdM (xu I' 275 k 30) = cdM I from by funext m; exact cdM_eq (q 264 (by decide) (by decide))]
        exact hP
      have rk : RM (xu I' 275 k 30) k (pop k) := (hp k (by omega)).2.row (by rw [xu_ne (by decide), hx 262 (by decide) (by decide)]) (by rw [xu_ne (by decide), hx 263 (by decide) (by decide)])
      refine y_loc (pc' := 8) xD_131 rfl rfl rfl rfl ?_
      refine y_loc (pc' := 9) xD_131 rfl rfl rfl rfl ?_
      refine y_icge (pt := 69) (pf := 12) xD_131 rfl rfl rfl (fun h9 => ?_) (fun h9 => ?_)
      · skip
        exact absurd h9 (nI_ge (a := k) (b := n) (by omega) (by omega))
      · skip
        refine y_loc (pc' := 13) xD_131 rfl rfl rfl rfl ?_
        first | refine m_getR (pc' := 16) xD_131 rfl rfl rfl rfl (hR.1 _ _ _ rfl) rfl ?_ | refine m_getR (pc' := 16) xD_131 rfl rfl (by first | rfl | assumption) rfl (by assumption) rfl ?_
        refine y_loc (pc' := 17) xD_131 rfl rfl rfl rfl ?_
        refine y_ci (pc' := 19) (30) xD_131 rfl rfl rfl rfl ?_
        refine m_iast (pc' := 20) (k) xD_131 rfl (by first | rfl | assumption) (by first | assumption | omega) (by first | decide | assumption) (by first | rfl | assumption) rfl ?_
        refine y_loc (pc' := 21) xD_131 rfl rfl rfl rfl ?_
        refine y_loc (pc' := 22) xD_131 rfl rfl rfl rfl ?_
        refine y_callV xD_131 rfl rfl rfl rfl (by first | rfl | assumption) rfl rfl rfl rfl (s_kperform (d := d + 1) hR (by omega) hP' (hp k (by omega)).1 rk rfl) (fun v h' hq => ?_)
        obtain ⟨rfl, vv, N, res, rfl, n1, n2⟩ := hq
        refine y_ci (pc' := 26) (0) xD_131 rfl rfl rfl rfl ?_
        refine y_loc (pc' := 28) xD_131 rfl rfl rfl rfl ?_
        refine inner (2 * nb) 0 (by omega) _ _ _ (fun j hj' g hg => ?_) (fun i hi => absurd hi (by omega)) (fun i hi => ?_) (fun j hj' => ?_) (fun x a b => ?_) (fun x a b c => ?_)
        · rw [xrow_ne (by decide), xrow_ne (by decide)]; exact hF j hj' g hg
        · rw [xrow_ne (by decide), xrow_at]; exact n1 i hi
        · rw [xrow_ne (by decide)]
          show (if _ then _ else _) = _
          by_cases e : j = k
          · rw [if_pos ⟨rfl, e⟩]; rfl
          · rw [if_neg (fun q => e q.2)]; exact h5 j (by omega)
        · rw [xrow_ne a, xu_ne b]; exact hx x a b
        · rw [xrow_ne a, xrow_ne b]; exact hj x a b c
  refine y_loc (pc' := 1) xD_131 rfl rfl rfl rfl ?_
  refine y_callV xD_131 rfl rfl rfl rfl (by first | rfl | assumption) rfl rfl rfl rfl (s_active (d := d + 5) (ar := ar) hR hP.1.1 nb2 hM) (fun v h' hq => ?_)
  obtain ⟨rfl, rfl⟩ := hq
  refine y_loc (pc' := 5) xD_131 rfl rfl rfl rfl ?_
  refine y_ci (pc' := 6) (0) xD_131 rfl rfl rfl rfl ?_
  refine y_loc (pc' := 7) xD_131 rfl rfl rfl rfl ?_
  have := fits n 0 (by omega) I J none none (fun j hj => absurd hj (by omega)) (fun j hj => absurd hj (by omega)) (fun x _ _ => rfl) (fun x _ _ _ => rfl)
  rw [hact] at this
  exact this
end PO

