/-! The small machine is sound: calls, returns, whole runs. -/
theorem xnfw : nativeFrameWords "java/lang/System" "arraycopy" 5 + 11 ≤ 32 := by decide +kernel
section XS1
variable {p : Program} {l : Launch} {e : Env} {R : Room} {s : State} {m : MethodId} {args : Array Value} {below : List Frame} {meth : Method} {c : Code} {Q : State → Prop} {D : va_G} {ca : Nat → ClassId} {b scr z0 s0 k pc pc' len d : Nat} {L L' : XL} {st st' r : List Value} {h h' : XH} {i : Instr} {S : XS}
theorem xnatv_sound (C : XCx S p s m args meth c D ca b scr z0 k) (hf : d ≤ R.frames) (hlo : 40 * d ≤ R.locals)
    (hd : decode (xcode k) pc = .ok (i, xlen i)) (ho : xnatv d k i st h = some (st', h')) (K : XW (p, l, e, R, s, m, args, below, meth, c, Q, D, ca, b, scr, z0, s0) k (pc + xlen i) L st' h') : XW (p, l, e, R, s, m, args, below, meth, c, Q, D, ca, b, scr, z0, s0) k pc L st h := by
  obtain ⟨hx, hb, hml, hown, hts, hnw, hao1, hao3, hK, hX, hsb, hz1, hss, hin, hrt, hlk⟩ := C
  obtain ⟨hd0, ⟨idx, rfl, hn, rfl, a, rfl, hw⟩ | ⟨idx, rfl, hn, hc⟩⟩ := xnatv_inv ho
  · rcases xnat_ok hn with ⟨-, hl⟩ | ⟨h7, -⟩
    · intro H locs ls hP hS hL
      refine W.objInit hx hb hown (hts _ hl) (hts _ xg_glob.1) (hts _ xg_glob.2.1) rfl (by rw [hml]; exact hL.1) rfl hd (by omega) (by show 2 * 0 + _ + 12 ≤ _; rw [xwid_emb]; omega) ?_
      exact K H locs ls hP hS hL
    · cases h7
  · rcases xnat_ok hn with ⟨h0, -⟩ | ⟨-, hl⟩
    · cases h0
    · obtain ⟨n, dp, a, sp, a0, rfl, hw, h1, h2, h3, h4, h5, ⟨t0, t1, rfl⟩ | ⟨t0, t1, rfl⟩⟩ := xcpy_inv hc
      · intro H locs ls hP hS hL
        have g0 : (xkd h a0).1 ≠ 999 := by rw [t0]; decide
        have g1 : (xkd h a).1 ≠ 999 := by rw [t1]; decide
        refine va_copyi hx hb (by rw [hml]; exact hL.1.symm) hown (hts _ hl) (hts _ xg_glob.2.2.1) (hts _ xg_glob.2.2.2.1) (hts _ xg_glob.2.2.2.2.1) hK hP (xw_D _ _ _ _) hS _ _ 0 0 ((xw_arr (scr := scr) g0).trans (by rw [xc_int t0])) ((xw_arr (scr := scr) g1).trans (by rw [xc_int t1])) rfl rfl rfl h1 h2 h3 h4 h5 (fun _ _ => rfl) (by omega) (by rw [xwid_emb]; have := xnfw; omega) hd (fun H1 locs1 hP1 _ hS1 => ?_)
        rw [xrowI g1 (by rw [xc_int t1])] at hP1
        exact K H1 locs1 ls hP1 hS1 hL
      · intro H locs ls hP hS hL
        have g0 : (xkd h a0).1 ≠ 999 := by rw [t0]; decide
        have g1 : (xkd h a).1 ≠ 999 := by rw [t1]; decide
        refine va_copyl hx hb (by rw [hml]; exact hL.1.symm) hown (hts _ hl) (hts _ xg_glob.2.2.1) (hts _ xg_glob.2.2.2.1) (hts _ xg_glob.2.2.2.2.1) hK hP (xw_D _ _ _ _) hS _ _ 1 1 ((xw_arr (scr := scr) g0).trans (by rw [xc_long t0])) ((xw_arr (scr := scr) g1).trans (by rw [xc_long t1])) rfl rfl rfl h1 h2 h3 h4 h5 (fun _ _ => rfl) (by omega) (by rw [xwid_emb]; have := xnfw; omega) hd (fun H1 locs1 hP1 _ hS1 => ?_)
        rw [xrowJ g1 (by rw [xc_long t1])] at hP1
        exact K H1 locs1 ls hP1 hS1 hL
theorem x1_sound (C : XCx S p s m args meth c D ca b scr z0 k) (hf : d ≤ R.frames) (hlo : 40 * d ≤ R.locals) (hz0 : z0 ≤ xhz h) (hs0 : s0 ≤ xhs h) (hR1 : xhz h' - z0 ≤ R.cells) (hR2 : xhs h' - s0 ≤ R.slots)
    (hd : decode (xcode k) pc = .ok (i, len)) (ho : x1 S d k i len pc L st h = some (pc', L', st', h')) (K : XW (p, l, e, R, s, m, args, below, meth, c, Q, D, ca, b, scr, z0, s0) k pc' L' st' h') : XW (p, l, e, R, s, m, args, below, meth, c, Q, D, ca, b, scr, z0, s0) k pc L st h := by
  have C' := C
  obtain ⟨hx, hb, -, -, -, -, -, -, -, -, hsb, -⟩ := C'
  unfold x1 at ho
  split at ho
  · rename_i q hq
    cases ho
    exact xjmp_sound hsb hx hb hd hq K
  · split at ho
    · rename_i hl
      subst hl
      split at ho
      · rename_i q hq
        cases ho
        exact xop_sound (G := (p, l, e, R, s, m, args, below, meth, c, Q, D, ca, b, scr, z0, s0)) hx hb hd hq K
      · split at ho
        · rename_i q hq
          cases ho
          exact xloc_sound hx hb hd hq K
        · split at ho
          · rename_i q hq
            cases ho
            exact xmem_sound C hz0 hs0 hR1 hR2 hd hq K
          · split at ho
            · rename_i q hq
              cases ho
              exact xnatv_sound C hf hlo hd hq K
            · cases ho
    · cases ho
end XS1
theorem xent_len : ∀ (as : List Value) (n : Nat), (xent as n).length = n
  | _, 0 => by simp [xent]
  | [], n + 1 => by simp [xent, xent_len [] n]
  | v :: vs, 1 => by simp only [xent]; split <;> simp [xent_len vs 0]
  | v :: vs, n + 2 => by simp only [xent]; split <;> simp [xent_len vs n, xent_len vs (n + 1)]
theorem xent_nil : ∀ (n i : Nat), xld (xent [] n) i = none
  | 0, i => by simp [xent, xld]
  | n + 1, 0 => by simp [xent, xld]
  | n + 1, i + 1 => by simp only [xent, xld_consS]; exact xent_nil n i
theorem xent_ld (ad : Nat → Nat) : ∀ (as : List Value) (n o i : Nat) (v : Value), xld (xent as n) i = some v → (i + o, xemb ad v) ∈ lv_args o (as.map (xemb ad))
  | [], n, o, i, v, h => by rw [xent_nil] at h; cases h
  | w :: ws, 0, o, i, v, h => by simp [xent, xld] at h
  | w :: ws, 1, o, i, v, h => by
    simp only [xent] at h
    split at h
    · cases i with
      | zero => rw [xld_cons0] at h; cases h
      | succ i => rw [xld_consS, xld_nil] at h; cases h
    · rename_i hc
      cases i with
      | zero =>
        rw [xld_cons0] at h
        cases h
        simp [lv_args]
      | succ i =>
        rw [xld_consS] at h
        have := xent_ld ad ws 0 (o + 1) i v h
        simp only [List.map_cons, lv_args, xemb_cat, if_neg hc]
        exact List.mem_cons_of_mem _ (by rw [show i + 1 + o = i + (o + 1) by omega]; exact this)
  | w :: ws, n + 2, o, i, v, h => by
    simp only [xent] at h
    split at h
    · rename_i hc
      match i with
      | 0 =>
        rw [xld_cons0] at h
        cases h
        simp [lv_args]
      | 1 => rw [xld_consS, xld_cons0] at h; cases h
      | i + 2 =>
        rw [xld_consS, xld_consS] at h
        have := xent_ld ad ws n (o + 2) i v h
        simp only [List.map_cons, lv_args, xemb_cat, if_pos hc]
        exact List.mem_cons_of_mem _ (by rw [show i + 2 + o = i + (o + 2) by omega]; exact this)
    · rename_i hc
      cases i with
      | zero =>
        rw [xld_cons0] at h
        cases h
        simp [lv_args]
      | succ i =>
        rw [xld_consS] at h
        have := xent_ld ad ws (n + 1) (o + 1) i v h
        simp only [List.map_cons, lv_args, xemb_cat, if_neg hc]
        exact List.mem_cons_of_mem _ (by rw [show i + 1 + o = i + (o + 1) by omega]; exact this)
theorem xsl_len (vs : List Value) : (lg_sl vs).length = xwid vs := by
  induction vs with
  | nil => rfl
  | cons v vs ih =>
    have : lg_sl (v :: vs) = (if v.category = 2 then [.val v, .second] else [.val v]) ++ lg_sl vs := by simp [lg_sl]
    rw [this, List.length_append, ih]
    unfold xwid
    rw [List.map_cons, List.sum_cons]
    congr 1
    cases v <;> rfl
theorem XLH.entry {ad : Nat → Nat} {as : List Value} {n : Nat} (h : xwid as ≤ n) : XLH ad ((lg_sl (as.map (xemb ad)) ++ List.replicate (n - (lg_sl (as.map (xemb ad))).length) Slot.unset).toArray) n (xent as n) := by
  have hw : xwid (as.map (xemb ad)) = xwid as := by
    have := xwid_emb ad as
    unfold xwid at this ⊢
    exact this
  have hl := lv_entry (as.map (xemb ad)) (n := n) (by rw [xsl_len, hw]; exact h)
  refine ⟨hl.1, xent_len as n, hl.2.1, fun i v hv => ?_⟩
  have := xent_ld ad as n 0 i v hv
  exact hl.2.2 _ this
def xws (y : Nat) : List Cond := Cond.code (xyn y) (xcode y) (xml y) (xrty y) :: xgood
def xrm (d mc ms : Nat) : Room := { frames := d, cells := mc, slots := ms, locals := 40 * d }
def XU (S : XS) (D : va_G) (ca : Nat → ClassId) (b scr : Nat) (h : XH) (U : State) : Prop := (∀ w ∈ xnest, va_Nw w U) ∧ va_AO (xcn 1) U ∧ va_AO (xcn 3) U ∧ va_K D xcls (xtys ca) U ∧ va_X scr S.1 S.2 U U.heap ∧ U.heap.size = b + (xhz h - 1) ∧ va_P D xcls (xw (xad b scr) ca b h) U.heap
def XQ (D : va_G) (ca : Nat → ClassId) (b scr : Nat) (v : Option Value) (h : XH) : Array Value → State → Outcome → State → Prop := fun _ st oc t => oc = .returned (v.map (xemb (xad b scr))) ∧ va_P D xcls (xw (xad b scr) ca b h) t.heap ∧ va_F (fun q => b ≤ q) st t
theorem xgood_in {y : Nat} (hy : y < 160) : GoodIn xgood (xws y) := by
  intro w hw
  have : w ∈ xgood := by
    rcases List.mem_cons.mp hw with rfl | h
    · exact xm_code hy
    · exact h
  exact ⟨this, good_of_word (List.mem_filter.mp this).2⟩
theorem xU_blind {S : XS} {D : va_G} {ca : Nat → ClassId} {b scr : Nat} {h : XH} {as : List Value} : FrameBlind (va_Pc as (XU S D ca b scr h)) := by
  intro a U g mk hp
  obtain ⟨h1, h2, h3, h4, h5, h6, h7, h8⟩ := hp
  refine ⟨h1, fun w hw => ?_, h3, h4, h5, h6, h7, h8⟩
  have hw2 : w.onTables = true := by
    have := (List.mem_filter.mp hw).2
    cases w <;> first | rfl | cases this
  exact va_Nw.same (u := U) (U := U.calling g mk a) hw2 rfl (h2 w hw)
theorem xU_warm {S : XS} {s U : State} {D : va_G} {ca : Nat → ClassId} {b scr : Nat} {h : XH} {H : Heap} {locs : List Loc} (hnw : ∀ w ∈ xnest, va_Nw w s) (ha1 : va_AO (xcn 1) s) (ha3 : va_AO (xcn 3) s) (hK : va_K D xcls (xtys ca) s) (hX : va_X scr S.1 S.2 s s.heap) (hsb : scr < b) (hbs : b ≤ s.heap.size) (hS : va_S (fun q => b ≤ q) s.heap H locs) (hz : H.size = b + (xhz h - 1)) (hP : va_P D xcls (xw (xad b scr) ca b h) H) (hU : U.heap = H) (hW : s.WarmedH U.vm) : XU S D ca b scr h U := by
  subst hU
  refine ⟨fun w hw => ?_, va_AO.moved hW.alike ha1, va_AO.moved hW.alike ha3, va_K.moved hW.alike hK, va_X.moved hW.alike (va_X.kept hX (hS.2.1 scr (by omega) (by omega))), hz, hP⟩
  have hq := (List.mem_filter.mp hw).2
  have hz := hnw w hw
  cases w with
  | methodLinkNest a i x h => exact va_Nw.warmM hW hz
  | _ => cases hq
