/-! Memory: fields, arrays, new cells. -/
def xtys (ca : Nat → ClassId) : List (ClassId × FieldType) := [(ca 0, .int), (ca 1, .long), (ca 2, .boolean), (ca 3, .object "BranchGoals$Case"), (ca 4, .object "BranchGoals$Method")]
theorem xad_pos {b scr a : Nat} (h : 1 ≤ a) : xad b scr a = b + (a - 1) := by
  cases a with
  | zero => omega
  | succ a => rfl
theorem xkd_in {h : XH} {a : Nat} (ht : (xkd h a).1 ≠ 999) : 1 ≤ a ∧ a < xhz h ∧ xhk h a = xkd h a := by
  unfold xkd at ht ⊢
  by_cases hc : 1 ≤ a ∧ a < xhz h
  · rw [if_pos hc]; exact ⟨hc.1, hc.2, rfl⟩
  · rw [if_neg hc] at ht; exact absurd rfl ht
theorem xw_at {ad : Nat → Nat} {ca : Nat → ClassId} {b scr a : Nat} {h : XH} (h1 : 1 ≤ a) (h2 : a < xhz h) : (xw ad ca b h)[a - 1]? = some (xad b scr a, xcell ad ca h a) := by
  unfold xw
  rw [List.getElem?_map, List.getElem?_range (by omega)]
  simp only [Option.map_some]
  rw [xad_pos h1, Nat.sub_add_cancel h1]
theorem xw_D (ad : Nat → Nat) (ca : Nat → ClassId) (b : Nat) (h : XH) : va_D (fun q => b ≤ q) (xw ad ca b h) := by
  have key : ∀ (i : Nat) (q : Nat × va_E), (xw ad ca b h)[i]? = some q → q.1 = b + i := by
    intro i q hq
    unfold xw at hq
    rw [List.getElem?_map] at hq
    cases hr : (List.range (xhz h - 1))[i]? with
    | none => rw [hr] at hq; cases hq
    | some j =>
      rw [hr] at hq
      cases hq
      have := List.getElem?_eq_some_iff.mp hr
      obtain ⟨hl, he⟩ := this
      rw [List.getElem_range] at he
      show b + j = b + i
      omega
  refine ⟨fun i j p q hp hq e => ?_, fun k q hq => ?_⟩
  · have h1 := key i p hp
    have h2 := key j q hq
    omega
  · have h1 := key k q hq
    show b ≤ q.1
    omega
theorem xw_set {ad : Nat → Nat} {ca : Nat → ClassId} {b scr a : Nat} {h h' : XH} (hz : xhz h' = xhz h) (h1 : 1 ≤ a) (h2 : a < xhz h) (ho : ∀ x, x ≠ a → xcell ad ca h' x = xcell ad ca h x) {e : va_E} (he : xcell ad ca h' a = e) : (xw ad ca b h).set (a - 1) (xad b scr a, e) = xw ad ca b h' := by
  subst he
  apply List.ext_getElem?
  intro i
  rw [List.getElem?_set]
  have hl : (xw ad ca b h).length = xhz h - 1 := by simp [xw]
  by_cases hi : a - 1 = i
  · subst hi
    rw [if_pos rfl, if_pos (by omega), xw_at (scr := scr) h1 (by omega)]
  · rw [if_neg hi]
    by_cases hlt : i < xhz h - 1
    · unfold xw
      rw [List.getElem?_map, List.getElem?_map, List.getElem?_range hlt, List.getElem?_range (by omega)]
      simp only [Option.map_some]
      rw [ho (i + 1) (by omega)]
    · rw [List.getElem?_eq_none (by omega), List.getElem?_eq_none (by simp [xw]; omega)]
theorem xw_obj {ad : Nat → Nat} {ca : Nat → ClassId} {b scr a ci n : Nat} {h : XH} (e : xkd h a = (ci, n)) (hci : ci < 100) : (xw ad ca b h)[a - 1]? = some (xad b scr a, .inr (ci, (List.range n).map (fun j => xemb ad (xfv (xft ci j) (xhI h a) (xhJ h a) (xhR h a) j)))) := by
  obtain ⟨h1, h2, h3⟩ := xkd_in (h := h) (a := a) (by rw [e]; show ci ≠ 999; omega)
  rw [xw_at (scr := scr) h1 h2]
  unfold xcell xcl0
  rw [h3, e, if_pos hci]
theorem xc_int {ad : Nat → Nat} {ca : Nat → ClassId} {t : Nat × Nat} {I : Nat → Int32} {J : Nat → Int64} {R : Nat → Option Nat} (e : t.1 = 100) : xcl0 ad ca t I J R = .inl (ca 0, t.2, .inl I) := by
  unfold xcl0
  rw [e]
  rfl
theorem xc_long {ad : Nat → Nat} {ca : Nat → ClassId} {t : Nat × Nat} {I : Nat → Int32} {J : Nat → Int64} {R : Nat → Option Nat} (e : t.1 = 101) : xcl0 ad ca t I J R = .inl (ca 1, t.2, .inr (.inl J)) := by
  unfold xcl0
  rw [e]
  rfl
theorem xc_bool {ad : Nat → Nat} {ca : Nat → ClassId} {t : Nat × Nat} {I : Nat → Int32} {J : Nat → Int64} {R : Nat → Option Nat} (e : t.1 = 102) : xcl0 ad ca t I J R = .inl (ca 2, t.2, .inl I) := by
  unfold xcl0
  rw [e]
  rfl
theorem xc_ref {ad : Nat → Nat} {ca : Nat → ClassId} {t : Nat × Nat} {I : Nat → Int32} {J : Nat → Int64} {R : Nat → Option Nat} {q : Nat} (e : t.1 = 103 + q) : xcl0 ad ca t I J R = .inl (ca (3 + q), t.2, .inr (.inr (.inr (.inr (fun i => (R i).map ad))))) := by
  unfold xcl0
  rw [e, if_neg (by omega), if_neg (by omega), if_neg (by omega), show 103 + q - 100 = 3 + q by omega]
theorem xw_arr {ad : Nat → Nat} {ca : Nat → ClassId} {b scr a : Nat} {h : XH} (ht : (xkd h a).1 ≠ 999) : (xw ad ca b h)[a - 1]? = some (xad b scr a, xcl0 ad ca (xkd h a) (xhI h a) (xhJ h a) (xhR h a)) := by
  obtain ⟨h1, h2, h3⟩ := xkd_in ht
  rw [xw_at (scr := scr) h1 h2]
  unfold xcell
  rw [h3]
theorem xinb_in {i : Int32} {n : Nat} (h : xinb i n = true) : vp_in i n := by
  have h2 : ¬ (i < 0 ∨ n ≤ i.toNatClampNeg) := of_decide_eq_true h
  exact h2
theorem xu_ne {α : Type} {f : Nat → Nat → α} {a i x : Nat} {v : α} (h : x ≠ a) : xu f a i v x = f x := by
  funext y
  unfold xu
  rw [if_neg (fun q => h q.1)]
theorem xu_at {α : Type} {f : Nat → Nat → α} {a i : Nat} {v : α} (y : Nat) : xu f a i v a y = if y = i then v else f a y := by
  unfold xu
  by_cases h : y = i
  · rw [if_pos ⟨rfl, h⟩, if_pos h]
  · rw [if_neg (fun q => h q.2), if_neg h]
theorem xrow_ne {α : Type} {f : Nat → Nat → α} {a x : Nat} {g : Nat → α} (h : x ≠ a) : xrow f a g x = f x := by
  funext y
  unfold xrow
  rw [if_neg h]
theorem xrow_at {α : Type} {f : Nat → Nat → α} {a : Nat} {g : Nat → α} : xrow f a g a = g := by
  funext y
  unfold xrow
  rw [if_pos rfl]
theorem xfp_obj {h h' : XH} {a j : Nat} {v : Value} {ty : FieldType} (hty : (∃ n, ty = .object n) ∨ ∃ t, ty = .array t) (e : xfp ty h a j v = some h') : ∃ r, v = va_rf r ∧ h' = xsR h (xu (xhR h) a j r) := by
  rcases hty with ⟨n, rfl⟩ | ⟨t, rfl⟩ <;> cases v <;> first | (cases e; exact ⟨none, rfl, rfl⟩) | (cases e; exact ⟨some _, rfl, rfl⟩) | cases e
theorem xfp_spec {ty : FieldType} {h h' : XH} {a j : Nat} {v : Value} (e : xfp ty h a j v = some h') : xhz h' = xhz h ∧ xhs h' = xhs h ∧ xhk h' = xhk h ∧ (∀ x, x ≠ a → xhI h' x = xhI h x ∧ xhJ h' x = xhJ h x ∧ xhR h' x = xhR h x) ∧ (∀ ty' q, q ≠ j → xfv ty' (xhI h' a) (xhJ h' a) (xhR h' a) q = xfv ty' (xhI h a) (xhJ h a) (xhR h a) q) ∧ xfv ty (xhI h' a) (xhJ h' a) (xhR h' a) j = v ∧ ∀ ad, narrow ty (xemb ad v) = xemb ad v ∧ fits ty (xemb ad v) = true := by
  have gi : ∀ x : Int32, xhz (xsI h (xu (xhI h) a j x)) = xhz h ∧ xhs (xsI h (xu (xhI h) a j x)) = xhs h ∧ xhk (xsI h (xu (xhI h) a j x)) = xhk h ∧ (∀ y, y ≠ a → xhI (xsI h (xu (xhI h) a j x)) y = xhI h y ∧ xhJ (xsI h (xu (xhI h) a j x)) y = xhJ h y ∧ xhR (xsI h (xu (xhI h) a j x)) y = xhR h y) ∧ (∀ ty' q, q ≠ j → xfv ty' (xhI (xsI h (xu (xhI h) a j x)) a) (xhJ (xsI h (xu (xhI h) a j x)) a) (xhR (xsI h (xu (xhI h) a j x)) a) q = xfv ty' (xhI h a) (xhJ h a) (xhR h a) q) ∧ xhI (xsI h (xu (xhI h) a j x)) a j = x := by
    intro x
    refine ⟨rfl, rfl, rfl, fun y hy => ⟨xu_ne hy, rfl, rfl⟩, fun ty' q hq => ?_, ?_⟩
    · have : xhI (xsI h (xu (xhI h) a j x)) a q = xhI h a q := by
        show xu (xhI h) a j x a q = _
        rw [xu_at, if_neg hq]
      unfold xfv
      cases ty' <;> first | rfl | (show Value.int _ = Value.int _; rw [this])
    · show xu (xhI h) a j x a j = x
      rw [xu_at, if_pos rfl]
  have gr : ∀ r : Option Nat, xhz (xsR h (xu (xhR h) a j r)) = xhz h ∧ xhs (xsR h (xu (xhR h) a j r)) = xhs h ∧ xhk (xsR h (xu (xhR h) a j r)) = xhk h ∧ (∀ y, y ≠ a → xhI (xsR h (xu (xhR h) a j r)) y = xhI h y ∧ xhJ (xsR h (xu (xhR h) a j r)) y = xhJ h y ∧ xhR (xsR h (xu (xhR h) a j r)) y = xhR h y) ∧ (∀ ty' q, q ≠ j → xfv ty' (xhI (xsR h (xu (xhR h) a j r)) a) (xhJ (xsR h (xu (xhR h) a j r)) a) (xhR (xsR h (xu (xhR h) a j r)) a) q = xfv ty' (xhI h a) (xhJ h a) (xhR h a) q) ∧ xhR (xsR h (xu (xhR h) a j r)) a j = r := by
    intro x
    refine ⟨rfl, rfl, rfl, fun y hy => ⟨rfl, rfl, xu_ne hy⟩, fun ty' q hq => ?_, ?_⟩
    · have : xhR (xsR h (xu (xhR h) a j x)) a q = xhR h a q := by
        show xu (xhR h) a j x a q = _
        rw [xu_at, if_neg hq]
      unfold xfv
      cases ty' <;> first | rfl | (show va_rf _ = va_rf _; rw [this])
    · show xu (xhR h) a j x a j = x
      rw [xu_at, if_pos rfl]
  have gro : ∀ ty, ((∃ n, ty = .object n) ∨ ∃ t, ty = .array t) → ∀ (r : Option Nat) (ad : Nat → Nat), narrow ty (xemb ad (va_rf r)) = xemb ad (va_rf r) ∧ fits ty (xemb ad (va_rf r)) = true := by
    intro ty hty r ad
    rcases hty with ⟨n, rfl⟩ | ⟨t, rfl⟩ <;> cases r <;> exact ⟨rfl, rfl⟩
  cases ty with
  | int =>
    cases v with
    | int x => cases e; obtain ⟨a1, a2, a3, a4, a5, a6⟩ := gi x; exact ⟨a1, a2, a3, a4, a5, congrArg Value.int a6, fun _ => ⟨rfl, rfl⟩⟩
    | _ => cases e
  | boolean =>
    cases v with
    | int x =>
      simp only [xfp] at e
      split at e
      · rename_i hx
        cases e
        obtain ⟨a1, a2, a3, a4, a5, a6⟩ := gi x
        refine ⟨a1, a2, a3, a4, a5, congrArg Value.int a6, fun _ => ?_⟩
        rcases hx with rfl | rfl
        · exact ⟨(by decide : narrow FieldType.boolean (Value.int 0) = Value.int 0), (by decide : fits FieldType.boolean (Value.int 0) = true)⟩
        · exact ⟨(by decide : narrow FieldType.boolean (Value.int 1) = Value.int 1), (by decide : fits FieldType.boolean (Value.int 1) = true)⟩
      · cases e
    | _ => cases e
  | long =>
    cases v with
    | long x =>
      cases e
      refine ⟨rfl, rfl, rfl, fun y hy => ⟨rfl, xu_ne hy, rfl⟩, fun ty' q hq => ?_, ?_, fun _ => ⟨rfl, rfl⟩⟩
      · have : xhJ (xsJ h (xu (xhJ h) a j x)) a q = xhJ h a q := by
          show xu (xhJ h) a j x a q = _
          rw [xu_at, if_neg hq]
        unfold xfv
        cases ty' <;> first | rfl | (show Value.long _ = Value.long _; rw [this])
      · show Value.long (xu (xhJ h) a j x a j) = _
        rw [xu_at, if_pos rfl]
    | _ => cases e
  | object n =>
    obtain ⟨r, rfl, rfl⟩ := xfp_obj (Or.inl ⟨n, rfl⟩) e
    obtain ⟨a1, a2, a3, a4, a5, a6⟩ := gr r
    exact ⟨a1, a2, a3, a4, a5, congrArg va_rf a6, fun ad => gro _ (Or.inl ⟨n, rfl⟩) r ad⟩
  | array t =>
    obtain ⟨r, rfl, rfl⟩ := xfp_obj (Or.inr ⟨t, rfl⟩) e
    obtain ⟨a1, a2, a3, a4, a5, a6⟩ := gr r
    exact ⟨a1, a2, a3, a4, a5, congrArg va_rf a6, fun ad => gro _ (Or.inr ⟨t, rfl⟩) r ad⟩
  | _ => cases e
section XME
variable {p : Program} {l : Launch} {e : Env} {R : Room} {s : State} {m : MethodId} {args : Array Value} {below : List Frame} {meth : Method} {c : Code} {Q : State → Prop} {D : va_G} {ca : Nat → ClassId} {b scr z0 s0 k pc pc' len : Nat} {L L' : XL} {st st' r : List Value} {h h' : XH} {i : Instr} {S : XS}
theorem xgetf_sound {idx : Nat} (hx : p.tables.exec = Jvm.exec) (hb : c.code = xcode k) (hown : s.vm.findClass (xcn (xkc k)) = some m.cls) (hts : ∀ w ∈ xgood, w.before args s = true) (hK : va_K D xcls (xtys ca) s)
    (hd : decode (xcode k) pc = .ok (.getfield idx, 3)) (ho : xgetf k idx h st = some (st', h')) (K : XW (p, l, e, R, s, m, args, below, meth, c, Q, D, ca, b, scr, z0, s0) k (pc + 3) L st' h') : XW (p, l, e, R, s, m, args, below, meth, c, Q, D, ca, b, scr, z0, s0) k pc L st h := by
  unfold xgetf at ho
  split at ho
  · split at ho
    · split at ho
      · rename_i a r _ ci j hf hk
        cases ho
        obtain ⟨hci, hj, hl⟩ := xfld_ok hf
        intro H locs ls hP hS hL
        refine va_get (D := D) (ci := ci) (C := xcn ci) (T := xTT ci) (N := xnf ci) hx hb hts (xws_in hci) hown hK hP (a - 1) (xw_obj (scr := scr) hk (by omega)) (xcls_at hci) j hj (hts _ hl) (fun _ q => q) ?_ hd (K H locs ls hP hS hL)
        rw [List.getElem?_map, List.getElem?_range hj]
        rfl
      · cases ho
    · cases ho
  · cases ho
theorem xputf_sound {idx : Nat} (hx : p.tables.exec = Jvm.exec) (hb : c.code = xcode k) (hown : s.vm.findClass (xcn (xkc k)) = some m.cls) (hts : ∀ w ∈ xgood, w.before args s = true) (hK : va_K D xcls (xtys ca) s) (hin : (xyn k).name = "<init>" → meth.name = "<init>")
    (hd : decode (xcode k) pc = .ok (.putfield idx, 3)) (ho : xputf k idx h st = some (st', h')) (K : XW (p, l, e, R, s, m, args, below, meth, c, Q, D, ca, b, scr, z0, s0) k (pc + 3) L st' h') : XW (p, l, e, R, s, m, args, below, meth, c, Q, D, ca, b, scr, z0, s0) k pc L st h := by
  unfold xputf at ho
  split at ho
  · split at ho
    · split at ho
      · rename_i v a r _ ci j hf hk
        obtain ⟨hk, hpo⟩ := hk
        cases hfp : xfp (xft ci j) h a j v with
        | none => rw [hfp] at ho; cases ho
        | some h2 =>
          rw [hfp] at ho
          cases ho
          obtain ⟨hci, hj, hl⟩ := xfld_ok hf
          obtain ⟨f1, f2, f3, f4, f5, f6, f7⟩ := xfp_spec hfp
          obtain ⟨g1, g2, g3⟩ := xkd_in (h := h) (a := a) (by rw [hk]; show ci ≠ 999; omega)
          have hset : (xw (xad b scr) ca b h).set (a - 1) (xad b scr a, .inr (ci, ((List.range (xnf ci)).map (fun j => xemb (xad b scr) (xfv (xft ci j) (xhI h a) (xhJ h a) (xhR h a) j))).set j (xemb (xad b scr) v))) = xw (xad b scr) ca b h' := by
            refine xw_set f1 g1 g2 (fun x hx => ?_) ?_
            · unfold xcell
              obtain ⟨q1, q2, q3⟩ := f4 x hx
              rw [f3, q1, q2, q3]
            · unfold xcell xcl0
              rw [f3, g3, hk, if_pos (show ci < 100 by omega)]
              congr 2
              apply List.ext_getElem?
              intro q
              rw [List.getElem?_set, List.getElem?_map, List.getElem?_map]
              by_cases hq : j = q
              · subst hq
                rw [if_pos rfl, List.getElem?_range hj, if_pos (by simpa using hj)]
                simp only [Option.map_some]
                rw [f6]
              · rw [if_neg hq]
                by_cases hql : q < xnf ci
                · rw [List.getElem?_range hql]
                  simp only [Option.map_some]
                  rw [f5 _ q (fun z => hq z.symm)]
                · rw [List.getElem?_eq_none (by simpa using hql)]
                  rfl
          intro H locs ls hP hS hL
          have hk2 : ∀ (H1 : Heap) (locs1 : List Loc), va_P D xcls ((xw (xad b scr) ca b h).set (a - 1) (xad b scr a, .inr (ci, ((List.range (xnf ci)).map (fun j => xemb (xad b scr) (xfv (xft ci j) (xhI h a) (xhJ h a) (xhR h a) j))).set j (xemb (xad b scr) v)))) H1 → va_D (fun q => b ≤ q) ((xw (xad b scr) ca b h).set (a - 1) (xad b scr a, .inr (ci, ((List.range (xnf ci)).map (fun j => xemb (xad b scr) (xfv (xft ci j) (xhI h a) (xhJ h a) (xhR h a) j))).set j (xemb (xad b scr) v)))) → va_S (fun q => b ≤ q) s.heap H1 locs1 → W p l e R s m args below meth c H1 locs1 (xhz h - z0) (xhs h - s0) Q (F0 m (pc + 3) ls (st'.map (xemb (xad b scr)))) := by
            intro H1 locs1 hP1 _ hS1
            rw [hset] at hP1
            have := K H1 locs1 ls hP1 hS1 hL
            rw [f1, f2] at this
            exact this
          cases hfin : (xTT ci j).2.2.2 with
          | false =>
            exact va_put (D := D) (ci := ci) (C := xcn ci) (T := xTT ci) (N := xnf ci) hx hb hts (xws_in hci) (xft ci) (xf_ty hci) (xf_nm hci) hown hK hP (xw_D _ _ _ _) hS (a - 1) (xw_obj (scr := scr) hk (by omega)) (xcls_at hci) j hj (hts _ hl) (fun _ q => q) hfin (xf_ty hci j hj) (f7 _).1 (f7 _).2 (by simpa using hj) hd hk2
          | true =>
            unfold xpok at hpo
            rw [xcls_at hci] at hpo
            simp only [hfin, Bool.not_true, Bool.false_or, Bool.and_eq_true, beq_iff_eq] at hpo
            exact va_putF (D := D) (ci := ci) (C := xcn ci) (T := xTT ci) (N := xnf ci) hx hb hts (xws_in hci) (xft ci) (xf_ty hci) (xf_nm hci) hown hK hP (xw_D _ _ _ _) hS (a - 1) (xw_obj (scr := scr) hk (by omega)) (xcls_at hci) j hj (hts _ hl) (fun _ q => q) hfin (hin hpo.1) (by rw [xf_dc hci j hj, hpo.2]) (xf_ty hci j hj) (f7 _).1 (f7 _).2 (by simpa using hj) hd hk2
      · cases ho
    · cases ho
  · cases ho
end XME
