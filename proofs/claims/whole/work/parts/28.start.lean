/-! THE CLAIM OUT OF ONE WALK OF THE LAW'S BODY. Your part is whole_start (and what it stands on); all else here is the same for every law, but numbers. -/
def R_law : String := "BranchGoalsLaw"
def lw_P (b : Addr) (xs : List Int32) (args : Array Value) (s : State) : Prop := args = #[.ref b] ∧ s.IntsAt b xs ∧ xs.length ≤ 3073 ∧ (Jvm.Cond.and given_1 narrow_1).before args s = true
def lw_Q (_ : Array Value) (s : State) (o : Outcome) (t : State) : Prop := o = .returned (some (.int 1)) ∧ Framed s o t [] 600000 7302250
def lw_Z (below : List Frame) (a : Array Value) (s : State) : State → Prop := fun t => ∃ o, t.status = .running ∧ Ended t below o ∧ lw_Q a s o t
/-- the law's own end, with 1 on the stack, nothing written that was there before, its room as the claim has it -/
theorem lw_ret {p : Program} {l : Launch} {e : Env} {s : State} {m : MethodId} {below : List Frame} {meth : Method} {c : Code} {b : Nat} (hx : p.tables.exec = Jvm.exec) (hb : c.code = code) (hr : meth.sig.returnType = ret) (hlocks : meth.locks = false) {pc : Nat} {H : Heap} {ls : Array Slot} (hdg : decode code pc = .ok (.ireturn, 1)) : W p l e room_1 s m #[Value.ref b] below meth c H [] 600000 7302250 (lw_Z below #[Value.ref b] s) (F0 m pc ls [.int 1]) := by
  intro T hT X
  obtain ⟨fs, hret, hrun, hended, hW, hframe⟩ := X.leave (v := some (.int 1)) (hlocks := hlocks) (fun h => by rw [hr] at h; cases h)
  have hmeth' : T.vm.method? m = some meth := X.method'
  refine ⟨T.setFrames fs, ?_, .returned (some (.int 1)), hrun, hended, rfl, ⟨_, rfl⟩, hW, hframe⟩
  jvm_step X.here [X.here.top, hx, hb, hdg, hmeth', hr, ret, narrow_b1]
  (try refine ⟨rfl, ?_⟩); (try refine ⟨rfl, ?_⟩)
  first | (intro acts; rw [hret _ acts rfl rfl rfl]) | rw [hret _ _ rfl rfl rfl]
  exact Steps.refl _
/-- what holds at the law's entry: the machine, the code, the tables' words (any of lw_tbl by 'hts w (by decide +kernel)'), the script of L ints xs at the cell b, what the Statement gives of the start (any of its parts by flat_of_before) -/
def lw_At (p : Program) (s : State) (m : MethodId) (meth : Method) (c : Code) (b L : Nat) (xs : Nat → Int32) : Prop :=
  p.tables.exec = Jvm.exec ∧ c.code = code ∧ meth.sig.returnType = ret ∧ c.maxLocals = 4 ∧ s.vm.findClass R_law = some m.cls ∧ (∀ w ∈ lw_tbl, w.before #[Value.ref b] s = true) ∧ va_X b L xs s s.heap ∧ b < s.heap.size ∧ meth.locks = false ∧ (Jvm.Cond.and given_1 narrow_1).before #[Value.ref b] s = true
def xh0 : XH := (1, 0, (fun _ => (999, 0)), (fun _ _ => 0), (fun _ _ => 0), (fun _ _ => none))
/-- what is left: on every script the small machine runs the law to 1, in its room -/
def XLaw : Prop := ∀ (N : Nat) (xs : Nat → Int32), N ≤ 3073 → ∃ (n : Nat) (h' : XH), xrun (N, xs) n 11 160 0 (xent [.ref 0] 4) [] xh0 = some (some (.int 1), h') ∧ xhz h' ≤ 600001 ∧ xhs h' ≤ 7302250
theorem xl_ca {s : State} {args : Array Value} {ty : FieldType} (h : (Cond.arrayClass ty).before args s = true) (hp : ∀ n, ty ≠ .object n) : ∃ c, ArrOfT s c ty ∧ va_RA s c ty := by
  obtain ⟨c, k, comp, h1, h2, h3⟩ := Cond.arrayClass_spec h
  refine ⟨c, fun n z => ⟨fun k h => (by cases h), k, h2, comp, h3⟩, ?_⟩
  cases ty <;> first | exact h1 | exact absurd rfl (hp _)
theorem xl_co {s : State} {C : String} (h : va_AO C s) : ∃ c, ArrOfT s c (.object C) ∧ va_RA s c (.object C) := by
  obtain ⟨comp, c, k, h1, h2, h3, h4, h5⟩ := Cond.arrayOver_spec h
  exact ⟨c, fun n z => ⟨fun k h => (by cases h), k, h3, comp, h4⟩, k, comp, h3, h4, h1, h5⟩
theorem xl_cls {s : State} {args : Array Value} (hts : ∀ w ∈ xgood, w.before args s = true) : ∃ D : va_G, ∀ (ci : Nat) (q : vw_C), xcls[ci]? = some q → u_Kn s q.1 q.2.1 q.2.2 (D.1 ci) (D.2 ci) := by
  have h1 : ∀ ci : Nat, ∃ (cC : ClassId) (iS : Nat → Nat), ci < 10 → u_Kn s (xcn ci) (xTT ci) (xnf ci) cC iS := by
    intro ci
    by_cases hc : ci < 10
    · obtain ⟨cC, iS, hk⟩ := u_known hts (xws_in hc) (hts _ (xin_ci hc).1)
      exact ⟨cC, iS, fun _ => hk⟩
    · exact ⟨default, fun _ => 0, fun q => absurd q hc⟩
  refine ⟨(fun ci => (h1 ci).choose, fun ci => (h1 ci).choose_spec.choose), fun ci q hq => ?_⟩
  have hlt : ci < 10 := (List.getElem?_eq_some_iff.mp hq).1
  have := xcls_at hlt
  rw [hq] at this
  cases this
  exact (h1 ci).choose_spec.choose_spec hlt
set_option maxHeartbeats 4000000 in
theorem whole_start_open (hXL : XLaw) {p : Program} {e : Env} {s : State} {m : MethodId} {below : List Frame} {meth : Method} {c : Code} (l : Launch) {b L : Nat} {xs : Nat → Int32} (hL : L ≤ 3073) (C0 : lw_At p s m meth c b L xs) : W p l e room_1 s m #[Value.ref b] below meth c s.heap [] 0 0 (lw_Z below #[Value.ref b] s) (entryFrame m ([Value.ref b] : List Value).toArray 4) := by
  obtain ⟨hx, hb, hr, hml, hown, hts, hX, hbl, hlk, hgv⟩ := C0
  obtain ⟨n, h', hrun, hc, hs⟩ := hXL L xs hL
  have htg : ∀ w ∈ xgood, w.before #[Value.ref b] s = true := fun w hw => hts w (List.mem_filter.mp hw).1
  have ha1 : va_AO (xcn 1) s := va_AO.of (hts _ (List.mem_append_right _ (xpl_in xkO_e (w := .arrayOver (.object (xcn 1))) (by simp [xcn, xcnT]))))
  have ha3 : va_AO (xcn 3) s := va_AO.of (hts _ (List.mem_append_right _ (xpl_in xkO_e (w := .arrayOver (.object (xcn 3))) (by simp [xcn, xcnT]))))
  have hnw : ∀ w ∈ xnest, va_Nw w s := fun w hw => by
    have hw2 : w.onTables = true := by
      have := (List.mem_filter.mp hw).2
      cases w <;> first | rfl | cases this
    exact va_Nw.of hw2 (hts w (List.mem_filter.mp hw).1)
  obtain ⟨D, hD⟩ := xl_cls htg
  obtain ⟨c0, k0⟩ := xl_ca (htg _ xg_glob.2.2.2.2.2.1) (fun n q => by cases q)
  obtain ⟨c1, k1⟩ := xl_ca (htg _ xg_glob.2.2.2.2.2.2.1) (fun n q => by cases q)
  obtain ⟨c2, k2⟩ := xl_ca (htg _ xg_glob.2.2.2.2.2.2.2) (fun n q => by cases q)
  obtain ⟨c3, k3⟩ := xl_co ha1
  obtain ⟨c4, k4⟩ := xl_co ha3
  have hK : va_K D xcls (xtys (fun t => ([c0, c1, c2, c3, c4] : List ClassId).getD t c0)) s := by
    refine ⟨hD, fun t q hq => ?_⟩
    match t, hq with
    | 0, hq => cases hq; exact k0
    | 1, hq => cases hq; exact k1
    | 2, hq => cases hq; exact k2
    | 3, hq => cases hq; exact k3
    | 4, hq => cases hq; exact k4
  have C : XCx (L, xs) p s m #[Value.ref b] meth c D (fun t => ([c0, c1, c2, c3, c4] : List ClassId).getD t c0) s.heap.size b 1 160 :=
    ⟨hx, hb, hml, hown, htg, hnw, ha1, ha3, hK, hX, hbl, Nat.le_refl 1, rfl, fun q => absurd q (by decide), hr, hlk⟩
  have K := xsound (L, xs) l D _ s.heap.size b n 11 160 0 (xent [.ref 0] 4) [] xh0 (some (.int 1)) h' hrun p e room_1 s m #[Value.ref b] below meth c (lw_Z below #[Value.ref b] s) 1 0 C (by decide) (by decide) (Nat.le_refl 1) (Nat.le_refl 0) (by show xhz h' - 1 ≤ 600000; omega) (by show xhs h' - 0 ≤ 7302250; omega) ?_
  · rw [lg_entry_eq]
    exact K s.heap [] _ (fun k q hq => by simp [xw, xh0, xhz] at hq) va_S.rf (XLH.entry (as := [.ref 0]) (by decide))
  · intro i len pc1 st1 L1 hd hret H locs ls hP hS hLs
    unfold xret at hret
    split at hret
    · rename_i hl
      subst hl
      cases i with
      | return_ =>
        simp only at hret
        split at hret
        · cases hret
        · cases hret
      | ireturn =>
        simp only at hret
        split at hret
        · split at hret
          · cases hret
            refine va_forget (fun q hq => hS.2.2 q hq) ?_
            refine W.widen (k := 600000) (n := 7302250) (by show xhz h' - 1 ≤ 600000; omega) (by show xhs h' - 0 ≤ 7302250; omega) ?_
            exact lw_ret hx hb hr hlk hd
          · cases hret
        · cases hret
      | lreturn =>
        simp only at hret
        split at hret
        · split at hret
          · cases hret
          · cases hret
        · cases hret
      | areturn =>
        simp only at hret
        split at hret
        · split at hret
          · cases hret
          · cases hret
        · split at hret
          · cases hret
          · cases hret
        · cases hret
      | _ => cases hret
    · cases hret
