/-! The main theorem: a run of the small machine is a run of the machine. -/
theorem xcall_inv {k len y : Nat} {i : Instr} {st as r : List Value} {h : XH} (ho : xcall k i len st h = some (y, as, r)) : len = 3 ∧ ∃ idx n, xcal (xkc k) idx = some (y, n) ∧ xwid r ≤ 8 ∧ xwid as ≤ xml y ∧ n ≤ st.length ∧
    ((i = .invokestatic idx ∧ xmk y = 0 ∧ as = (st.take n).reverse ∧ r = st.drop n) ∨ ∃ a, st.drop n = .ref a :: r ∧ as = .ref a :: (st.take n).reverse ∧ ((i = .invokevirtual idx ∧ xmk y = 1 ∧ xkd h a = (xkc y, xnf (xkc y))) ∨ (i = .invokespecial idx ∧ xmk y = 2))) := by
  unfold xcall at ho
  split at ho
  · rename_i hl
    refine ⟨hl, ?_⟩
    cases i with
    | invokestatic idx =>
      simp only at ho
      split at ho
      · rename_i y' n hc
        split at ho
        · rename_i hq
          cases ho
          exact ⟨idx, n, hc, hq.2.2.1, hq.2.2.2, hq.2.1, Or.inl ⟨rfl, hq.1, rfl, rfl⟩⟩
        · cases ho
      · cases ho
    | invokevirtual idx =>
      simp only at ho
      split at ho
      · rename_i y' n hc
        split at ho
        · rename_i a r' hdr
          split at ho
          · rename_i hq
            cases ho
            exact ⟨idx, n, hc, hq.2.1, hq.2.2.2.2, hq.2.2.2.1, Or.inr ⟨a, hdr, rfl, Or.inl ⟨rfl, hq.1, hq.2.2.1⟩⟩⟩
          · cases ho
        · cases ho
      · cases ho
    | invokespecial idx =>
      simp only at ho
      split at ho
      · rename_i y' n hc
        split at ho
        · rename_i a r' hdr
          split at ho
          · rename_i hq
            cases ho
            exact ⟨idx, n, hc, hq.2.1, hq.2.2.2, hq.2.2.1, Or.inr ⟨a, hdr, rfl, Or.inr ⟨rfl, hq.1⟩⟩⟩
          · cases ho
        · cases ho
      · cases ho
    | _ => cases ho
  · cases ho
section XMA
variable {p : Program} {l : Launch} {e : Env} {R : Room} {s : State} {m : MethodId} {args : Array Value} {below : List Frame} {meth : Method} {c : Code} {Q : State → Prop} {D : va_G} {ca : Nat → ClassId} {b scr z0 s0 k pc pc' len d : Nat} {L L' : XL} {st st' r : List Value} {h h' h1 : XH} {i : Instr} {S : XS} {v : Option Value}
theorem xret_sound (C : XCx S p s m args meth c D ca b scr z0 k) (hd : decode (xcode k) pc = .ok (i, len)) (hr : xret k i len st = some v) : XW (p, l, e, R, s, m, args, below, meth, c, MQ below (XQ D ca b scr v h) args s (xhz h - z0) (xhs h - s0) (fun q => b ≤ q), D, ca, b, scr, z0, s0) k pc L st h := by
  obtain ⟨hx, hb, hml, hown, hts, hnw, hao1, hao3, hK, hX, hsb, hz1, hss, hin, hrt, hlk⟩ := C
  unfold xret at hr
  split at hr
  · rename_i hl
    subst hl
    cases i with
    | return_ =>
      simp only at hr
      split at hr
      · rename_i hc
        cases hr
        obtain ⟨h1, rfl⟩ := hc
        intro H locs ls hP hS hL
        exact W.vret hx hb (hrt.trans h1) (fun t ht hW => ⟨rfl, by rw [ht]; exact hP, hS.F ht⟩) hS.2.2 hd hlk
      · cases hr
    | ireturn =>
      simp only at hr
      split at hr
      · split at hr
        · rename_i hc
          cases hr
          intro H locs ls hP hS hL
          rcases hc with h1 | ⟨h1, h2⟩
          · exact W.iret hx hb (hrt.trans h1) (fun t ht hW => ⟨rfl, by rw [ht]; exact hP, hS.F ht⟩) hS.2.2 hd hlk
          · exact W.zret (ty := .boolean) hx hb (hrt.trans h1) (by rcases h2 with rfl | rfl <;> decide) (fun t ht hW => ⟨rfl, by rw [ht]; exact hP, hS.F ht⟩) hS.2.2 hd hlk
        · cases hr
      · cases hr
    | lreturn =>
      simp only at hr
      split at hr
      · split at hr
        · rename_i h1
          cases hr
          intro H locs ls hP hS hL
          exact W.lret hx hb (hrt.trans h1) (fun t ht hW => ⟨rfl, by rw [ht]; exact hP, hS.F ht⟩) hS.2.2 hd hlk
        · cases hr
      · cases hr
    | areturn =>
      have hro : xrob k = true → ∃ rt, xrty k = some rt ∧ ((∃ n, rt = .object n) ∨ ∃ t, rt = .array t) := by
        intro hq
        unfold xrob at hq
        split at hq
        · rename_i hq2; exact ⟨_, hq2, Or.inl ⟨_, rfl⟩⟩
        · rename_i hq2; exact ⟨_, hq2, Or.inr ⟨_, rfl⟩⟩
        · cases hq
      simp only at hr
      split at hr
      · split at hr
        · rename_i hq
          cases hr
          obtain ⟨rt, h1, h2⟩ := hro hq
          intro H locs ls hP hS hL
          exact W.aret hx hb (hrt.trans h1) h2 (Or.inr ⟨_, rfl⟩) (fun t ht hW => ⟨rfl, by rw [ht]; exact hP, hS.F ht⟩) hS.2.2 hd hlk
        · cases hr
      · split at hr
        · rename_i hq
          cases hr
          obtain ⟨rt, h1, h2⟩ := hro hq
          intro H locs ls hP hS hL
          exact W.aret hx hb (hrt.trans h1) h2 (Or.inl rfl) (fun t ht hW => ⟨rfl, by rw [ht]; exact hP, hS.F ht⟩) hS.2.2 hd hlk
        · cases hr
      · cases hr
    | _ => cases hr
  · cases hr
theorem xgo {H : Heap} {locs : List Loc} {ls : Array Slot} {st0 rest : List Value} {a : Array Value} {mc ms : Nat} (hr : va_Run p l e R s m args below meth c H locs (xhz h - z0) (xhs h - s0) mc ms (F0 m pc ls st0) rest (XQ D ca b scr v h1 a) (fun q => b ≤ q)) (hS : va_S (fun q => b ≤ q) s.heap H locs)
    (kk : ∀ (H1 : Heap) (locs1 : List Loc), va_P D xcls (xw (xad b scr) ca b h1) H1 → va_S (fun q => b ≤ q) s.heap H1 locs1 → W p l e R s m args below meth c H1 locs1 (xhz h - z0 + mc) (xhs h - s0 + ms) Q (F0 m (pc + 3) ls ((v.map (xemb (xad b scr))).toList ++ rest))) : W p l e R s m args below meth c H locs (xhz h - z0) (xhs h - s0) Q (F0 m pc ls st0) := by
  intro T hT X
  obtain ⟨v', st₀, t, T', L, h0, X', hL, e1, e2, ⟨hv, hP, hz, hk⟩, st⟩ := hr T hT X
  cases hv
  rw [h0] at hz hk
  obtain ⟨t2, a1, b1⟩ := kk T'.heap (locs ++ L) (by rw [e1]; exact hP) ⟨Nat.le_trans hS.1 (by rw [e1]; exact hz), fun q h1 h2 => by rw [e1, hk q (Nat.lt_of_lt_of_le h1 hS.1) h2]; exact hS.2.1 q h1 h2, fun q hq => by
      rcases List.mem_append.mp hq with h | h
      · exact hS.2.2 q h
      · exact hL q h⟩ T' rfl X'
  exact ⟨t2, st t2 a1, b1⟩
end XMA
theorem xsound (S : XS) (l : Launch) (D : va_G) (ca : Nat → ClassId) (b scr : Nat) : ∀ (n d k pc : Nat) (L : XL) (st : List Value) (h : XH) (v : Option Value) (h' : XH), xrun S n d k pc L st h = some (v, h') →
    ∀ (p : Program) (e : Env) (R : Room) (s : State) (m : MethodId) (args : Array Value) (below : List Frame) (meth : Method) (c : Code) (Q : State → Prop) (z0 s0 : Nat), XCx S p s m args meth c D ca b scr z0 k → d ≤ R.frames → 40 * d ≤ R.locals → z0 ≤ xhz h → s0 ≤ xhs h → xhz h' - z0 ≤ R.cells → xhs h' - s0 ≤ R.slots →
      (∀ i len pc1 st1 L1, decode (xcode k) pc1 = .ok (i, len) → xret k i len st1 = some v → XW (p, l, e, R, s, m, args, below, meth, c, Q, D, ca, b, scr, z0, s0) k pc1 L1 st1 h') → XW (p, l, e, R, s, m, args, below, meth, c, Q, D, ca, b, scr, z0, s0) k pc L st h := by
  intro n
  induction n with
  | zero => intro d k pc L st h v h' ho; cases ho
  | succ n ih =>
    intro d k pc L st h v h' ho p e R s m args below meth c Q z0 s0 C hf hlo hz0 hs0 hR1 hR2 HR
    simp only [xrun] at ho
    split at ho
    · cases ho
    · rename_i i len hd
      split at ho
      · rename_i r hr
        cases ho
        exact HR i len pc st L hd hr
      · split at ho
        · rename_i y as r hc
          split at ho
          · cases ho
          · rename_i hd0
            split at ho
            · cases ho
            · rename_i v1 h1 hcal
              have g1 := xrun_grow _ _ _ _ _ _ _ _ _ hcal
              have g2 := xrun_grow _ _ _ _ _ _ _ _ _ ho
              obtain ⟨rfl, idx, nn, hxc, hwr, hwa, hnn, hkind⟩ := xcall_inv hc
              obtain ⟨hy, hpar, hlink⟩ := xcal_ok hxc
              have hM : Met l (xyn y) (xws y) (xrm (d - 1) (xhz h1 - xhz h) (xhs h1 - xhs h)) (va_Pc (as.map (xemb (xad b scr))) (XU S D ca b scr h)) (XQ D ca b scr v1 h1) (xhz h1 - xhz h) (xhs h1 - xhs h) (fun q => b ≤ q) := by
                refine va_MetF (cc := xcode y) (maxL := xml y) (ret := xrty y) (xm_pl hy).1 rfl ?_
                intro p' e' s' m' args' below' meth' c' s₁ B hml' hv
                obtain ⟨rfl, u1, u2, u3, u4, u5, u6, u7⟩ := hv
                have hts' := atoms_spec (ws := xws y) B.pre
                have C' : XCx S p' s' m' ((as.map (xemb (xad b scr))).toArray) meth' c' D ca b scr (xhz h) y := by
                  obtain ⟨-, -, -, -, -, -, -, -, -, -, hsb, hz1, -⟩ := C
                  refine ⟨B.exec, B.bytes, hml', ?_, fun w hw => hts' w (List.mem_cons_of_mem _ hw), u1, u2, u3, u4, u5, hsb, by omega, u6, fun q => ?_, B.returns, B.notSynchronized⟩
                  · have := findClass_of_methodNamed B.named
                    rw [xm_cls (by omega)] at this
                    exact this
                  · rw [← q]
                    exact (name_of_methodNamed B.named B.method).1
                have K := ih (d - 1) y 0 (xent as (xml y)) [] h v1 h1 hcal p' e' (xrm (d - 1) (xhz h1 - xhz h) (xhs h1 - xhs h)) s' m' _ below' meth' c' (MQ below' (XQ D ca b scr v1 h1) ((as.map (xemb (xad b scr))).toArray) s' (xhz h1 - xhz h) (xhs h1 - xhs h) (fun q => b ≤ q)) (xhz h) (xhs h) C' (Nat.le_refl _) (Nat.le_refl _) (Nat.le_refl _) (Nat.le_refl _) (Nat.le_refl _) (Nat.le_refl _) (fun i len pc1 st1 L1 q1 q2 => xret_sound C' q1 q2)
                rw [lg_entry_eq]
                have K := K s'.heap [] _ u7 va_S.rf (XLH.entry hwa)
                rw [Nat.sub_self, Nat.sub_self] at K
                exact K
              have K := ih d k (pc + 3) L (v1.toList ++ r) h1 v h' ho p e R s m args below meth c Q z0 s0 C hf hlo (by omega) (by omega) hR1 hR2 HR
              obtain ⟨hx, hb, hml, hown, hts, hnw, hao1, hao3, hK, hX, hsb, hz1, hss, hin, hrt, hlk⟩ := C
              have hmL := (xm_kc hy).1
              have hroom : (xrm (d - 1) (xhz h1 - xhz h) (xhs h1 - xhs h)).frames + 1 ≤ R.frames ∧ 8 + (xml y + 11) + (xrm (d - 1) (xhz h1 - xhz h) (xhs h1 - xhs h)).locals ≤ R.locals := by
                refine ⟨?_, ?_⟩
                · show d - 1 + 1 ≤ _; omega
                · show 8 + (xml y + 11) + 40 * (d - 1) ≤ _; omega
              have hds : (xyn y).cls ≠ "java/lang/invoke/MethodHandle" ∧ (xyn y).cls ≠ "java/lang/invoke/VarHandle" ∧ (parseMethodDescriptor (xyn y).desc).map (fun d => d.parameters.length) = some nn := ⟨(xm_pl hy).2.1, (xm_pl hy).2.2, hpar⟩
              intro H locs ls hP hS hL
              refine W.sized (fun hsz => ?_)
              have hsz2 : H.size = b + (xhz h - 1) := by
                refine Nat.le_antisymm (by omega) ?_
                by_cases hq : xhz h = 1
                · have := hS.1; omega
                · have := (hP (xhz h - 1 - 1) _ (xw_at (scr := scr) (a := xhz h - 1) (by omega) (by omega))).lt
                  rw [xad_pos (by omega)] at this
                  have h2 : b + (xhz h - 1 - 1) < H.size := this
                  omega
              have hUU : ∀ U : State, U.heap = H → s.WarmedH U.vm → XU S D ca b scr h U := fun U hU hW => xU_warm hnw hao1 hao3 hK hX hsb (by omega) hS hsz2 hP hU hW
              have hcs : xhz h - z0 + (xhz h1 - xhz h) ≤ R.cells ∧ xhs h - s0 + (xhs h1 - xhs h) ≤ R.slots := by omega
              have fin : ∀ (a : Array Value) (st0 : List Value), va_Run p l e R s m args below meth c H locs (xhz h - z0) (xhs h - s0) (xhz h1 - xhz h) (xhs h1 - xhs h) (F0 m pc ls st0) (r.map (xemb (xad b scr))) (XQ D ca b scr v1 h1 a) (fun q => b ≤ q) → W p l e R s m args below meth c H locs (xhz h - z0) (xhs h - s0) Q (F0 m pc ls st0) := by
                intro a st0 hrun
                refine xgo hrun hS (fun H1 locs1 hP1 hS1 => ?_)
                have K := K H1 locs1 ls hP1 hS1 hL
                have e1 : xhz h1 - z0 = xhz h - z0 + (xhz h1 - xhz h) := by omega
                have e2 : xhs h1 - s0 = xhs h - s0 + (xhs h1 - xhs h) := by omega
                have e3 : (v1.toList ++ r).map (xemb (xad b scr)) = (v1.map (xemb (xad b scr))).toList ++ r.map (xemb (xad b scr)) := by cases v1 <;> rfl
                rw [e1, e2, e3] at K
                exact K
              have hCF : CallFix p m c (xcode k) (xml k) s args xgood (xcn (xkc k)) := ⟨hx, hb, hml, hown, hts⟩
              have hlen : ((st.take nn).reverse.map (xemb (xad b scr))).length = nn := by simp; omega
              rcases hkind with ⟨rfl, hmk, rfl, rfl⟩ | ⟨a, hdr, rfl, ⟨rfl, hmk, hkd⟩ | ⟨rfl, hmk⟩⟩
              · have hst : (F0 m pc ls (st.map (xemb (xad b scr)))).stack = ((st.take nn).reverse.map (xemb (xad b scr))).reverse ++ (st.drop nn).map (xemb (xad b scr)) := by
                  show st.map _ = _
                  rw [← List.map_reverse, List.reverse_reverse, ← List.map_append, List.take_append_drop]
                refine fin ((st.take nn).reverse.map (xemb (xad b scr))).toArray _ ?_
                rcases hlink with hl | hl
                · exact va_runS hCF hM ⟨callB_of nn hts (xgood_in hy) rfl rfl rfl (hts _ (xm_ini hy)) (hts _ hl) hds hroom, hts _ (xm_k0 hy hmk)⟩ ⟨xU_blind, fun U hU hW => ⟨rfl, hUU U hU hW⟩⟩ rfl hlen hL.1 hst (lv_room (by rw [xwid_emb]; exact hwr)) hd hcs
                · exact va_runSN hCF hM ⟨va_cnB nn hts (xgood_in hy) rfl rfl rfl (hnw _ hl) (hts _ (xm_ini hy)) hds hroom, hts _ (xm_k0 hy hmk), trivial⟩ ⟨xU_blind, fun U hU hW => ⟨rfl, hUU U hU hW⟩⟩ rfl hlen hL.1 hst (lv_room (by rw [xwid_emb]; exact hwr)) hd hcs
              · have hst : (F0 m pc ls (st.map (xemb (xad b scr)))).stack = ((st.take nn).reverse.map (xemb (xad b scr))).reverse ++ .ref (xad b scr a) :: r.map (xemb (xad b scr)) := by
                  show st.map _ = _
                  rw [← List.map_reverse, List.reverse_reverse]
                  conv => lhs; rw [← List.take_append_drop nn st, List.map_append, hdr]
                  rfl
                refine fin (Value.ref (xad b scr a) :: (st.take nn).reverse.map (xemb (xad b scr))).toArray _ ?_
                obtain ⟨k1, k2, k3⟩ := xm_k1 hy hmk
                have hrec := va_recv hK hP (xcls_at k3) (xw_obj (scr := scr) hkd (by omega))
                rcases hlink with hl | hl
                · exact va_runV hCF hM ⟨callB_of nn hts (xgood_in hy) rfl rfl rfl (hts _ (xm_ini hy)) (hts _ hl) hds hroom, hts _ k1, hts _ k2⟩ ⟨xU_blind, hrec, fun U hU hW => ⟨rfl, hUU U hU hW⟩⟩ rfl hlen hL.1 hst (lv_room (by rw [xwid_emb]; exact hwr)) hd hcs
                · exact va_runVN hCF hM ⟨va_cnB nn hts (xgood_in hy) rfl rfl rfl (hnw _ hl) (hts _ (xm_ini hy)) hds hroom, hts _ k1, hts _ k2⟩ ⟨xU_blind, hrec, fun U hU hW => ⟨rfl, hUU U hU hW⟩⟩ rfl hlen hL.1 hst (lv_room (by rw [xwid_emb]; exact hwr)) hd hcs
              · have hst : (F0 m pc ls (st.map (xemb (xad b scr)))).stack = ((st.take nn).reverse.map (xemb (xad b scr))).reverse ++ .ref (xad b scr a) :: r.map (xemb (xad b scr)) := by
                  show st.map _ = _
                  rw [← List.map_reverse, List.reverse_reverse]
                  conv => lhs; rw [← List.take_append_drop nn st, List.map_append, hdr]
                  rfl
                refine fin (Value.ref (xad b scr a) :: (st.take nn).reverse.map (xemb (xad b scr))).toArray _ ?_
                obtain ⟨k1, k2, k3⟩ := xm_k2 hy hmk
                have hM2 := hM
                rcases hlink with hl | hl
                · exact va_runI (maxL := xml y) (bytes := xcode y) hCF hM ⟨callB_of nn hts (xgood_in hy) (by unfold xws; rw [k3]) rfl rfl (hts _ (xm_ini hy)) (hts _ hl) hds hroom, k2, hts _ k1⟩ ⟨xU_blind, fun U hU hW => ⟨rfl, hUU U hU hW⟩⟩ rfl hlen hL.1 hst (lv_room (by rw [xwid_emb]; exact hwr)) hd hcs
                · exact va_runIN (maxL := xml y) (bytes := xcode y) hCF hM ⟨va_cnB nn hts (xgood_in hy) (by unfold xws; rw [k3]) rfl rfl (hnw _ hl) (hts _ (xm_ini hy)) hds hroom, k2, hts _ k1⟩ ⟨xU_blind, fun U hU hW => ⟨rfl, hUU U hU hW⟩⟩ rfl hlen hL.1 hst (lv_room (by rw [xwid_emb]; exact hwr)) hd hcs
        · split at ho
          · cases ho
          · rename_i pc' L' st' h1 h1e
            have g1 := x1_grow h1e
            have g2 := xrun_grow _ _ _ _ _ _ _ _ _ ho
            exact x1_sound C hf hlo hz0 hs0 (by omega) (by omega) hd h1e (ih d k pc' L' st' h1 v h' ho p e R s m args below meth c Q z0 s0 C hf hlo (by omega) (by omega) hR1 hR2 HR)
