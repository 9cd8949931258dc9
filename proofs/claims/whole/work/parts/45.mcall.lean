/-! The model: a call. -/
section MC
variable {S : XS} {d m : Nat} {I : Nat → Nat → Int32} {J : Nat → Nat → Int64} {R : Nat → Nat → Option Nat}
theorem cdM_eq {I I' : Nat → Nat → Int32} (h : I' 264 = I 264) : cdM I' m = cdM I m := by
  funext x y
  unfold cdM
  rw [h]
theorem q_find_eq {I I' : Nat → Nat → Int32} (h1 : I' 267 = I 267) (h2 : I' 268 = I 268) (p : Nat) : ∀ f k, q_find I' m p f k = q_find I m p f k
  | 0, _ => rfl
  | f + 1, k => by simp only [q_find, h1, h2, q_find_eq h1 h2 p f (k + 1)]
theorem bnM_eq {I I' : Nat → Nat → Int32} {nb : Nat} (h1 : I' 267 = I 267) (h2 : I' 268 = I 268) : bnM I' m nb = bnM I m nb := by
  funext p
  exact q_find_eq h1 h2 p nb 0
theorem s_mcall_loop (hR : RF R) (hm : m < 2) {n : Nat} (hn : I 265 m = nI n) (hn2 : n ≤ 10) (hV : VC (cdM I m) n) {nb : Nat} (hnb : I 261 10 = nI nb) (hnb2 : nb ≤ 12) {xm : Int32} (e1 : xm = nI m) : ∀ (f p : Nat) (v : Nat → Int32) (N : Nat → Int64) (q4 : Option Value), f ≤ 40 → p ≤ n →
    XP S (d + 4) 127 4 [some (.ref 261), some (.int xm), some (.int (nI p)), some (.int (nI (40 - f))), q4] [] (hh (xrow I 271 v) (xrow J 273 N) R) (rJ (q_call UM (cdM I m) (bnM I m nb) n f p v N).1 (hh (xrow I 271 (q_call UM (cdM I m) (bnM I m nb) n f p v N).2.1) (xrow J 273 (q_call UM (cdM I m) (bnM I m nb) n f p v N).2.2) R)) := by
  have b0 : ∀ v : Nat → Int32, xrow I 271 v 265 = I 265 := fun v => xrow_ne (by decide)
  intro f
  induction f with
  | zero =>
    intro p v N q4 hf hp
    refine y_loc (pc' := 5) xD_127 rfl rfl rfl rfl ?_
    refine y_ci (pc' := 7) (40) xD_127 rfl rfl rfl rfl ?_
    refine y_icge (pt := 99) (pf := 10) xD_127 rfl rfl rfl (fun h7 => ?_) (fun h7 => ?_)
    · skip
      refine y_loc (pc' := 100) xD_127 rfl rfl rfl rfl ?_
      refine y_loc (pc' := 101) xD_127 rfl rfl rfl rfl ?_
      first | refine m_getR (pc' := 104) xD_127 rfl rfl rfl rfl (hR.1 _ _ _ rfl) rfl ?_ | refine m_getR (pc' := 104) xD_127 rfl rfl (by first | rfl | assumption) rfl (by assumption) rfl ?_
      refine y_loc (pc' := 105) xD_127 rfl rfl rfl rfl ?_
      refine m_iald (pc' := 106) (m) xD_127 rfl (by first | rfl | assumption) (by first | assumption | omega) (by decide) (by first | decide | omega) (by first | rfl | assumption) rfl ?_
      refine y_icge (pt := 115) (pf := 109) xD_127 rfl rfl rfl (fun h106 => ?_) (fun h106 => ?_)
      · skip
        refine y_cj (pc' := 116) (0) xD_127 rfl rfl rfl rfl ?_
        refine y_retJ xD_127 rfl rfl ?_
        rw [b0, hn] at h106
        first | (rw [q_call_end (Nat.not_lt.mpr ((nI_leI (by omega) (by omega)).mp h106))]; exact rJ_e rfl) | (rw [q_call_0 (Nat.lt_of_not_le (fun q => h106 ((nI_leI (by omega) (by omega)).mpr q)))]; exact rJ_e rfl)
      · skip
        refine y_ldc (pc' := 112) xD_127 rfl rfl rfl rfl ?_
        refine y_goto (pc' := 116) xD_127 rfl rfl ?_
        refine y_retJ xD_127 rfl rfl ?_
        rw [b0, hn] at h106
        first | (rw [q_call_end (Nat.not_lt.mpr ((nI_leI (by omega) (by omega)).mp h106))]; exact rJ_e rfl) | (rw [q_call_0 (Nat.lt_of_not_le (fun q => h106 ((nI_leI (by omega) (by omega)).mpr q)))]; exact rJ_e rfl)
    · exact absurd (show (40 : Int32) ≤ nI (40 - 0) from by decide) h7
  | succ f ih =>
    intro p v N q4 hf hp
    have hcd : cdM (xrow I 271 v) m = cdM I m := cdM_eq (xrow_ne (by decide))
    have hbn : bnM (xrow I 271 v) m nb = bnM I m nb := bnM_eq (xrow_ne (by decide)) (xrow_ne (by decide))
    have e5 : nI (40 - (f + 1)) + 1 = nI (40 - f) := by rw [nI_1]; congr 1; omega
    refine y_loc (pc' := 5) xD_127 rfl rfl rfl rfl ?_
    refine y_ci (pc' := 7) (40) xD_127 rfl rfl rfl rfl ?_
    refine y_icge (pt := 99) (pf := 10) xD_127 rfl rfl rfl (fun h7 => ?_) (fun h7 => ?_)
    · exact absurd h7 (nI_ge (b := 40) (by omega) (by omega))
    · skip
      refine y_loc (pc' := 11) xD_127 rfl rfl rfl rfl ?_
      refine y_loc (pc' := 12) xD_127 rfl rfl rfl rfl ?_
      first | refine m_getR (pc' := 15) xD_127 rfl rfl rfl rfl (hR.1 _ _ _ rfl) rfl ?_ | refine m_getR (pc' := 15) xD_127 rfl rfl (by first | rfl | assumption) rfl (by assumption) rfl ?_
      refine y_loc (pc' := 16) xD_127 rfl rfl rfl rfl ?_
      refine m_iald (pc' := 17) (m) xD_127 rfl (by first | rfl | assumption) (by first | assumption | omega) (by decide) (by first | decide | omega) (by first | rfl | assumption) rfl ?_
      skip
      refine y_icge (pt := 99) (pf := 20) xD_127 rfl rfl rfl (fun h17 => ?_) (fun h17 => ?_)
      · skip
        have h17a : ¬ p < n := by
          rw [b0, hn] at h17
          exact Nat.not_lt.mpr ((nI_leI (by omega) (by omega)).mp h17)
        rw [q_call_end h17a]
        refine y_loc (pc' := 100) xD_127 rfl rfl rfl rfl ?_
        refine y_loc (pc' := 101) xD_127 rfl rfl rfl rfl ?_
        first | refine m_getR (pc' := 104) xD_127 rfl rfl rfl rfl (hR.1 _ _ _ rfl) rfl ?_ | refine m_getR (pc' := 104) xD_127 rfl rfl (by first | rfl | assumption) rfl (by assumption) rfl ?_
        refine y_loc (pc' := 105) xD_127 rfl rfl rfl rfl ?_
        refine m_iald (pc' := 106) (m) xD_127 rfl (by first | rfl | assumption) (by first | assumption | omega) (by decide) (by first | decide | omega) (by first | rfl | assumption) rfl ?_
        refine y_icge (pt := 115) (pf := 109) xD_127 rfl rfl rfl (fun h106 => ?_) (fun h106 => ?_)
        · skip
          refine y_cj (pc' := 116) (0) xD_127 rfl rfl rfl rfl ?_
          refine y_retJ xD_127 rfl rfl ?_
          exact rJ_e rfl
        · skip
          exact absurd h17 h106
      · skip
        have hpn : p < n := by
          rw [b0, hn] at h17
          exact Nat.lt_of_not_le (fun q => h17 ((nI_leI (by omega) (by omega)).mpr q))
        have hp10 : p < 10 := by omega
        obtain ⟨⟨t, ht, hop⟩, hV3, hVa, hVb, hVc⟩ := hV p hpn
        have next : ∀ (op : Value), ¬ cdM I m p 0 = 8 → ¬ cdM I m p 0 = 9 → ¬ (cdM I m p 0 = 4 ∧ v (cdM I m p 3).toNatClampNeg = 0) → XP S (d + 4) 127 86 [some (.ref 261), some (.int xm), some (.int (nI p)), some (.int (nI (40 - (f + 1)))), some op] [] (hh (xrow I 271 v) (xrow J 273 N) R) (rJ (q_call UM (cdM I m) (bnM I m nb) n (f + 1) p v N).1 (hh (xrow I 271 (q_call UM (cdM I m) (bnM I m nb) n (f + 1) p v N).2.1) (xrow J 273 (q_call UM (cdM I m) (bnM I m nb) n (f + 1) p v N).2.2) R)) := by
          intro op h8 h9 h4
          rw [q_call_n hpn h8 h9 h4]
          refine y_loc (pc' := 87) xD_127 rfl rfl rfl rfl ?_
          refine y_loc (pc' := 88) xD_127 rfl rfl rfl rfl ?_
          refine y_loc (pc' := 89) xD_127 rfl rfl rfl rfl ?_
          refine y_callV xD_127 rfl rfl rfl rfl (by first | rfl | assumption) rfl rfl rfl rfl (s_go (n := n) (nb := nb) hR hm (by rw [b0]; exact hn) hn2 p hpn (by rw [hcd]; exact hV p hpn) (by rw [xrow_ne (by decide)]; exact hnb) hnb2 (by rw [hcd, xrow_at]; exact h4) e1 rfl) (fun v h' hq => ?_)
          obtain ⟨rfl, rfl⟩ := hq
          rw [hcd, hbn, xrow_at, xrow_at, xrow_row, xrow_row]
          refine y_loc (pc' := 93) xD_127 rfl rfl rfl rfl ?_
          refine y_inc (pc' := 96) (nI (40 - f)) xD_127 rfl rfl rfl e5 rfl rfl ?_
          refine y_goto (pc' := 4) xD_127 rfl rfl ?_
          exact ih _ _ _ _ (by omega) q_line_le
        refine y_loc (pc' := 21) xD_127 rfl rfl rfl rfl ?_
        refine y_loc (pc' := 22) xD_127 rfl rfl rfl rfl ?_
        refine y_loc (pc' := 23) xD_127 rfl rfl rfl rfl ?_
        refine y_ci (pc' := 24) (0) xD_127 rfl rfl rfl rfl ?_
        refine y_callV xD_127 rfl rfl rfl rfl (by first | rfl | assumption) rfl rfl rfl rfl (s_code hR hm p 0 hp10 (by decide) e1 rfl rfl) (fun v h' hq => ?_)
        obtain ⟨rfl, rfl⟩ := hq
        rw [hcd]
        refine y_loc (pc' := 29) xD_127 rfl rfl rfl rfl ?_
        refine y_loc (pc' := 31) xD_127 rfl rfl rfl rfl ?_
        refine y_ci (pc' := 33) (8) xD_127 rfl rfl rfl rfl ?_
        refine y_icne (pt := 50) (pf := 36) xD_127 rfl rfl rfl (fun h33 => ?_) (fun h33 => ?_)
        · skip
          refine y_loc (pc' := 52) xD_127 rfl rfl rfl rfl ?_
          refine y_ci (pc' := 54) (9) xD_127 rfl rfl rfl rfl ?_
          refine y_icne (pt := 61) (pf := 57) xD_127 rfl rfl rfl (fun h54 => ?_) (fun h54 => ?_)
          · skip
            refine y_loc (pc' := 63) xD_127 rfl rfl rfl rfl ?_
            refine y_ci (pc' := 64) (4) xD_127 rfl rfl rfl rfl ?_
            refine y_icne (pt := 86) (pf := 67) xD_127 rfl rfl rfl (fun h64 => ?_) (fun h64 => ?_)
            · skip
              first
              | exact next _ h33 h54 (fun q => h64 q.1)
              | exact next _ h33 h54 (fun q => h79 (by rw [xrow_at]; have := q.2; rw [ec, nI_cl (by omega)] at this; exact this))
            · skip
              refine y_loc (pc' := 68) xD_127 rfl rfl rfl rfl ?_
              first | refine m_getR (pc' := 71) xD_127 rfl rfl rfl rfl (hR.1 _ _ _ rfl) rfl ?_ | refine m_getR (pc' := 71) xD_127 rfl rfl (by first | rfl | assumption) rfl (by assumption) rfl ?_
              refine y_loc (pc' := 72) xD_127 rfl rfl rfl rfl ?_
              refine y_loc (pc' := 73) xD_127 rfl rfl rfl rfl ?_
              refine y_loc (pc' := 74) xD_127 rfl rfl rfl rfl ?_
              refine y_ci (pc' := 75) (3) xD_127 rfl rfl rfl rfl ?_
              refine y_callV xD_127 rfl rfl rfl rfl (by first | rfl | assumption) rfl rfl rfl rfl (s_code hR hm p 3 hp10 (by decide) e1 rfl rfl) (fun v h' hq => ?_)
              obtain ⟨rfl, rfl⟩ := hq
              rw [hcd]
              obtain ⟨c, hc, ec⟩ := hVc (by rw [h64]; exact ⟨by decide, by decide⟩)
              refine m_iald (pc' := 79) (c) xD_127 rfl (by first | rfl | assumption) (by first | assumption | omega) (by decide) (by first | decide | omega) (by first | rfl | assumption) rfl ?_
              refine y_ifne (pt := 86) (pf := 82) xD_127 rfl rfl rfl (fun h79 => ?_) (fun h79 => ?_)
              · skip
                first
                | exact next _ h33 h54 (fun q => h64 q.1)
                | exact next _ h33 h54 (fun q => h79 (by rw [xrow_at]; have := q.2; rw [ec, nI_cl (by omega)] at this; exact this))
              · skip
                refine y_ldc (pc' := 85) xD_127 rfl rfl rfl rfl ?_
                rw [q_call_4 hpn h64 (by rw [ec, nI_cl (by omega)]; rw [xrow_at] at h79; exact h79)]
                refine y_retJ xD_127 rfl rfl ?_
                exact rJ_e rfl
          · skip
            refine y_ldc (pc' := 60) xD_127 rfl rfl rfl rfl ?_
            rw [q_call_9 hpn h54]
            refine y_retJ xD_127 rfl rfl ?_
            exact rJ_e rfl
        · skip
          refine y_loc (pc' := 37) xD_127 rfl rfl rfl rfl ?_
          first | refine m_getR (pc' := 40) xD_127 rfl rfl rfl rfl (hR.1 _ _ _ rfl) rfl ?_ | refine m_getR (pc' := 40) xD_127 rfl rfl (by first | rfl | assumption) rfl (by assumption) rfl ?_
          refine y_loc (pc' := 41) xD_127 rfl rfl rfl rfl ?_
          refine y_loc (pc' := 42) xD_127 rfl rfl rfl rfl ?_
          refine y_loc (pc' := 43) xD_127 rfl rfl rfl rfl ?_
          refine y_ci (pc' := 44) (1) xD_127 rfl rfl rfl rfl ?_
          refine y_callV xD_127 rfl rfl rfl rfl (by first | rfl | assumption) rfl rfl rfl rfl (s_code hR hm p 1 hp10 (by decide) e1 rfl rfl) (fun v h' hq => ?_)
          obtain ⟨rfl, rfl⟩ := hq
          rw [hcd]
          obtain ⟨a, ha, ea⟩ := hVa (Or.inr h33)
          refine m_iald (pc' := 48) (a) xD_127 rfl (by first | rfl | assumption) (by first | assumption | omega) (by decide) (by first | decide | omega) (by first | rfl | assumption) rfl ?_
          refine y_op (pc' := 49) xD_127 rfl rfl rfl rfl ?_
          rw [q_call_8 hpn h33, ea, nI_cl (by omega), xrow_at]
          refine y_retJ xD_127 rfl rfl ?_
          exact rJ_e rfl
/-- call(m) -/
theorem s_mcall (hR : RF R) (hm : m < 2) {n : Nat} (hn : I 265 m = nI n) (hn2 : n ≤ 10) (hV : VC (cdM I m) n) {nb : Nat} (hnb : I 261 10 = nI nb) (hnb2 : nb ≤ 12) {xm : Int32} (e1 : xm = nI m) : XP S (d + 4) 127 0 (xent [.ref 261, .int xm] 5) [] (hh I J R) (rJ (q_call UM (cdM I m) (bnM I m nb) n 40 0 (I 271) (J 273)).1 (hh (xrow I 271 (q_call UM (cdM I m) (bnM I m nb) n 40 0 (I 271) (J 273)).2.1) (xrow J 273 (q_call UM (cdM I m) (bnM I m nb) n 40 0 (I 271) (J 273)).2.2) R)) := by
  have key := s_mcall_loop (S := S) (d := d) (J := J) hR hm hn hn2 hV hnb hnb2 e1 40 0 (I 271) (J 273) none (Nat.le_refl _) (Nat.zero_le _)
  rw [xrow_id, xrow_id] at key
  refine y_ci (pc' := 1) (0) xD_127 rfl rfl rfl rfl ?_
  refine y_loc (pc' := 2) xD_127 rfl rfl rfl rfl ?_
  refine y_ci (pc' := 3) (0) xD_127 rfl rfl rfl rfl ?_
  refine y_loc (pc' := 4) xD_127 rfl rfl rfl rfl ?_
  exact key
end MC

