/-! A case changed. -/
def st4 (a b c e : Int32) (q : Nat) : Int32 := if q = 0 then a else if q = 1 then b else if q = 2 then c else e
def chN (n : Nat) (b : Int64) : Nat := if dv (dn b) 3 = 0 then (if n < 6 then n + 1 else n) else if dv (dn b) 3 = 1 then (if 1 < n then n - 1 else n) else n
def chB (f : Nat → Int32) (n : Nat) (b : Int64) : Int64 := if dv (dn b) 3 = 0 then (if n < 6 then dS (dv (dn (dn b)) (n + 1)) (dn (dn b)) else dn b) else if dv (dn b) 3 = 1 then (if 1 < n then dn (dn b) else dn b) else csB f (dv (dn (dn b)) n) (dn (dn b))
def chG (cc : Nat) (con f : Nat → Int32) (n : Nat) (b : Int64) (i q : Nat) : Int32 :=
  if dv (dn b) 3 = 0 then (if n < 6 then (if i = dv (dn (dn b)) (n + 1) then st4 (dK (dn (dn b))) (dX cc con (dn (dn b))) (dY cc con (dv (dn (dn b)) (n + 1)) (dn (dn b))) (dF (dv (dn (dn b)) (n + 1)) (dn (dn b))) q else mkR f (dv (dn (dn b)) (n + 1)) i q) else f (4 * i + q))
  else if dv (dn b) 3 = 1 then (if 1 < n then tkO f (dv (dn (dn b)) n) i q else f (4 * i + q))
  else csG cc con f (dv (dn (dn b)) n) (dn (dn b)) i q
theorem xu_same {α : Type} {f : Nat → Nat → α} {a i : Nat} {v : α} (h : f a i = v) : xu f a i v = f := by
  funext x y
  unfold xu
  by_cases hc : x = a ∧ y = i
  · rw [if_pos hc, hc.1, hc.2, h]
  · rw [if_neg hc]
section CH
variable {S : XS} {d a s : Nat} {I : Nat → Nat → Int32} {J : Nat → Nat → Int64} {R : Nat → Nat → Option Nat}
theorem s_change (hR : RF R) (hc : isCase a) (cc : Nat) (hcc : I 18 1 = nI cc) (hcc2 : cc ≤ 20) (n : Nat) (hn : I a 3 = nI n) (hn0 : 0 < n) (hn6 : n ≤ 6) (hV : ∀ j, j < n → VT (I (a + 1)) j) :
    XP S (d + 3) 73 0 (xent [.ref 18, .ref a] 4) [] (hh I J R) (fun v h' => v = none ∧ ∃ g, (∀ i q, i < chN n (J 18 2) → q < 4 → g (4 * i + q) = chG cc (I 19) (I (a + 1)) n (J 18 2) i q) ∧ h' = hh (xrow (xu I a 3 (nI (chN n (J 18 2)))) (a + 1) g) (xu J 18 2 (chB (I (a + 1)) n (J 18 2))) R) := by
  have ka := (kCase hc).1
  have ka1 := (kCase hc).2.1
  have ra := (hR.2 a hc).1
  have h3 := dv_lt (dn (J 18 2)) (n := 3) (by decide)
  have hp := dv_lt (dn (dn (J 18 2))) (n := n) hn0
  have hp1 := dv_lt (dn (dn (J 18 2))) (n := n + 1) (by omega)
  have hne : (18 : Nat) ≠ a + 1 ∧ (19 : Nat) ≠ a + 1 ∧ (18 : Nat) ≠ a ∧ (19 : Nat) ≠ a := by unfold isCase at hc; omega
  have same : xrow (xu I a 3 (nI n)) (a + 1) (I (a + 1)) = I := by rw [xu_same hn, xrow_id]
  refine y_loc (pc' := 1) xD_73 rfl rfl rfl rfl ?_
  refine y_ci (pc' := 2) (3) xD_73 rfl rfl rfl rfl ?_
  refine y_callV xD_73 rfl rfl rfl rfl (by first | rfl | assumption) rfl rfl rfl rfl (s_draw 3 (by decide) (by decide) rfl) (fun v h' hq => ?_)
  obtain ⟨rfl, rfl⟩ := hq
  refine y_loc (pc' := 6) xD_73 rfl rfl rfl rfl ?_
  refine y_loc (pc' := 7) xD_73 rfl rfl rfl rfl ?_
  refine y_ifne (pt := 44) (pf := 10) xD_73 rfl rfl rfl (fun h7 => ?_) (fun h7 => ?_)
  · skip
    have u0 : ¬ dv (dn (J 18 2)) 3 = 0 := fun q => h7 ((nI_z (by omega)).mpr q)
    refine y_loc (pc' := 45) xD_73 rfl rfl rfl rfl ?_
    refine y_ci (pc' := 46) (1) xD_73 rfl rfl rfl rfl ?_
    refine y_icne (pt := 72) (pf := 49) xD_73 rfl rfl rfl (fun h46 => ?_) (fun h46 => ?_)
    · skip
      have u1 : ¬ dv (dn (J 18 2)) 3 = 1 := fun q => h46 (by rw [q]; rfl)
      refine y_loc (pc' := 73) xD_73 rfl rfl rfl rfl ?_
      refine y_loc (pc' := 74) xD_73 rfl rfl rfl rfl ?_
      refine y_loc (pc' := 75) xD_73 rfl rfl rfl rfl ?_
      refine y_loc (pc' := 76) xD_73 rfl rfl rfl rfl ?_
      refine m_getI (pc' := 79) xD_73 rfl rfl rfl (by first | rfl | assumption) (hn) rfl ?_
      refine y_callV xD_73 rfl rfl rfl rfl (by first | rfl | assumption) rfl rfl rfl rfl (s_draw n hn0 (by omega) rfl) (fun v h' hq => ?_)
      obtain ⟨rfl, rfl⟩ := hq
      rw [xu_ii, xu_xu]
      skip
      refine y_callV xD_73 rfl rfl rfl rfl rfl rfl rfl rfl rfl (s_changeStep (d := d) hR hc cc hcc hcc2 _ (Nat.lt_of_lt_of_le hp hn6) (hV _ hp) rfl) (fun v h' hq => ?_)
      obtain ⟨rfl, g, hg, rfl⟩ := hq
      refine y_retV xD_73 rfl rfl ?_
      refine ⟨rfl, g, fun i q _ hq => ?_, ?_⟩
      · rw [hg i q hq, xu_ii]
        unfold chG
        rw [if_neg u0, if_neg u1]
      · rw [xu_ii, xu_xu]
        unfold chB chN
        rw [if_neg u0, if_neg u1, if_neg u0, if_neg u1, xu_same hn]
    · skip
      have u1 : dv (dn (J 18 2)) 3 = 1 := (nI_eq (b := 1) (by omega) (by decide)).mp h46
      refine y_loc (pc' := 50) xD_73 rfl rfl rfl rfl ?_
      refine m_getI (pc' := 53) xD_73 rfl rfl rfl (by first | rfl | assumption) (hn) rfl ?_
      refine y_ci (pc' := 54) (1) xD_73 rfl rfl rfl rfl ?_
      refine y_icle (pt := 85) (pf := 57) xD_73 rfl rfl rfl (fun h54 => ?_) (fun h54 => ?_)
      · skip
        have n1 : ¬ 1 < n := Nat.not_lt.mpr ((nI_leI (b := 1) (by omega) (by decide)).mp h54)
        refine y_retV xD_73 rfl rfl ?_
        refine ⟨rfl, I (a + 1), fun i q _ hq => ?_, ?_⟩
        · unfold chG
          rw [if_neg u0, if_pos u1, if_neg n1]
        · unfold chB chN
          rw [if_neg u0, if_pos u1, if_neg n1, if_neg u0, if_pos u1, if_neg n1, same]
      · skip
        have n1 : 1 < n := Nat.lt_of_not_le (fun q => h54 ((nI_leI (b := 1) (by omega) (by decide)).mpr q))
        obtain ⟨m, rfl⟩ : ∃ m, n = m + 1 := ⟨n - 1, by omega⟩
        refine y_loc (pc' := 58) xD_73 rfl rfl rfl rfl ?_
        refine y_loc (pc' := 59) xD_73 rfl rfl rfl rfl ?_
        refine y_loc (pc' := 60) xD_73 rfl rfl rfl rfl ?_
        refine m_getI (pc' := 63) xD_73 rfl rfl rfl (by first | rfl | assumption) (hn) rfl ?_
        refine y_callV xD_73 rfl rfl rfl rfl (by first | rfl | assumption) rfl rfl rfl rfl (s_draw (m + 1) hn0 (by omega) rfl) (fun v h' hq => ?_)
        obtain ⟨rfl, rfl⟩ := hq
        rw [xu_ii, xu_xu]
        refine y_callV xD_73 rfl rfl rfl rfl (by first | rfl | assumption) rfl rfl rfl rfl (s_takeOut (d := d + 1) hR hc m _ hn hn6 (Nat.le_of_lt_succ hp) hV rfl) (fun v h' hq => ?_)
        obtain ⟨rfl, g, hg, rfl⟩ := hq
        refine y_goto (pc' := 85) xD_73 rfl rfl ?_
        refine y_retV xD_73 rfl rfl ?_
        refine ⟨rfl, g, fun i q hi hq => ?_, ?_⟩
        · unfold chN at hi
          rw [if_neg u0, if_pos u1, if_pos n1] at hi
          unfold chG
          rw [if_neg u0, if_pos u1, if_pos n1]
          exact hg i q (by omega) hq
        · unfold chB chN
          rw [if_neg u0, if_pos u1, if_pos n1, if_neg u0, if_pos u1, if_pos n1]
          rfl
  · skip
    have u0 : dv (dn (J 18 2)) 3 = 0 := (nI_z (by omega)).mp h7
    refine y_loc (pc' := 11) xD_73 rfl rfl rfl rfl ?_
    refine m_getI (pc' := 14) xD_73 rfl rfl rfl (by first | rfl | assumption) (hn) rfl ?_
    refine y_ci (pc' := 16) (6) xD_73 rfl rfl rfl rfl ?_
    refine y_icge (pt := 85) (pf := 19) xD_73 rfl rfl rfl (fun h16 => ?_) (fun h16 => ?_)
    · skip
      have n6 : ¬ n < 6 := Nat.not_lt.mpr ((nI_leI (a := 6) (by decide) (by omega)).mp h16)
      refine y_retV xD_73 rfl rfl ?_
      refine ⟨rfl, I (a + 1), fun i q _ hq => ?_, ?_⟩
      · unfold chG
        rw [if_pos u0, if_neg n6]
      · unfold chB chN
        rw [if_pos u0, if_neg n6, if_pos u0, if_neg n6, same]
    · skip
      have n6 : n < 6 := Nat.lt_of_not_le (fun q => h16 ((nI_leI (a := 6) (by decide) (by omega)).mpr q))
      refine y_loc (pc' := 20) xD_73 rfl rfl rfl rfl ?_
      refine y_loc (pc' := 21) xD_73 rfl rfl rfl rfl ?_
      refine m_getI (pc' := 24) xD_73 rfl rfl rfl (by first | rfl | assumption) (hn) rfl ?_
      refine y_ci (pc' := 25) (1) xD_73 rfl rfl rfl rfl ?_
      refine y_iadd (pc' := 26) xD_73 rfl (nI_1 n) rfl ?_
      refine y_callV xD_73 rfl rfl rfl rfl (by first | rfl | assumption) rfl rfl rfl rfl (s_draw (n + 1) (by omega) (by omega) rfl) (fun v h' hq => ?_)
      obtain ⟨rfl, rfl⟩ := hq
      rw [xu_ii, xu_xu]
      refine y_loc (pc' := 30) xD_73 rfl rfl rfl rfl ?_
      refine y_loc (pc' := 31) xD_73 rfl rfl rfl rfl ?_
      refine y_loc (pc' := 32) xD_73 rfl rfl rfl rfl ?_
      refine y_callV xD_73 rfl rfl rfl rfl (by first | rfl | assumption) rfl rfl rfl rfl (s_makeRoom (d := d + 1) hR hc n _ hn n6 (Nat.le_of_lt_succ hp1) rfl) (fun v h' hq => ?_)
      obtain ⟨rfl, g, hg, rfl⟩ := hq
      refine y_loc (pc' := 36) xD_73 rfl rfl rfl rfl ?_
      refine y_loc (pc' := 37) xD_73 rfl rfl rfl rfl ?_
      refine y_loc (pc' := 38) xD_73 rfl rfl rfl rfl ?_
      have ec : xrow (xu I a 3 (nI (n + 1))) (a + 1) g 19 = I 19 := by rw [xrow_ne hne.2.1]; funext y; unfold xu; rw [if_neg (fun q => hne.2.2.2 q.1)]
      have ed : xrow (xu I a 3 (nI (n + 1))) (a + 1) g 18 1 = nI cc := by rw [xrow_ne hne.1]; unfold xu; rw [if_neg (fun q => hne.2.2.1 q.1)]; exact hcc
      refine y_callV xD_73 rfl rfl rfl rfl rfl rfl rfl rfl rfl (s_drawStep (d := d) hR hc cc ed hcc2 _ (Nat.lt_of_lt_of_le hp1 (by omega)) rfl) (fun v h' hq => ?_)
      obtain ⟨rfl, rfl⟩ := hq
      rw [ec, xrow_row, xrow_at, xu_ii, xu_xu]
      refine y_goto (pc' := 85) xD_73 rfl rfl ?_
      refine y_retV xD_73 rfl rfl ?_
      refine ⟨rfl, w4 g (4 * (dv (dn (dn (J 18 2))) (n + 1))) (dK (dn (dn (J 18 2)))) (dX cc (I 19) (dn (dn (J 18 2)))) (dY cc (I 19) (dv (dn (dn (J 18 2))) (n + 1)) (dn (dn (J 18 2)))) (dF (dv (dn (dn (J 18 2))) (n + 1)) (dn (dn (J 18 2)))), fun i q hi hq => ?_, by unfold chB chN; rw [if_pos u0, if_pos n6, if_pos u0, if_pos n6]⟩
      · unfold chN at hi
        rw [if_pos u0, if_pos n6] at hi
        unfold chG st4
        rw [if_pos u0, if_pos n6, w4_pt hq]
        by_cases h : i = dv (dn (dn (J 18 2))) (n + 1)
        · rw [if_pos h, if_pos h]
        · rw [if_neg h, if_neg h]
          exact hg i q hi h hq
end CH

