/-! What the small tables say, as the walk uses it. -/
set_option maxRecDepth 100000 in
theorem xs_cls : (List.range 161).map (fun k => (xyn k).cls) = (List.range 161).map (fun k => xcn (xkc k)) := by rfl
theorem xs_init : xK2.map (fun k => (xyn k).name) = xK2.map (fun _ => "<init>") := by rfl
theorem xs_ret : xK2.map (fun k => xrty k) = xK2.map (fun _ => none) := by rfl
set_option maxRecDepth 100000 in
theorem xs_fd : (List.range 10).all (fun ci => (List.range (xnf ci)).all (fun j => decide (parseFieldDescriptor (xTT ci j).2.2.1 = some (xft ci j)))) = true := by decide +kernel
set_option maxRecDepth 100000 in
theorem xs_nm : (List.range 10).all (fun ci => (List.range (xnf ci)).all (fun a => (List.range (xnf ci)).all (fun b => decide (a = b) || decide ((xTT ci a).2.1 ≠ (xTT ci b).2.1)))) = true := by decide +kernel
set_option maxRecDepth 100000 in
theorem xs_pm : xcalT.all (fun q => decide ((parseMethodDescriptor (xyn q.2.2.1).desc).map (fun d => d.parameters.length) = some q.2.2.2)) = true := by decide +kernel
set_option maxRecDepth 100000 in
theorem xs_pl : (List.range 14).all (fun c => decide (xcn c ≠ "java/lang/invoke/MethodHandle") && decide (xcn c ≠ "java/lang/invoke/VarHandle")) = true := by decide +kernel
set_option maxRecDepth 100000 in
theorem xs_pf : (List.range 160).all (fun k => plainFor (xyn k)) = true := by decide +kernel
set_option maxRecDepth 100000 in
theorem xs_dc : (List.range 10).all (fun ci => (List.range (xnf ci)).all (fun j => decide ((xTT ci j).1 = xcn ci))) = true := by decide +kernel
theorem xgd {ws : List Cond} {ps : List Nat} (e : ws = ps.filterMap (fun i => tables_1[i]?)) (g : (ps.filterMap (fun i => tables_1[i]?)).all goodWord = true) {w : Cond} (h : w ∈ ws) : w ∈ xgood := xgood_t (xpl_in e h) (List.all_eq_true.mp g w (by rw [← e]; exact h))
theorem xall_r {n : Nat} {f : Nat → Bool} (h : (List.range n).all f = true) {i : Nat} (hi : i < n) : f i = true := List.all_eq_true.mp h i (List.mem_range.mpr hi)
theorem xmap_r {α : Type} {n : Nat} {f g : Nat → α} (h : (List.range n).map f = (List.range n).map g) {i : Nat} (hi : i < n) : f i = g i := List.map_inj_left.mp h i (List.mem_range.mpr hi)
theorem xcls_at {ci : Nat} (h : ci < 10) : xcls[ci]? = some (xcn ci, xTT ci, xnf ci) := by
  match ci, h with
  | 0, _ => rfl
  | 1, _ => rfl
  | 2, _ => rfl
  | 3, _ => rfl
  | 4, _ => rfl
  | 5, _ => rfl
  | 6, _ => rfl
  | 7, _ => rfl
  | 8, _ => rfl
  | 9, _ => rfl
theorem xws_in {ci : Nat} (h : ci < 10) : ∀ w ∈ u_ws (xcn ci) (xTT ci) (xnf ci), w ∈ xgood := fun w hw => xgd xkCl_e xkCl_g (List.mem_flatMap.mpr ⟨ci, List.mem_range.mpr h, hw⟩)
theorem xf_ty {ci : Nat} (h : ci < 10) : ∀ j, j < xnf ci → parseFieldDescriptor (xTT ci j).2.2.1 = some (xft ci j) := fun j hj => of_decide_eq_true (xall_r (xall_r xs_fd h) hj)
theorem xf_dc {ci : Nat} (h : ci < 10) : ∀ j, j < xnf ci → (xTT ci j).1 = xcn ci := fun j hj => of_decide_eq_true (xall_r (xall_r xs_dc h) hj)
theorem xf_nm {ci : Nat} (h : ci < 10) : ∀ a, a < xnf ci → ∀ b, b < xnf ci → a ≠ b → (xTT ci a).2.1 ≠ (xTT ci b).2.1 := fun a ha b hb hne => by
  have h1 := xall_r (xall_r (xall_r xs_nm h) ha) hb
  simp only [Bool.or_eq_true, decide_eq_true_eq] at h1
  exact h1.resolve_left hne
theorem xk_all : (xfldT.all (fun q => decide (q.2.2.1 < 10) && decide (q.2.2.2 < xnf q.2.2.1)) = true) ∧ ((List.range 160).all (fun k => decide (xml k ≤ 20) && decide (xkc k < 14)) = true) ∧ (xcalT.all (fun q => decide (q.2.2.1 < 160)) = true) ∧ (xK1.all (fun k => decide (xkc k < 10)) = true) ∧ ((List.range 160).all (fun k => match xmk k with | 0 => xK0.contains k | 1 => xK1.contains k | 2 => xK2.contains k | _ => false) = true) ∧ (xnwcT.all (fun q => decide (q.2.2 < 14)) = true) ∧ (xanwT.all (fun q => decide (q.2.2 < 2)) = true) ∧ (xnatT.all (fun q => q.2.2 == 0 || q.2.2 == 7) = true) := by
  have h := xkN1
  simp only [Bool.and_eq_true] at h
  obtain ⟨⟨⟨⟨⟨⟨⟨h1, h2⟩, h3⟩, h4⟩, h5⟩, h6⟩, h7⟩, h8⟩ := h
  exact ⟨h1, h2, h3, h4, h5, h6, h7, h8⟩
theorem xfld_ok {kc idx ci j : Nat} (h : xfld kc idx = some (ci, j)) : ci < 10 ∧ j < xnf ci ∧ Cond.fieldLink (xcn kc) idx (xTT ci j).1 (xTT ci j).2.1 (xTT ci j).2.2.1 ∈ xgood := by
  have hm := xfind_mem h
  have h1 := List.all_eq_true.mp xk_all.1 _ hm
  simp only [Bool.and_eq_true, decide_eq_true_eq] at h1
  exact ⟨h1.1, h1.2, xgd xkFl_e xkFl_g (List.mem_map.mpr ⟨_, hm, rfl⟩)⟩
theorem xm_code {k : Nat} (h : k < 160) : Cond.code (xyn k) (xcode k) (xml k) (xrty k) ∈ xgood := xgd xkCo_e xkCo_g (List.mem_map.mpr ⟨k, List.mem_range.mpr h, rfl⟩)
theorem xm_kc {k : Nat} (h : k < 160) : xml k ≤ 20 ∧ xkc k < 14 := by
  have h1 := xall_r xk_all.2.1 h
  simpa only [Bool.and_eq_true, decide_eq_true_eq] using h1
theorem xm_cls {k : Nat} (h : k < 161) : (xyn k).cls = xcn (xkc k) := xmap_r xs_cls h
theorem xm_ini {k : Nat} (h : k < 160) : Cond.initialized (xyn k).cls ∈ xgood := by
  rw [xm_cls (by omega)]
  exact xgd xkIn_e xkIn_g (List.mem_map.mpr ⟨xkc k, List.mem_range.mpr (xm_kc h).2, rfl⟩)
theorem xm_pl {k : Nat} (h : k < 160) : plainFor (xyn k) = true ∧ (xyn k).cls ≠ "java/lang/invoke/MethodHandle" ∧ (xyn k).cls ≠ "java/lang/invoke/VarHandle" := by
  have h1 := xall_r xs_pl (xm_kc h).2
  simp only [Bool.and_eq_true, decide_eq_true_eq] at h1
  rw [xm_cls (by omega)]
  exact ⟨xall_r xs_pf h, h1.1, h1.2⟩
theorem xm_mem0 {k : Nat} (h : k < 160) (hn : xmk k = 0) : k ∈ xK0 := by
  have h1 := xall_r xk_all.2.2.2.2.1 h
  rw [hn] at h1
  exact List.contains_iff_mem.mp h1
theorem xm_mem1 {k : Nat} (h : k < 160) (hn : xmk k = 1) : k ∈ xK1 := by
  have h1 := xall_r xk_all.2.2.2.2.1 h
  rw [hn] at h1
  exact List.contains_iff_mem.mp h1
theorem xm_mem2 {k : Nat} (h : k < 160) (hn : xmk k = 2) : k ∈ xK2 := by
  have h1 := xall_r xk_all.2.2.2.2.1 h
  rw [hn] at h1
  exact List.contains_iff_mem.mp h1
theorem xm_k0 {k : Nat} (h : k < 160) (hn : xmk k = 0) : Cond.static (xyn k) ∈ xgood := xgd xkSt_e xkSt_g (List.mem_map.mpr ⟨k, xm_mem0 h hn, rfl⟩)
theorem xm_k1 {k : Nat} (h : k < 160) (hn : xmk k = 1) : Cond.instanceMethod (xyn k) ∈ xgood ∧ Cond.selects (xcn (xkc k)) (xyn k) (xyn k) ∈ xgood ∧ xkc k < 10 := by
  have hm := xm_mem1 h hn
  refine ⟨xgd xkIm_e xkIm_g (List.mem_map.mpr ⟨k, List.mem_append_left _ hm, rfl⟩), ?_, of_decide_eq_true (List.all_eq_true.mp xk_all.2.2.2.1 k hm)⟩
  have hw : Cond.selects (xcn (xkc k)) (xyn k) (xyn k) ∈ xK1.map (fun k => Cond.selects (xcn (xkc k)) (xyn k) (xyn k)) := List.mem_map.mpr ⟨k, hm, rfl⟩
  exact xgood_of (xpl_in xkSe_e hw) (List.all_eq_true.mp xkSe_g _ (by rw [← xkSe_e]; exact hw))
theorem xm_k2 {k : Nat} (h : k < 160) (hn : xmk k = 2) : Cond.instanceMethod (xyn k) ∈ xgood ∧ (xyn k).name = "<init>" ∧ xrty k = none := by
  have hm := xm_mem2 h hn
  exact ⟨xgd xkIm_e xkIm_g (List.mem_map.mpr ⟨k, List.mem_append_right _ hm, rfl⟩), List.map_inj_left.mp xs_init k hm, List.map_inj_left.mp xs_ret k hm⟩
theorem xcal_ok {kc idx y n : Nat} (h : xcal kc idx = some (y, n)) : y < 160 ∧ (parseMethodDescriptor (xyn y).desc).map (fun d => d.parameters.length) = some n ∧ (Cond.methodLink (xcn kc) idx (xyn y) ∈ xgood ∨ Cond.methodLinkNest (xcn kc) idx (xyn y) "BranchGoals" ∈ xnest) := by
  have hm : (kc, idx, y, n) ∈ xcalT := xfind_mem h
  have h1 := List.all_eq_true.mp xk_all.2.2.1 _ hm
  have h2 := List.all_eq_true.mp xs_pm _ hm
  simp only [decide_eq_true_eq] at h1 h2
  refine ⟨h1, h2, ?_⟩
  unfold xcalT at hm
  rcases List.mem_append.mp hm with hm | hm
  · exact Or.inl (xgd xkLi_e xkLi_g (List.mem_map.mpr ⟨_, hm, rfl⟩))
  · exact Or.inr (List.mem_filter.mpr ⟨List.mem_append_right _ (xpl_in xkLn_e (List.mem_map.mpr ⟨_, hm, rfl⟩)), rfl⟩)
theorem xnwc_ok {kc idx ci : Nat} (h : xnwc kc idx = some ci) : Cond.classLink (xcn kc) idx (xcn ci) ∈ xgood := xgd xkNw_e xkNw_g (List.mem_map.mpr ⟨_, xfind_mem h, rfl⟩)
theorem xanw_ok {kc idx t : Nat} (h : xanw kc idx = some t) : t < 2 ∧ Cond.classLink (xcn kc) idx (xcn (xqc t)) ∈ xgood := ⟨of_decide_eq_true (List.all_eq_true.mp xk_all.2.2.2.2.2.2.1 _ (xfind_mem h)), xgd xkAn_e xkAn_g (List.mem_map.mpr ⟨_, xfind_mem h, rfl⟩)⟩
theorem xcst_ok {kc idx : Nat} {v : Value} (h : xcst kc idx = some v) : xcstC (kc, idx, v) ∈ xgood := xgd xkCs_e xkCs_g (List.mem_map.mpr ⟨_, xfind_mem h, rfl⟩)
theorem xnat_ok {kc idx t : Nat} (h : xnat kc idx = some t) : (t = 0 ∧ Cond.methodLink (xcn kc) idx objectInit ∈ xgood) ∨ (t = 7 ∧ Cond.methodLink (xcn kc) idx arraycopyName ∈ xgood) := by
  have hm := xfind_mem h
  have h1 := List.all_eq_true.mp xk_all.2.2.2.2.2.2.2 _ hm
  have h2 := xgd xkNa_e xkNa_g (List.mem_map.mpr ⟨_, hm, rfl⟩)
  simp only [Bool.or_eq_true, beq_iff_eq] at h1
  rcases h1 with rfl | rfl
  · exact Or.inl ⟨rfl, h2⟩
  · exact Or.inr ⟨rfl, h2⟩
theorem xin_ci {ci : Nat} (h : ci < 10) : Cond.instantiable (xcn ci) (xnf ci) ∈ xgood ∧ Cond.initialized (xcn ci) ∈ xgood := ⟨xgd xkIs_e xkIs_g (List.mem_map.mpr ⟨ci, List.mem_range.mpr h, rfl⟩), xgd xkIn_e xkIn_g (List.mem_map.mpr ⟨ci, List.mem_range.mpr (by omega), rfl⟩)⟩
theorem xg_glob : Cond.instanceMethod objectInit ∈ xgood ∧ Cond.code objectInit ⟨#[0xb1]⟩ 1 none ∈ xgood ∧ Cond.native arraycopyName ∈ xgood ∧ Cond.static arraycopyName ∈ xgood ∧ Cond.initialized "java/lang/System" ∈ xgood ∧ Cond.arrayClass .int ∈ xgood ∧ Cond.arrayClass .long ∈ xgood ∧ Cond.arrayClass .boolean ∈ xgood :=
  ⟨xgd xkG_e xkG_g (by simp), xgd xkG_e xkG_g (by simp), xgd xkG_e xkG_g (by simp), xgd xkG_e xkG_g (by simp), xgd xkG_e xkG_g (by simp), xgd xkG_e xkG_g (by simp), xgd xkG_e xkG_g (by simp), xgd xkG_e xkG_g (by simp)⟩
