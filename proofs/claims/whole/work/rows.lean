section
-- ===== PART A: goes FIRST, ahead of the names: the tables' words, and 'selects' of the private methods out of them =====
/-- a private method of a class that the tables say can be made, by its rows of tables_1 -/
def lw_okq (q : MethodName × Nat) : Prop := (q.1.cls ≠ "java/lang/invoke/MethodHandle" ∧ q.1.cls ≠ "java/lang/invoke/VarHandle") ∧ Cond.instantiable q.1.cls q.2 ∈ tables_1 ∧ Cond.privateMethod q.1 ∈ tables_1 ∧ Cond.instanceMethod q.1 ∈ tables_1
theorem lw_p0 : lw_okq (⟨"BranchGoals$Program", "linkBranches", "(LBranchGoals$Method;)V"⟩, 4) := ⟨⟨by decide +kernel, by decide +kernel⟩, List.mem_of_getElem? (i := 24) (by decide +kernel), List.mem_of_getElem? (i := 294) (by decide +kernel), List.mem_of_getElem? (i := 295) (by decide +kernel)⟩
theorem lw_p1 : lw_okq (⟨"BranchGoals$Method", "placesReachingEnd", "(I)I"⟩, 7) := ⟨⟨by decide +kernel, by decide +kernel⟩, List.mem_of_getElem? (i := 31) (by decide +kernel), List.mem_of_getElem? (i := 303) (by decide +kernel), List.mem_of_getElem? (i := 304) (by decide +kernel)⟩
theorem lw_p2 : lw_okq (⟨"BranchGoals", "runAndArchive", "(LBranchGoals$Case;)V"⟩, 9) := ⟨⟨by decide +kernel, by decide +kernel⟩, List.mem_of_getElem? (i := 16) (by decide +kernel), List.mem_of_getElem? (i := 347) (by decide +kernel), List.mem_of_getElem? (i := 348) (by decide +kernel)⟩
theorem lw_p3 : lw_okq (⟨"BranchGoals$Runner", "doStep", "(LBranchGoals$Case;ILBranchGoals$Program;)J"⟩, 3) := ⟨⟨by decide +kernel, by decide +kernel⟩, List.mem_of_getElem? (i := 110) (by decide +kernel), List.mem_of_getElem? (i := 363) (by decide +kernel), List.mem_of_getElem? (i := 364) (by decide +kernel)⟩
theorem lw_p4 : lw_okq (⟨"BranchGoals$Runner", "callMethod", "(LBranchGoals$Method;)J"⟩, 3) := ⟨⟨by decide +kernel, by decide +kernel⟩, List.mem_of_getElem? (i := 110) (by decide +kernel), List.mem_of_getElem? (i := 375) (by decide +kernel), List.mem_of_getElem? (i := 376) (by decide +kernel)⟩
theorem lw_p5 : lw_okq (⟨"BranchGoals$Runner", "doLine", "(LBranchGoals$Method;I)I"⟩, 3) := ⟨⟨by decide +kernel, by decide +kernel⟩, List.mem_of_getElem? (i := 110) (by decide +kernel), List.mem_of_getElem? (i := 381) (by decide +kernel), List.mem_of_getElem? (i := 382) (by decide +kernel)⟩
theorem lw_p6 : lw_okq (⟨"BranchGoals$Runner", "decide", "(LBranchGoals$Method;I)I"⟩, 3) := ⟨⟨by decide +kernel, by decide +kernel⟩, List.mem_of_getElem? (i := 110) (by decide +kernel), List.mem_of_getElem? (i := 389) (by decide +kernel), List.mem_of_getElem? (i := 390) (by decide +kernel)⟩
theorem lw_p7 : lw_okq (⟨"BranchGoals$Runner", "fitnessFor", "(ILBranchGoals$Program;)J"⟩, 3) := ⟨⟨by decide +kernel, by decide +kernel⟩, List.mem_of_getElem? (i := 110) (by decide +kernel), List.mem_of_getElem? (i := 405) (by decide +kernel), List.mem_of_getElem? (i := 406) (by decide +kernel)⟩
theorem lw_p8 : lw_okq (⟨"BranchGoals$Runner", "leastNearest", "(II)J"⟩, 3) := ⟨⟨by decide +kernel, by decide +kernel⟩, List.mem_of_getElem? (i := 110) (by decide +kernel), List.mem_of_getElem? (i := 409) (by decide +kernel), List.mem_of_getElem? (i := 410) (by decide +kernel)⟩
theorem lw_p9 : lw_okq (⟨"BranchGoals$Population", "placeFronts", "(II)V"⟩, 2) := ⟨⟨by decide +kernel, by decide +kernel⟩, List.mem_of_getElem? (i := 193) (by decide +kernel), List.mem_of_getElem? (i := 445) (by decide +kernel), List.mem_of_getElem? (i := 446) (by decide +kernel)⟩
theorem lw_p10 : lw_okq (⟨"BranchGoals$Population", "preferredFor", "(II)LBranchGoals$Case;"⟩, 2) := ⟨⟨by decide +kernel, by decide +kernel⟩, List.mem_of_getElem? (i := 193) (by decide +kernel), List.mem_of_getElem? (i := 450) (by decide +kernel), List.mem_of_getElem? (i := 451) (by decide +kernel)⟩
theorem lw_p11 : lw_okq (⟨"BranchGoals$Population", "isBeaten", "(LBranchGoals$Case;III)Z"⟩, 2) := ⟨⟨by decide +kernel, by decide +kernel⟩, List.mem_of_getElem? (i := 193) (by decide +kernel), List.mem_of_getElem? (i := 454) (by decide +kernel), List.mem_of_getElem? (i := 455) (by decide +kernel)⟩
theorem lw_p12 : lw_okq (⟨"BranchGoals$Population", "crowdOf", "(LBranchGoals$Case;II)I"⟩, 2) := ⟨⟨by decide +kernel, by decide +kernel⟩, List.mem_of_getElem? (i := 193) (by decide +kernel), List.mem_of_getElem? (i := 461) (by decide +kernel), List.mem_of_getElem? (i := 462) (by decide +kernel)⟩
theorem lw_p13 : lw_okq (⟨"BranchGoals$Population", "sort", "(I)V"⟩, 2) := ⟨⟨by decide +kernel, by decide +kernel⟩, List.mem_of_getElem? (i := 193) (by decide +kernel), List.mem_of_getElem? (i := 468) (by decide +kernel), List.mem_of_getElem? (i := 469) (by decide +kernel)⟩
theorem lw_p14 : lw_okq (⟨"BranchGoals", "isGoal", "(I)Z"⟩, 9) := ⟨⟨by decide +kernel, by decide +kernel⟩, List.mem_of_getElem? (i := 16) (by decide +kernel), List.mem_of_getElem? (i := 485) (by decide +kernel), List.mem_of_getElem? (i := 486) (by decide +kernel)⟩
theorem lw_p15 : lw_okq (⟨"BranchGoals", "drawParent", "()LBranchGoals$Case;"⟩, 9) := ⟨⟨by decide +kernel, by decide +kernel⟩, List.mem_of_getElem? (i := 16) (by decide +kernel), List.mem_of_getElem? (i := 507) (by decide +kernel), List.mem_of_getElem? (i := 508) (by decide +kernel)⟩
def lw_privs_1 : List (MethodName × Nat) := [(⟨"BranchGoals$Program", "linkBranches", "(LBranchGoals$Method;)V"⟩, 4), (⟨"BranchGoals$Method", "placesReachingEnd", "(I)I"⟩, 7), (⟨"BranchGoals", "runAndArchive", "(LBranchGoals$Case;)V"⟩, 9), (⟨"BranchGoals$Runner", "doStep", "(LBranchGoals$Case;ILBranchGoals$Program;)J"⟩, 3), (⟨"BranchGoals$Runner", "callMethod", "(LBranchGoals$Method;)J"⟩, 3), (⟨"BranchGoals$Runner", "doLine", "(LBranchGoals$Method;I)I"⟩, 3), (⟨"BranchGoals$Runner", "decide", "(LBranchGoals$Method;I)I"⟩, 3), (⟨"BranchGoals$Runner", "fitnessFor", "(ILBranchGoals$Program;)J"⟩, 3), (⟨"BranchGoals$Runner", "leastNearest", "(II)J"⟩, 3), (⟨"BranchGoals$Population", "placeFronts", "(II)V"⟩, 2), (⟨"BranchGoals$Population", "preferredFor", "(II)LBranchGoals$Case;"⟩, 2), (⟨"BranchGoals$Population", "isBeaten", "(LBranchGoals$Case;III)Z"⟩, 2), (⟨"BranchGoals$Population", "crowdOf", "(LBranchGoals$Case;II)I"⟩, 2), (⟨"BranchGoals$Population", "sort", "(I)V"⟩, 2), (⟨"BranchGoals", "isGoal", "(I)Z"⟩, 9), (⟨"BranchGoals", "drawParent", "()LBranchGoals$Case;"⟩, 9)]
theorem lw_r1 : ∀ q ∈ lw_privs_1, lw_okq q := List.forall_mem_cons.mpr ⟨lw_p0, List.forall_mem_cons.mpr ⟨lw_p1, List.forall_mem_cons.mpr ⟨lw_p2, List.forall_mem_cons.mpr ⟨lw_p3, List.forall_mem_cons.mpr ⟨lw_p4, List.forall_mem_cons.mpr ⟨lw_p5, List.forall_mem_cons.mpr ⟨lw_p6, List.forall_mem_cons.mpr ⟨lw_p7, List.forall_mem_cons.mpr ⟨lw_p8, List.forall_mem_cons.mpr ⟨lw_p9, List.forall_mem_cons.mpr ⟨lw_p10, List.forall_mem_cons.mpr ⟨lw_p11, List.forall_mem_cons.mpr ⟨lw_p12, List.forall_mem_cons.mpr ⟨lw_p13, List.forall_mem_cons.mpr ⟨lw_p14, List.forall_mem_cons.mpr ⟨lw_p15, fun _ h => absurd h List.not_mem_nil⟩⟩⟩⟩⟩⟩⟩⟩⟩⟩⟩⟩⟩⟩⟩⟩
theorem lw_p16 : lw_okq (⟨"BranchGoals$Draws", "changeStep", "(LBranchGoals$Case;I)V"⟩, 3) := ⟨⟨by decide +kernel, by decide +kernel⟩, List.mem_of_getElem? (i := 91) (by decide +kernel), List.mem_of_getElem? (i := 531) (by decide +kernel), List.mem_of_getElem? (i := 532) (by decide +kernel)⟩
theorem lw_p17 : lw_okq (⟨"BranchGoals$Suite", "goalsOf", "(II)I"⟩, 3) := ⟨⟨by decide +kernel, by decide +kernel⟩, List.mem_of_getElem? (i := 209) (by decide +kernel), List.mem_of_getElem? (i := 554) (by decide +kernel), List.mem_of_getElem? (i := 555) (by decide +kernel)⟩
theorem lw_p18 : lw_okq (⟨"BranchGoals", "caseNamed", "(I)LBranchGoals$Case;"⟩, 9) := ⟨⟨by decide +kernel, by decide +kernel⟩, List.mem_of_getElem? (i := 16) (by decide +kernel), List.mem_of_getElem? (i := 591) (by decide +kernel), List.mem_of_getElem? (i := 592) (by decide +kernel)⟩
theorem lw_p19 : lw_okq (⟨"BranchGoalsModel", "goal", "(I)Z"⟩, 22) := ⟨⟨by decide +kernel, by decide +kernel⟩, List.mem_of_getElem? (i := 629) (by decide +kernel), List.mem_of_getElem? (i := 719) (by decide +kernel), List.mem_of_getElem? (i := 720) (by decide +kernel)⟩
theorem lw_p20 : lw_okq (⟨"BranchGoalsModel", "write", "(IIII)V"⟩, 22) := ⟨⟨by decide +kernel, by decide +kernel⟩, List.mem_of_getElem? (i := 629) (by decide +kernel), List.mem_of_getElem? (i := 727) (by decide +kernel), List.mem_of_getElem? (i := 728) (by decide +kernel)⟩
theorem lw_p21 : lw_okq (⟨"BranchGoalsModel", "second", "(IIII)V"⟩, 22) := ⟨⟨by decide +kernel, by decide +kernel⟩, List.mem_of_getElem? (i := 629) (by decide +kernel), List.mem_of_getElem? (i := 731) (by decide +kernel), List.mem_of_getElem? (i := 732) (by decide +kernel)⟩
theorem lw_p22 : lw_okq (⟨"BranchGoalsModel", "number", "(I)V"⟩, 22) := ⟨⟨by decide +kernel, by decide +kernel⟩, List.mem_of_getElem? (i := 629) (by decide +kernel), List.mem_of_getElem? (i := 748) (by decide +kernel), List.mem_of_getElem? (i := 749) (by decide +kernel)⟩
theorem lw_p23 : lw_okq (⟨"BranchGoalsModel", "branchAt", "(II)Z"⟩, 22) := ⟨⟨by decide +kernel, by decide +kernel⟩, List.mem_of_getElem? (i := 629) (by decide +kernel), List.mem_of_getElem? (i := 752) (by decide +kernel), List.mem_of_getElem? (i := 753) (by decide +kernel)⟩
theorem lw_p24 : lw_okq (⟨"BranchGoalsModel", "code", "(III)I"⟩, 22) := ⟨⟨by decide +kernel, by decide +kernel⟩, List.mem_of_getElem? (i := 629) (by decide +kernel), List.mem_of_getElem? (i := 756) (by decide +kernel), List.mem_of_getElem? (i := 757) (by decide +kernel)⟩
theorem lw_p25 : lw_okq (⟨"BranchGoalsModel", "relate", "(I)V"⟩, 22) := ⟨⟨by decide +kernel, by decide +kernel⟩, List.mem_of_getElem? (i := 629) (by decide +kernel), List.mem_of_getElem? (i := 760) (by decide +kernel), List.mem_of_getElem? (i := 761) (by decide +kernel)⟩
theorem lw_p26 : lw_okq (⟨"BranchGoalsModel", "must", "(III)Z"⟩, 22) := ⟨⟨by decide +kernel, by decide +kernel⟩, List.mem_of_getElem? (i := 629) (by decide +kernel), List.mem_of_getElem? (i := 764) (by decide +kernel), List.mem_of_getElem? (i := 765) (by decide +kernel)⟩
theorem lw_p27 : lw_okq (⟨"BranchGoalsModel", "way", "(III)Z"⟩, 22) := ⟨⟨by decide +kernel, by decide +kernel⟩, List.mem_of_getElem? (i := 629) (by decide +kernel), List.mem_of_getElem? (i := 768) (by decide +kernel), List.mem_of_getElem? (i := 769) (by decide +kernel)⟩
theorem lw_p28 : lw_okq (⟨"BranchGoalsModel", "lead", "(III)I"⟩, 22) := ⟨⟨by decide +kernel, by decide +kernel⟩, List.mem_of_getElem? (i := 629) (by decide +kernel), List.mem_of_getElem? (i := 772) (by decide +kernel), List.mem_of_getElem? (i := 773) (by decide +kernel)⟩
theorem lw_p29 : lw_okq (⟨"BranchGoalsModel", "drawCase", "(I)V"⟩, 22) := ⟨⟨by decide +kernel, by decide +kernel⟩, List.mem_of_getElem? (i := 629) (by decide +kernel), List.mem_of_getElem? (i := 776) (by decide +kernel), List.mem_of_getElem? (i := 777) (by decide +kernel)⟩
theorem lw_p30 : lw_okq (⟨"BranchGoalsModel", "draw", "(I)I"⟩, 22) := ⟨⟨by decide +kernel, by decide +kernel⟩, List.mem_of_getElem? (i := 629) (by decide +kernel), List.mem_of_getElem? (i := 780) (by decide +kernel), List.mem_of_getElem? (i := 781) (by decide +kernel)⟩
theorem lw_p31 : lw_okq (⟨"BranchGoalsModel", "drawStep", "(II)V"⟩, 22) := ⟨⟨by decide +kernel, by decide +kernel⟩, List.mem_of_getElem? (i := 629) (by decide +kernel), List.mem_of_getElem? (i := 785) (by decide +kernel), List.mem_of_getElem? (i := 786) (by decide +kernel)⟩
def lw_privs_2 : List (MethodName × Nat) := [(⟨"BranchGoals$Draws", "changeStep", "(LBranchGoals$Case;I)V"⟩, 3), (⟨"BranchGoals$Suite", "goalsOf", "(II)I"⟩, 3), (⟨"BranchGoals", "caseNamed", "(I)LBranchGoals$Case;"⟩, 9), (⟨"BranchGoalsModel", "goal", "(I)Z"⟩, 22), (⟨"BranchGoalsModel", "write", "(IIII)V"⟩, 22), (⟨"BranchGoalsModel", "second", "(IIII)V"⟩, 22), (⟨"BranchGoalsModel", "number", "(I)V"⟩, 22), (⟨"BranchGoalsModel", "branchAt", "(II)Z"⟩, 22), (⟨"BranchGoalsModel", "code", "(III)I"⟩, 22), (⟨"BranchGoalsModel", "relate", "(I)V"⟩, 22), (⟨"BranchGoalsModel", "must", "(III)Z"⟩, 22), (⟨"BranchGoalsModel", "way", "(III)Z"⟩, 22), (⟨"BranchGoalsModel", "lead", "(III)I"⟩, 22), (⟨"BranchGoalsModel", "drawCase", "(I)V"⟩, 22), (⟨"BranchGoalsModel", "draw", "(I)I"⟩, 22), (⟨"BranchGoalsModel", "drawStep", "(II)V"⟩, 22)]
theorem lw_r2 : ∀ q ∈ lw_privs_2, lw_okq q := List.forall_mem_cons.mpr ⟨lw_p16, List.forall_mem_cons.mpr ⟨lw_p17, List.forall_mem_cons.mpr ⟨lw_p18, List.forall_mem_cons.mpr ⟨lw_p19, List.forall_mem_cons.mpr ⟨lw_p20, List.forall_mem_cons.mpr ⟨lw_p21, List.forall_mem_cons.mpr ⟨lw_p22, List.forall_mem_cons.mpr ⟨lw_p23, List.forall_mem_cons.mpr ⟨lw_p24, List.forall_mem_cons.mpr ⟨lw_p25, List.forall_mem_cons.mpr ⟨lw_p26, List.forall_mem_cons.mpr ⟨lw_p27, List.forall_mem_cons.mpr ⟨lw_p28, List.forall_mem_cons.mpr ⟨lw_p29, List.forall_mem_cons.mpr ⟨lw_p30, List.forall_mem_cons.mpr ⟨lw_p31, fun _ h => absurd h List.not_mem_nil⟩⟩⟩⟩⟩⟩⟩⟩⟩⟩⟩⟩⟩⟩⟩⟩
theorem lw_p32 : lw_okq (⟨"BranchGoalsModel", "drawNumber", "()I"⟩, 22) := ⟨⟨by decide +kernel, by decide +kernel⟩, List.mem_of_getElem? (i := 629) (by decide +kernel), List.mem_of_getElem? (i := 789) (by decide +kernel), List.mem_of_getElem? (i := 790) (by decide +kernel)⟩
theorem lw_p33 : lw_okq (⟨"BranchGoalsModel", "setLine", "(I)Z"⟩, 22) := ⟨⟨by decide +kernel, by decide +kernel⟩, List.mem_of_getElem? (i := 629) (by decide +kernel), List.mem_of_getElem? (i := 793) (by decide +kernel), List.mem_of_getElem? (i := 794) (by decide +kernel)⟩
theorem lw_p34 : lw_okq (⟨"BranchGoalsModel", "archive", "(I)V"⟩, 22) := ⟨⟨by decide +kernel, by decide +kernel⟩, List.mem_of_getElem? (i := 629) (by decide +kernel), List.mem_of_getElem? (i := 797) (by decide +kernel), List.mem_of_getElem? (i := 798) (by decide +kernel)⟩
theorem lw_p35 : lw_okq (⟨"BranchGoalsModel", "reached", "(I)I"⟩, 22) := ⟨⟨by decide +kernel, by decide +kernel⟩, List.mem_of_getElem? (i := 629) (by decide +kernel), List.mem_of_getElem? (i := 801) (by decide +kernel), List.mem_of_getElem? (i := 802) (by decide +kernel)⟩
theorem lw_p36 : lw_okq (⟨"BranchGoalsModel", "perform", "(I)V"⟩, 22) := ⟨⟨by decide +kernel, by decide +kernel⟩, List.mem_of_getElem? (i := 629) (by decide +kernel), List.mem_of_getElem? (i := 805) (by decide +kernel), List.mem_of_getElem? (i := 806) (by decide +kernel)⟩
theorem lw_p37 : lw_okq (⟨"BranchGoalsModel", "part", "(III)I"⟩, 22) := ⟨⟨by decide +kernel, by decide +kernel⟩, List.mem_of_getElem? (i := 629) (by decide +kernel), List.mem_of_getElem? (i := 810) (by decide +kernel), List.mem_of_getElem? (i := 811) (by decide +kernel)⟩
theorem lw_p38 : lw_okq (⟨"BranchGoalsModel", "value", "(I)I"⟩, 22) := ⟨⟨by decide +kernel, by decide +kernel⟩, List.mem_of_getElem? (i := 629) (by decide +kernel), List.mem_of_getElem? (i := 815) (by decide +kernel), List.mem_of_getElem? (i := 816) (by decide +kernel)⟩
theorem lw_p39 : lw_okq (⟨"BranchGoalsModel", "call", "(I)J"⟩, 22) := ⟨⟨by decide +kernel, by decide +kernel⟩, List.mem_of_getElem? (i := 629) (by decide +kernel), List.mem_of_getElem? (i := 819) (by decide +kernel), List.mem_of_getElem? (i := 820) (by decide +kernel)⟩
theorem lw_p40 : lw_okq (⟨"BranchGoalsModel", "go", "(II)I"⟩, 22) := ⟨⟨by decide +kernel, by decide +kernel⟩, List.mem_of_getElem? (i := 629) (by decide +kernel), List.mem_of_getElem? (i := 825) (by decide +kernel), List.mem_of_getElem? (i := 826) (by decide +kernel)⟩
theorem lw_p41 : lw_okq (⟨"BranchGoalsModel", "note", "(IIII)V"⟩, 22) := ⟨⟨by decide +kernel, by decide +kernel⟩, List.mem_of_getElem? (i := 629) (by decide +kernel), List.mem_of_getElem? (i := 829) (by decide +kernel), List.mem_of_getElem? (i := 830) (by decide +kernel)⟩
theorem lw_p42 : lw_okq (⟨"BranchGoalsModel", "copy", "(II)V"⟩, 22) := ⟨⟨by decide +kernel, by decide +kernel⟩, List.mem_of_getElem? (i := 629) (by decide +kernel), List.mem_of_getElem? (i := 834) (by decide +kernel), List.mem_of_getElem? (i := 835) (by decide +kernel)⟩
theorem lw_p43 : lw_okq (⟨"BranchGoalsModel", "putInOrder", "(I)V"⟩, 22) := ⟨⟨by decide +kernel, by decide +kernel⟩, List.mem_of_getElem? (i := 629) (by decide +kernel), List.mem_of_getElem? (i := 838) (by decide +kernel), List.mem_of_getElem? (i := 839) (by decide +kernel)⟩
theorem lw_p44 : lw_okq (⟨"BranchGoalsModel", "level", "(I)J"⟩, 22) := ⟨⟨by decide +kernel, by decide +kernel⟩, List.mem_of_getElem? (i := 629) (by decide +kernel), List.mem_of_getElem? (i := 843) (by decide +kernel), List.mem_of_getElem? (i := 844) (by decide +kernel)⟩
theorem lw_p45 : lw_okq (⟨"BranchGoalsModel", "prefer", "(II)V"⟩, 22) := ⟨⟨by decide +kernel, by decide +kernel⟩, List.mem_of_getElem? (i := 629) (by decide +kernel), List.mem_of_getElem? (i := 849) (by decide +kernel), List.mem_of_getElem? (i := 850) (by decide +kernel)⟩
theorem lw_p46 : lw_okq (⟨"BranchGoalsModel", "fronts", "(II)V"⟩, 22) := ⟨⟨by decide +kernel, by decide +kernel⟩, List.mem_of_getElem? (i := 629) (by decide +kernel), List.mem_of_getElem? (i := 853) (by decide +kernel), List.mem_of_getElem? (i := 854) (by decide +kernel)⟩
theorem lw_p47 : lw_okq (⟨"BranchGoalsModel", "better", "(III)I"⟩, 22) := ⟨⟨by decide +kernel, by decide +kernel⟩, List.mem_of_getElem? (i := 629) (by decide +kernel), List.mem_of_getElem? (i := 857) (by decide +kernel), List.mem_of_getElem? (i := 858) (by decide +kernel)⟩
def lw_privs_3 : List (MethodName × Nat) := [(⟨"BranchGoalsModel", "drawNumber", "()I"⟩, 22), (⟨"BranchGoalsModel", "setLine", "(I)Z"⟩, 22), (⟨"BranchGoalsModel", "archive", "(I)V"⟩, 22), (⟨"BranchGoalsModel", "reached", "(I)I"⟩, 22), (⟨"BranchGoalsModel", "perform", "(I)V"⟩, 22), (⟨"BranchGoalsModel", "part", "(III)I"⟩, 22), (⟨"BranchGoalsModel", "value", "(I)I"⟩, 22), (⟨"BranchGoalsModel", "call", "(I)J"⟩, 22), (⟨"BranchGoalsModel", "go", "(II)I"⟩, 22), (⟨"BranchGoalsModel", "note", "(IIII)V"⟩, 22), (⟨"BranchGoalsModel", "copy", "(II)V"⟩, 22), (⟨"BranchGoalsModel", "putInOrder", "(I)V"⟩, 22), (⟨"BranchGoalsModel", "level", "(I)J"⟩, 22), (⟨"BranchGoalsModel", "prefer", "(II)V"⟩, 22), (⟨"BranchGoalsModel", "fronts", "(II)V"⟩, 22), (⟨"BranchGoalsModel", "better", "(III)I"⟩, 22)]
theorem lw_r3 : ∀ q ∈ lw_privs_3, lw_okq q := List.forall_mem_cons.mpr ⟨lw_p32, List.forall_mem_cons.mpr ⟨lw_p33, List.forall_mem_cons.mpr ⟨lw_p34, List.forall_mem_cons.mpr ⟨lw_p35, List.forall_mem_cons.mpr ⟨lw_p36, List.forall_mem_cons.mpr ⟨lw_p37, List.forall_mem_cons.mpr ⟨lw_p38, List.forall_mem_cons.mpr ⟨lw_p39, List.forall_mem_cons.mpr ⟨lw_p40, List.forall_mem_cons.mpr ⟨lw_p41, List.forall_mem_cons.mpr ⟨lw_p42, List.forall_mem_cons.mpr ⟨lw_p43, List.forall_mem_cons.mpr ⟨lw_p44, List.forall_mem_cons.mpr ⟨lw_p45, List.forall_mem_cons.mpr ⟨lw_p46, List.forall_mem_cons.mpr ⟨lw_p47, fun _ h => absurd h List.not_mem_nil⟩⟩⟩⟩⟩⟩⟩⟩⟩⟩⟩⟩⟩⟩⟩⟩
theorem lw_p48 : lw_okq (⟨"BranchGoalsModel", "rearrange", "(I)V"⟩, 22) := ⟨⟨by decide +kernel, by decide +kernel⟩, List.mem_of_getElem? (i := 629) (by decide +kernel), List.mem_of_getElem? (i := 861) (by decide +kernel), List.mem_of_getElem? (i := 862) (by decide +kernel)⟩
theorem lw_p49 : lw_okq (⟨"BranchGoalsModel", "before", "(II)Z"⟩, 22) := ⟨⟨by decide +kernel, by decide +kernel⟩, List.mem_of_getElem? (i := 629) (by decide +kernel), List.mem_of_getElem? (i := 865) (by decide +kernel), List.mem_of_getElem? (i := 866) (by decide +kernel)⟩
theorem lw_p50 : lw_okq (⟨"BranchGoalsModel", "lesser", "()I"⟩, 22) := ⟨⟨by decide +kernel, by decide +kernel⟩, List.mem_of_getElem? (i := 629) (by decide +kernel), List.mem_of_getElem? (i := 877) (by decide +kernel), List.mem_of_getElem? (i := 878) (by decide +kernel)⟩
theorem lw_p51 : lw_okq (⟨"BranchGoalsModel", "join", "(IIIII)V"⟩, 22) := ⟨⟨by decide +kernel, by decide +kernel⟩, List.mem_of_getElem? (i := 629) (by decide +kernel), List.mem_of_getElem? (i := 881) (by decide +kernel), List.mem_of_getElem? (i := 882) (by decide +kernel)⟩
theorem lw_p52 : lw_okq (⟨"BranchGoalsModel", "move", "(IIIIII)V"⟩, 22) := ⟨⟨by decide +kernel, by decide +kernel⟩, List.mem_of_getElem? (i := 629) (by decide +kernel), List.mem_of_getElem? (i := 885) (by decide +kernel), List.mem_of_getElem? (i := 886) (by decide +kernel)⟩
theorem lw_p53 : lw_okq (⟨"BranchGoalsModel", "change", "(I)V"⟩, 22) := ⟨⟨by decide +kernel, by decide +kernel⟩, List.mem_of_getElem? (i := 629) (by decide +kernel), List.mem_of_getElem? (i := 889) (by decide +kernel), List.mem_of_getElem? (i := 890) (by decide +kernel)⟩
theorem lw_p54 : lw_okq (⟨"BranchGoalsModel", "makeRoom", "(II)V"⟩, 22) := ⟨⟨by decide +kernel, by decide +kernel⟩, List.mem_of_getElem? (i := 629) (by decide +kernel), List.mem_of_getElem? (i := 893) (by decide +kernel), List.mem_of_getElem? (i := 894) (by decide +kernel)⟩
theorem lw_p55 : lw_okq (⟨"BranchGoalsModel", "takeOut", "(II)V"⟩, 22) := ⟨⟨by decide +kernel, by decide +kernel⟩, List.mem_of_getElem? (i := 629) (by decide +kernel), List.mem_of_getElem? (i := 897) (by decide +kernel), List.mem_of_getElem? (i := 898) (by decide +kernel)⟩
theorem lw_p56 : lw_okq (⟨"BranchGoalsModel", "others", "(I)I"⟩, 22) := ⟨⟨by decide +kernel, by decide +kernel⟩, List.mem_of_getElem? (i := 629) (by decide +kernel), List.mem_of_getElem? (i := 908) (by decide +kernel), List.mem_of_getElem? (i := 909) (by decide +kernel)⟩
theorem lw_p57 : lw_okq (⟨"BranchGoalsModel", "cut", "(II)V"⟩, 22) := ⟨⟨by decide +kernel, by decide +kernel⟩, List.mem_of_getElem? (i := 629) (by decide +kernel), List.mem_of_getElem? (i := 912) (by decide +kernel), List.mem_of_getElem? (i := 913) (by decide +kernel)⟩
theorem lw_p58 : lw_okq (⟨"BranchGoalsModel", "referred", "(II)Z"⟩, 22) := ⟨⟨by decide +kernel, by decide +kernel⟩, List.mem_of_getElem? (i := 629) (by decide +kernel), List.mem_of_getElem? (i := 916) (by decide +kernel), List.mem_of_getElem? (i := 917) (by decide +kernel)⟩
theorem lw_p59 : lw_okq (⟨"BranchGoalsModel", "slot", "(I)I"⟩, 22) := ⟨⟨by decide +kernel, by decide +kernel⟩, List.mem_of_getElem? (i := 629) (by decide +kernel), List.mem_of_getElem? (i := 928) (by decide +kernel), List.mem_of_getElem? (i := 929) (by decide +kernel)⟩
def lw_privs_4 : List (MethodName × Nat) := [(⟨"BranchGoalsModel", "rearrange", "(I)V"⟩, 22), (⟨"BranchGoalsModel", "before", "(II)Z"⟩, 22), (⟨"BranchGoalsModel", "lesser", "()I"⟩, 22), (⟨"BranchGoalsModel", "join", "(IIIII)V"⟩, 22), (⟨"BranchGoalsModel", "move", "(IIIIII)V"⟩, 22), (⟨"BranchGoalsModel", "change", "(I)V"⟩, 22), (⟨"BranchGoalsModel", "makeRoom", "(II)V"⟩, 22), (⟨"BranchGoalsModel", "takeOut", "(II)V"⟩, 22), (⟨"BranchGoalsModel", "others", "(I)I"⟩, 22), (⟨"BranchGoalsModel", "cut", "(II)V"⟩, 22), (⟨"BranchGoalsModel", "referred", "(II)Z"⟩, 22), (⟨"BranchGoalsModel", "slot", "(I)I"⟩, 22)]
theorem lw_r4 : ∀ q ∈ lw_privs_4, lw_okq q := List.forall_mem_cons.mpr ⟨lw_p48, List.forall_mem_cons.mpr ⟨lw_p49, List.forall_mem_cons.mpr ⟨lw_p50, List.forall_mem_cons.mpr ⟨lw_p51, List.forall_mem_cons.mpr ⟨lw_p52, List.forall_mem_cons.mpr ⟨lw_p53, List.forall_mem_cons.mpr ⟨lw_p54, List.forall_mem_cons.mpr ⟨lw_p55, List.forall_mem_cons.mpr ⟨lw_p56, List.forall_mem_cons.mpr ⟨lw_p57, List.forall_mem_cons.mpr ⟨lw_p58, List.forall_mem_cons.mpr ⟨lw_p59, fun _ h => absurd h List.not_mem_nil⟩⟩⟩⟩⟩⟩⟩⟩⟩⟩⟩⟩
def lw_privs : List (MethodName × Nat) := lw_privs_1 ++ (lw_privs_2 ++ (lw_privs_3 ++ (lw_privs_4)))
def lw_tbl : List Cond := k2_sels lw_privs ++ tables_1
theorem lw_privs_ok : ∀ q ∈ lw_privs, lw_okq q := by
  show ∀ q ∈ lw_privs_1 ++ (lw_privs_2 ++ (lw_privs_3 ++ (lw_privs_4))), lw_okq q
  exact List.forall_mem_append.mpr ⟨lw_r1, List.forall_mem_append.mpr ⟨lw_r2, List.forall_mem_append.mpr ⟨lw_r3, lw_r4⟩⟩⟩
end
section
/-! Written by a program (wip/gen/mk02.py) out of the claim's tables: classes, methods, pool entries by numbers. -/
def xcnT : List String := ["BranchGoals$Archive", "BranchGoals$Case", "BranchGoals$Draws", "BranchGoals$Method", "BranchGoals$Population", "BranchGoals$Program", "BranchGoals$Runner", "BranchGoals$Suite", "BranchGoals", "BranchGoalsModel", "BranchGoalsLaw", "java/lang/Math", "java/util/Arrays", "java/lang/Integer"]
def xcn (i : Nat) : String := xcnT.getD i ""
def xT0 : u_T := fun k => match k with
  | 0 => ("BranchGoals$Archive", "best", "[LBranchGoals$Case;", true)
  | _ => ("BranchGoals$Archive", "goals", "I", false)
def xT1 : u_T := fun k => match k with
  | 0 => ("BranchGoals$Case", "parts", "[I", true)
  | 1 => ("BranchGoals$Case", "results", "[J", true)
  | 2 => ("BranchGoals$Case", "fitnesses", "[J", true)
  | 3 => ("BranchGoals$Case", "steps", "I", false)
  | 4 => ("BranchGoals$Case", "goals", "I", false)
  | 5 => ("BranchGoals$Case", "front", "I", false)
  | _ => ("BranchGoals$Case", "crowd", "I", false)
def xT2 : u_T := fun k => match k with
  | 0 => ("BranchGoals$Draws", "constants", "[I", true)
  | 1 => ("BranchGoals$Draws", "constantCount", "I", false)
  | _ => ("BranchGoals$Draws", "bits", "J", false)
def xT3 : u_T := fun k => match k with
  | 0 => ("BranchGoals$Method", "ops", "[I", true)
  | 1 => ("BranchGoals$Method", "as", "[I", true)
  | 2 => ("BranchGoals$Method", "bs", "[I", true)
  | 3 => ("BranchGoals$Method", "cs", "[I", true)
  | 4 => ("BranchGoals$Method", "branchOf", "[I", true)
  | 5 => ("BranchGoals$Method", "lines", "I", false)
  | _ => ("BranchGoals$Method", "isWatched", "Z", false)
def xT4 : u_T := fun k => match k with
  | 0 => ("BranchGoals$Population", "cases", "[LBranchGoals$Case;", true)
  | _ => ("BranchGoals$Population", "size", "I", false)
def xT5 : u_T := fun k => match k with
  | 0 => ("BranchGoals$Program", "methods", "[LBranchGoals$Method;", true)
  | 1 => ("BranchGoals$Program", "needed", "[I", true)
  | 2 => ("BranchGoals$Program", "isOpen", "[Z", true)
  | _ => ("BranchGoals$Program", "branches", "I", false)
def xT6 : u_T := fun k => match k with
  | 0 => ("BranchGoals$Runner", "variables", "[I", true)
  | 1 => ("BranchGoals$Runner", "nearest", "[J", true)
  | _ => ("BranchGoals$Runner", "count", "I", false)
def xT7 : u_T := fun k => match k with
  | 0 => ("BranchGoals$Suite", "cases", "[LBranchGoals$Case;", true)
  | 1 => ("BranchGoals$Suite", "trial", "LBranchGoals$Case;", true)
  | _ => ("BranchGoals$Suite", "size", "I", false)
def xT8 : u_T := fun k => match k with
  | 0 => ("BranchGoals", "program", "LBranchGoals$Program;", true)
  | 1 => ("BranchGoals", "draws", "LBranchGoals$Draws;", true)
  | 2 => ("BranchGoals", "runner", "LBranchGoals$Runner;", true)
  | 3 => ("BranchGoals", "archive", "LBranchGoals$Archive;", true)
  | 4 => ("BranchGoals", "population", "LBranchGoals$Population;", true)
  | 5 => ("BranchGoals", "suite", "LBranchGoals$Suite;", true)
  | 6 => ("BranchGoals", "written", "LBranchGoals$Case;", true)
  | 7 => ("BranchGoals", "latest", "LBranchGoals$Case;", true)
  | _ => ("BranchGoals", "started", "Z", false)
def xT9 : u_T := fun k => match k with
  | 0 => ("BranchGoalsModel", "cells", "[I", true)
  | 1 => ("BranchGoalsModel", "size", "[I", true)
  | 2 => ("BranchGoalsModel", "code", "[I", true)
  | 3 => ("BranchGoalsModel", "lines", "[I", true)
  | 4 => ("BranchGoalsModel", "seen", "[Z", true)
  | 5 => ("BranchGoalsModel", "method", "[I", true)
  | 6 => ("BranchGoalsModel", "at", "[I", true)
  | 7 => ("BranchGoalsModel", "needs", "[I", true)
  | 8 => ("BranchGoalsModel", "always", "[Z", true)
  | 9 => ("BranchGoalsModel", "started", "Z", false)
  | 10 => ("BranchGoalsModel", "branches", "I", false)
  | 11 => ("BranchGoalsModel", "population", "I", false)
  | 12 => ("BranchGoalsModel", "suite", "I", false)
  | 13 => ("BranchGoalsModel", "runs", "I", false)
  | 14 => ("BranchGoalsModel", "state", "J", false)
  | 15 => ("BranchGoalsModel", "v", "[I", true)
  | 16 => ("BranchGoalsModel", "results", "[J", true)
  | 17 => ("BranchGoalsModel", "near", "[J", true)
  | 18 => ("BranchGoalsModel", "fit", "[J", true)
  | 19 => ("BranchGoalsModel", "front", "[I", true)
  | 20 => ("BranchGoalsModel", "crowd", "[I", true)
  | _ => ("BranchGoalsModel", "sets", "[I", true)
def xcls : List vw_C := [("BranchGoals$Archive", xT0, 2), ("BranchGoals$Case", xT1, 7), ("BranchGoals$Draws", xT2, 3), ("BranchGoals$Method", xT3, 7), ("BranchGoals$Population", xT4, 2), ("BranchGoals$Program", xT5, 4), ("BranchGoals$Runner", xT6, 3), ("BranchGoals$Suite", xT7, 3), ("BranchGoals", xT8, 9), ("BranchGoalsModel", xT9, 22)]
def xnfT : List Nat := [2, 7, 3, 7, 2, 4, 3, 3, 9, 22]
def xnf (i : Nat) : Nat := xnfT.getD i 0
def xftT : List (List FieldType) := [[.array (.object "BranchGoals$Case"), .int], [.array (.int), .array (.long), .array (.long), .int, .int, .int, .int], [.array (.int), .int, .long], [.array (.int), .array (.int), .array (.int), .array (.int), .array (.int), .int, .boolean], [.array (.object "BranchGoals$Case"), .int], [.array (.object "BranchGoals$Method"), .array (.int), .array (.boolean), .int], [.array (.int), .array (.long), .int], [.array (.object "BranchGoals$Case"), .object "BranchGoals$Case", .int], [.object "BranchGoals$Program", .object "BranchGoals$Draws", .object "BranchGoals$Runner", .object "BranchGoals$Archive", .object "BranchGoals$Population", .object "BranchGoals$Suite", .object "BranchGoals$Case", .object "BranchGoals$Case", .boolean], [.array (.int), .array (.int), .array (.int), .array (.int), .array (.boolean), .array (.int), .array (.int), .array (.int), .array (.boolean), .boolean, .int, .int, .int, .int, .long, .array (.int), .array (.long), .array (.long), .array (.long), .array (.int), .array (.int), .array (.int)]]
def xft (i j : Nat) : FieldType := (xftT.getD i []).getD j .int
def xatyT : List FieldType := [.int, .long, .boolean, .object "BranchGoals$Case", .object "BranchGoals$Method"]
def xaty (t : Nat) : FieldType := xatyT.getD t .int
def xnq : Nat := 2
def xqc (t : Nat) : Nat := ([1, 3] : List Nat).getD t 99
def xM : List (Nat × MethodName × ByteArray × Nat × Option FieldType) := [
  (8, ⟨"BranchGoals", "<init>", "(I)V"⟩, prog_1_method_1_code, 2, none),
  (5, ⟨"BranchGoals$Program", "<init>", "()V"⟩, prog_7_method_1_code, 1, none),
  (3, ⟨"BranchGoals$Method", "<init>", "()V"⟩, prog_5_method_1_code, 1, none),
  (2, ⟨"BranchGoals$Draws", "<init>", "(I)V"⟩, prog_4_method_1_code, 2, none),
  (6, ⟨"BranchGoals$Runner", "<init>", "()V"⟩, prog_8_method_1_code, 1, none),
  (0, ⟨"BranchGoals$Archive", "<init>", "()V"⟩, prog_2_method_1_code, 1, none),
  (8, ⟨"BranchGoals", "makeCases", "(I)[LBranchGoals$Case;"⟩, prog_1_method_27_code, 3, some ((FieldType.array (FieldType.object "BranchGoals$Case")))),
  (1, ⟨"BranchGoals$Case", "<init>", "()V"⟩, prog_3_method_1_code, 1, none),
  (4, ⟨"BranchGoals$Population", "<init>", "()V"⟩, prog_6_method_1_code, 1, none),
  (7, ⟨"BranchGoals$Suite", "<init>", "()V"⟩, prog_9_method_1_code, 1, none),
  (8, ⟨"BranchGoals", "line", "(IIIII)Z"⟩, prog_1_method_2_code, 6, some (FieldType.boolean)),
  (8, ⟨"BranchGoals", "isMethod", "(I)Z"⟩, prog_1_method_24_code, 1, some (FieldType.boolean)),
  (3, ⟨"BranchGoals$Method", "append", "(IIII)Z"⟩, prog_5_method_2_code, 5, some (FieldType.boolean)),
  (3, ⟨"BranchGoals$Method", "isAllowed", "(IIII)Z"⟩, prog_5_method_3_code, 4, some (FieldType.boolean)),
  (3, ⟨"BranchGoals$Method", "isVariable", "(I)Z"⟩, prog_5_method_4_code, 1, some (FieldType.boolean)),
  (3, ⟨"BranchGoals$Method", "isTarget", "(I)Z"⟩, prog_5_method_5_code, 1, some (FieldType.boolean)),
  (8, ⟨"BranchGoals", "start", "()I"⟩, prog_1_method_3_code, 3, some (FieldType.int)),
  (5, ⟨"BranchGoals$Program", "numberBranches", "()V"⟩, prog_7_method_3_code, 2, none),
  (3, ⟨"BranchGoals$Method", "numberBranches", "(I)I"⟩, prog_5_method_7_code, 5, some (FieldType.int)),
  (3, ⟨"BranchGoals$Method", "isBranch", "(I)Z"⟩, prog_5_method_6_code, 2, some (FieldType.boolean)),
  (5, ⟨"BranchGoals$Program", "linkBranches", "(LBranchGoals$Method;)V"⟩, prog_7_method_4_code, 5, none),
  (3, ⟨"BranchGoals$Method", "postDominatedBy", "(I)I"⟩, prog_5_method_9_code, 2, some (FieldType.int)),
  (3, ⟨"BranchGoals$Method", "placesReachingEnd", "(I)I"⟩, prog_5_method_10_code, 6, some (FieldType.int)),
  (3, ⟨"BranchGoals$Method", "placeAfter", "(II)I"⟩, prog_5_method_8_code, 3, some (FieldType.int)),
  (11, ⟨"java/lang/Math", "min", "(II)I"⟩, prog_13_method_69_code, 2, some (FieldType.int)),
  (5, ⟨"BranchGoals$Program", "goalsNeededAt", "(IILBranchGoals$Method;)I"⟩, prog_7_method_5_code, 6, some (FieldType.int)),
  (2, ⟨"BranchGoals$Draws", "gatherConstants", "(LBranchGoals$Program;)V"⟩, prog_4_method_2_code, 5, none),
  (4, ⟨"BranchGoals$Population", "child", "(I)LBranchGoals$Case;"⟩, prog_6_method_2_code, 2, some ((FieldType.object "BranchGoals$Case"))),
  (2, ⟨"BranchGoals$Draws", "drawCase", "(LBranchGoals$Case;)V"⟩, prog_4_method_6_code, 3, none),
  (2, ⟨"BranchGoals$Draws", "draw", "(I)I"⟩, prog_4_method_3_code, 2, some (FieldType.int)),
  (2, ⟨"BranchGoals$Draws", "drawStep", "(LBranchGoals$Case;I)V"⟩, prog_4_method_5_code, 6, none),
  (2, ⟨"BranchGoals$Draws", "drawNumber", "()I"⟩, prog_4_method_4_code, 2, some (FieldType.int)),
  (1, ⟨"BranchGoals$Case", "write", "(IIIII)V"⟩, prog_3_method_4_code, 6, none),
  (8, ⟨"BranchGoals", "runAndArchive", "(LBranchGoals$Case;)V"⟩, prog_1_method_20_code, 2, none),
  (6, ⟨"BranchGoals$Runner", "perform", "(LBranchGoals$Case;LBranchGoals$Program;)V"⟩, prog_8_method_2_code, 5, none),
  (12, ⟨"java/util/Arrays", "fill", "([II)V"⟩, prog_15_method_103_code, 4, none),
  (12, ⟨"java/util/Arrays", "fill", "([JJ)V"⟩, prog_15_method_101_code, 5, none),
  (6, ⟨"BranchGoals$Runner", "doStep", "(LBranchGoals$Case;ILBranchGoals$Program;)J"⟩, prog_8_method_3_code, 7, some (FieldType.long)),
  (1, ⟨"BranchGoals$Case", "part", "(II)I"⟩, prog_3_method_3_code, 3, some (FieldType.int)),
  (6, ⟨"BranchGoals$Runner", "valueOf", "(J)I"⟩, prog_8_method_4_code, 2, some (FieldType.int)),
  (6, ⟨"BranchGoals$Runner", "callMethod", "(LBranchGoals$Method;)J"⟩, prog_8_method_5_code, 5, some (FieldType.long)),
  (6, ⟨"BranchGoals$Runner", "doLine", "(LBranchGoals$Method;I)I"⟩, prog_8_method_6_code, 6, some (FieldType.int)),
  (6, ⟨"BranchGoals$Runner", "calculate", "(III)I"⟩, prog_8_method_7_code, 3, some (FieldType.int)),
  (6, ⟨"BranchGoals$Runner", "decide", "(LBranchGoals$Method;I)I"⟩, prog_8_method_8_code, 12, some (FieldType.int)),
  (11, ⟨"java/lang/Math", "abs", "(J)J"⟩, prog_13_method_61_code, 2, some (FieldType.long)),
  (11, ⟨"java/lang/Math", "min", "(JJ)J"⟩, prog_13_method_70_code, 4, some (FieldType.long)),
  (5, ⟨"BranchGoals$Program", "goalCount", "()I"⟩, prog_7_method_2_code, 1, some (FieldType.int)),
  (6, ⟨"BranchGoals$Runner", "fitnessFor", "(ILBranchGoals$Program;)J"⟩, prog_8_method_9_code, 7, some (FieldType.long)),
  (6, ⟨"BranchGoals$Runner", "leastNearest", "(II)J"⟩, prog_8_method_10_code, 6, some (FieldType.long)),
  (8, ⟨"BranchGoals", "hasGoal", "(II)Z"⟩, prog_1_method_26_code, 2, some (FieldType.boolean)),
  (5, ⟨"BranchGoals$Program", "goalsNeededBy", "(I)I"⟩, prog_7_method_6_code, 4, some (FieldType.int)),
  (0, ⟨"BranchGoals$Archive", "admit", "(LBranchGoals$Case;)V"⟩, prog_2_method_2_code, 3, none),
  (1, ⟨"BranchGoals$Case", "copy", "(LBranchGoals$Case;)V"⟩, prog_3_method_5_code, 2, none),
  (1, ⟨"BranchGoals$Case", "copySteps", "(LBranchGoals$Case;)V"⟩, prog_3_method_6_code, 2, none),
  (5, ⟨"BranchGoals$Program", "activeGoals", "(I)I"⟩, prog_7_method_7_code, 4, some (FieldType.int)),
  (4, ⟨"BranchGoals$Population", "takeInChildren", "(I)V"⟩, prog_6_method_3_code, 4, none),
  (4, ⟨"BranchGoals$Population", "placeFronts", "(II)V"⟩, prog_6_method_4_code, 5, none),
  (4, ⟨"BranchGoals$Population", "preferredFor", "(II)LBranchGoals$Case;"⟩, prog_6_method_5_code, 7, some ((FieldType.object "BranchGoals$Case"))),
  (4, ⟨"BranchGoals$Population", "isBeaten", "(LBranchGoals$Case;III)Z"⟩, prog_6_method_6_code, 6, some (FieldType.boolean)),
  (4, ⟨"BranchGoals$Population", "goalsNearer", "(LBranchGoals$Case;LBranchGoals$Case;I)I"⟩, prog_6_method_8_code, 5, some (FieldType.int)),
  (4, ⟨"BranchGoals$Population", "crowdOf", "(LBranchGoals$Case;II)I"⟩, prog_6_method_7_code, 6, some (FieldType.int)),
  (11, ⟨"java/lang/Math", "max", "(II)I"⟩, prog_13_method_65_code, 2, some (FieldType.int)),
  (4, ⟨"BranchGoals$Population", "sort", "(I)V"⟩, prog_6_method_9_code, 5, none),
  (4, ⟨"BranchGoals$Population", "goesBefore", "(LBranchGoals$Case;LBranchGoals$Case;)Z"⟩, prog_6_method_10_code, 2, some (FieldType.boolean)),
  (8, ⟨"BranchGoals", "watched", "(I)Z"⟩, prog_1_method_4_code, 2, some (FieldType.boolean)),
  (8, ⟨"BranchGoals", "depends", "(II)Z"⟩, prog_1_method_5_code, 3, some (FieldType.boolean)),
  (8, ⟨"BranchGoals", "isGoal", "(I)Z"⟩, prog_1_method_22_code, 2, some (FieldType.boolean)),
  (8, ⟨"BranchGoals", "put", "(IIII)Z"⟩, prog_1_method_6_code, 6, some (FieldType.boolean)),
  (8, ⟨"BranchGoals", "isField", "(I)Z"⟩, prog_1_method_25_code, 1, some (FieldType.boolean)),
  (8, ⟨"BranchGoals", "run", "()I"⟩, prog_1_method_7_code, 1, some (FieldType.int)),
  (8, ⟨"BranchGoals", "evolve", "()I"⟩, prog_1_method_8_code, 6, some (FieldType.int)),
  (8, ⟨"BranchGoals", "drawParent", "()LBranchGoals$Case;"⟩, prog_1_method_21_code, 3, some ((FieldType.object "BranchGoals$Case"))),
  (1, ⟨"BranchGoals$Case", "join", "(LBranchGoals$Case;ILBranchGoals$Case;I)V"⟩, prog_3_method_7_code, 7, none),
  (2, ⟨"BranchGoals$Draws", "change", "(LBranchGoals$Case;)V"⟩, prog_4_method_7_code, 4, none),
  (1, ⟨"BranchGoals$Case", "makeRoom", "(I)V"⟩, prog_3_method_8_code, 3, none),
  (1, ⟨"BranchGoals$Case", "takeOut", "(I)V"⟩, prog_3_method_9_code, 4, none),
  (2, ⟨"BranchGoals$Draws", "changeStep", "(LBranchGoals$Case;I)V"⟩, prog_4_method_8_code, 5, none),
  (13, ⟨"java/lang/Integer", "bitCount", "(I)I"⟩, prog_12_method_49_code, 1, some (FieldType.int)),
  (8, ⟨"BranchGoals", "finish", "()I"⟩, prog_1_method_9_code, 2, some (FieldType.int)),
  (7, ⟨"BranchGoals$Suite", "clear", "()V"⟩, prog_9_method_2_code, 1, none),
  (7, ⟨"BranchGoals$Suite", "goals", "()I"⟩, prog_9_method_3_code, 1, some (FieldType.int)),
  (7, ⟨"BranchGoals$Suite", "goalsOf", "(II)I"⟩, prog_9_method_4_code, 5, some (FieldType.int)),
  (7, ⟨"BranchGoals$Suite", "appendCut", "(LBranchGoals$Case;ILBranchGoals$Runner;LBranchGoals$Program;)V"⟩, prog_9_method_5_code, 7, none),
  (1, ⟨"BranchGoals$Case", "isReferredTo", "(I)Z"⟩, prog_3_method_10_code, 3, some (FieldType.boolean)),
  (7, ⟨"BranchGoals$Suite", "dropNeedless", "()V"⟩, prog_9_method_6_code, 5, none),
  (8, ⟨"BranchGoals", "found", "()I"⟩, prog_1_method_10_code, 1, some (FieldType.int)),
  (8, ⟨"BranchGoals", "active", "()I"⟩, prog_1_method_11_code, 1, some (FieldType.int)),
  (8, ⟨"BranchGoals", "reported", "()I"⟩, prog_1_method_12_code, 1, some (FieldType.int)),
  (8, ⟨"BranchGoals", "length", "(I)I"⟩, prog_1_method_13_code, 3, some (FieldType.int)),
  (8, ⟨"BranchGoals", "caseNamed", "(I)LBranchGoals$Case;"⟩, prog_1_method_23_code, 3, some ((FieldType.object "BranchGoals$Case"))),
  (8, ⟨"BranchGoals", "step", "(III)I"⟩, prog_1_method_14_code, 5, some (FieldType.int)),
  (1, ⟨"BranchGoals$Case", "hasStep", "(I)Z"⟩, prog_3_method_2_code, 2, some (FieldType.boolean)),
  (8, ⟨"BranchGoals", "covers", "(I)I"⟩, prog_1_method_15_code, 3, some (FieldType.int)),
  (8, ⟨"BranchGoals", "fitness", "(II)J"⟩, prog_1_method_16_code, 4, some (FieldType.long)),
  (8, ⟨"BranchGoals", "result", "(II)J"⟩, prog_1_method_17_code, 4, some (FieldType.long)),
  (8, ⟨"BranchGoals", "runs", "()I"⟩, prog_1_method_18_code, 1, some (FieldType.int)),
  (8, ⟨"BranchGoals", "state", "()J"⟩, prog_1_method_19_code, 1, some (FieldType.long)),
  (10, ⟨"BranchGoalsLaw", "cell", "([II)I"⟩, method_2_code, 2, some (FieldType.int)),
  (9, ⟨"BranchGoalsModel", "<init>", "(I)V"⟩, prog_11_method_1_code, 2, none),
  (9, ⟨"BranchGoalsModel", "line", "(IIIII)Z"⟩, prog_11_method_5_code, 11, some (FieldType.boolean)),
  (9, ⟨"BranchGoalsModel", "within", "(III)Z"⟩, prog_11_method_4_code, 3, some (FieldType.boolean)),
  (9, ⟨"BranchGoalsModel", "watched", "(I)Z"⟩, prog_11_method_11_code, 2, some (FieldType.boolean)),
  (9, ⟨"BranchGoalsModel", "depends", "(II)Z"⟩, prog_11_method_13_code, 3, some (FieldType.boolean)),
  (9, ⟨"BranchGoalsModel", "goal", "(I)Z"⟩, prog_11_method_12_code, 2, some (FieldType.boolean)),
  (9, ⟨"BranchGoalsModel", "put", "(IIII)Z"⟩, prog_11_method_28_code, 7, some (FieldType.boolean)),
  (9, ⟨"BranchGoalsModel", "write", "(IIII)V"⟩, prog_11_method_23_code, 6, none),
  (9, ⟨"BranchGoalsModel", "second", "(IIII)V"⟩, prog_11_method_24_code, 5, none),
  (9, ⟨"BranchGoalsModel", "found", "()I"⟩, prog_11_method_35_code, 3, some (FieldType.int)),
  (9, ⟨"BranchGoalsModel", "active", "()I"⟩, prog_11_method_36_code, 5, some (FieldType.int)),
  (9, ⟨"BranchGoalsModel", "start", "()I"⟩, prog_11_method_44_code, 2, some (FieldType.int)),
  (9, ⟨"BranchGoalsModel", "number", "(I)V"⟩, prog_11_method_9_code, 4, none),
  (9, ⟨"BranchGoalsModel", "branchAt", "(II)Z"⟩, prog_11_method_3_code, 3, some (FieldType.boolean)),
  (9, ⟨"BranchGoalsModel", "code", "(III)I"⟩, prog_11_method_2_code, 4, some (FieldType.int)),
  (9, ⟨"BranchGoalsModel", "relate", "(I)V"⟩, prog_11_method_10_code, 5, none),
  (9, ⟨"BranchGoalsModel", "must", "(III)Z"⟩, prog_11_method_8_code, 4, some (FieldType.boolean)),
  (9, ⟨"BranchGoalsModel", "way", "(III)Z"⟩, prog_11_method_7_code, 10, some (FieldType.boolean)),
  (9, ⟨"BranchGoalsModel", "lead", "(III)I"⟩, prog_11_method_6_code, 6, some (FieldType.int)),
  (9, ⟨"BranchGoalsModel", "drawCase", "(I)V"⟩, prog_11_method_43_code, 3, none),
  (9, ⟨"BranchGoalsModel", "draw", "(I)I"⟩, prog_11_method_29_code, 2, some (FieldType.int)),
  (9, ⟨"BranchGoalsModel", "drawStep", "(II)V"⟩, prog_11_method_32_code, 7, none),
  (9, ⟨"BranchGoalsModel", "drawNumber", "()I"⟩, prog_11_method_30_code, 5, some (FieldType.int)),
  (9, ⟨"BranchGoalsModel", "setLine", "(I)Z"⟩, prog_11_method_31_code, 2, some (FieldType.boolean)),
  (9, ⟨"BranchGoalsModel", "archive", "(I)V"⟩, prog_11_method_34_code, 5, none),
  (9, ⟨"BranchGoalsModel", "reached", "(I)I"⟩, prog_11_method_20_code, 4, some (FieldType.int)),
  (9, ⟨"BranchGoalsModel", "perform", "(I)V"⟩, prog_11_method_19_code, 6, none),
  (9, ⟨"BranchGoalsModel", "part", "(III)I"⟩, prog_11_method_14_code, 4, some (FieldType.int)),
  (9, ⟨"BranchGoalsModel", "value", "(I)I"⟩, prog_11_method_18_code, 2, some (FieldType.int)),
  (9, ⟨"BranchGoalsModel", "call", "(I)J"⟩, prog_11_method_17_code, 5, some (FieldType.long)),
  (9, ⟨"BranchGoalsModel", "go", "(II)I"⟩, prog_11_method_16_code, 9, some (FieldType.int)),
  (9, ⟨"BranchGoalsModel", "note", "(IIII)V"⟩, prog_11_method_15_code, 15, none),
  (9, ⟨"BranchGoalsModel", "copy", "(II)V"⟩, prog_11_method_22_code, 4, none),
  (9, ⟨"BranchGoalsModel", "putInOrder", "(I)V"⟩, prog_11_method_41_code, 6, none),
  (9, ⟨"BranchGoalsModel", "level", "(I)J"⟩, prog_11_method_21_code, 8, some (FieldType.long)),
  (9, ⟨"BranchGoalsModel", "prefer", "(II)V"⟩, prog_11_method_38_code, 9, none),
  (9, ⟨"BranchGoalsModel", "fronts", "(II)V"⟩, prog_11_method_39_code, 7, none),
  (9, ⟨"BranchGoalsModel", "better", "(III)I"⟩, prog_11_method_37_code, 6, some (FieldType.int)),
  (9, ⟨"BranchGoalsModel", "rearrange", "(I)V"⟩, prog_11_method_42_code, 5, none),
  (9, ⟨"BranchGoalsModel", "before", "(II)Z"⟩, prog_11_method_40_code, 3, some (FieldType.boolean)),
  (9, ⟨"BranchGoalsModel", "run", "()I"⟩, prog_11_method_45_code, 1, some (FieldType.int)),
  (9, ⟨"BranchGoalsModel", "evolve", "()I"⟩, prog_11_method_48_code, 5, some (FieldType.int)),
  (9, ⟨"BranchGoalsModel", "lesser", "()I"⟩, prog_11_method_46_code, 3, some (FieldType.int)),
  (9, ⟨"BranchGoalsModel", "join", "(IIIII)V"⟩, prog_11_method_47_code, 8, none),
  (9, ⟨"BranchGoalsModel", "move", "(IIIIII)V"⟩, prog_11_method_25_code, 10, none),
  (9, ⟨"BranchGoalsModel", "change", "(I)V"⟩, prog_11_method_33_code, 8, none),
  (9, ⟨"BranchGoalsModel", "makeRoom", "(II)V"⟩, prog_11_method_27_code, 6, none),
  (9, ⟨"BranchGoalsModel", "takeOut", "(II)V"⟩, prog_11_method_26_code, 6, none),
  (9, ⟨"BranchGoalsModel", "count", "(I)I"⟩, prog_11_method_49_code, 3, some (FieldType.int)),
  (9, ⟨"BranchGoalsModel", "finish", "()I"⟩, prog_11_method_53_code, 5, some (FieldType.int)),
  (9, ⟨"BranchGoalsModel", "others", "(I)I"⟩, prog_11_method_52_code, 4, some (FieldType.int)),
  (9, ⟨"BranchGoalsModel", "cut", "(II)V"⟩, prog_11_method_51_code, 4, none),
  (9, ⟨"BranchGoalsModel", "referred", "(II)Z"⟩, prog_11_method_50_code, 5, some (FieldType.boolean)),
  (9, ⟨"BranchGoalsModel", "reported", "()I"⟩, prog_11_method_54_code, 1, some (FieldType.int)),
  (9, ⟨"BranchGoalsModel", "length", "(I)I"⟩, prog_11_method_56_code, 3, some (FieldType.int)),
  (9, ⟨"BranchGoalsModel", "slot", "(I)I"⟩, prog_11_method_55_code, 2, some (FieldType.int)),
  (9, ⟨"BranchGoalsModel", "step", "(III)I"⟩, prog_11_method_57_code, 5, some (FieldType.int)),
  (9, ⟨"BranchGoalsModel", "covers", "(I)I"⟩, prog_11_method_58_code, 3, some (FieldType.int)),
  (9, ⟨"BranchGoalsModel", "fitness", "(II)J"⟩, prog_11_method_59_code, 4, some (FieldType.long)),
  (9, ⟨"BranchGoalsModel", "result", "(II)J"⟩, prog_11_method_60_code, 4, some (FieldType.long)),
  (9, ⟨"BranchGoalsModel", "runs", "()I"⟩, prog_11_method_61_code, 1, some (FieldType.int)),
  (9, ⟨"BranchGoalsModel", "state", "()J"⟩, prog_11_method_62_code, 1, some (FieldType.long)),
  (10, ⟨"BranchGoalsLaw", "law", "([I)Z"⟩, code, 4, some (FieldType.boolean))]
def xMd (k : Nat) : Nat × MethodName × ByteArray × Nat × Option FieldType := xM.getD k (99, ⟨"", "", ""⟩, ⟨#[]⟩, 0, none)
def xkc (k : Nat) : Nat := (xMd k).1
def xyn (k : Nat) : MethodName := (xMd k).2.1
def xcode (k : Nat) : ByteArray := (xMd k).2.2.1
def xml (k : Nat) : Nat := (xMd k).2.2.2.1
def xrty (k : Nat) : Option FieldType := (xMd k).2.2.2.2
def xrob (k : Nat) : Bool := match xrty k with
  | some (.object _) => true
  | some (.array _) => true
  | _ => false
def xfldT : List (Nat × Nat × Nat × Nat) := [(3, 9, 3, 0), (2, 38, 3, 0), (6, 91, 3, 0), (3, 15, 3, 1), (6, 94, 3, 1), (3, 18, 3, 2), (6, 108, 3, 2), (3, 21, 3, 3), (2, 41, 3, 3), (6, 99, 3, 3), (3, 24, 3, 4), (5, 56, 3, 4), (6, 130, 3, 4), (3, 27, 3, 5), (2, 33, 3, 5), (5, 42, 3, 5), (6, 86, 3, 5), (3, 31, 3, 6), (5, 34, 3, 6), (8, 114, 3, 6), (5, 12, 5, 0), (2, 27, 5, 0), (8, 71, 5, 0), (6, 78, 5, 0), (5, 18, 5, 1), (8, 120, 5, 1), (5, 22, 5, 2), (5, 26, 5, 3), (2, 9, 2, 0), (2, 15, 2, 1), (2, 23, 2, 2), (8, 204, 2, 2), (6, 9, 6, 0), (6, 15, 6, 1), (6, 19, 6, 2), (8, 201, 6, 2), (1, 9, 1, 0), (2, 77, 1, 0), (1, 15, 1, 1), (6, 39, 1, 1), (8, 198, 1, 1), (1, 19, 1, 2), (6, 59, 1, 2), (4, 61, 1, 2), (8, 192, 1, 2), (1, 22, 1, 3), (6, 34, 1, 3), (0, 30, 1, 3), (7, 41, 1, 3), (4, 65, 1, 3), (8, 128, 1, 3), (2, 60, 1, 3), (1, 26, 1, 4), (0, 23, 1, 4), (6, 50, 1, 4), (7, 34, 1, 4), (8, 141, 1, 4), (1, 29, 1, 5), (4, 46, 1, 5), (1, 32, 1, 6), (4, 31, 1, 6), (0, 13, 0, 0), (8, 166, 0, 0), (0, 19, 0, 1), (8, 99, 0, 1), (4, 13, 4, 0), (8, 216, 4, 0), (4, 19, 4, 1), (8, 215, 4, 1), (7, 13, 7, 0), (8, 224, 7, 0), (7, 22, 7, 1), (7, 26, 7, 2), (8, 177, 7, 2), (8, 12, 8, 0), (8, 21, 8, 1), (8, 28, 8, 2), (8, 35, 8, 3), (8, 42, 8, 4), (8, 49, 8, 5), (8, 56, 8, 6), (8, 60, 8, 7), (8, 63, 8, 8), (9, 7, 9, 0), (9, 13, 9, 1), (9, 16, 9, 2), (9, 19, 9, 3), (9, 22, 9, 4), (9, 26, 9, 5), (9, 29, 9, 6), (9, 32, 9, 7), (9, 35, 9, 8), (9, 71, 9, 9), (9, 89, 9, 10), (9, 198, 9, 11), (9, 236, 9, 12), (9, 168, 9, 13), (9, 64, 9, 14), (9, 38, 9, 15), (9, 41, 9, 16), (9, 45, 9, 17), (9, 48, 9, 18), (9, 51, 9, 19), (9, 54, 9, 20), (9, 57, 9, 21)]
def xcalT : List (Nat × Nat × Nat × Nat) := [(10, 15, 0, 1), (8, 11, 1, 0), (5, 11, 2, 0), (8, 18, 3, 1), (8, 27, 4, 0), (8, 34, 5, 0), (0, 9, 6, 1), (8, 55, 7, 0), (8, 41, 8, 0), (4, 9, 6, 1), (8, 48, 9, 0), (7, 9, 6, 1), (7, 21, 7, 0), (10, 21, 10, 5), (8, 67, 11, 1), (8, 75, 12, 4), (3, 35, 13, 4), (3, 39, 14, 1), (3, 43, 15, 1), (10, 26, 16, 0), (8, 81, 17, 0), (5, 30, 18, 1), (3, 46, 19, 1), (5, 38, 20, 1), (5, 45, 19, 1), (5, 49, 21, 1), (3, 55, 22, 1), (3, 59, 23, 2), (3, 49, 24, 2), (5, 52, 25, 3), (5, 59, 23, 2), (8, 84, 26, 1), (8, 88, 27, 1), (8, 92, 28, 1), (2, 46, 29, 1), (2, 63, 30, 2), (2, 50, 31, 0), (2, 54, 32, 5), (8, 96, 33, 1), (8, 208, 34, 2), (6, 23, 35, 2), (6, 31, 36, 2), (6, 44, 37, 3), (6, 66, 38, 2), (6, 70, 11, 1), (6, 74, 39, 1), (6, 82, 40, 1), (6, 104, 41, 2), (6, 111, 42, 3), (6, 115, 19, 1), (6, 118, 43, 2), (6, 124, 44, 1), (6, 133, 45, 2), (6, 121, 23, 2), (6, 53, 46, 0), (6, 62, 47, 2), (6, 137, 48, 2), (6, 147, 49, 2), (6, 141, 50, 1), (8, 212, 51, 1), (0, 26, 49, 2), (0, 33, 52, 1), (1, 35, 53, 1), (8, 103, 54, 1), (8, 107, 55, 1), (4, 23, 56, 2), (4, 49, 49, 2), (4, 53, 57, 2), (4, 57, 58, 4), (4, 68, 59, 3), (4, 27, 60, 3), (4, 72, 61, 2), (4, 36, 62, 1), (4, 75, 63, 2), (4, 40, 24, 2), (8, 110, 46, 0), (10, 31, 64, 1), (10, 36, 65, 2), (8, 117, 66, 1), (8, 124, 49, 2), (10, 41, 67, 4), (8, 131, 68, 1), (8, 134, 32, 5), (10, 46, 69, 0), (8, 138, 52, 1), (10, 50, 70, 0), (8, 142, 71, 0), (8, 146, 29, 1), (8, 219, 24, 2), (8, 149, 72, 4), (1, 45, 24, 2), (1, 51, 38, 2), (8, 153, 73, 1), (2, 67, 74, 1), (2, 71, 75, 1), (2, 74, 76, 2), (2, 80, 11, 1), (8, 156, 77, 1), (10, 54, 78, 0), (8, 161, 79, 0), (8, 164, 80, 0), (7, 30, 81, 2), (8, 170, 82, 4), (7, 37, 52, 1), (7, 44, 83, 1), (7, 48, 53, 1), (7, 51, 75, 1), (7, 55, 34, 2), (7, 61, 49, 2), (8, 174, 84, 0), (10, 58, 85, 0), (10, 62, 86, 0), (10, 66, 87, 0), (10, 70, 88, 1), (8, 180, 89, 1), (10, 75, 90, 3), (8, 183, 91, 1), (8, 186, 38, 2), (10, 80, 92, 1), (10, 84, 93, 2), (10, 89, 94, 2), (10, 93, 95, 0), (10, 97, 96, 0), (10, 9, 97, 2), (10, 20, 98, 1), (10, 25, 99, 5), (9, 75, 100, 3), (10, 35, 101, 1), (10, 40, 102, 2), (9, 96, 103, 1), (10, 45, 104, 4), (9, 137, 105, 4), (9, 140, 106, 4), (10, 61, 107, 0), (10, 65, 108, 0), (9, 174, 107, 0), (10, 30, 109, 0), (9, 204, 110, 1), (9, 79, 111, 2), (9, 68, 112, 3), (9, 207, 113, 1), (9, 93, 114, 3), (9, 86, 115, 3), (9, 83, 116, 3), (9, 210, 117, 1), (9, 145, 118, 1), (9, 159, 119, 2), (9, 151, 120, 0), (9, 148, 121, 1), (9, 201, 122, 1), (9, 165, 123, 1), (9, 129, 124, 1), (9, 118, 125, 3), (9, 121, 126, 1), (9, 125, 127, 1), (9, 108, 128, 2), (9, 100, 129, 4), (9, 171, 130, 2), (9, 213, 131, 1), (9, 180, 108, 0), (9, 183, 132, 1), (9, 186, 133, 2), (9, 189, 134, 2), (9, 177, 135, 3), (9, 192, 136, 1), (9, 195, 137, 2), (10, 49, 138, 0), (10, 53, 139, 0), (9, 220, 140, 0), (9, 223, 141, 5), (9, 216, 142, 6), (9, 227, 143, 1), (9, 155, 144, 2), (9, 162, 145, 2), (9, 230, 146, 1), (10, 57, 147, 0), (9, 239, 148, 1), (9, 242, 149, 2), (9, 233, 150, 2), (10, 69, 151, 0), (10, 74, 152, 1), (9, 245, 153, 1), (10, 79, 154, 3), (10, 83, 155, 1), (10, 88, 156, 2), (10, 92, 157, 2), (10, 96, 158, 0), (10, 101, 159, 0)]
def xnatT : List (Nat × Nat × Nat) := [(8, 3, 0), (5, 3, 0), (3, 3, 0), (2, 3, 0), (6, 3, 0), (0, 3, 0), (1, 3, 0), (4, 3, 0), (7, 3, 0), (1, 39, 7), (9, 1, 0)]
def xnwcT : List (Nat × Nat × Nat) := [(10, 7, 8), (8, 9, 5), (5, 9, 3), (8, 16, 2), (8, 25, 6), (8, 32, 0), (8, 53, 1), (8, 39, 4), (8, 46, 7), (7, 19, 1), (10, 18, 9)]
def xanwT : List (Nat × Nat × Nat) := [(5, 9, 1), (8, 53, 0), (7, 19, 0)]
def xcstT : List (Nat × Nat × Value) := [(2, 19, .long (25214903917)), (2, 21, .long (281474976710655)), (2, 44, .long (11)), (6, 29, .long (8589934592)), (6, 42, .long (4294967296)), (6, 97, .long (4294967298)), (6, 102, .long (4294967297)), (6, 48, .long (4294967299)), (6, 145, .long (549755813888)), (13, 265, .int (1431655765)), (13, 266, .int (858993459)), (13, 267, .int (252645135)), (8, 190, .long (-1)), (8, 196, .long (4294967300)), (9, 60, .long (25214903917)), (9, 62, .long (281474976710655)), (9, 143, .long (11)), (9, 116, .long (-1)), (9, 114, .long (4294967296)), (9, 104, .long (4294967298)), (9, 106, .long (4294967297)), (9, 112, .long (4294967299)), (9, 133, .long (8589934592)), (9, 135, .long (549755813888)), (9, 248, .long (4294967300))]
def xfind {α : Type} (T : List (Nat × Nat × α)) (c i : Nat) : Option α := (T.find? (fun q => q.1 == c && q.2.1 == i)).map (fun q => q.2.2)
def xfld (c i : Nat) : Option (Nat × Nat) := xfind xfldT c i
def xcal (c i : Nat) : Option (Nat × Nat) := xfind xcalT c i
def xnat (c i : Nat) : Option (Nat) := xfind xnatT c i
def xnwc (c i : Nat) : Option (Nat) := xfind xnwcT c i
def xanw (c i : Nat) : Option (Nat) := xfind xanwT c i
def xcst (c i : Nat) : Option (Value) := xfind xcstT c i
def xpok (k ci j : Nat) : Bool := match xcls[ci]? with
  | some (_, T, _) => !(T j).2.2.2 || ((xyn k).name == "<init>" && xkc k == ci)
  | none => false
def xnest : List Cond := lw_tbl.filter (fun w => match w with
  | .methodLinkNest _ _ _ _ => true
  | _ => false)
def xgood : List Cond := lw_tbl.filter goodWord
end
section
/-! The small machine in which this claim is walked: a memory of three tables (ints, longs, references), locals by their places, the method's number. -/
abbrev XH : Type := Nat × Nat × (Nat → Nat × Nat) × (Nat → Nat → Int32) × (Nat → Nat → Int64) × (Nat → Nat → Option Nat)
abbrev XL : Type := List (Option Value)
abbrev XS : Type := Nat × (Nat → Int32)
def xhz (h : XH) : Nat := h.1
def xhs (h : XH) : Nat := h.2.1
def xhk (h : XH) : Nat → Nat × Nat := h.2.2.1
def xhI (h : XH) : Nat → Nat → Int32 := h.2.2.2.1
def xhJ (h : XH) : Nat → Nat → Int64 := h.2.2.2.2.1
def xhR (h : XH) : Nat → Nat → Option Nat := h.2.2.2.2.2
def xu {α : Type} (f : Nat → Nat → α) (a i : Nat) (v : α) : Nat → Nat → α := fun x y => if x = a ∧ y = i then v else f x y
def xrow {α : Type} (f : Nat → Nat → α) (a : Nat) (g : Nat → α) : Nat → Nat → α := fun x y => if x = a then g y else f x y
def xsI (h : XH) (f : Nat → Nat → Int32) : XH := (xhz h, xhs h, xhk h, f, xhJ h, xhR h)
def xsJ (h : XH) (f : Nat → Nat → Int64) : XH := (xhz h, xhs h, xhk h, xhI h, f, xhR h)
def xsR (h : XH) (f : Nat → Nat → Option Nat) : XH := (xhz h, xhs h, xhk h, xhI h, xhJ h, f)
def xnew (h : XH) (t n : Nat) : XH := (xhz h + 1, xhs h + n, (fun x => if x = xhz h then (t, n) else xhk h x), xrow (xhI h) (xhz h) (fun _ => 0), xrow (xhJ h) (xhz h) (fun _ => 0), xrow (xhR h) (xhz h) (fun _ => none))
-- locals
def xcat2 : Option Value → Bool
  | some v => v.category == 2
  | none => false
def xst1 : XL → Nat → Value → XL
  | [], _, _ => []
  | _ :: L, 0, v => some v :: L
  | x :: L, 1, v => (if xcat2 x then none else x) :: xst1 L 0 v
  | x :: L, i + 2, v => x :: xst1 L (i + 1) v
def xst2 : XL → Nat → Value → XL
  | _ :: _ :: L, 0, v => some v :: none :: L
  | x :: L, 1, v => (if xcat2 x then none else x) :: xst2 L 0 v
  | x :: L, i + 2, v => x :: xst2 L (i + 1) v
  | L, _, _ => L
def xld (L : XL) (i : Nat) : Option Value := (L[i]?).bind id
def xent : List Value → Nat → XL
  | _, 0 => []
  | [], n + 1 => none :: xent [] n
  | v :: vs, n + 1 => if v.category = 2 then (match n with | 0 => [none] | n + 1 => some v :: none :: xent vs n) else some v :: xent vs n
def xwid (vs : List Value) : Nat := (vs.map fun v => v.category).sum
-- fields
def xfv (ty : FieldType) (I : Nat → Int32) (J : Nat → Int64) (R : Nat → Option Nat) (j : Nat) : Value := match ty with
  | .long => .long (J j)
  | .object _ => va_rf (R j)
  | .array _ => va_rf (R j)
  | _ => .int (I j)
def xfp (ty : FieldType) (h : XH) (a j : Nat) (v : Value) : Option XH := match ty with
  | .int => (match v with | .int x => some (xsI h (xu (xhI h) a j x)) | _ => none)
  | .boolean => (match v with | .int x => if x = 0 ∨ x = 1 then some (xsI h (xu (xhI h) a j x)) else none | _ => none)
  | .long => (match v with | .long x => some (xsJ h (xu (xhJ h) a j x)) | _ => none)
  | .object _ => (match v with | .ref r => some (xsR h (xu (xhR h) a j (some r))) | .null => some (xsR h (xu (xhR h) a j none)) | _ => none)
  | .array _ => (match v with | .ref r => some (xsR h (xu (xhR h) a j (some r))) | .null => some (xsR h (xu (xhR h) a j none)) | _ => none)
  | _ => none
-- instructions on the stack alone
def xi1 (f : Int32 → Int32) : List Value → Option (List Value)
  | .int x :: r => some (.int (f x) :: r)
  | _ => none
def xi2 (f : Int32 → Int32 → Int32) : List Value → Option (List Value)
  | .int y :: .int x :: r => some (.int (f x y) :: r)
  | _ => none
def xi2z (f : Int32 → Int32 → Int32) : List Value → Option (List Value)
  | .int y :: .int x :: r => if y = 0 then none else some (.int (f x y) :: r)
  | _ => none
def xj1 (f : Int64 → Int64) : List Value → Option (List Value)
  | .long x :: r => some (.long (f x) :: r)
  | _ => none
def xj2 (f : Int64 → Int64 → Int64) : List Value → Option (List Value)
  | .long y :: .long x :: r => some (.long (f x y) :: r)
  | _ => none
def xj2z (f : Int64 → Int64 → Int64) : List Value → Option (List Value)
  | .long y :: .long x :: r => if y = 0 then none else some (.long (f x y) :: r)
  | _ => none
def xji (f : Int64 → Int32 → Int64) : List Value → Option (List Value)
  | .int y :: .long x :: r => some (.long (f x y) :: r)
  | _ => none
def xi2l : List Value → Option (List Value)
  | .int x :: r => some (.long x.toInt64 :: r)
  | _ => none
def xl2i : List Value → Option (List Value)
  | .long x :: r => some (.int x.toInt32 :: r)
  | _ => none
def xlcmp : List Value → Option (List Value)
  | .long y :: .long x :: r => some (.int (lg_cmp x y) :: r)
  | _ => none
def xdup : List Value → Option (List Value)
  | v :: r => if v.category = 1 then some (v :: v :: r) else none
  | _ => none
def xpop : List Value → Option (List Value)
  | v :: r => if v.category = 1 then some r else none
  | _ => none
def xpop2 : List Value → Option (List Value)
  | v :: r => if v.category = 2 then some r else (match r with | w :: r => if w.category = 1 then some r else none | _ => none)
  | _ => none
def xdupx1 : List Value → Option (List Value)
  | v :: w :: r => if v.category = 1 ∧ w.category = 1 then some (v :: w :: v :: r) else none
  | _ => none
def xdupx2 : List Value → Option (List Value)
  | v :: w :: u :: r => if v.category = 1 ∧ w.category = 1 ∧ u.category = 1 then some (v :: w :: u :: v :: r) else none
  | _ => none
def xdup2 : List Value → Option (List Value)
  | v :: r => if v.category = 2 then some (v :: v :: r) else (match r with | w :: r => if w.category = 1 then some (v :: w :: v :: w :: r) else none | _ => none)
  | _ => none
def xdup2x1 : List Value → Option (List Value)
  | v :: w :: r => if v.category = 2 ∧ w.category = 1 then some (v :: w :: v :: r) else none
  | _ => none
def xdup2x2 : List Value → Option (List Value)
  | v :: w :: u :: r => if v.category = 2 ∧ w.category = 1 ∧ u.category = 1 then some (v :: w :: u :: v :: r) else none
  | _ => none
def xop (i : Instr) (st : List Value) : Option (List Value) := match i with
  | .iconst n => some (.int (Int32.ofInt n) :: st)
  | .bipush n => some (.int (Int8.ofInt n).toInt32 :: st)
  | .sipush n => some (.int (Int16.ofInt n).toInt32 :: st)
  | .lconst n => some (.long (Int64.ofNat n) :: st)
  | .aconst_null => some (.null :: st)
  | .iadd => xi2 (fun x y => x + y) st
  | .isub => xi2 (fun x y => x - y) st
  | .imul => xi2 (fun x y => x * y) st
  | .iand => xi2 (fun x y => x &&& y) st
  | .ior => xi2 (fun x y => x ||| y) st
  | .ixor => xi2 (fun x y => x ^^^ y) st
  | .ishl => xi2 (fun x y => x <<< (y &&& 31)) st
  | .ishr => xi2 (fun x y => x >>> (y &&& 31)) st
  | .iushr => xi2 (fun x y => (x.toUInt32 >>> (y.toUInt32 &&& Int32.toUInt32 31)).toInt32) st
  | .idiv => xi2z (fun x y => x / y) st
  | .irem => xi2z (fun x y => x - x / y * y) st
  | .ineg => xi1 (fun x => -x) st
  | .ladd => xj2 (fun x y => x + y) st
  | .lsub => xj2 (fun x y => x - y) st
  | .lmul => xj2 (fun x y => x * y) st
  | .land => xj2 (fun x y => x &&& y) st
  | .lor => xj2 (fun x y => x ||| y) st
  | .lxor => xj2 (fun x y => x ^^^ y) st
  | .ldiv => xj2z (fun x y => x / y) st
  | .lrem => xj2z (fun x y => x - x / y * y) st
  | .lneg => xj1 (fun x => -x) st
  | .lshl => xji (fun x y => x <<< (y.toInt64 &&& 63)) st
  | .lshr => xji (fun x y => x >>> (y.toInt64 &&& 63)) st
  | .lushr => xji (fun x y => (x.toUInt64 >>> (y.toInt64.toUInt64 &&& Int64.toUInt64 63)).toInt64) st
  | .i2l => xi2l st
  | .l2i => xl2i st
  | .lcmp => xlcmp st
  | .dup => xdup st
  | .pop => xpop st
  | .pop2 => xpop2 st
  | .dup_x1 => xdupx1 st
  | .dup_x2 => xdupx2 st
  | .dup2 => xdup2 st
  | .dup2_x1 => xdup2x1 st
  | .dup2_x2 => xdup2x2 st
  | _ => none
end
section
-- jumps
def xtg (pc : Nat) (off : Int) : Option Nat := if 0 ≤ (pc : Int) + off then some ((pc : Int) + off).toNat else none
def xcnd (c : ClassFile.Cond) (x y : Int32) : Bool := match c with
  | .eq => decide (x = y)
  | .ne => decide (¬ x = y)
  | .lt => decide (x < y)
  | .ge => decide (y ≤ x)
  | .gt => decide (y < x)
  | .le => decide (x ≤ y)
def xrf : Value → Option (Option Nat)
  | .null => some none
  | .ref a => some (some a)
  | _ => none
def xjc (b : Bool) (pc : Nat) (off : Int) (r : List Value) : Option (Nat × List Value) := match xtg pc off with
  | none => none
  | some t => if b = true then some (t, r) else some (pc + 3, r)
def xjif (c : ClassFile.Cond) (pc : Nat) (off : Int) : List Value → Option (Nat × List Value)
  | .int x :: r => xjc (xcnd c x 0) pc off r
  | _ => none
def xjcmp (c : ClassFile.Cond) (pc : Nat) (off : Int) : List Value → Option (Nat × List Value)
  | .int y :: .int x :: r => xjc (xcnd c x y) pc off r
  | _ => none
def xjnull (b : Bool) (pc : Nat) (off : Int) : List Value → Option (Nat × List Value)
  | .null :: r => xjc b pc off r
  | .ref _ :: r => xjc (!b) pc off r
  | _ => none
def xjacmp (b : Bool) (pc : Nat) (off : Int) : List Value → Option (Nat × List Value)
  | y :: x :: r => (match xrf x, xrf y with
    | some rx, some ry => xjc (decide (rx = ry) == b) pc off r
    | _, _ => none)
  | _ => none
def xjtab (d lo hi : Int) (offs : Array Int) (pc : Nat) : List Value → Option (Nat × List Value)
  | .int x :: r => if x.toInt < lo ∨ hi < x.toInt then (xtg pc d).map (fun t => (t, r)) else (match offs[(x.toInt - lo).toNat]? with
    | some off => (xtg pc off).map (fun t => (t, r))
    | none => none)
  | _ => none
def xjlook (d : Int) (ps : Array (Int × Int)) (pc : Nat) : List Value → Option (Nat × List Value)
  | .int x :: r => if (ps.toList.zip (ps.toList.drop 1)).all (fun (a, next) => a.1 < next.1) = true then (xtg pc (Op.lookupswitch.offset ps.toList d x.toInt)).map (fun t => (t, r)) else none
  | _ => none
def xjmp (i : Instr) (len pc : Nat) (st : List Value) : Option (Nat × List Value) := match i with
  | .goto off => if len = 3 then (xtg pc off).map (fun t => (t, st)) else none
  | .ifCond c off => if len = 3 then xjif c pc off st else none
  | .if_icmp c off => if len = 3 then xjcmp c pc off st else none
  | .ifnull off => if len = 3 then xjnull true pc off st else none
  | .ifnonnull off => if len = 3 then xjnull false pc off st else none
  | .if_acmp c off => if len = 3 then xjacmp (match c with | .eq => true | .ne => false) pc off st else none
  | .tableswitch d lo hi offs => xjtab d lo hi offs pc st
  | .lookupswitch d ps => xjlook d ps pc st
  | _ => none
-- locals
def xlI (L : XL) (i : Nat) (st : List Value) : Option (XL × List Value) := match xld L i with
  | some (.int x) => some (L, .int x :: st)
  | _ => none
def xlJ (L : XL) (i : Nat) (st : List Value) : Option (XL × List Value) := match xld L i with
  | some (.long x) => some (L, .long x :: st)
  | _ => none
def xlA (L : XL) (i : Nat) (st : List Value) : Option (XL × List Value) := match xld L i with
  | some (.ref x) => some (L, .ref x :: st)
  | some .null => some (L, .null :: st)
  | _ => none
def xsI1 (L : XL) (i : Nat) : List Value → Option (XL × List Value)
  | .int x :: r => if i < L.length then some (xst1 L i (.int x), r) else none
  | _ => none
def xsJ1 (L : XL) (i : Nat) : List Value → Option (XL × List Value)
  | .long x :: r => if i + 1 < L.length then some (xst2 L i (.long x), r) else none
  | _ => none
def xsA1 (L : XL) (i : Nat) : List Value → Option (XL × List Value)
  | .ref x :: r => if i < L.length then some (xst1 L i (.ref x), r) else none
  | .null :: r => if i < L.length then some (xst1 L i .null, r) else none
  | _ => none
def xinc (L : XL) (i : Nat) (n : Int) (st : List Value) : Option (XL × List Value) := match xld L i with
  | some (.int x) => if i < L.length then some (xst1 L i (.int (x + Int32.ofInt n)), st) else none
  | _ => none
def xloc (i : Instr) (L : XL) (st : List Value) : Option (XL × List Value) := match i with
  | .iload i => xlI L i st
  | .iload_n i => xlI L i st
  | .lload i => xlJ L i st
  | .lload_n i => xlJ L i st
  | .aload i => xlA L i st
  | .aload_n i => xlA L i st
  | .istore i => xsI1 L i st
  | .istore_n i => xsI1 L i st
  | .lstore i => xsJ1 L i st
  | .lstore_n i => xsJ1 L i st
  | .astore i => xsA1 L i st
  | .astore_n i => xsA1 L i st
  | .iinc i n => xinc L i n st
  | _ => none
def xlen : Instr → Nat
  | .bipush _ => 2
  | .sipush _ => 3
  | .iload _ => 2
  | .lload _ => 2
  | .aload _ => 2
  | .istore _ => 2
  | .lstore _ => 2
  | .astore _ => 2
  | .iinc _ _ => 3
  | .ldc _ => 2
  | .ldc_w _ => 3
  | .ldc2_w _ => 3
  | .getfield _ => 3
  | .putfield _ => 3
  | .new _ => 3
  | .newarray _ => 2
  | .anewarray _ => 3
  | .invokespecial _ => 3
  | .invokestatic _ => 3
  | .invokevirtual _ => 3
  | .checkcast _ => 3
  | _ => 1
end
section
-- memory
def xkd (h : XH) (a : Nat) : Nat × Nat := if 1 ≤ a ∧ a < xhz h then xhk h a else (999, 0)
def xgetf (k idx : Nat) (h : XH) : List Value → Option (List Value × XH)
  | .ref a :: r => (match xfld (xkc k) idx with
    | some (ci, j) => if xkd h a = (ci, xnf ci) then some (xfv (xft ci j) (xhI h a) (xhJ h a) (xhR h a) j :: r, h) else none
    | none => none)
  | _ => none
def xputf (k idx : Nat) (h : XH) : List Value → Option (List Value × XH)
  | v :: .ref a :: r => (match xfld (xkc k) idx with
    | some (ci, j) => if xkd h a = (ci, xnf ci) ∧ xpok k ci j = true then (xfp (xft ci j) h a j v).map (fun h' => (r, h')) else none
    | none => none)
  | _ => none
def xin (i : Int32) (n : Nat) : Prop := ¬ (i < 0 ∨ n ≤ i.toNatClampNeg)
def xinb (i : Int32) (n : Nat) : Bool := decide (¬ (i < 0 ∨ n ≤ i.toNatClampNeg))
def xiald (S : XS) (h : XH) : List Value → Option (List Value × XH)
  | .int i :: .ref a :: r => if a = 0 then (if xinb i S.1 = true then some (.int (S.2 i.toNatClampNeg) :: r, h) else none)
    else if (xkd h a).1 = 100 ∧ xinb i (xkd h a).2 = true then some (.int (xhI h a i.toNatClampNeg) :: r, h) else none
  | _ => none
def xjald (h : XH) : List Value → Option (List Value × XH)
  | .int i :: .ref a :: r => if (xkd h a).1 = 101 ∧ xinb i (xkd h a).2 = true then some (.long (xhJ h a i.toNatClampNeg) :: r, h) else none
  | _ => none
def xzald (h : XH) : List Value → Option (List Value × XH)
  | .int i :: .ref a :: r => if (xkd h a).1 = 102 ∧ xinb i (xkd h a).2 = true then some (.int (xhI h a i.toNatClampNeg) :: r, h) else none
  | _ => none
def xaald (h : XH) : List Value → Option (List Value × XH)
  | .int i :: .ref a :: r => if 103 ≤ (xkd h a).1 ∧ (xkd h a).1 < 103 + xnq ∧ xinb i (xkd h a).2 = true then some (va_rf (xhR h a i.toNatClampNeg) :: r, h) else none
  | _ => none
def xiast (h : XH) : List Value → Option (List Value × XH)
  | .int x :: .int i :: .ref a :: r => if (xkd h a).1 = 100 ∧ xinb i (xkd h a).2 = true then some (r, xsI h (xu (xhI h) a i.toNatClampNeg x)) else none
  | _ => none
def xjast (h : XH) : List Value → Option (List Value × XH)
  | .long x :: .int i :: .ref a :: r => if (xkd h a).1 = 101 ∧ xinb i (xkd h a).2 = true then some (r, xsJ h (xu (xhJ h) a i.toNatClampNeg x)) else none
  | _ => none
def xzast (h : XH) : List Value → Option (List Value × XH)
  | .int x :: .int i :: .ref a :: r => if (xkd h a).1 = 102 ∧ xinb i (xkd h a).2 = true ∧ (x = 0 ∨ x = 1) then some (r, xsI h (xu (xhI h) a i.toNatClampNeg x)) else none
  | _ => none
def xaast (h : XH) : List Value → Option (List Value × XH)
  | .ref v :: .int i :: .ref a :: r => if 103 ≤ (xkd h a).1 ∧ (xkd h a).1 < 103 + xnq ∧ xinb i (xkd h a).2 = true ∧ xkd h v = (xqc ((xkd h a).1 - 103), xnf (xqc ((xkd h a).1 - 103))) then some (r, xsR h (xu (xhR h) a i.toNatClampNeg (some v))) else none
  | .null :: .int i :: .ref a :: r => if 103 ≤ (xkd h a).1 ∧ (xkd h a).1 < 103 + xnq ∧ xinb i (xkd h a).2 = true then some (r, xsR h (xu (xhR h) a i.toNatClampNeg none)) else none
  | _ => none
def xalen (S : XS) (h : XH) : List Value → Option (List Value × XH)
  | .ref a :: r => if a = 0 then some (.int (Int32.ofNat S.1) :: r, h) else if 100 ≤ (xkd h a).1 ∧ (xkd h a).1 < 103 + xnq then some (.int (Int32.ofNat (xkd h a).2) :: r, h) else none
  | _ => none
def xnwa (t : Nat) (h : XH) : List Value → Option (List Value × XH)
  | .int n :: r => if ¬ n < 0 ∧ n.toNatClampNeg ≤ 1000000 then some (.ref (xhz h) :: r, xnew h (100 + t) n.toNatClampNeg) else none
  | _ => none
def xnwo (ci : Nat) (h : XH) (st : List Value) : Option (List Value × XH) := some (.ref (xhz h) :: st, xnew h ci (xnf ci))
def xldc (k idx : Nat) (h : XH) (st : List Value) : Option (List Value × XH) := (xcst (xkc k) idx).bind (fun v => match v with
  | .int x => some (.int x :: st, h)
  | _ => none)
def xldc2 (k idx : Nat) (h : XH) (st : List Value) : Option (List Value × XH) := (xcst (xkc k) idx).bind (fun v => match v with
  | .long x => some (.long x :: st, h)
  | _ => none)
def xmem (S : XS) (k : Nat) (i : Instr) (st : List Value) (h : XH) : Option (List Value × XH) := match i with
  | .getfield idx => xgetf k idx h st
  | .putfield idx => xputf k idx h st
  | .iaload => xiald S h st
  | .laload => xjald h st
  | .baload => xzald h st
  | .aaload => xaald h st
  | .iastore => xiast h st
  | .lastore => xjast h st
  | .bastore => xzast h st
  | .aastore => xaast h st
  | .arraylength => xalen S h st
  | .newarray t => (match t with
    | .int => xnwa 0 h st
    | .long => xnwa 1 h st
    | .boolean => xnwa 2 h st
    | _ => none)
  | .anewarray idx => (xanw (xkc k) idx).bind (fun t => xnwa (3 + t) h st)
  | .new idx => (xnwc (xkc k) idx).bind (fun ci => xnwo ci h st)
  | .ldc idx => xldc k idx h st
  | .ldc_w idx => xldc k idx h st
  | .ldc2_w idx => xldc2 k idx h st
  | _ => none
-- members of the JDK that are done at once
def xcpy (h : XH) : List Value → Option (List Value × XH)
  | .int n :: .int dp :: .ref a :: .int sp :: .ref a0 :: r => if xwid r ≤ 8 ∧ ¬ sp < 0 ∧ ¬ dp < 0 ∧ ¬ n < 0 ∧ sp.toNatClampNeg + n.toNatClampNeg ≤ (xkd h a0).2 ∧ dp.toNatClampNeg + n.toNatClampNeg ≤ (xkd h a).2 then
      (if (xkd h a0).1 = 100 ∧ (xkd h a).1 = 100 then some (r, xsI h (xrow (xhI h) a (va_cpy (xhI h a0) (xhI h a) sp.toNatClampNeg dp.toNatClampNeg n.toNatClampNeg)))
      else if (xkd h a0).1 = 101 ∧ (xkd h a).1 = 101 then some (r, xsJ h (xrow (xhJ h) a (va_cpy (xhJ h a0) (xhJ h a) sp.toNatClampNeg dp.toNatClampNeg n.toNatClampNeg)))
      else none) else none
  | _ => none
def xn0 : List Value → Option (List Value)
  | .ref _ :: r => if xwid r ≤ 8 then some r else none
  | _ => none
def xnatS (t : Nat) (h : XH) (st : List Value) : Option (List Value × XH) := if t = 7 then xcpy h st else none
def xnatv (d k : Nat) (i : Instr) (st : List Value) (h : XH) : Option (List Value × XH) := if d = 0 then none else match i with
  | .invokespecial idx => if xnat (xkc k) idx = some 0 then (xn0 st).map (fun r => (r, h)) else none
  | .invokestatic idx => (xnat (xkc k) idx).bind (fun t => xnatS t h st)
  | _ => none
def x1 (S : XS) (d k : Nat) (i : Instr) (len pc : Nat) (L : XL) (st : List Value) (h : XH) : Option (Nat × XL × List Value × XH) := match xjmp i len pc st with
  | some q => some (q.1, L, q.2, h)
  | none => if len = xlen i then (match xop i st with
    | some st' => some (pc + len, L, st', h)
    | none => match xloc i L st with
      | some q => some (pc + len, q.1, q.2, h)
      | none => match xmem S k i st h with
        | some q => some (pc + len, L, q.1, q.2)
        | none => match xnatv d k i st h with
          | some q => some (pc + len, L, q.1, q.2)
          | none => none) else none
def xret (k : Nat) (i : Instr) (len : Nat) (st : List Value) : Option (Option Value) := if len = 1 then (match i with
  | .return_ => if xrty k = none ∧ st = [] then some none else none
  | .ireturn => (match st with
    | [.int x] => if xrty k = some .int ∨ (xrty k = some .boolean ∧ (x = 0 ∨ x = 1)) then some (some (.int x)) else none
    | _ => none)
  | .lreturn => (match st with
    | [.long x] => if xrty k = some .long then some (some (.long x)) else none
    | _ => none)
  | .areturn => (match st with
    | [.ref x] => if xrob k = true then some (some (.ref x)) else none
    | [.null] => if xrob k = true then some (some .null) else none
    | _ => none)
  | _ => none) else none
def xcall (k : Nat) (i : Instr) (len : Nat) (st : List Value) (h : XH) : Option (Nat × List Value × List Value) := if len = 3 then (match i with
  | .invokestatic idx => (match xcal (xkc k) idx with
    | some (y, n) => if n ≤ st.length ∧ xwid (st.drop n) ≤ 8 then some (y, (st.take n).reverse, st.drop n) else none
    | none => none)
  | .invokevirtual idx => (match xcal (xkc k) idx with
    | some (y, n) => (match st.drop n with
      | .ref a :: r => if xwid r ≤ 8 ∧ xkd h a = (xkc y, xnf (xkc y)) then some (y, .ref a :: (st.take n).reverse, r) else none
      | _ => none)
    | none => none)
  | .invokespecial idx => (match xcal (xkc k) idx with
    | some (y, n) => (match st.drop n with
      | .ref a :: r => if xwid r ≤ 8 then some (y, .ref a :: (st.take n).reverse, r) else none
      | _ => none)
    | none => none)
  | _ => none) else none
def xrun (S : XS) : Nat → Nat → Nat → Nat → XL → List Value → XH → Option (Option Value × XH)
  | 0, _, _, _, _, _, _ => none
  | n + 1, d, k, pc, L, st, h => match decode (xcode k) pc with
    | .error _ => none
    | .ok (i, len) => match xret k i len st with
      | some r => some (r, h)
      | none => match xcall k i len st h with
        | some (y, as, r) => if d = 0 then none else (match xrun S n (d - 1) y 0 (xent as (xml y)) [] h with
          | none => none
          | some (v, h') => xrun S n d k (pc + 3) L (v.toList ++ r) h')
        | none => match x1 S d k i len pc L st h with
          | none => none
          | some (pc', L', st', h') => xrun S n d k pc' L' st' h'
theorem xnatv_mono {d d' k : Nat} {i : Instr} {st : List Value} {h : XH} {q : List Value × XH} (hd : d ≤ d') (e : xnatv d k i st h = some q) : xnatv d' k i st h = some q := by
  unfold xnatv at e ⊢
  split at e
  · cases e
  · rw [if_neg (by omega)]
    exact e
theorem x1_mono {S : XS} {d d' k len pc : Nat} {i : Instr} {L : XL} {st : List Value} {h : XH} {q : Nat × XL × List Value × XH} (hd : d ≤ d') (e : x1 S d k i len pc L st h = some q) : x1 S d' k i len pc L st h = some q := by
  unfold x1 at e ⊢
  split at e
  · exact e
  · split at e
    · rename_i hl
      rw [if_pos hl]
      split at e
      · exact e
      · split at e
        · exact e
        · split at e
          · exact e
          · split at e
            · rename_i q' hq'
              rw [xnatv_mono hd hq']
              exact e
            · cases e
    · cases e
theorem xrun_mono {S : XS} : ∀ (n d k pc : Nat) (L : XL) (st : List Value) (h : XH) (q : Option Value × XH), xrun S n d k pc L st h = some q → ∀ n' d', n ≤ n' → d ≤ d' → xrun S n' d' k pc L st h = some q := by
  intro n
  induction n with
  | zero => intro d k pc L st h q e; cases e
  | succ n ih =>
    intro d k pc L st h q e n' d' hn hd
    obtain ⟨n'', rfl⟩ : ∃ n'', n' = n'' + 1 := ⟨n' - 1, by omega⟩
    simp only [xrun] at e ⊢
    split at e
    · cases e
    · split at e
      · exact e
      · split at e
        · split at e
          · cases e
          · rename_i hz
            rw [if_neg (by omega)]
            split at e
            · cases e
            · rename_i v h' hc
              rw [ih _ _ _ _ _ _ _ hc n'' (d' - 1) (by omega) (by omega)]
              exact ih _ _ _ _ _ _ _ e n'' d' (by omega) hd
        · split at e
          · cases e
          · rename_i pc' L' st' h' hc
            rw [x1_mono hd hc]
            exact ih _ _ _ _ _ _ _ e n'' d' (by omega) hd
end
section
/-! The small machine is sound: what it does the machine does. First the instructions on the stack alone, jumps, locals. -/
def xad (b scr : Nat) : Nat → Nat
  | 0 => scr
  | a + 1 => b + a
def xemb (ad : Nat → Nat) : Value → Value
  | .ref a => .ref (ad a)
  | v => v
theorem xemb_cat (ad : Nat → Nat) (v : Value) : (xemb ad v).category = v.category := by cases v <;> rfl
theorem xemb_rf (ad : Nat → Nat) (r : Option Nat) : xemb ad (va_rf r) = va_rf (r.map ad) := by cases r <;> rfl
def XLH (ad : Nat → Nat) (ls : Array Slot) (n : Nat) (L : XL) : Prop := ls.size = n ∧ L.length = n ∧ lv_wf ls ∧ ∀ (i : Nat) (v : Value), xld L i = some v → ls[i]? = some (.val (xemb ad v))
def xcl0 (ad : Nat → Nat) (ca : Nat → ClassId) (t : Nat × Nat) (I : Nat → Int32) (J : Nat → Int64) (R : Nat → Option Nat) : va_E :=
  if t.1 < 100 then .inr (t.1, (List.range t.2).map (fun j => xemb ad (xfv (xft t.1 j) I J R j)))
  else .inl (ca (t.1 - 100), t.2, if t.1 = 101 then .inr (.inl J) else if t.1 < 103 then .inl I else .inr (.inr (.inr (.inr (fun i => (R i).map ad)))))
def xcell (ad : Nat → Nat) (ca : Nat → ClassId) (h : XH) (a : Nat) : va_E := xcl0 ad ca (xhk h a) (xhI h a) (xhJ h a) (xhR h a)
def xw (ad : Nat → Nat) (ca : Nat → ClassId) (b : Nat) (h : XH) : va_W := (List.range (xhz h - 1)).map (fun a => (b + a, xcell ad ca h (a + 1)))
abbrev XG : Type := Program × Launch × Env × Room × State × MethodId × Array Value × List Frame × Method × Code × (State → Prop) × va_G × (Nat → ClassId) × Nat × Nat × Nat × Nat
def XW : XG → Nat → Nat → XL → List Value → XH → Prop
  | (p, l, e, R, s, m, args, below, meth, c, Q, D, ca, b, scr, z0, s0), k, pc, L, st, h =>
    ∀ (H : Heap) (locs : List Loc) (ls : Array Slot), va_P D xcls (xw (xad b scr) ca b h) H → va_S (fun q => b ≤ q) s.heap H locs → XLH (xad b scr) ls (xml k) L →
      W p l e R s m args below meth c H locs (xhz h - z0) (xhs h - s0) Q (F0 m pc ls (st.map (xemb (xad b scr))))
theorem xi1_inv {f : Int32 → Int32} {st st' : List Value} (h : xi1 f st = some st') : ∃ x r, st = .int x :: r ∧ st' = .int (f x) :: r := by
  unfold xi1 at h
  split at h
  · exact ⟨_, _, rfl, (Option.some.inj h).symm⟩
  · cases h
theorem xi2_inv {f : Int32 → Int32 → Int32} {st st' : List Value} (h : xi2 f st = some st') : ∃ x y r, st = .int y :: .int x :: r ∧ st' = .int (f x y) :: r := by
  unfold xi2 at h
  split at h
  · exact ⟨_, _, _, rfl, (Option.some.inj h).symm⟩
  · cases h
theorem xi2z_inv {f : Int32 → Int32 → Int32} {st st' : List Value} (h : xi2z f st = some st') : ∃ x y r, st = .int y :: .int x :: r ∧ st' = .int (f x y) :: r ∧ ¬ y = 0 := by
  unfold xi2z at h
  split at h
  · split at h
    · cases h
    · exact ⟨_, _, _, rfl, (Option.some.inj h).symm, by assumption⟩
  · cases h
theorem xj1_inv {f : Int64 → Int64} {st st' : List Value} (h : xj1 f st = some st') : ∃ x r, st = .long x :: r ∧ st' = .long (f x) :: r := by
  unfold xj1 at h
  split at h
  · exact ⟨_, _, rfl, (Option.some.inj h).symm⟩
  · cases h
theorem xj2_inv {f : Int64 → Int64 → Int64} {st st' : List Value} (h : xj2 f st = some st') : ∃ x y r, st = .long y :: .long x :: r ∧ st' = .long (f x y) :: r := by
  unfold xj2 at h
  split at h
  · exact ⟨_, _, _, rfl, (Option.some.inj h).symm⟩
  · cases h
theorem xj2z_inv {f : Int64 → Int64 → Int64} {st st' : List Value} (h : xj2z f st = some st') : ∃ x y r, st = .long y :: .long x :: r ∧ st' = .long (f x y) :: r ∧ ¬ y = 0 := by
  unfold xj2z at h
  split at h
  · split at h
    · cases h
    · exact ⟨_, _, _, rfl, (Option.some.inj h).symm, by assumption⟩
  · cases h
theorem xji_inv {f : Int64 → Int32 → Int64} {st st' : List Value} (h : xji f st = some st') : ∃ x y r, st = .int y :: .long x :: r ∧ st' = .long (f x y) :: r := by
  unfold xji at h
  split at h
  · exact ⟨_, _, _, rfl, (Option.some.inj h).symm⟩
  · cases h
theorem xi2l_inv {st st' : List Value} (h : xi2l st = some st') : ∃ x r, st = .int x :: r ∧ st' = .long x.toInt64 :: r := by
  unfold xi2l at h
  split at h
  · exact ⟨_, _, rfl, (Option.some.inj h).symm⟩
  · cases h
theorem xl2i_inv {st st' : List Value} (h : xl2i st = some st') : ∃ x r, st = .long x :: r ∧ st' = .int x.toInt32 :: r := by
  unfold xl2i at h
  split at h
  · exact ⟨_, _, rfl, (Option.some.inj h).symm⟩
  · cases h
theorem xlcmp_inv {st st' : List Value} (h : xlcmp st = some st') : ∃ x y r, st = .long y :: .long x :: r ∧ st' = .int (lg_cmp x y) :: r := by
  unfold xlcmp at h
  split at h
  · exact ⟨_, _, _, rfl, (Option.some.inj h).symm⟩
  · cases h
theorem xdup_inv {st st' : List Value} (h : xdup st = some st') : ∃ v r, st = v :: r ∧ st' = v :: v :: r ∧ v.category = 1 := by
  unfold xdup at h
  split at h
  · split at h
    · exact ⟨_, _, rfl, (Option.some.inj h).symm, by assumption⟩
    · cases h
  · cases h
theorem xpop_inv {st st' : List Value} (h : xpop st = some st') : ∃ v, st = v :: st' ∧ v.category = 1 := by
  unfold xpop at h
  split at h
  · split at h
    · cases h; exact ⟨_, rfl, by assumption⟩
    · cases h
  · cases h
theorem xcat_1 {v : Value} (h : ¬ v.category = 2) : v.category = 1 := by cases v <;> first | rfl | exact absurd rfl h
theorem xpop2_inv {st st' : List Value} (h : xpop2 st = some st') : (∃ v, st = v :: st' ∧ v.category = 2) ∨ ∃ v w, st = v :: w :: st' ∧ v.category = 1 ∧ w.category = 1 := by
  unfold xpop2 at h
  split at h
  · split at h
    · cases h; exact Or.inl ⟨_, rfl, by assumption⟩
    · split at h
      · split at h
        · cases h
          exact Or.inr ⟨_, _, rfl, xcat_1 (by assumption), by assumption⟩
        · cases h
      · cases h
  · cases h
theorem xdupx1_inv {st st' : List Value} (h : xdupx1 st = some st') : ∃ v w r, st = v :: w :: r ∧ st' = v :: w :: v :: r ∧ v.category = 1 ∧ w.category = 1 := by
  unfold xdupx1 at h
  split at h
  · split at h
    · exact ⟨_, _, _, rfl, (Option.some.inj h).symm, by assumption⟩
    · cases h
  · cases h
theorem xdupx2_inv {st st' : List Value} (h : xdupx2 st = some st') : ∃ v w u r, st = v :: w :: u :: r ∧ st' = v :: w :: u :: v :: r ∧ v.category = 1 ∧ w.category = 1 ∧ u.category = 1 := by
  unfold xdupx2 at h
  split at h
  · split at h
    · exact ⟨_, _, _, _, rfl, (Option.some.inj h).symm, by assumption⟩
    · cases h
  · cases h
theorem xdup2_inv {st st' : List Value} (h : xdup2 st = some st') : (∃ v r, st = v :: r ∧ st' = v :: v :: r ∧ v.category = 2) ∨ ∃ v w r, st = v :: w :: r ∧ st' = v :: w :: v :: w :: r ∧ v.category = 1 ∧ w.category = 1 := by
  unfold xdup2 at h
  split at h
  · split at h
    · cases h; exact Or.inl ⟨_, _, rfl, rfl, by assumption⟩
    · split at h
      · split at h
        · cases h
          exact Or.inr ⟨_, _, _, rfl, rfl, xcat_1 (by assumption), by assumption⟩
        · cases h
      · cases h
  · cases h
theorem xdup2x1_inv {st st' : List Value} (h : xdup2x1 st = some st') : ∃ v w r, st = v :: w :: r ∧ st' = v :: w :: v :: r ∧ v.category = 2 ∧ w.category = 1 := by
  unfold xdup2x1 at h
  split at h
  · split at h
    · exact ⟨_, _, _, rfl, (Option.some.inj h).symm, by assumption⟩
    · cases h
  · cases h
theorem xdup2x2_inv {st st' : List Value} (h : xdup2x2 st = some st') : ∃ v w u r, st = v :: w :: u :: r ∧ st' = v :: w :: u :: v :: r ∧ v.category = 2 ∧ w.category = 1 ∧ u.category = 1 := by
  unfold xdup2x2 at h
  split at h
  · split at h
    · exact ⟨_, _, _, _, rfl, (Option.some.inj h).symm, by assumption⟩
    · cases h
  · cases h
set_option maxHeartbeats 4000000 in
theorem xop_sound {G : XG} {k pc : Nat} {L : XL} {st st' : List Value} {h : XH} {i : Instr} (hx : G.1.tables.exec = Jvm.exec) (hb : G.2.2.2.2.2.2.2.2.2.1.code = xcode k)
    (hd : decode (xcode k) pc = .ok (i, xlen i)) (ho : xop i st = some st') (K : XW G k (pc + xlen i) L st' h) : XW G k pc L st h := by
  obtain ⟨p, l, e, R, s, m, args, below, meth, c, Q, D, ca, b, scr, z0, s0⟩ := G
  intro H locs ls hP hS hL
  have K := K H locs ls hP hS hL
  cases i with
  | iconst n => cases ho; exact lv_iconst hx hb hd rfl K
  | bipush n => cases ho; exact lv_bipush hx hb hd rfl K
  | sipush n => cases ho; exact lv_sipush hx hb hd rfl K
  | lconst n => cases ho; exact lv_lconst hx hb hd rfl K
  | aconst_null => cases ho; exact lv_null hx hb hd K
  | iadd => obtain ⟨x, y, r, rfl, rfl⟩ := xi2_inv ho; exact lv_iadd hx hb hd K
  | isub => obtain ⟨x, y, r, rfl, rfl⟩ := xi2_inv ho; exact lv_isub hx hb hd K
  | imul => obtain ⟨x, y, r, rfl, rfl⟩ := xi2_inv ho; exact lv_imul hx hb hd K
  | iand => obtain ⟨x, y, r, rfl, rfl⟩ := xi2_inv ho; exact lv_iand hx hb hd K
  | ior => obtain ⟨x, y, r, rfl, rfl⟩ := xi2_inv ho; exact lv_ior hx hb hd K
  | ixor => obtain ⟨x, y, r, rfl, rfl⟩ := xi2_inv ho; exact lv_ixor hx hb hd K
  | ishl => obtain ⟨x, y, r, rfl, rfl⟩ := xi2_inv ho; exact lv_ishl hx hb hd K
  | ishr => obtain ⟨x, y, r, rfl, rfl⟩ := xi2_inv ho; exact lv_ishr hx hb hd K
  | iushr => obtain ⟨x, y, r, rfl, rfl⟩ := xi2_inv ho; exact lv_iushr hx hb hd rfl K
  | idiv => obtain ⟨x, y, r, rfl, rfl, hy⟩ := xi2z_inv ho; exact lv_idiv hx hb hd hy K
  | irem => obtain ⟨x, y, r, rfl, rfl, hy⟩ := xi2z_inv ho; exact lv_irem hx hb hd hy K
  | ineg => obtain ⟨x, r, rfl, rfl⟩ := xi1_inv ho; exact lv_ineg hx hb hd K
  | ladd => obtain ⟨x, y, r, rfl, rfl⟩ := xj2_inv ho; exact lv_ladd hx hb hd K
  | lsub => obtain ⟨x, y, r, rfl, rfl⟩ := xj2_inv ho; exact lv_lsub hx hb hd K
  | lmul => obtain ⟨x, y, r, rfl, rfl⟩ := xj2_inv ho; exact lv_lmul hx hb hd K
  | land => obtain ⟨x, y, r, rfl, rfl⟩ := xj2_inv ho; exact lv_land hx hb hd K
  | lor => obtain ⟨x, y, r, rfl, rfl⟩ := xj2_inv ho; exact lv_lor hx hb hd K
  | lxor => obtain ⟨x, y, r, rfl, rfl⟩ := xj2_inv ho; exact lv_lxor hx hb hd K
  | ldiv => obtain ⟨x, y, r, rfl, rfl, hy⟩ := xj2z_inv ho; exact lv_ldiv hx hb hd hy K
  | lrem => obtain ⟨x, y, r, rfl, rfl, hy⟩ := xj2z_inv ho; exact lv_lrem hx hb hd hy K
  | lneg => obtain ⟨x, r, rfl, rfl⟩ := xj1_inv ho; exact lv_lneg hx hb hd K
  | lshl => obtain ⟨x, y, r, rfl, rfl⟩ := xji_inv ho; exact lv_lshl hx hb hd rfl K
  | lshr => obtain ⟨x, y, r, rfl, rfl⟩ := xji_inv ho; exact lv_lshr hx hb hd rfl K
  | lushr => obtain ⟨x, y, r, rfl, rfl⟩ := xji_inv ho; exact lv_lushr hx hb hd rfl K
  | i2l => obtain ⟨x, r, rfl, rfl⟩ := xi2l_inv ho; exact lv_i2l hx hb hd rfl K
  | l2i => obtain ⟨x, r, rfl, rfl⟩ := xl2i_inv ho; exact lv_l2i hx hb hd rfl K
  | lcmp => obtain ⟨x, y, r, rfl, rfl⟩ := xlcmp_inv ho; exact W.lcmp hx hb hd K
  | dup => obtain ⟨v, r, rfl, rfl, h1⟩ := xdup_inv ho; exact lv_dup hx hb hd ((xemb_cat _ v).trans h1) K
  | pop => obtain ⟨v, rfl, h1⟩ := xpop_inv ho; exact lv_pop hx hb hd ((xemb_cat _ v).trans h1) K
  | pop2 =>
    rcases xpop2_inv ho with ⟨v, rfl, h1⟩ | ⟨v, w, rfl, h1, h2⟩
    · exact lv_pop2_2 hx hb hd ((xemb_cat _ v).trans h1) K
    · exact lv_pop2_11 hx hb hd ((xemb_cat _ v).trans h1) ((xemb_cat _ w).trans h2) K
  | dup_x1 => obtain ⟨v, w, r, rfl, rfl, h1, h2⟩ := xdupx1_inv ho; exact lv_dup_x1 hx hb hd ((xemb_cat _ v).trans h1) ((xemb_cat _ w).trans h2) K
  | dup_x2 => obtain ⟨v, w, u, r, rfl, rfl, h1, h2, h3⟩ := xdupx2_inv ho; exact lv_dup_x2 hx hb hd ((xemb_cat _ v).trans h1) ((xemb_cat _ w).trans h2) ((xemb_cat _ u).trans h3) K
  | dup2 =>
    rcases xdup2_inv ho with ⟨v, r, rfl, rfl, h1⟩ | ⟨v, w, r, rfl, rfl, h1, h2⟩
    · exact lv_dup2_2 hx hb hd ((xemb_cat _ v).trans h1) K
    · exact lv_dup2_11 hx hb hd ((xemb_cat _ v).trans h1) ((xemb_cat _ w).trans h2) K
  | dup2_x1 => obtain ⟨v, w, r, rfl, rfl, h1, h2⟩ := xdup2x1_inv ho; exact lv_dup2_x1_2 hx hb hd ((xemb_cat _ v).trans h1) ((xemb_cat _ w).trans h2) K
  | dup2_x2 => obtain ⟨v, w, u, r, rfl, rfl, h1, h2, h3⟩ := xdup2x2_inv ho; exact lv_dup2_x2_2 hx hb hd ((xemb_cat _ v).trans h1) ((xemb_cat _ w).trans h2) ((xemb_cat _ u).trans h3) K
  | _ => cases ho
end
section
/-! Jumps and locals. -/
theorem xad_inj {b scr : Nat} (h : scr < b) {x y : Nat} (e : xad b scr x = xad b scr y) : x = y := by
  cases x with
  | zero => cases y with
    | zero => rfl
    | succ y => exfalso; simp only [xad] at e; omega
  | succ x => cases y with
    | zero => exfalso; simp only [xad] at e; omega
    | succ y => simp only [xad] at e; omega
theorem xad_injO {b scr : Nat} (h : scr < b) {x y : Option Nat} (e : x.map (xad b scr) = y.map (xad b scr)) : x = y := by
  cases x with
  | none => cases y with
    | none => rfl
    | some y => cases e
  | some x => cases y with
    | none => cases e
    | some y => exact congrArg some (xad_inj h (Option.some.inj e))
theorem xtg_inv {pc t : Nat} {off : Int} (h : xtg pc off = some t) : (pc : Int) + off = (t : Int) := by
  unfold xtg at h
  split at h
  · cases h; omega
  · cases h
theorem xjc_inv {b : Bool} {pc : Nat} {off : Int} {r : List Value} {q : Nat × List Value} (h : xjc b pc off r = some q) : ∃ t : Nat, (pc : Int) + off = (t : Int) ∧ ((b = true ∧ q = (t, r)) ∨ (b = false ∧ q = (pc + 3, r))) := by
  unfold xjc at h
  split at h
  · cases h
  · rename_i t ht
    refine ⟨t, xtg_inv ht, ?_⟩
    cases b
    · exact Or.inr ⟨rfl, (Option.some.inj h).symm⟩
    · exact Or.inl ⟨rfl, (Option.some.inj h).symm⟩
theorem xmap_inv {o : Option Nat} {r : List Value} {q : Nat × List Value} (h : o.map (fun t => (t, r)) = some q) : o = some q.1 ∧ q.2 = r := by
  cases o with
  | none => cases h
  | some t => cases h; exact ⟨rfl, rfl⟩
theorem xrf_inv {v : Value} {r : Option Nat} (h : xrf v = some r) : v = va_rf r := by
  cases v <;> first | (cases h; rfl) | cases h
section XJ
variable {p : Program} {l : Launch} {e : Env} {R : Room} {s : State} {m : MethodId} {args : Array Value} {below : List Frame} {meth : Method} {c : Code} {Q : State → Prop} {D : va_G} {ca : Nat → ClassId} {b scr z0 s0 k pc pc' len : Nat} {L L' : XL} {st st' r : List Value} {h : XH} {i : Instr}
theorem xjif_sound {cd : ClassFile.Cond} {off : Int} {x : Int32} (hx : p.tables.exec = Jvm.exec) (hb : c.code = xcode k) (hd : decode (xcode k) pc = .ok (.ifCond cd off, 3)) (ho : xjc (xcnd cd x 0) pc off r = some (pc', st')) (K : XW (p, l, e, R, s, m, args, below, meth, c, Q, D, ca, b, scr, z0, s0) k pc' L st' h) : XW (p, l, e, R, s, m, args, below, meth, c, Q, D, ca, b, scr, z0, s0) k pc L (.int x :: r) h := by
  intro H locs ls hP hS hL
  have K := K H locs ls hP hS hL
  obtain ⟨t, ht, hc⟩ := xjc_inv ho
  cases cd
  · refine lv_if_eq hx hb hd ht (fun q => ?_) (fun q => ?_) <;> rcases hc with ⟨h1, h2⟩ | ⟨h1, h2⟩ <;> simp only [xcnd, decide_eq_true_eq, decide_eq_false_iff_not] at h1 <;> first | (cases h2; exact K) | exact absurd q h1 | exact absurd h1 q
  · refine lv_if_ne hx hb hd ht (fun q => ?_) (fun q => ?_) <;> rcases hc with ⟨h1, h2⟩ | ⟨h1, h2⟩ <;> simp only [xcnd, decide_eq_true_eq, decide_eq_false_iff_not] at h1 <;> first | (cases h2; exact K) | exact absurd q h1 | exact absurd h1 q
  · refine lv_if_lt hx hb hd ht (fun q => ?_) (fun q => ?_) <;> rcases hc with ⟨h1, h2⟩ | ⟨h1, h2⟩ <;> simp only [xcnd, decide_eq_true_eq, decide_eq_false_iff_not] at h1 <;> first | (cases h2; exact K) | exact absurd q h1 | exact absurd h1 q
  · refine lv_if_ge hx hb hd ht (fun q => ?_) (fun q => ?_) <;> rcases hc with ⟨h1, h2⟩ | ⟨h1, h2⟩ <;> simp only [xcnd, decide_eq_true_eq, decide_eq_false_iff_not] at h1 <;> first | (cases h2; exact K) | exact absurd q h1 | exact absurd h1 q
  · refine lv_if_gt hx hb hd ht (fun q => ?_) (fun q => ?_) <;> rcases hc with ⟨h1, h2⟩ | ⟨h1, h2⟩ <;> simp only [xcnd, decide_eq_true_eq, decide_eq_false_iff_not] at h1 <;> first | (cases h2; exact K) | exact absurd q h1 | exact absurd h1 q
  · refine lv_if_le hx hb hd ht (fun q => ?_) (fun q => ?_) <;> rcases hc with ⟨h1, h2⟩ | ⟨h1, h2⟩ <;> simp only [xcnd, decide_eq_true_eq, decide_eq_false_iff_not] at h1 <;> first | (cases h2; exact K) | exact absurd q h1 | exact absurd h1 q
theorem xjcmp_sound {cd : ClassFile.Cond} {off : Int} {x y : Int32} (hx : p.tables.exec = Jvm.exec) (hb : c.code = xcode k) (hd : decode (xcode k) pc = .ok (.if_icmp cd off, 3)) (ho : xjc (xcnd cd x y) pc off r = some (pc', st')) (K : XW (p, l, e, R, s, m, args, below, meth, c, Q, D, ca, b, scr, z0, s0) k pc' L st' h) : XW (p, l, e, R, s, m, args, below, meth, c, Q, D, ca, b, scr, z0, s0) k pc L (.int y :: .int x :: r) h := by
  intro H locs ls hP hS hL
  have K := K H locs ls hP hS hL
  obtain ⟨t, ht, hc⟩ := xjc_inv ho
  cases cd
  · refine lv_icmp_eq hx hb hd ht (fun q => ?_) (fun q => ?_) <;> rcases hc with ⟨h1, h2⟩ | ⟨h1, h2⟩ <;> simp only [xcnd, decide_eq_true_eq, decide_eq_false_iff_not] at h1 <;> first | (cases h2; exact K) | exact absurd q h1 | exact absurd h1 q
  · refine lv_icmp_ne hx hb hd ht (fun q => ?_) (fun q => ?_) <;> rcases hc with ⟨h1, h2⟩ | ⟨h1, h2⟩ <;> simp only [xcnd, decide_eq_true_eq, decide_eq_false_iff_not] at h1 <;> first | (cases h2; exact K) | exact absurd q h1 | exact absurd h1 q
  · refine lv_icmp_lt hx hb hd ht (fun q => ?_) (fun q => ?_) <;> rcases hc with ⟨h1, h2⟩ | ⟨h1, h2⟩ <;> simp only [xcnd, decide_eq_true_eq, decide_eq_false_iff_not] at h1 <;> first | (cases h2; exact K) | exact absurd q h1 | exact absurd h1 q
  · refine lv_icmp_ge hx hb hd ht (fun q => ?_) (fun q => ?_) <;> rcases hc with ⟨h1, h2⟩ | ⟨h1, h2⟩ <;> simp only [xcnd, decide_eq_true_eq, decide_eq_false_iff_not] at h1 <;> first | (cases h2; exact K) | exact absurd q h1 | exact absurd h1 q
  · refine lv_icmp_gt hx hb hd ht (fun q => ?_) (fun q => ?_) <;> rcases hc with ⟨h1, h2⟩ | ⟨h1, h2⟩ <;> simp only [xcnd, decide_eq_true_eq, decide_eq_false_iff_not] at h1 <;> first | (cases h2; exact K) | exact absurd q h1 | exact absurd h1 q
  · refine lv_icmp_le hx hb hd ht (fun q => ?_) (fun q => ?_) <;> rcases hc with ⟨h1, h2⟩ | ⟨h1, h2⟩ <;> simp only [xcnd, decide_eq_true_eq, decide_eq_false_iff_not] at h1 <;> first | (cases h2; exact K) | exact absurd q h1 | exact absurd h1 q
theorem xjmp_sound (hsb : scr < b) (hx : p.tables.exec = Jvm.exec) (hb : c.code = xcode k) (hd : decode (xcode k) pc = .ok (i, len)) (ho : xjmp i len pc st = some (pc', st')) (K : XW (p, l, e, R, s, m, args, below, meth, c, Q, D, ca, b, scr, z0, s0) k pc' L st' h) : XW (p, l, e, R, s, m, args, below, meth, c, Q, D, ca, b, scr, z0, s0) k pc L st h := by
  cases i with
  | goto off =>
    simp only [xjmp] at ho
    split at ho
    · rename_i hl
      subst hl
      obtain ⟨h1, h2⟩ := xmap_inv ho
      cases h2
      intro H locs ls hP hS hL
      exact lv_goto hx hb hd (xtg_inv h1) (K H locs ls hP hS hL)
    · cases ho
  | ifCond cd off =>
    simp only [xjmp] at ho
    split at ho
    · rename_i hl
      subst hl
      unfold xjif at ho
      split at ho
      · exact xjif_sound hx hb hd ho K
      · cases ho
    · cases ho
  | if_icmp cd off =>
    simp only [xjmp] at ho
    split at ho
    · rename_i hl
      subst hl
      unfold xjcmp at ho
      split at ho
      · exact xjcmp_sound hx hb hd ho K
      · cases ho
    · cases ho
  | ifnull off =>
    simp only [xjmp] at ho
    split at ho
    · rename_i hl
      subst hl
      unfold xjnull at ho
      split at ho
      · obtain ⟨t, ht, ⟨h1, h2⟩ | ⟨h1, h2⟩⟩ := xjc_inv ho
        · cases h2
          intro H locs ls hP hS hL
          exact lv_ifnullN hx hb hd ht (K H locs ls hP hS hL)
        · cases h1
      · obtain ⟨t, ht, ⟨h1, h2⟩ | ⟨h1, h2⟩⟩ := xjc_inv ho
        · cases h1
        · cases h2
          intro H locs ls hP hS hL
          exact lv_ifnull hx hb hd (K H locs ls hP hS hL)
      · cases ho
    · cases ho
  | ifnonnull off =>
    simp only [xjmp] at ho
    split at ho
    · rename_i hl
      subst hl
      unfold xjnull at ho
      split at ho
      · obtain ⟨t, ht, ⟨h1, h2⟩ | ⟨h1, h2⟩⟩ := xjc_inv ho
        · cases h1
        · cases h2
          intro H locs ls hP hS hL
          exact lv_ifnonnullN hx hb hd (K H locs ls hP hS hL)
      · obtain ⟨t, ht, ⟨h1, h2⟩ | ⟨h1, h2⟩⟩ := xjc_inv ho
        · cases h2
          intro H locs ls hP hS hL
          exact lv_ifnonnull hx hb hd ht (K H locs ls hP hS hL)
        · cases h1
      · cases ho
    · cases ho
  | if_acmp cd off =>
    simp only [xjmp] at ho
    split at ho
    · rename_i hl
      subst hl
      unfold xjacmp at ho
      split at ho
      · rename_i y x r
        split at ho
        · rename_i rx ry hrx hry
          obtain ⟨t, ht, hc⟩ := xjc_inv ho
          intro H locs ls hP hS hL
          have K := K H locs ls hP hS hL
          rw [xrf_inv hrx, xrf_inv hry]
          show W _ _ _ _ _ _ _ _ _ _ _ _ _ _ _ (F0 m pc ls (xemb _ (va_rf ry) :: xemb _ (va_rf rx) :: List.map _ r))
          rw [xemb_rf, xemb_rf]
          cases cd
          · refine lv_acmp_eq hx hb hd ht (fun q => ?_) (fun q => ?_)
            · have q := xad_injO hsb q
              rcases hc with ⟨h1, h2⟩ | ⟨h1, h2⟩
              · cases h2; exact K
              · simp [q] at h1
            · have q : ¬ rx = ry := fun z => q (by rw [z])
              rcases hc with ⟨h1, h2⟩ | ⟨h1, h2⟩
              · simp [q] at h1
              · cases h2; exact K
          · refine lv_acmp_ne hx hb hd ht (fun q => ?_) (fun q => ?_)
            · have q : ¬ rx = ry := fun z => q (by rw [z])
              rcases hc with ⟨h1, h2⟩ | ⟨h1, h2⟩
              · cases h2; exact K
              · simp [q] at h1
            · have q := xad_injO hsb q
              rcases hc with ⟨h1, h2⟩ | ⟨h1, h2⟩
              · simp [q] at h1
              · cases h2; exact K
        · cases ho
      · cases ho
    · cases ho
  | tableswitch d lo hi offs =>
    simp only [xjmp] at ho
    unfold xjtab at ho
    split at ho
    · split at ho
      · rename_i hq
        obtain ⟨h1, h2⟩ := xmap_inv ho
        cases h2
        intro H locs ls hP hS hL
        exact lv_tableOut hx hb hd hq (xtg_inv h1) (K H locs ls hP hS hL)
      · rename_i hq
        split at ho
        · rename_i off hoff
          obtain ⟨h1, h2⟩ := xmap_inv ho
          cases h2
          intro H locs ls hP hS hL
          exact lv_tableIn hx hb hd (fun z => hq (Or.inl z)) (fun z => hq (Or.inr z)) hoff (xtg_inv h1) (K H locs ls hP hS hL)
        · cases ho
    · cases ho
  | lookupswitch d ps =>
    simp only [xjmp] at ho
    unfold xjlook at ho
    split at ho
    · split at ho
      · rename_i hq
        obtain ⟨h1, h2⟩ := xmap_inv ho
        cases h2
        intro H locs ls hP hS hL
        exact lv_lookup hx hb hd hq rfl (xtg_inv h1) (K H locs ls hP hS hL)
      · cases ho
    · cases ho
  | _ => cases ho
end XJ
end
section
/-! Locals. -/
theorem xst1_len : ∀ (L : XL) (i : Nat) (v : Value), (xst1 L i v).length = L.length
  | [], _, _ => rfl
  | _ :: _, 0, _ => rfl
  | x :: L, 1, v => by simp only [xst1, List.length_cons, xst1_len L 0 v]
  | x :: L, i + 2, v => by simp only [xst1, List.length_cons, xst1_len L (i + 1) v]
theorem xst2_len : ∀ (L : XL) (i : Nat) (v : Value), (xst2 L i v).length = L.length
  | [], 0, _ => rfl
  | [], _ + 1, _ => by simp [xst2]
  | [_], 0, _ => rfl
  | _ :: _ :: _, 0, _ => rfl
  | x :: L, 1, v => by simp only [xst2, List.length_cons, xst2_len L 0 v]
  | x :: L, i + 2, v => by simp only [xst2, List.length_cons, xst2_len L (i + 1) v]
theorem xld_cons0 (x : Option Value) (L : XL) : xld (x :: L) 0 = x := by simp [xld]
theorem xld_consS (x : Option Value) (L : XL) (j : Nat) : xld (x :: L) (j + 1) = xld L j := by simp [xld]
theorem xld_nil (j : Nat) : xld [] j = none := by simp [xld]
theorem xst1_ld : ∀ (L : XL) (i : Nat) (v : Value) (j : Nat) (w : Value), xld (xst1 L i v) j = some w → (j = i ∧ w = v) ∨ (j ≠ i ∧ xld L j = some w ∧ ¬ (j + 1 = i ∧ w.category = 2))
  | [], i, v, j, w, h => by simp only [xst1, xld_nil] at h; cases h
  | x :: L, 0, v, 0, w, h => by simp only [xst1, xld_cons0] at h; exact Or.inl ⟨rfl, (Option.some.inj h).symm⟩
  | x :: L, 0, v, j + 1, w, h => by
    simp only [xst1, xld_consS] at h
    refine Or.inr ⟨by omega, by rw [xld_consS]; exact h, fun q => by omega⟩
  | x :: L, 1, v, 0, w, h => by
    simp only [xst1, xld_cons0] at h
    split at h
    · cases h
    · rename_i hc
      refine Or.inr ⟨by omega, by rw [xld_cons0]; exact h, fun q => hc ?_⟩
      rw [h]
      simp [xcat2, q.2]
  | x :: L, 1, v, j + 1, w, h => by
    simp only [xst1, xld_consS] at h
    rcases xst1_ld L 0 v j w h with ⟨h1, h2⟩ | ⟨h1, h2, h3⟩
    · exact Or.inl ⟨by omega, h2⟩
    · exact Or.inr ⟨by omega, by rw [xld_consS]; exact h2, fun q => by omega⟩
  | x :: L, i + 2, v, 0, w, h => by
    simp only [xst1, xld_cons0] at h
    exact Or.inr ⟨by omega, by rw [xld_cons0]; exact h, fun q => by omega⟩
  | x :: L, i + 2, v, j + 1, w, h => by
    simp only [xst1, xld_consS] at h
    rcases xst1_ld L (i + 1) v j w h with ⟨h1, h2⟩ | ⟨h1, h2, h3⟩
    · exact Or.inl ⟨by omega, h2⟩
    · exact Or.inr ⟨by omega, by rw [xld_consS]; exact h2, fun q => h3 ⟨by omega, q.2⟩⟩
theorem xst2_ld : ∀ (L : XL) (i : Nat) (v : Value) (j : Nat) (w : Value), i + 1 < L.length → xld (xst2 L i v) j = some w → (j = i ∧ w = v) ∨ (j ≠ i ∧ j ≠ i + 1 ∧ xld L j = some w ∧ ¬ (j + 1 = i ∧ w.category = 2))
  | [], i, v, j, w, hl, h => by simp at hl
  | [x], i, v, j, w, hl, h => by simp at hl
  | x :: y :: L, 0, v, 0, w, hl, h => by simp only [xst2, xld_cons0] at h; exact Or.inl ⟨rfl, (Option.some.inj h).symm⟩
  | x :: y :: L, 0, v, 1, w, hl, h => by simp only [xst2, xld_consS, xld_cons0] at h; cases h
  | x :: y :: L, 0, v, j + 2, w, hl, h => by
    simp only [xst2, xld_consS] at h
    exact Or.inr ⟨by omega, by omega, by rw [xld_consS, xld_consS]; exact h, fun q => by omega⟩
  | x :: y :: L, 1, v, 0, w, hl, h => by
    simp only [xst2, xld_cons0] at h
    split at h
    · cases h
    · rename_i hc
      refine Or.inr ⟨by omega, by omega, by rw [xld_cons0]; exact h, fun q => hc ?_⟩
      rw [h]
      simp [xcat2, q.2]
  | x :: y :: L, 1, v, j + 1, w, hl, h => by
    simp only [xst2, xld_consS] at h
    rcases xst2_ld (y :: L) 0 v j w (by simp at hl ⊢; omega) h with ⟨h1, h2⟩ | ⟨h1, h2, h3, h4⟩
    · exact Or.inl ⟨by omega, h2⟩
    · exact Or.inr ⟨by omega, by omega, by rw [xld_consS]; exact h3, fun q => by omega⟩
  | x :: y :: L, i + 2, v, 0, w, hl, h => by
    simp only [xst2, xld_cons0] at h
    exact Or.inr ⟨by omega, by omega, by rw [xld_cons0]; exact h, fun q => by omega⟩
  | x :: y :: L, i + 2, v, j + 1, w, hl, h => by
    simp only [xst2, xld_consS] at h
    rcases xst2_ld (y :: L) (i + 1) v j w (by simp at hl ⊢; omega) h with ⟨h1, h2⟩ | ⟨h1, h2, h3, h4⟩
    · exact Or.inl ⟨by omega, h2⟩
    · exact Or.inr ⟨by omega, by omega, by rw [xld_consS]; exact h3, fun q => h4 ⟨by omega, q.2⟩⟩
def xfacts (ad : Nat → Nat) (L : XL) : List (Nat × Value) := (List.range L.length).filterMap (fun j => (xld L j).map (fun v => (j, xemb ad v)))
theorem xfacts_mem {ad : Nat → Nat} {L : XL} {j : Nat} {v : Value} (h : xld L j = some v) : (j, xemb ad v) ∈ xfacts ad L := by
  refine List.mem_filterMap.mpr ⟨j, List.mem_range.mpr ?_, by rw [h]; rfl⟩
  unfold xld at h
  cases hj : L[j]? with
  | none => rw [hj] at h; cases h
  | some q => exact (List.getElem?_eq_some_iff.mp hj).1
theorem XLH.has {ad : Nat → Nat} {ls : Array Slot} {n : Nat} {L : XL} (h : XLH ad ls n L) : lv_has ls n (xfacts ad L) := by
  refine ⟨h.1, h.2.2.1, fun q hq => ?_⟩
  obtain ⟨j, -, hj⟩ := List.mem_filterMap.mp hq
  cases hv : xld L j with
  | none => rw [hv] at hj; cases hj
  | some v =>
    rw [hv] at hj
    cases hj
    exact h.2.2.2 j v hv
theorem XLH.st1 {ad : Nat → Nat} {ls ls' : Array Slot} {n i : Nat} {L : XL} {v : Value} (h : XLH ad ls n L) (h' : lv_has ls' n ((i, xemb ad v) :: (xfacts ad L).filter (fun q => !(q.1 == i) && !(q.1 + 1 == i && q.2.category == 2)))) : XLH ad ls' n (xst1 L i v) := by
  refine ⟨h'.1, (xst1_len L i v).trans h.2.1, h'.2.1, fun j w hw => ?_⟩
  rcases xst1_ld L i v j w hw with ⟨rfl, rfl⟩ | ⟨h1, h2, h3⟩
  · exact h'.2.2 _ List.mem_cons_self
  · refine h'.2.2 (j, xemb ad w) (List.mem_cons_of_mem _ (List.mem_filter.mpr ⟨xfacts_mem h2, ?_⟩))
    simp only [Bool.and_eq_true, Bool.not_eq_true', beq_eq_false_iff_ne, xemb_cat]
    refine ⟨h1, ?_⟩
    cases hq : (j + 1 == i && w.category == 2) with
    | false => rfl
    | true => simp only [Bool.and_eq_true, beq_iff_eq] at hq; exact absurd hq h3
theorem XLH.st2 {ad : Nat → Nat} {ls ls' : Array Slot} {n i : Nat} {L : XL} {v : Value} (h : XLH ad ls n L) (hi : i + 1 < L.length) (h' : lv_has ls' n ((i, xemb ad v) :: (xfacts ad L).filter (fun q => !(q.1 == i) && (!(q.1 == i + 1) && !(q.1 + 1 == i && q.2.category == 2))))) : XLH ad ls' n (xst2 L i v) := by
  refine ⟨h'.1, (xst2_len L i v).trans h.2.1, h'.2.1, fun j w hw => ?_⟩
  rcases xst2_ld L i v j w hi hw with ⟨rfl, rfl⟩ | ⟨h1, h2, h3, h4⟩
  · exact h'.2.2 _ List.mem_cons_self
  · refine h'.2.2 (j, xemb ad w) (List.mem_cons_of_mem _ (List.mem_filter.mpr ⟨xfacts_mem h3, ?_⟩))
    simp only [Bool.and_eq_true, Bool.not_eq_true', beq_eq_false_iff_ne, xemb_cat]
    refine ⟨h1, h2, ?_⟩
    cases hq : (j + 1 == i && w.category == 2) with
    | false => rfl
    | true => simp only [Bool.and_eq_true, beq_iff_eq] at hq; exact absurd hq h4
theorem xlI_inv {L L' : XL} {i : Nat} {st st' : List Value} (h : xlI L i st = some (L', st')) : ∃ x, xld L i = some (.int x) ∧ L' = L ∧ st' = .int x :: st := by
  unfold xlI at h
  split at h
  · cases h; exact ⟨_, by assumption, rfl, rfl⟩
  · cases h
theorem xlJ_inv {L L' : XL} {i : Nat} {st st' : List Value} (h : xlJ L i st = some (L', st')) : ∃ x, xld L i = some (.long x) ∧ L' = L ∧ st' = .long x :: st := by
  unfold xlJ at h
  split at h
  · cases h; exact ⟨_, by assumption, rfl, rfl⟩
  · cases h
theorem xlA_inv {L L' : XL} {i : Nat} {st st' : List Value} (h : xlA L i st = some (L', st')) : L' = L ∧ ((∃ x, xld L i = some (.ref x) ∧ st' = .ref x :: st) ∨ (xld L i = some .null ∧ st' = .null :: st)) := by
  unfold xlA at h
  split at h
  · cases h; exact ⟨rfl, Or.inl ⟨_, by assumption, rfl⟩⟩
  · cases h; exact ⟨rfl, Or.inr ⟨by assumption, rfl⟩⟩
  · cases h
theorem xsI1_inv {L L' : XL} {i : Nat} {st st' : List Value} (h : xsI1 L i st = some (L', st')) : ∃ x, st = .int x :: st' ∧ L' = xst1 L i (.int x) ∧ i < L.length := by
  unfold xsI1 at h
  split at h
  · split at h
    · cases h; exact ⟨_, rfl, rfl, by assumption⟩
    · cases h
  · cases h
theorem xsJ1_inv {L L' : XL} {i : Nat} {st st' : List Value} (h : xsJ1 L i st = some (L', st')) : ∃ x, st = .long x :: st' ∧ L' = xst2 L i (.long x) ∧ i + 1 < L.length := by
  unfold xsJ1 at h
  split at h
  · split at h
    · cases h; exact ⟨_, rfl, rfl, by assumption⟩
    · cases h
  · cases h
theorem xsA1_inv {L L' : XL} {i : Nat} {st st' : List Value} (h : xsA1 L i st = some (L', st')) : i < L.length ∧ ((∃ x, st = .ref x :: st' ∧ L' = xst1 L i (.ref x)) ∨ (st = .null :: st' ∧ L' = xst1 L i .null)) := by
  unfold xsA1 at h
  split at h
  · split at h
    · cases h; exact ⟨by assumption, Or.inl ⟨_, rfl, rfl⟩⟩
    · cases h
  · split at h
    · cases h; exact ⟨by assumption, Or.inr ⟨rfl, rfl⟩⟩
    · cases h
  · cases h
theorem xinc_inv {L L' : XL} {i : Nat} {n : Int} {st st' : List Value} (h : xinc L i n st = some (L', st')) : ∃ x, xld L i = some (.int x) ∧ i < L.length ∧ L' = xst1 L i (.int (x + Int32.ofInt n)) ∧ st' = st := by
  unfold xinc at h
  split at h
  · split at h
    · cases h; exact ⟨_, by assumption, by assumption, rfl, rfl⟩
    · cases h
  · cases h
section XLO
variable {p : Program} {l : Launch} {e : Env} {R : Room} {s : State} {m : MethodId} {args : Array Value} {below : List Frame} {meth : Method} {c : Code} {Q : State → Prop} {D : va_G} {ca : Nat → ClassId} {b scr z0 s0 k pc pc' len : Nat} {L L' : XL} {st st' r : List Value} {h : XH} {i : Instr}
set_option maxHeartbeats 4000000 in
theorem xloc_sound (hx : p.tables.exec = Jvm.exec) (hb : c.code = xcode k) (hd : decode (xcode k) pc = .ok (i, xlen i)) (ho : xloc i L st = some (L', st')) (K : XW (p, l, e, R, s, m, args, below, meth, c, Q, D, ca, b, scr, z0, s0) k (pc + xlen i) L' st' h) : XW (p, l, e, R, s, m, args, below, meth, c, Q, D, ca, b, scr, z0, s0) k pc L st h := by
  intro H locs ls hP hS hL
  have hn := hL.2.1
  cases i with
  | iload i => obtain ⟨x, h1, rfl, rfl⟩ := xlI_inv ho; exact lv_iload hx hb hd (hL.2.2.2 _ _ h1) (K H locs ls hP hS hL)
  | iload_n i => obtain ⟨x, h1, rfl, rfl⟩ := xlI_inv ho; exact lv_iload_n hx hb hd rfl (hL.2.2.2 _ _ h1) (K H locs ls hP hS hL)
  | lload i => obtain ⟨x, h1, rfl, rfl⟩ := xlJ_inv ho; exact lv_lload hx hb hd (hL.2.2.2 _ _ h1) (K H locs ls hP hS hL)
  | lload_n i => obtain ⟨x, h1, rfl, rfl⟩ := xlJ_inv ho; exact lv_lload_n hx hb hd rfl (hL.2.2.2 _ _ h1) (K H locs ls hP hS hL)
  | aload i =>
    obtain ⟨rfl, ⟨x, h1, rfl⟩ | ⟨h1, rfl⟩⟩ := xlA_inv ho
    · exact lv_aload hx hb hd (hL.2.2.2 _ _ h1) (K H locs ls hP hS hL)
    · exact lv_aloadN hx hb hd (hL.2.2.2 _ _ h1) (K H locs ls hP hS hL)
  | aload_n i =>
    obtain ⟨rfl, ⟨x, h1, rfl⟩ | ⟨h1, rfl⟩⟩ := xlA_inv ho
    · exact lv_aload_n hx hb hd rfl (hL.2.2.2 _ _ h1) (K H locs ls hP hS hL)
    · exact lv_aload_nN hx hb hd rfl (hL.2.2.2 _ _ h1) (K H locs ls hP hS hL)
  | istore i =>
    obtain ⟨x, rfl, rfl, h1⟩ := xsI1_inv ho
    exact lv_istore hx hb hd hL.has (by omega) rfl (fun ls' h' => K H locs ls' hP hS (hL.st1 (v := .int x) h'))
  | istore_n i =>
    obtain ⟨x, rfl, rfl, h1⟩ := xsI1_inv ho
    exact lv_istore_n hx hb hd rfl hL.has (by omega) rfl (fun ls' h' => K H locs ls' hP hS (hL.st1 (v := .int x) h'))
  | lstore i =>
    obtain ⟨x, rfl, rfl, h1⟩ := xsJ1_inv ho
    exact lv_lstore hx hb hd hL.has (by omega) rfl (fun ls' h' => K H locs ls' hP hS (hL.st2 (v := .long x) h1 h'))
  | lstore_n i =>
    obtain ⟨x, rfl, rfl, h1⟩ := xsJ1_inv ho
    exact lv_lstore_n hx hb hd rfl hL.has (by omega) rfl (fun ls' h' => K H locs ls' hP hS (hL.st2 (v := .long x) h1 h'))
  | astore i =>
    obtain ⟨h1, ⟨x, rfl, rfl⟩ | ⟨rfl, rfl⟩⟩ := xsA1_inv ho
    · exact lv_astore hx hb hd hL.has (by omega) rfl (fun ls' h' => K H locs ls' hP hS (hL.st1 (v := .ref x) h'))
    · exact lv_astoreN hx hb hd hL.has (by omega) rfl (fun ls' h' => K H locs ls' hP hS (hL.st1 (v := .null) h'))
  | astore_n i =>
    obtain ⟨h1, ⟨x, rfl, rfl⟩ | ⟨rfl, rfl⟩⟩ := xsA1_inv ho
    · exact lv_astore_n hx hb hd rfl hL.has (by omega) rfl (fun ls' h' => K H locs ls' hP hS (hL.st1 (v := .ref x) h'))
    · exact lv_astore_nN hx hb hd rfl hL.has (by omega) rfl (fun ls' h' => K H locs ls' hP hS (hL.st1 (v := .null) h'))
  | iinc i n =>
    obtain ⟨x, h1, h2, rfl, rfl⟩ := xinc_inv ho
    obtain ⟨q, hq⟩ := List.getElem?_of_mem (xfacts_mem (ad := xad b scr) h1)
    exact lv_iinc hx hb hd hL.has hq rfl (by omega) rfl (fun ls' h' => K H locs ls' hP hS (hL.st1 (v := .int (x + Int32.ofInt n)) h'))
  | _ => cases ho
end XLO
end
section
/-! Rows for walks in the small machine: XP, from this point the method returns so that Q. -/
def xle (L L' : XL) : Prop := L.length = L'.length ∧ ∀ (i : Nat) (v : Value), xld L i = some v → xld L' i = some v
theorem xle.rf (L : XL) : xle L L := ⟨rfl, fun _ _ h => h⟩
theorem xle.cons {x y : Option Value} {L L' : XL} (h : xle L L') (hx : ∀ v, x = some v → y = some v) : xle (x :: L) (y :: L') := by
  refine ⟨by simp [h.1], fun i v hv => ?_⟩
  cases i with
  | zero => rw [xld_cons0] at hv ⊢; exact hx v hv
  | succ i => rw [xld_consS] at hv ⊢; exact h.2 i v hv
theorem xle.tl {x y : Option Value} {L L' : XL} (h : xle (x :: L) (y :: L')) : xle L L' ∧ ∀ v, x = some v → y = some v := by
  refine ⟨⟨by have := h.1; simpa using this, fun i v hv => ?_⟩, fun v hv => ?_⟩
  · have := h.2 (i + 1) v (by rw [xld_consS]; exact hv)
    rwa [xld_consS] at this
  · have := h.2 0 v (by rw [xld_cons0]; exact hv)
    rwa [xld_cons0] at this
theorem xle_kill {x y : Option Value} (h : ∀ v, x = some v → y = some v) : ∀ v, (if xcat2 x then none else x) = some v → (if xcat2 y then none else y) = some v := by
  intro v hv
  split at hv
  · cases hv
  · rename_i hc
    rw [h v hv]
    rw [hv] at hc
    rw [if_neg hc]
theorem xle.st1 : ∀ {L L' : XL} (i : Nat) (v : Value), xle L L' → xle (xst1 L i v) (xst1 L' i v)
  | [], [], i, v, h => h
  | [], _ :: _, i, v, h => absurd h.1 (by simp)
  | _ :: _, [], i, v, h => absurd h.1 (by simp)
  | x :: L, y :: L', 0, v, h => (h.tl).1.cons (fun _ q => q)
  | x :: L, y :: L', 1, v, h => (xle.st1 0 v h.tl.1).cons (xle_kill h.tl.2)
  | x :: L, y :: L', i + 2, v, h => (xle.st1 (i + 1) v h.tl.1).cons h.tl.2
theorem xle.st2 : ∀ {L L' : XL} (i : Nat) (v : Value), xle L L' → xle (xst2 L i v) (xst2 L' i v)
  | [], [], i, v, h => xle.rf _
  | [], _ :: _, i, v, h => absurd h.1 (by simp)
  | _ :: _, [], i, v, h => absurd h.1 (by simp)
  | [x], [y], 0, v, h => h
  | [_], _ :: _ :: _, 0, v, h => absurd h.1 (by simp)
  | _ :: _ :: _, [_], 0, v, h => absurd h.1 (by simp)
  | x :: x2 :: L, y :: y2 :: L', 0, v, h => ((h.tl).1.tl.1.cons (fun _ q => q)).cons (fun _ q => q)
  | x :: L, y :: L', 1, v, h => by
    simp only [xst2]
    exact (xle.st2 0 v h.tl.1).cons (xle_kill h.tl.2)
  | x :: L, y :: L', i + 2, v, h => by
    simp only [xst2]
    exact (xle.st2 (i + 1) v h.tl.1).cons h.tl.2
def XP (S : XS) (d k pc : Nat) (L : XL) (st : List Value) (h : XH) (Q : Option Value → XH → Prop) : Prop := ∀ L', xle L L' → ∃ (n : Nat) (v : Option Value) (h' : XH), xrun S n d k pc L' st h = some (v, h') ∧ Q v h'
section XPR
variable {S : XS} {d d' k pc pc' len y : Nat} {L L1 L2 : XL} {st st' r as : List Value} {h h' : XH} {Q Q' : Option Value → XH → Prop} {cc : ByteArray} {i : Instr} {v : Option Value}
theorem XP.conseq (K : XP S d k pc L st h Q) (hq : ∀ v h', Q v h' → Q' v h') : XP S d k pc L st h Q' := fun L' hL => by
  obtain ⟨n, v, h', e, q⟩ := K L' hL
  exact ⟨n, v, h', e, hq v h' q⟩
theorem XP.weak (hL : xle L1 L) (K : XP S d k pc L1 st h Q) : XP S d k pc L st h Q := fun L' h1 => K L' ⟨hL.1.trans h1.1, fun i v q => h1.2 i v (hL.2 i v q)⟩
theorem XP.deep (hd : d ≤ d') (K : XP S d k pc L st h Q) : XP S d' k pc L st h Q := fun L' hL => by
  obtain ⟨n, v, h', e, q⟩ := K L' hL
  exact ⟨n, v, h', xrun_mono _ _ _ _ _ _ _ _ e n d' (Nat.le_refl _) hd, q⟩
theorem XP.one (hc : xcode k = cc) (hd : decode cc pc = .ok (i, len)) (hr : xret k i len st = none) (hcl : xcall k i len st h = none)
    (h1 : ∀ L', xle L L' → ∃ L'', x1 S d k i len pc L' st h = some (pc', L'', st', h') ∧ xle L1 L'') (K : XP S d k pc' L1 st' h' Q) : XP S d k pc L st h Q := fun L' hL => by
  obtain ⟨L'', e1, hL1⟩ := h1 L' hL
  obtain ⟨n, v, h2, e, q⟩ := K L'' hL1
  refine ⟨n + 1, v, h2, ?_, q⟩
  subst hc
  simp only [xrun, hd, hr, hcl, e1]
  exact e
theorem xop_not (ho : xop i st = some st') : xret k i len st = none ∧ xcall k i len st h = none ∧ xjmp i len pc st = none := by
  cases i <;> first | (refine ⟨?_, ?_, rfl⟩ <;> first | (unfold xret; split <;> rfl) | (unfold xcall; split <;> rfl)) | exact absurd ho (by intro q; cases q)
theorem xloc_not (ho : xloc i L st = some (L1, st')) : xret k i len st = none ∧ xcall k i len st h = none ∧ xjmp i len pc st = none ∧ xop i st = none := by
  cases i <;> first | (refine ⟨?_, ?_, rfl, rfl⟩ <;> first | (unfold xret; split <;> rfl) | (unfold xcall; split <;> rfl)) | exact absurd ho (by intro q; cases q)
theorem xmem_not (ho : xmem S k i st h = some (st', h')) : xret k i len st = none ∧ xcall k i len st h = none ∧ xjmp i len pc st = none ∧ xop i st = none ∧ ∀ L, xloc i L st = none := by
  cases i <;> first | (refine ⟨?_, ?_, rfl, rfl, fun _ => rfl⟩ <;> first | (unfold xret; split <;> rfl) | (unfold xcall; split <;> rfl)) | exact absurd ho (by intro q; cases q)
theorem xjmp_not (ho : xjmp i len pc st = some (pc', st')) : xret k i len st = none ∧ xcall k i len st h = none := by
  cases i <;> first | (refine ⟨?_, ?_⟩ <;> first | (unfold xret; split <;> rfl) | (unfold xcall; split <;> rfl)) | exact absurd ho (by intro q; cases q)
/-- an instruction on the stack alone -/
theorem x_op (hc : xcode k = cc) (hd : decode cc pc = .ok (i, len)) (hl : len = xlen i) (ho : xop i st = some st') (hp : pc + len = pc') (K : XP S d k pc' L st' h Q) : XP S d k pc L st h Q := by
  obtain ⟨n1, n2, n3⟩ := xop_not (k := k) (len := len) (h := h) (pc := pc) ho
  refine XP.one hc hd n1 n2 (fun L' hL => ⟨L', ?_, hL⟩) K
  subst hp
  simp only [x1, n3, if_pos hl, ho]
theorem xloc_mono (hL : xle L L2) (ho : xloc i L st = some (L1, st')) : ∃ L3, xloc i L2 st = some (L3, st') ∧ xle L1 L3 := by
  cases i with
  | iload i => obtain ⟨x, h1, rfl, rfl⟩ := xlI_inv ho; exact ⟨L2, by simp only [xloc, xlI, hL.2 _ _ h1], hL⟩
  | iload_n i => obtain ⟨x, h1, rfl, rfl⟩ := xlI_inv ho; exact ⟨L2, by simp only [xloc, xlI, hL.2 _ _ h1], hL⟩
  | lload i => obtain ⟨x, h1, rfl, rfl⟩ := xlJ_inv ho; exact ⟨L2, by simp only [xloc, xlJ, hL.2 _ _ h1], hL⟩
  | lload_n i => obtain ⟨x, h1, rfl, rfl⟩ := xlJ_inv ho; exact ⟨L2, by simp only [xloc, xlJ, hL.2 _ _ h1], hL⟩
  | aload i => obtain ⟨rfl, ⟨x, h1, rfl⟩ | ⟨h1, rfl⟩⟩ := xlA_inv ho <;> exact ⟨L2, by simp only [xloc, xlA, hL.2 _ _ h1], hL⟩
  | aload_n i => obtain ⟨rfl, ⟨x, h1, rfl⟩ | ⟨h1, rfl⟩⟩ := xlA_inv ho <;> exact ⟨L2, by simp only [xloc, xlA, hL.2 _ _ h1], hL⟩
  | istore i => obtain ⟨x, rfl, rfl, h1⟩ := xsI1_inv ho; exact ⟨_, by simp only [xloc, xsI1]; rw [if_pos (by rw [← hL.1]; exact h1)], hL.st1 _ _⟩
  | istore_n i => obtain ⟨x, rfl, rfl, h1⟩ := xsI1_inv ho; exact ⟨_, by simp only [xloc, xsI1]; rw [if_pos (by rw [← hL.1]; exact h1)], hL.st1 _ _⟩
  | lstore i => obtain ⟨x, rfl, rfl, h1⟩ := xsJ1_inv ho; exact ⟨_, by simp only [xloc, xsJ1]; rw [if_pos (by rw [← hL.1]; exact h1)], hL.st2 _ _⟩
  | lstore_n i => obtain ⟨x, rfl, rfl, h1⟩ := xsJ1_inv ho; exact ⟨_, by simp only [xloc, xsJ1]; rw [if_pos (by rw [← hL.1]; exact h1)], hL.st2 _ _⟩
  | astore i => obtain ⟨h1, ⟨x, rfl, rfl⟩ | ⟨rfl, rfl⟩⟩ := xsA1_inv ho <;> exact ⟨_, by simp only [xloc, xsA1]; rw [if_pos (by rw [← hL.1]; exact h1)], hL.st1 _ _⟩
  | astore_n i => obtain ⟨h1, ⟨x, rfl, rfl⟩ | ⟨rfl, rfl⟩⟩ := xsA1_inv ho <;> exact ⟨_, by simp only [xloc, xsA1]; rw [if_pos (by rw [← hL.1]; exact h1)], hL.st1 _ _⟩
  | iinc i n => obtain ⟨x, h1, h2, rfl, rfl⟩ := xinc_inv ho; exact ⟨_, by simp only [xloc, xinc, hL.2 _ _ h1]; rw [if_pos (by rw [← hL.1]; exact h2)], hL.st1 _ _⟩
  | _ => cases ho
/-- an instruction on the locals -/
theorem x_loc (hc : xcode k = cc) (hd : decode cc pc = .ok (i, len)) (hl : len = xlen i) (ho : xloc i L st = some (L1, st')) (hp : pc + len = pc') (K : XP S d k pc' L1 st' h Q) : XP S d k pc L st h Q := by
  obtain ⟨n1, n2, n3, n4⟩ := xloc_not (k := k) (len := len) (h := h) (pc := pc) ho
  refine XP.one hc hd n1 n2 (fun L' hL => ?_) K
  obtain ⟨L3, e, hL3⟩ := xloc_mono hL ho
  refine ⟨L3, ?_, hL3⟩
  subst hp
  simp only [x1, n3, n4, if_pos hl, e]
/-- an instruction on the memory -/
theorem x_mem (hc : xcode k = cc) (hd : decode cc pc = .ok (i, len)) (hl : len = xlen i) (ho : xmem S k i st h = some (st', h')) (hp : pc + len = pc') (K : XP S d k pc' L st' h' Q) : XP S d k pc L st h Q := by
  obtain ⟨n1, n2, n3, n4, n5⟩ := xmem_not (len := len) (pc := pc) ho
  refine XP.one hc hd n1 n2 (fun L' hL => ⟨L', ?_, hL⟩) K
  subst hp
  simp only [x1, n3, n4, n5, if_pos hl, ho]
/-- a jump, known where to -/
theorem x_jmp (hc : xcode k = cc) (hd : decode cc pc = .ok (i, len)) (ho : xjmp i len pc st = some (pc', st')) (K : XP S d k pc' L st' h Q) : XP S d k pc L st h Q := by
  obtain ⟨n1, n2⟩ := xjmp_not (k := k) (h := h) ho
  refine XP.one hc hd n1 n2 (fun L' hL => ⟨L', ?_, hL⟩) K
  simp only [x1, ho]
theorem x_goto {off : Int} (hc : xcode k = cc) (hd : decode cc pc = .ok (.goto off, 3)) (ht : xtg pc off = some pc') (K : XP S d k pc' L st h Q) : XP S d k pc L st h Q :=
  x_jmp hc hd (by simp only [xjmp, ht]; rfl) K
theorem x_if {cd : ClassFile.Cond} {off : Int} {x : Int32} (hc : xcode k = cc) (hd : decode cc pc = .ok (.ifCond cd off, 3)) (ht : xtg pc off = some pc') (kt : xcnd cd x 0 = true → XP S d k pc' L r h Q) (kf : xcnd cd x 0 = false → XP S d k (pc + 3) L r h Q) : XP S d k pc L (.int x :: r) h Q := by
  cases hq : xcnd cd x 0
  · exact x_jmp hc hd (by simp only [xjmp, xjif, xjc, ht, hq]; rfl) (kf hq)
  · exact x_jmp hc hd (by simp only [xjmp, xjif, xjc, ht, hq]; rfl) (kt hq)
theorem x_icmp {cd : ClassFile.Cond} {off : Int} {x z : Int32} (hc : xcode k = cc) (hd : decode cc pc = .ok (.if_icmp cd off, 3)) (ht : xtg pc off = some pc') (kt : xcnd cd x z = true → XP S d k pc' L r h Q) (kf : xcnd cd x z = false → XP S d k (pc + 3) L r h Q) : XP S d k pc L (.int z :: .int x :: r) h Q := by
  cases hq : xcnd cd x z
  · exact x_jmp hc hd (by simp only [xjmp, xjcmp, xjc, ht, hq]; rfl) (kf hq)
  · exact x_jmp hc hd (by simp only [xjmp, xjcmp, xjc, ht, hq]; rfl) (kt hq)
/-- the end -/
theorem x_ret (hc : xcode k = cc) (hd : decode cc pc = .ok (i, len)) (hr : xret k i len st = some v) (hq : Q v h) : XP S d k pc L st h Q := fun L' hL => by
  refine ⟨1, v, h, ?_, hq⟩
  subst hc
  simp only [xrun, hd, hr]
theorem xcall_notret (ho : xcall k i len st h = some (y, as, r)) : xret k i len st = none := by
  cases i <;> first | (unfold xret; split <;> rfl) | (exfalso; revert ho; unfold xcall; split <;> intro q <;> cases q)
/-- a call -/
theorem x_call (hc : xcode k = cc) (hd : decode cc pc = .ok (i, len)) (ho : xcall k i len st h = some (y, as, r)) (hcal : XP S d y 0 (xent as (xml y)) [] h Q') (kk : ∀ v h', Q' v h' → XP S (d + 1) k (pc + 3) L (v.toList ++ r) h' Q) : XP S (d + 1) k pc L st h Q := fun L' hL => by
  obtain ⟨n1, v1, h1, e1, q1⟩ := hcal _ (xle.rf _)
  obtain ⟨n2, v2, h2, e2, q2⟩ := kk v1 h1 q1 L' hL
  refine ⟨max n1 n2 + 1, v2, h2, ?_, q2⟩
  subst hc
  have e1' := xrun_mono _ _ _ _ _ _ _ _ e1 (max n1 n2) d (Nat.le_max_left _ _) (Nat.le_refl _)
  have e2' := xrun_mono _ _ _ _ _ _ _ _ e2 (max n1 n2) (d + 1) (Nat.le_max_right _ _) (Nat.le_refl _)
  simp only [xrun, hd, xcall_notret ho, ho, if_neg (Nat.succ_ne_zero d), Nat.add_sub_cancel, e1']
  exact e2'
end XPR
end
