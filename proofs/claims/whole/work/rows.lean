section
-- ===== PART A: goes FIRST, ahead of the names: the tables' words, and 'selects' of the private methods out of them =====
/-- a private method of a class that the tables say can be made, by its rows of tables_1 -/
def lw_okq (q : MethodName × Nat) : Prop := (q.1.cls ≠ "java/lang/invoke/MethodHandle" ∧ q.1.cls ≠ "java/lang/invoke/VarHandle") ∧ Cond.instantiable q.1.cls q.2 ∈ tables_1 ∧ Cond.privateMethod q.1 ∈ tables_1 ∧ Cond.instanceMethod q.1 ∈ tables_1
theorem lw_p0 : lw_okq (⟨"BranchGoals$Program", "linkBranches", "(LBranchGoals$Method;)V"⟩, 4) := ⟨⟨by decide +kernel, by decide +kernel⟩, List.mem_of_getElem? (i := 24) (by decide +kernel), List.mem_of_getElem? (i := 294) (by decide +kernel), List.mem_of_getElem? (i := 295) (by decide +kernel)⟩
theorem lw_p1 : lw_okq (⟨"BranchGoals$Method", "placesReachingEnd", "(I)I"⟩, 7) := ⟨⟨by decide +kernel, by decide +kernel⟩, List.mem_of_getElem? (i := 31) (by decide +kernel), List.mem_of_getElem? (i := 303) (by decide +kernel), List.mem_of_getElem? (i := 304) (by decide +kernel)⟩
theorem lw_p2 : lw_okq (⟨"BranchGoals", "runAndArchive", "(LBranchGoals$Case;)V"⟩, 9) := ⟨⟨by decide +kernel, by decide +kernel⟩, List.mem_of_getElem? (i := 16) (by decide +kernel), List.mem_of_getElem? (i := 347) (by decide +kernel), List.mem_of_getElem? (i := 348) (by decide +kernel)⟩
theorem lw_p3 : lw_okq (⟨"BranchGoals$Runner", "doStep", "(LBranchGoals$Case;ILBranchGoals$Program;)J"⟩, 3) := ⟨⟨by decide +kernel, by decide +kernel⟩, List.mem_of_getElem? (i := 110) (by decide +kernel), List.mem_of_getElem? (i := 363) (by decide +kernel), List.mem_of_getElem? (i := 364) (by decide +kernel)⟩
theorem lw_p4 : lw_okq (⟨"BranchGoals$Runner", "callMethod", "(LBranchGoals$Method;)J"⟩, 3) := ⟨⟨by decide +kernel, by decide +kernel⟩, List.mem_of_getElem? (i := 110) (by decide +kernel), List.mem_of_getElem? (i := 375) (by decide +kernel), List.mem_of_getElem? (i := 376) (by decide +kernel)⟩
theorem lw_p5 : lw_okq (⟨"BranchGoals$Runner", "doLine", "(LBranchGoals$Method;I)I"⟩, 3) := ⟨⟨by decide +kernel, by decide +kernel⟩, List.mem_of_getElem? (i := 110) (by decide +kernel), List.mem_of_getElem? (i := 381) (by decide +kernel), List.mem_of_getElem? (i := 382) (by decide +kernel)⟩
theorem lw_p6 : lw_okq (⟨"BranchGoals$Runner", "decide", "(LBranchGoals$Method;I)I"⟩, 3) := ⟨⟨by decide +kernel, by decide +kernel⟩, List.mem_of_getElem? (i := 110) (by decide +kernel), List.mem_of_getElem? (i := 389) (by decide +kernel), List.mem_of_getElem? (i := 390) (by decide +kernel)⟩
theorem lw_p7 : lw_okq (⟨"BranchGoals$Runner", "fitnessFor", "(ILBranchGoals$Program;)J"⟩, 3) := ⟨⟨by decide +kernel, by decide +kernel⟩, List.mem_of_getElem? (i := 110) (by decide +kernel), List.mem_of_getElem? (i := 405) (by decide +kernel), List.mem_of_getElem? (i := 406) (by decide +kernel)⟩
theorem lw_p8 : lw_okq (⟨"BranchGoals$Runner", "leastNearest", "(II)J"⟩, 3) := ⟨⟨by decide +kernel, by decide +kernel⟩, List.mem_of_getElem? (i := 110) (by decide +kernel), List.mem_of_getElem? (i := 409) (by decide +kernel), List.mem_of_getElem? (i := 410) (by decide +kernel)⟩
theorem lw_p9 : lw_okq (⟨"BranchGoals$Population", "placeFronts", "(II)V"⟩, 2) := ⟨⟨by decide +kernel, by decide +kernel⟩, List.mem_of_getElem? (i := 193) (by decide +kernel), List.mem_of_getElem? (i := 445) (by decide +kernel), List.mem_of_getElem? (i := 446) (by decide +kernel)⟩
theorem lw_p10 : lw_okq (⟨"BranchGoals$Population", "preferredFor", "(II)LBranchGoals$Case;"⟩, 2) := ⟨⟨by decide +kernel, by decide +kernel⟩, List.mem_of_getElem? (i := 193) (by decide +kernel), List.mem_of_getElem? (i := 450) (by decide +kernel), List.mem_of_getElem? (i := 451) (by decide +kernel)⟩
theorem lw_p11 : lw_okq (⟨"BranchGoals$Population", "isBeaten", "(LBranchGoals$Case;III)Z"⟩, 2) := ⟨⟨by decide +kernel, by decide +kernel⟩, List.mem_of_getElem? (i := 193) (by decide +kernel), List.mem_of_getElem? (i := 454) (by decide +kernel), List.mem_of_getElem? (i := 455) (by decide +kernel)⟩
theorem lw_p12 : lw_okq (⟨"BranchGoals$Population", "crowdOf", "(LBranchGoals$Case;II)I"⟩, 2) := ⟨⟨by decide +kernel, by decide +kernel⟩, List.mem_of_getElem? (i := 193) (by decide +kernel), List.mem_of_getElem? (i := 461) (by decide +kernel), List.mem_of_getElem? (i := 462) (by decide +kernel)⟩
theorem lw_p13 : lw_okq (⟨"BranchGoals$Population", "sort", "(I)V"⟩, 2) := ⟨⟨by decide +kernel, by decide +kernel⟩, List.mem_of_getElem? (i := 193) (by decide +kernel), List.mem_of_getElem? (i := 468) (by decide +kernel), List.mem_of_getElem? (i := 469) (by decide +kernel)⟩
theorem lw_p14 : lw_okq (⟨"BranchGoals", "isGoal", "(I)Z"⟩, 9) := ⟨⟨by decide +kernel, by decide +kernel⟩, List.mem_of_getElem? (i := 16) (by decide +kernel), List.mem_of_getElem? (i := 485) (by decide +kernel), List.mem_of_getElem? (i := 486) (by decide +kernel)⟩
theorem lw_p15 : lw_okq (⟨"BranchGoals", "drawParent", "()LBranchGoals$Case;"⟩, 9) := ⟨⟨by decide +kernel, by decide +kernel⟩, List.mem_of_getElem? (i := 16) (by decide +kernel), List.mem_of_getElem? (i := 507) (by decide +kernel), List.mem_of_getElem? (i := 508) (by decide +kernel)⟩
def lw_privs_1 : List (MethodName × Nat) := [(⟨"BranchGoals$Program", "linkBranches", "(LBranchGoals$Method;)V"⟩, 4), (⟨"BranchGoals$Method", "placesReachingEnd", "(I)I"⟩, 7), (⟨"BranchGoals", "runAndArchive", "(LBranchGoals$Case;)V"⟩, 9), (⟨"BranchGoals$Runner", "doStep", "(LBranchGoals$Case;ILBranchGoals$Program;)J"⟩, 3), (⟨"BranchGoals$Runner", "callMethod", "(LBranchGoals$Method;)J"⟩, 3), (⟨"BranchGoals$Runner", "doLine", "(LBranchGoals$Method;I)I"⟩, 3), (⟨"BranchGoals$Runner", "decide", "(LBranchGoals$Method;I)I"⟩, 3), (⟨"BranchGoals$Runner", "fitnessFor", "(ILBranchGoals$Program;)J"⟩, 3), (⟨"BranchGoals$Runner", "leastNearest", "(II)J"⟩, 3), (⟨"BranchGoals$Population", "placeFronts", "(II)V"⟩, 2), (⟨"BranchGoals$Population", "preferredFor", "(II)LBranchGoals$Case;"⟩, 2), (⟨"BranchGoals$Population", "isBeaten", "(LBranchGoals$Case;III)Z"⟩, 2), (⟨"BranchGoals$Population", "crowdOf", "(LBranchGoals$Case;II)I"⟩, 2), (⟨"BranchGoals$Population", "sort", "(I)V"⟩, 2), (⟨"BranchGoals", "isGoal", "(I)Z"⟩, 9), (⟨"BranchGoals", "drawParent", "()LBranchGoals$Case;"⟩, 9)]
theorem lw_r1 : ∀ q ∈ lw_privs_1, lw_okq q := List.forall_mem_cons.mpr ⟨lw_p0, List.forall_mem_cons.mpr ⟨lw_p1, List.forall_mem_cons.mpr ⟨lw_p2, List.forall_mem_cons.mpr ⟨lw_p3, List.forall_mem_cons.mpr ⟨lw_p4, List.forall_mem_cons.mpr ⟨lw_p5, List.forall_mem_cons.mpr ⟨lw_p6, List.forall_mem_cons.mpr ⟨lw_p7, List.forall_mem_cons.mpr ⟨lw_p8, List.forall_mem_cons.mpr ⟨lw_p9, List.forall_mem_cons.mpr ⟨lw_p10, List.forall_mem_cons.mpr ⟨lw_p11, List.forall_mem_cons.mpr ⟨lw_p12, List.forall_mem_cons.mpr ⟨lw_p13, List.forall_mem_cons.mpr ⟨lw_p14, List.forall_mem_cons.mpr ⟨lw_p15, fun _ h => absurd h List.not_mem_nil⟩⟩⟩⟩⟩⟩⟩⟩⟩⟩⟩⟩⟩⟩⟩⟩
theorem lw_p16 : lw_okq (⟨"BranchGoals$Draws", "changeStep", "(LBranchGoals$Case;I)V"⟩, 3) := ⟨⟨by decide +kernel, by decide +kernel⟩, List.mem_of_getElem? (i := 91) (by decide +kernel), List.mem_of_getElem? (i := 531) (by decide +kernel), List.mem_of_getElem? (i := 532) (by decide +kernel)⟩
theorem lw_p17 : lw_okq (⟨"BranchGoals$Suite", "goalsOf", "(II)I"⟩, 3) := ⟨⟨by decide +kernel, by decide +kernel⟩, List.mem_of_getElem? (i := 209) (by decide +kernel), List.mem_of_getElem? (i := 554) (by decide +kernel), List.mem_of_getElem? (i := 555) (by decide +kernel)⟩
theorem lw_p18 : lw_okq (⟨"BranchGoals", "caseNamed", "(I)LBranchGoals$Case;"⟩, 9) := ⟨⟨by decide +kernel, by decide +kernel⟩, List.mem_of_getElem? (i := 16) (by decide +kernel), List.mem_of_getElem? (i := 591) (by decide +kernel), List.mem_of_getElem? (i := 592) (by decide +kernel)⟩
theorem lw_p19 : lw_okq (⟨"BranchGoalsModel", "goal", "(I)Z"⟩, 22) := ⟨⟨by decide +kernel, by decide +kernel⟩, List.mem_of_getElem? (i := 629) (by decide +kernel), List.mem_of_getElem? (i := 719) (by decide +kernel), List.mem_of_getElem? (i := 720) (by decide +kernel)⟩
theorem lw_p20 : lw_okq (⟨"BranchGoalsModel", "write", "(IIII)V"⟩, 22) := ⟨⟨by decide +kernel, by decide +kernel⟩, List.mem_of_getElem? (i := 629) (by decide +kernel), List.mem_of_getElem? (i := 727) (by decide +kernel), List.mem_of_getElem? (i := 728) (by decide +kernel)⟩
theorem lw_p21 : lw_okq (⟨"BranchGoalsModel", "second", "(IIII)V"⟩, 22) := ⟨⟨by decide +kernel, by decide +kernel⟩, List.mem_of_getElem? (i := 629) (by decide +kernel), List.mem_of_getElem? (i := 731) (by decide +kernel), List.mem_of_getElem? (i := 732) (by decide +kernel)⟩
theorem lw_p22 : lw_okq (⟨"BranchGoalsModel", "number", "(I)V"⟩, 22) := ⟨⟨by decide +kernel, by decide +kernel⟩, List.mem_of_getElem? (i := 629) (by decide +kernel), List.mem_of_getElem? (i := 748) (by decide +kernel), List.mem_of_getElem? (i := 749) (by decide +kernel)⟩
theorem lw_p23 : lw_okq (⟨"BranchGoalsModel", "branchAt", "(II)Z"⟩, 22) := ⟨⟨by decide +kernel, by decide +kernel⟩, List.mem_of_getElem? (i := 629) (by decide +kernel), List.mem_of_getElem? (i := 752) (by decide +kernel), List.mem_of_getElem? (i := 753) (by decide +kernel)⟩
theorem lw_p24 : lw_okq (⟨"BranchGoalsModel", "code", "(III)I"⟩, 22) := ⟨⟨by decide +kernel, by decide +kernel⟩, List.mem_of_getElem? (i := 629) (by decide +kernel), List.mem_of_getElem? (i := 756) (by decide +kernel), List.mem_of_getElem? (i := 757) (by decide +kernel)⟩
theorem lw_p25 : lw_okq (⟨"BranchGoalsModel", "relate", "(I)V"⟩, 22) := ⟨⟨by decide +kernel, by decide +kernel⟩, List.mem_of_getElem? (i := 629) (by decide +kernel), List.mem_of_getElem? (i := 760) (by decide +kernel), List.mem_of_getElem? (i := 761) (by decide +kernel)⟩
theorem lw_p26 : lw_okq (⟨"BranchGoalsModel", "must", "(III)Z"⟩, 22) := ⟨⟨by decide +kernel, by decide +kernel⟩, List.mem_of_getElem? (i := 629) (by decide +kernel), List.mem_of_getElem? (i := 764) (by decide +kernel), List.mem_of_getElem? (i := 765) (by decide +kernel)⟩
theorem lw_p27 : lw_okq (⟨"BranchGoalsModel", "way", "(III)Z"⟩, 22) := ⟨⟨by decide +kernel, by decide +kernel⟩, List.mem_of_getElem? (i := 629) (by decide +kernel), List.mem_of_getElem? (i := 768) (by decide +kernel), List.mem_of_getElem? (i := 769) (by decide +kernel)⟩
theorem lw_p28 : lw_okq (⟨"BranchGoalsModel", "lead", "(III)I"⟩, 22) := ⟨⟨by decide +kernel, by decide +kernel⟩, List.mem_of_getElem? (i := 629) (by decide +kernel), List.mem_of_getElem? (i := 772) (by decide +kernel), List.mem_of_getElem? (i := 773) (by decide +kernel)⟩
theorem lw_p29 : lw_okq (⟨"BranchGoalsModel", "drawCase", "(I)V"⟩, 22) := ⟨⟨by decide +kernel, by decide +kernel⟩, List.mem_of_getElem? (i := 629) (by decide +kernel), List.mem_of_getElem? (i := 776) (by decide +kernel), List.mem_of_getElem? (i := 777) (by decide +kernel)⟩
theorem lw_p30 : lw_okq (⟨"BranchGoalsModel", "draw", "(I)I"⟩, 22) := ⟨⟨by decide +kernel, by decide +kernel⟩, List.mem_of_getElem? (i := 629) (by decide +kernel), List.mem_of_getElem? (i := 780) (by decide +kernel), List.mem_of_getElem? (i := 781) (by decide +kernel)⟩
theorem lw_p31 : lw_okq (⟨"BranchGoalsModel", "drawStep", "(II)V"⟩, 22) := ⟨⟨by decide +kernel, by decide +kernel⟩, List.mem_of_getElem? (i := 629) (by decide +kernel), List.mem_of_getElem? (i := 785) (by decide +kernel), List.mem_of_getElem? (i := 786) (by decide +kernel)⟩
def lw_privs_2 : List (MethodName × Nat) := [(⟨"BranchGoals$Draws", "changeStep", "(LBranchGoals$Case;I)V"⟩, 3), (⟨"BranchGoals$Suite", "goalsOf", "(II)I"⟩, 3), (⟨"BranchGoals", "caseNamed", "(I)LBranchGoals$Case;"⟩, 9), (⟨"BranchGoalsModel", "goal", "(I)Z"⟩, 22), (⟨"BranchGoalsModel", "write", "(IIII)V"⟩, 22), (⟨"BranchGoalsModel", "second", "(IIII)V"⟩, 22), (⟨"BranchGoalsModel", "number", "(I)V"⟩, 22), (⟨"BranchGoalsModel", "branchAt", "(II)Z"⟩, 22), (⟨"BranchGoalsModel", "code", "(III)I"⟩, 22), (⟨"BranchGoalsModel", "relate", "(I)V"⟩, 22), (⟨"BranchGoalsModel", "must", "(III)Z"⟩, 22), (⟨"BranchGoalsModel", "way", "(III)Z"⟩, 22), (⟨"BranchGoalsModel", "lead", "(III)I"⟩, 22), (⟨"BranchGoalsModel", "drawCase", "(I)V"⟩, 22), (⟨"BranchGoalsModel", "draw", "(I)I"⟩, 22), (⟨"BranchGoalsModel", "drawStep", "(II)V"⟩, 22)]
theorem lw_r2 : ∀ q ∈ lw_privs_2, lw_okq q := List.forall_mem_cons.mpr ⟨lw_p16, List.forall_mem_cons.mpr ⟨lw_p17, List.forall_mem_cons.mpr ⟨lw_p18, List.forall_mem_cons.mpr ⟨lw_p19, List.forall_mem_cons.mpr ⟨lw_p20, List.forall_mem_cons.mpr ⟨lw_p21, List.forall_mem_cons.mpr ⟨lw_p22, List.forall_mem_cons.mpr ⟨lw_p23, List.forall_mem_cons.mpr ⟨lw_p24, List.forall_mem_cons.mpr ⟨lw_p25, List.forall_mem_cons.mpr ⟨lw_p26, List.forall_mem_cons.mpr ⟨lw_p27, List.forall_mem_cons.mpr ⟨lw_p28, List.forall_mem_cons.mpr ⟨lw_p29, List.forall_mem_cons.mpr ⟨lw_p30, List.forall_mem_cons.mpr ⟨lw_p31, fun _ h => absurd h List.not_mem_nil⟩⟩⟩⟩⟩⟩⟩⟩⟩⟩⟩⟩⟩⟩⟩⟩
theorem lw_p32 : lw_okq (⟨"BranchGoalsModel", "drawNumber", "()I"⟩, 22) := ⟨⟨by decide +kernel, by decide +kernel⟩, List.mem_of_getElem? (i := 629) (by decide +kernel), List.mem_of_getElem? (i := 789) (by decide +kernel), List.mem_of_getElem? (i := 790) (by decide +kernel)⟩
theorem lw_p33 : lw_okq (⟨"BranchGoalsModel", "setLine", "(I)Z"⟩, 22) := ⟨⟨by decide +kernel, by decide +kernel⟩, List.mem_of_getElem? (i := 629) (by decide +kernel), List.mem_of_getElem? (i := 793) (by decide +kernel), List.mem_of_getElem? (i := 794) (by decide +kernel)⟩
theorem lw_p34 : lw_okq (⟨"BranchGoalsModel", "archive", "(I)V"⟩, 22) := ⟨⟨by decide +kernel, by decide +kernel⟩, List.mem_of_getElem? (i := 629) (by decide +kernel), List.mem_of_getElem? (i := 797) (by decide +kernel), List.mem_of_getElem? (i := 798) (by decide +kernel)⟩
theorem lw_p35 : lw_okq (⟨"BranchGoalsModel", "reached", "(I)I"⟩, 22) := ⟨⟨by decide +kernel, by decide +kernel⟩, List.mem_of_getElem? (i := 629) (by decide +kernel), List.mem_of_getElem? (i := 801) (by decide +kernel), List.mem_of_getElem? (i := 802) (by decide +kernel)⟩
theorem lw_p36 : lw_okq (⟨"BranchGoalsModel", "perform", "(I)V"⟩, 22) := ⟨⟨by decide +kernel, by decide +kernel⟩, List.mem_of_getElem? (i := 629) (by decide +kernel), List.mem_of_getElem? (i := 805) (by decide +kernel), List.mem_of_getElem? (i := 806) (by decide +kernel)⟩
theorem lw_p37 : lw_okq (⟨"BranchGoalsModel", "part", "(III)I"⟩, 22) := ⟨⟨by decide +kernel, by decide +kernel⟩, List.mem_of_getElem? (i := 629) (by decide +kernel), List.mem_of_getElem? (i := 810) (by decide +kernel), List.mem_of_getElem? (i := 811) (by decide +kernel)⟩
theorem lw_p38 : lw_okq (⟨"BranchGoalsModel", "value", "(I)I"⟩, 22) := ⟨⟨by decide +kernel, by decide +kernel⟩, List.mem_of_getElem? (i := 629) (by decide +kernel), List.mem_of_getElem? (i := 815) (by decide +kernel), List.mem_of_getElem? (i := 816) (by decide +kernel)⟩
theorem lw_p39 : lw_okq (⟨"BranchGoalsModel", "call", "(I)J"⟩, 22) := ⟨⟨by decide +kernel, by decide +kernel⟩, List.mem_of_getElem? (i := 629) (by decide +kernel), List.mem_of_getElem? (i := 819) (by decide +kernel), List.mem_of_getElem? (i := 820) (by decide +kernel)⟩
theorem lw_p40 : lw_okq (⟨"BranchGoalsModel", "go", "(II)I"⟩, 22) := ⟨⟨by decide +kernel, by decide +kernel⟩, List.mem_of_getElem? (i := 629) (by decide +kernel), List.mem_of_getElem? (i := 825) (by decide +kernel), List.mem_of_getElem? (i := 826) (by decide +kernel)⟩
theorem lw_p41 : lw_okq (⟨"BranchGoalsModel", "note", "(IIII)V"⟩, 22) := ⟨⟨by decide +kernel, by decide +kernel⟩, List.mem_of_getElem? (i := 629) (by decide +kernel), List.mem_of_getElem? (i := 829) (by decide +kernel), List.mem_of_getElem? (i := 830) (by decide +kernel)⟩
theorem lw_p42 : lw_okq (⟨"BranchGoalsModel", "copy", "(II)V"⟩, 22) := ⟨⟨by decide +kernel, by decide +kernel⟩, List.mem_of_getElem? (i := 629) (by decide +kernel), List.mem_of_getElem? (i := 834) (by decide +kernel), List.mem_of_getElem? (i := 835) (by decide +kernel)⟩
theorem lw_p43 : lw_okq (⟨"BranchGoalsModel", "putInOrder", "(I)V"⟩, 22) := ⟨⟨by decide +kernel, by decide +kernel⟩, List.mem_of_getElem? (i := 629) (by decide +kernel), List.mem_of_getElem? (i := 838) (by decide +kernel), List.mem_of_getElem? (i := 839) (by decide +kernel)⟩
theorem lw_p44 : lw_okq (⟨"BranchGoalsModel", "level", "(I)J"⟩, 22) := ⟨⟨by decide +kernel, by decide +kernel⟩, List.mem_of_getElem? (i := 629) (by decide +kernel), List.mem_of_getElem? (i := 843) (by decide +kernel), List.mem_of_getElem? (i := 844) (by decide +kernel)⟩
theorem lw_p45 : lw_okq (⟨"BranchGoalsModel", "prefer", "(II)V"⟩, 22) := ⟨⟨by decide +kernel, by decide +kernel⟩, List.mem_of_getElem? (i := 629) (by decide +kernel), List.mem_of_getElem? (i := 849) (by decide +kernel), List.mem_of_getElem? (i := 850) (by decide +kernel)⟩
theorem lw_p46 : lw_okq (⟨"BranchGoalsModel", "fronts", "(II)V"⟩, 22) := ⟨⟨by decide +kernel, by decide +kernel⟩, List.mem_of_getElem? (i := 629) (by decide +kernel), List.mem_of_getElem? (i := 853) (by decide +kernel), List.mem_of_getElem? (i := 854) (by decide +kernel)⟩
theorem lw_p47 : lw_okq (⟨"BranchGoalsModel", "better", "(III)I"⟩, 22) := ⟨⟨by decide +kernel, by decide +kernel⟩, List.mem_of_getElem? (i := 629) (by decide +kernel), List.mem_of_getElem? (i := 857) (by decide +kernel), List.mem_of_getElem? (i := 858) (by decide +kernel)⟩
def lw_privs_3 : List (MethodName × Nat) := [(⟨"BranchGoalsModel", "drawNumber", "()I"⟩, 22), (⟨"BranchGoalsModel", "setLine", "(I)Z"⟩, 22), (⟨"BranchGoalsModel", "archive", "(I)V"⟩, 22), (⟨"BranchGoalsModel", "reached", "(I)I"⟩, 22), (⟨"BranchGoalsModel", "perform", "(I)V"⟩, 22), (⟨"BranchGoalsModel", "part", "(III)I"⟩, 22), (⟨"BranchGoalsModel", "value", "(I)I"⟩, 22), (⟨"BranchGoalsModel", "call", "(I)J"⟩, 22), (⟨"BranchGoalsModel", "go", "(II)I"⟩, 22), (⟨"BranchGoalsModel", "note", "(IIII)V"⟩, 22), (⟨"BranchGoalsModel", "copy", "(II)V"⟩, 22), (⟨"BranchGoalsModel", "putInOrder", "(I)V"⟩, 22), (⟨"BranchGoalsModel", "level", "(I)J"⟩, 22), (⟨"BranchGoalsModel", "prefer", "(II)V"⟩, 22), (⟨"BranchGoalsModel", "fronts", "(II)V"⟩, 22), (⟨"BranchGoalsModel", "better", "(III)I"⟩, 22)]
theorem lw_r3 : ∀ q ∈ lw_privs_3, lw_okq q := List.forall_mem_cons.mpr ⟨lw_p32, List.forall_mem_cons.mpr ⟨lw_p33, List.forall_mem_cons.mpr ⟨lw_p34, List.forall_mem_cons.mpr ⟨lw_p35, List.forall_mem_cons.mpr ⟨lw_p36, List.forall_mem_cons.mpr ⟨lw_p37, List.forall_mem_cons.mpr ⟨lw_p38, List.forall_mem_cons.mpr ⟨lw_p39, List.forall_mem_cons.mpr ⟨lw_p40, List.forall_mem_cons.mpr ⟨lw_p41, List.forall_mem_cons.mpr ⟨lw_p42, List.forall_mem_cons.mpr ⟨lw_p43, List.forall_mem_cons.mpr ⟨lw_p44, List.forall_mem_cons.mpr ⟨lw_p45, List.forall_mem_cons.mpr ⟨lw_p46, List.forall_mem_cons.mpr ⟨lw_p47, fun _ h => absurd h List.not_mem_nil⟩⟩⟩⟩⟩⟩⟩⟩⟩⟩⟩⟩⟩⟩⟩⟩
theorem lw_p48 : lw_okq (⟨"BranchGoalsModel", "rearrange", "(I)V"⟩, 22) := ⟨⟨by decide +kernel, by decide +kernel⟩, List.mem_of_getElem? (i := 629) (by decide +kernel), List.mem_of_getElem? (i := 861) (by decide +kernel), List.mem_of_getElem? (i := 862) (by decide +kernel)⟩
theorem lw_p49 : lw_okq (⟨"BranchGoalsModel", "before", "(II)Z"⟩, 22) := ⟨⟨by decide +kernel, by decide +kernel⟩, List.mem_of_getElem? (i := 629) (by decide +kernel), List.mem_of_getElem? (i := 865) (by decide +kernel), List.mem_of_getElem? (i := 866) (by decide +kernel)⟩
theorem lw_p50 : lw_okq (⟨"BranchGoalsModel", "lesser", "()I"⟩, 22) := ⟨⟨by decide +kernel, by decide +kernel⟩, List.mem_of_getElem? (i := 629) (by decide +kernel), List.mem_of_getElem? (i := 877) (by decide +kernel), List.mem_of_getElem? (i := 878) (by decide +kernel)⟩
theorem lw_p51 : lw_okq (⟨"BranchGoalsModel", "join", "(IIIII)V"⟩, 22) := ⟨⟨by decide +kernel, by decide +kernel⟩, List.mem_of_getElem? (i := 629) (by decide +kernel), List.mem_of_getElem? (i := 881) (by decide +kernel), List.mem_of_getElem? (i := 882) (by decide +kernel)⟩
theorem lw_p52 : lw_okq (⟨"BranchGoalsModel", "move", "(IIIIII)V"⟩, 22) := ⟨⟨by decide +kernel, by decide +kernel⟩, List.mem_of_getElem? (i := 629) (by decide +kernel), List.mem_of_getElem? (i := 885) (by decide +kernel), List.mem_of_getElem? (i := 886) (by decide +kernel)⟩
theorem lw_p53 : lw_okq (⟨"BranchGoalsModel", "change", "(I)V"⟩, 22) := ⟨⟨by decide +kernel, by decide +kernel⟩, List.mem_of_getElem? (i := 629) (by decide +kernel), List.mem_of_getElem? (i := 889) (by decide +kernel), List.mem_of_getElem? (i := 890) (by decide +kernel)⟩
theorem lw_p54 : lw_okq (⟨"BranchGoalsModel", "makeRoom", "(II)V"⟩, 22) := ⟨⟨by decide +kernel, by decide +kernel⟩, List.mem_of_getElem? (i := 629) (by decide +kernel), List.mem_of_getElem? (i := 893) (by decide +kernel), List.mem_of_getElem? (i := 894) (by decide +kernel)⟩
theorem lw_p55 : lw_okq (⟨"BranchGoalsModel", "takeOut", "(II)V"⟩, 22) := ⟨⟨by decide +kernel, by decide +kernel⟩, List.mem_of_getElem? (i := 629) (by decide +kernel), List.mem_of_getElem? (i := 897) (by decide +kernel), List.mem_of_getElem? (i := 898) (by decide +kernel)⟩
theorem lw_p56 : lw_okq (⟨"BranchGoalsModel", "others", "(I)I"⟩, 22) := ⟨⟨by decide +kernel, by decide +kernel⟩, List.mem_of_getElem? (i := 629) (by decide +kernel), List.mem_of_getElem? (i := 908) (by decide +kernel), List.mem_of_getElem? (i := 909) (by decide +kernel)⟩
theorem lw_p57 : lw_okq (⟨"BranchGoalsModel", "cut", "(II)V"⟩, 22) := ⟨⟨by decide +kernel, by decide +kernel⟩, List.mem_of_getElem? (i := 629) (by decide +kernel), List.mem_of_getElem? (i := 912) (by decide +kernel), List.mem_of_getElem? (i := 913) (by decide +kernel)⟩
theorem lw_p58 : lw_okq (⟨"BranchGoalsModel", "referred", "(II)Z"⟩, 22) := ⟨⟨by decide +kernel, by decide +kernel⟩, List.mem_of_getElem? (i := 629) (by decide +kernel), List.mem_of_getElem? (i := 916) (by decide +kernel), List.mem_of_getElem? (i := 917) (by decide +kernel)⟩
theorem lw_p59 : lw_okq (⟨"BranchGoalsModel", "slot", "(I)I"⟩, 22) := ⟨⟨by decide +kernel, by decide +kernel⟩, List.mem_of_getElem? (i := 629) (by decide +kernel), List.mem_of_getElem? (i := 928) (by decide +kernel), List.mem_of_getElem? (i := 929) (by decide +kernel)⟩
def lw_privs_4 : List (MethodName × Nat) := [(⟨"BranchGoalsModel", "rearrange", "(I)V"⟩, 22), (⟨"BranchGoalsModel", "before", "(II)Z"⟩, 22), (⟨"BranchGoalsModel", "lesser", "()I"⟩, 22), (⟨"BranchGoalsModel", "join", "(IIIII)V"⟩, 22), (⟨"BranchGoalsModel", "move", "(IIIIII)V"⟩, 22), (⟨"BranchGoalsModel", "change", "(I)V"⟩, 22), (⟨"BranchGoalsModel", "makeRoom", "(II)V"⟩, 22), (⟨"BranchGoalsModel", "takeOut", "(II)V"⟩, 22), (⟨"BranchGoalsModel", "others", "(I)I"⟩, 22), (⟨"BranchGoalsModel", "cut", "(II)V"⟩, 22), (⟨"BranchGoalsModel", "referred", "(II)Z"⟩, 22), (⟨"BranchGoalsModel", "slot", "(I)I"⟩, 22)]
theorem lw_r4 : ∀ q ∈ lw_privs_4, lw_okq q := List.forall_mem_cons.mpr ⟨lw_p48, List.forall_mem_cons.mpr ⟨lw_p49, List.forall_mem_cons.mpr ⟨lw_p50, List.forall_mem_cons.mpr ⟨lw_p51, List.forall_mem_cons.mpr ⟨lw_p52, List.forall_mem_cons.mpr ⟨lw_p53, List.forall_mem_cons.mpr ⟨lw_p54, List.forall_mem_cons.mpr ⟨lw_p55, List.forall_mem_cons.mpr ⟨lw_p56, List.forall_mem_cons.mpr ⟨lw_p57, List.forall_mem_cons.mpr ⟨lw_p58, List.forall_mem_cons.mpr ⟨lw_p59, fun _ h => absurd h List.not_mem_nil⟩⟩⟩⟩⟩⟩⟩⟩⟩⟩⟩⟩
def lw_privs : List (MethodName × Nat) := lw_privs_1 ++ (lw_privs_2 ++ (lw_privs_3 ++ (lw_privs_4)))
def lw_tbl : List Cond := k2_sels lw_privs ++ tables_1
theorem lw_privs_ok : ∀ q ∈ lw_privs, lw_okq q := by
  show ∀ q ∈ lw_privs_1 ++ (lw_privs_2 ++ (lw_privs_3 ++ (lw_privs_4))), lw_okq q
  exact List.forall_mem_append.mpr ⟨lw_r1, List.forall_mem_append.mpr ⟨lw_r2, List.forall_mem_append.mpr ⟨lw_r3, lw_r4⟩⟩⟩
end
section
/-! Written by a program (wip/gen/mk02.py) out of the claim's tables: classes, methods, pool entries by numbers. -/
def xcnT : List String := ["BranchGoals$Archive", "BranchGoals$Case", "BranchGoals$Draws", "BranchGoals$Method", "BranchGoals$Population", "BranchGoals$Program", "BranchGoals$Runner", "BranchGoals$Suite", "BranchGoals", "BranchGoalsModel", "BranchGoalsLaw", "java/lang/Math", "java/util/Arrays", "java/lang/Integer"]
def xcn (i : Nat) : String := xcnT.getD i ""
def xT0 : u_T := fun k => match k with
  | 0 => ("BranchGoals$Archive", "best", "[LBranchGoals$Case;", true)
  | _ => ("BranchGoals$Archive", "goals", "I", false)
def xT1 : u_T := fun k => match k with
  | 0 => ("BranchGoals$Case", "parts", "[I", true)
  | 1 => ("BranchGoals$Case", "results", "[J", true)
  | 2 => ("BranchGoals$Case", "fitnesses", "[J", true)
  | 3 => ("BranchGoals$Case", "steps", "I", false)
  | 4 => ("BranchGoals$Case", "goals", "I", false)
  | 5 => ("BranchGoals$Case", "front", "I", false)
  | _ => ("BranchGoals$Case", "crowd", "I", false)
def xT2 : u_T := fun k => match k with
  | 0 => ("BranchGoals$Draws", "constants", "[I", true)
  | 1 => ("BranchGoals$Draws", "constantCount", "I", false)
  | _ => ("BranchGoals$Draws", "bits", "J", false)
def xT3 : u_T := fun k => match k with
  | 0 => ("BranchGoals$Method", "ops", "[I", true)
  | 1 => ("BranchGoals$Method", "as", "[I", true)
  | 2 => ("BranchGoals$Method", "bs", "[I", true)
  | 3 => ("BranchGoals$Method", "cs", "[I", true)
  | 4 => ("BranchGoals$Method", "branchOf", "[I", true)
  | 5 => ("BranchGoals$Method", "lines", "I", false)
  | _ => ("BranchGoals$Method", "isWatched", "Z", false)
def xT4 : u_T := fun k => match k with
  | 0 => ("BranchGoals$Population", "cases", "[LBranchGoals$Case;", true)
  | _ => ("BranchGoals$Population", "size", "I", false)
def xT5 : u_T := fun k => match k with
  | 0 => ("BranchGoals$Program", "methods", "[LBranchGoals$Method;", true)
  | 1 => ("BranchGoals$Program", "needed", "[I", true)
  | 2 => ("BranchGoals$Program", "isOpen", "[Z", true)
  | _ => ("BranchGoals$Program", "branches", "I", false)
def xT6 : u_T := fun k => match k with
  | 0 => ("BranchGoals$Runner", "variables", "[I", true)
  | 1 => ("BranchGoals$Runner", "nearest", "[J", true)
  | _ => ("BranchGoals$Runner", "count", "I", false)
def xT7 : u_T := fun k => match k with
  | 0 => ("BranchGoals$Suite", "cases", "[LBranchGoals$Case;", true)
  | 1 => ("BranchGoals$Suite", "trial", "LBranchGoals$Case;", true)
  | _ => ("BranchGoals$Suite", "size", "I", false)
def xT8 : u_T := fun k => match k with
  | 0 => ("BranchGoals", "program", "LBranchGoals$Program;", true)
  | 1 => ("BranchGoals", "draws", "LBranchGoals$Draws;", true)
  | 2 => ("BranchGoals", "runner", "LBranchGoals$Runner;", true)
  | 3 => ("BranchGoals", "archive", "LBranchGoals$Archive;", true)
  | 4 => ("BranchGoals", "population", "LBranchGoals$Population;", true)
  | 5 => ("BranchGoals", "suite", "LBranchGoals$Suite;", true)
  | 6 => ("BranchGoals", "written", "LBranchGoals$Case;", true)
  | 7 => ("BranchGoals", "latest", "LBranchGoals$Case;", true)
  | _ => ("BranchGoals", "started", "Z", false)
def xT9 : u_T := fun k => match k with
  | 0 => ("BranchGoalsModel", "cells", "[I", true)
  | 1 => ("BranchGoalsModel", "size", "[I", true)
  | 2 => ("BranchGoalsModel", "code", "[I", true)
  | 3 => ("BranchGoalsModel", "lines", "[I", true)
  | 4 => ("BranchGoalsModel", "seen", "[Z", true)
  | 5 => ("BranchGoalsModel", "method", "[I", true)
  | 6 => ("BranchGoalsModel", "at", "[I", true)
  | 7 => ("BranchGoalsModel", "needs", "[I", true)
  | 8 => ("BranchGoalsModel", "always", "[Z", true)
  | 9 => ("BranchGoalsModel", "started", "Z", false)
  | 10 => ("BranchGoalsModel", "branches", "I", false)
  | 11 => ("BranchGoalsModel", "population", "I", false)
  | 12 => ("BranchGoalsModel", "suite", "I", false)
  | 13 => ("BranchGoalsModel", "runs", "I", false)
  | 14 => ("BranchGoalsModel", "state", "J", false)
  | 15 => ("BranchGoalsModel", "v", "[I", true)
  | 16 => ("BranchGoalsModel", "results", "[J", true)
  | 17 => ("BranchGoalsModel", "near", "[J", true)
  | 18 => ("BranchGoalsModel", "fit", "[J", true)
  | 19 => ("BranchGoalsModel", "front", "[I", true)
  | 20 => ("BranchGoalsModel", "crowd", "[I", true)
  | _ => ("BranchGoalsModel", "sets", "[I", true)
def xcls : List vw_C := [("BranchGoals$Archive", xT0, 2), ("BranchGoals$Case", xT1, 7), ("BranchGoals$Draws", xT2, 3), ("BranchGoals$Method", xT3, 7), ("BranchGoals$Population", xT4, 2), ("BranchGoals$Program", xT5, 4), ("BranchGoals$Runner", xT6, 3), ("BranchGoals$Suite", xT7, 3), ("BranchGoals", xT8, 9), ("BranchGoalsModel", xT9, 22)]
def xnfT : List Nat := [2, 7, 3, 7, 2, 4, 3, 3, 9, 22]
def xnf (i : Nat) : Nat := xnfT.getD i 0
def xftT : List (List FieldType) := [[.array (.object "BranchGoals$Case"), .int], [.array (.int), .array (.long), .array (.long), .int, .int, .int, .int], [.array (.int), .int, .long], [.array (.int), .array (.int), .array (.int), .array (.int), .array (.int), .int, .boolean], [.array (.object "BranchGoals$Case"), .int], [.array (.object "BranchGoals$Method"), .array (.int), .array (.boolean), .int], [.array (.int), .array (.long), .int], [.array (.object "BranchGoals$Case"), .object "BranchGoals$Case", .int], [.object "BranchGoals$Program", .object "BranchGoals$Draws", .object "BranchGoals$Runner", .object "BranchGoals$Archive", .object "BranchGoals$Population", .object "BranchGoals$Suite", .object "BranchGoals$Case", .object "BranchGoals$Case", .boolean], [.array (.int), .array (.int), .array (.int), .array (.int), .array (.boolean), .array (.int), .array (.int), .array (.int), .array (.boolean), .boolean, .int, .int, .int, .int, .long, .array (.int), .array (.long), .array (.long), .array (.long), .array (.int), .array (.int), .array (.int)]]
def xft (i j : Nat) : FieldType := (xftT.getD i []).getD j .int
def xatyT : List FieldType := [.int, .long, .boolean, .object "BranchGoals$Case", .object "BranchGoals$Method"]
def xaty (t : Nat) : FieldType := xatyT.getD t .int
def xnq : Nat := 2
def xqc (t : Nat) : Nat := ([1, 3] : List Nat).getD t 99
def xM : List (Nat × MethodName × ByteArray × Nat × Option FieldType) := [
  (8, ⟨"BranchGoals", "<init>", "(I)V"⟩, prog_1_method_1_code, 2, none),
  (5, ⟨"BranchGoals$Program", "<init>", "()V"⟩, prog_7_method_1_code, 1, none),
  (3, ⟨"BranchGoals$Method", "<init>", "()V"⟩, prog_5_method_1_code, 1, none),
  (2, ⟨"BranchGoals$Draws", "<init>", "(I)V"⟩, prog_4_method_1_code, 2, none),
  (6, ⟨"BranchGoals$Runner", "<init>", "()V"⟩, prog_8_method_1_code, 1, none),
  (0, ⟨"BranchGoals$Archive", "<init>", "()V"⟩, prog_2_method_1_code, 1, none),
  (8, ⟨"BranchGoals", "makeCases", "(I)[LBranchGoals$Case;"⟩, prog_1_method_27_code, 3, some ((FieldType.array (FieldType.object "BranchGoals$Case")))),
  (1, ⟨"BranchGoals$Case", "<init>", "()V"⟩, prog_3_method_1_code, 1, none),
  (4, ⟨"BranchGoals$Population", "<init>", "()V"⟩, prog_6_method_1_code, 1, none),
  (7, ⟨"BranchGoals$Suite", "<init>", "()V"⟩, prog_9_method_1_code, 1, none),
  (8, ⟨"BranchGoals", "line", "(IIIII)Z"⟩, prog_1_method_2_code, 6, some (FieldType.boolean)),
  (8, ⟨"BranchGoals", "isMethod", "(I)Z"⟩, prog_1_method_24_code, 1, some (FieldType.boolean)),
  (3, ⟨"BranchGoals$Method", "append", "(IIII)Z"⟩, prog_5_method_2_code, 5, some (FieldType.boolean)),
  (3, ⟨"BranchGoals$Method", "isAllowed", "(IIII)Z"⟩, prog_5_method_3_code, 4, some (FieldType.boolean)),
  (3, ⟨"BranchGoals$Method", "isVariable", "(I)Z"⟩, prog_5_method_4_code, 1, some (FieldType.boolean)),
  (3, ⟨"BranchGoals$Method", "isTarget", "(I)Z"⟩, prog_5_method_5_code, 1, some (FieldType.boolean)),
  (8, ⟨"BranchGoals", "start", "()I"⟩, prog_1_method_3_code, 3, some (FieldType.int)),
  (5, ⟨"BranchGoals$Program", "numberBranches", "()V"⟩, prog_7_method_3_code, 2, none),
  (3, ⟨"BranchGoals$Method", "numberBranches", "(I)I"⟩, prog_5_method_7_code, 5, some (FieldType.int)),
  (3, ⟨"BranchGoals$Method", "isBranch", "(I)Z"⟩, prog_5_method_6_code, 2, some (FieldType.boolean)),
  (5, ⟨"BranchGoals$Program", "linkBranches", "(LBranchGoals$Method;)V"⟩, prog_7_method_4_code, 5, none),
  (3, ⟨"BranchGoals$Method", "postDominatedBy", "(I)I"⟩, prog_5_method_9_code, 2, some (FieldType.int)),
  (3, ⟨"BranchGoals$Method", "placesReachingEnd", "(I)I"⟩, prog_5_method_10_code, 6, some (FieldType.int)),
  (3, ⟨"BranchGoals$Method", "placeAfter", "(II)I"⟩, prog_5_method_8_code, 3, some (FieldType.int)),
  (11, ⟨"java/lang/Math", "min", "(II)I"⟩, prog_13_method_69_code, 2, some (FieldType.int)),
  (5, ⟨"BranchGoals$Program", "goalsNeededAt", "(IILBranchGoals$Method;)I"⟩, prog_7_method_5_code, 6, some (FieldType.int)),
  (2, ⟨"BranchGoals$Draws", "gatherConstants", "(LBranchGoals$Program;)V"⟩, prog_4_method_2_code, 5, none),
  (4, ⟨"BranchGoals$Population", "child", "(I)LBranchGoals$Case;"⟩, prog_6_method_2_code, 2, some ((FieldType.object "BranchGoals$Case"))),
  (2, ⟨"BranchGoals$Draws", "drawCase", "(LBranchGoals$Case;)V"⟩, prog_4_method_6_code, 3, none),
  (2, ⟨"BranchGoals$Draws", "draw", "(I)I"⟩, prog_4_method_3_code, 2, some (FieldType.int)),
  (2, ⟨"BranchGoals$Draws", "drawStep", "(LBranchGoals$Case;I)V"⟩, prog_4_method_5_code, 6, none),
  (2, ⟨"BranchGoals$Draws", "drawNumber", "()I"⟩, prog_4_method_4_code, 2, some (FieldType.int)),
  (1, ⟨"BranchGoals$Case", "write", "(IIIII)V"⟩, prog_3_method_4_code, 6, none),
  (8, ⟨"BranchGoals", "runAndArchive", "(LBranchGoals$Case;)V"⟩, prog_1_method_20_code, 2, none),
  (6, ⟨"BranchGoals$Runner", "perform", "(LBranchGoals$Case;LBranchGoals$Program;)V"⟩, prog_8_method_2_code, 5, none),
  (12, ⟨"java/util/Arrays", "fill", "([II)V"⟩, prog_15_method_103_code, 4, none),
  (12, ⟨"java/util/Arrays", "fill", "([JJ)V"⟩, prog_15_method_101_code, 5, none),
  (6, ⟨"BranchGoals$Runner", "doStep", "(LBranchGoals$Case;ILBranchGoals$Program;)J"⟩, prog_8_method_3_code, 7, some (FieldType.long)),
  (1, ⟨"BranchGoals$Case", "part", "(II)I"⟩, prog_3_method_3_code, 3, some (FieldType.int)),
  (6, ⟨"BranchGoals$Runner", "valueOf", "(J)I"⟩, prog_8_method_4_code, 2, some (FieldType.int)),
  (6, ⟨"BranchGoals$Runner", "callMethod", "(LBranchGoals$Method;)J"⟩, prog_8_method_5_code, 5, some (FieldType.long)),
  (6, ⟨"BranchGoals$Runner", "doLine", "(LBranchGoals$Method;I)I"⟩, prog_8_method_6_code, 6, some (FieldType.int)),
  (6, ⟨"BranchGoals$Runner", "calculate", "(III)I"⟩, prog_8_method_7_code, 3, some (FieldType.int)),
  (6, ⟨"BranchGoals$Runner", "decide", "(LBranchGoals$Method;I)I"⟩, prog_8_method_8_code, 12, some (FieldType.int)),
  (11, ⟨"java/lang/Math", "abs", "(J)J"⟩, prog_13_method_61_code, 2, some (FieldType.long)),
  (11, ⟨"java/lang/Math", "min", "(JJ)J"⟩, prog_13_method_70_code, 4, some (FieldType.long)),
  (5, ⟨"BranchGoals$Program", "goalCount", "()I"⟩, prog_7_method_2_code, 1, some (FieldType.int)),
  (6, ⟨"BranchGoals$Runner", "fitnessFor", "(ILBranchGoals$Program;)J"⟩, prog_8_method_9_code, 7, some (FieldType.long)),
  (6, ⟨"BranchGoals$Runner", "leastNearest", "(II)J"⟩, prog_8_method_10_code, 6, some (FieldType.long)),
  (8, ⟨"BranchGoals", "hasGoal", "(II)Z"⟩, prog_1_method_26_code, 2, some (FieldType.boolean)),
  (5, ⟨"BranchGoals$Program", "goalsNeededBy", "(I)I"⟩, prog_7_method_6_code, 4, some (FieldType.int)),
  (0, ⟨"BranchGoals$Archive", "admit", "(LBranchGoals$Case;)V"⟩, prog_2_method_2_code, 3, none),
  (1, ⟨"BranchGoals$Case", "copy", "(LBranchGoals$Case;)V"⟩, prog_3_method_5_code, 2, none),
  (1, ⟨"BranchGoals$Case", "copySteps", "(LBranchGoals$Case;)V"⟩, prog_3_method_6_code, 2, none),
  (5, ⟨"BranchGoals$Program", "activeGoals", "(I)I"⟩, prog_7_method_7_code, 4, some (FieldType.int)),
  (4, ⟨"BranchGoals$Population", "takeInChildren", "(I)V"⟩, prog_6_method_3_code, 4, none),
  (4, ⟨"BranchGoals$Population", "placeFronts", "(II)V"⟩, prog_6_method_4_code, 5, none),
  (4, ⟨"BranchGoals$Population", "preferredFor", "(II)LBranchGoals$Case;"⟩, prog_6_method_5_code, 7, some ((FieldType.object "BranchGoals$Case"))),
  (4, ⟨"BranchGoals$Population", "isBeaten", "(LBranchGoals$Case;III)Z"⟩, prog_6_method_6_code, 6, some (FieldType.boolean)),
  (4, ⟨"BranchGoals$Population", "goalsNearer", "(LBranchGoals$Case;LBranchGoals$Case;I)I"⟩, prog_6_method_8_code, 5, some (FieldType.int)),
  (4, ⟨"BranchGoals$Population", "crowdOf", "(LBranchGoals$Case;II)I"⟩, prog_6_method_7_code, 6, some (FieldType.int)),
  (11, ⟨"java/lang/Math", "max", "(II)I"⟩, prog_13_method_65_code, 2, some (FieldType.int)),
  (4, ⟨"BranchGoals$Population", "sort", "(I)V"⟩, prog_6_method_9_code, 5, none),
  (4, ⟨"BranchGoals$Population", "goesBefore", "(LBranchGoals$Case;LBranchGoals$Case;)Z"⟩, prog_6_method_10_code, 2, some (FieldType.boolean)),
  (8, ⟨"BranchGoals", "watched", "(I)Z"⟩, prog_1_method_4_code, 2, some (FieldType.boolean)),
  (8, ⟨"BranchGoals", "depends", "(II)Z"⟩, prog_1_method_5_code, 3, some (FieldType.boolean)),
  (8, ⟨"BranchGoals", "isGoal", "(I)Z"⟩, prog_1_method_22_code, 2, some (FieldType.boolean)),
  (8, ⟨"BranchGoals", "put", "(IIII)Z"⟩, prog_1_method_6_code, 6, some (FieldType.boolean)),
  (8, ⟨"BranchGoals", "isField", "(I)Z"⟩, prog_1_method_25_code, 1, some (FieldType.boolean)),
  (8, ⟨"BranchGoals", "run", "()I"⟩, prog_1_method_7_code, 1, some (FieldType.int)),
  (8, ⟨"BranchGoals", "evolve", "()I"⟩, prog_1_method_8_code, 6, some (FieldType.int)),
  (8, ⟨"BranchGoals", "drawParent", "()LBranchGoals$Case;"⟩, prog_1_method_21_code, 3, some ((FieldType.object "BranchGoals$Case"))),
  (1, ⟨"BranchGoals$Case", "join", "(LBranchGoals$Case;ILBranchGoals$Case;I)V"⟩, prog_3_method_7_code, 7, none),
  (2, ⟨"BranchGoals$Draws", "change", "(LBranchGoals$Case;)V"⟩, prog_4_method_7_code, 4, none),
  (1, ⟨"BranchGoals$Case", "makeRoom", "(I)V"⟩, prog_3_method_8_code, 3, none),
  (1, ⟨"BranchGoals$Case", "takeOut", "(I)V"⟩, prog_3_method_9_code, 4, none),
  (2, ⟨"BranchGoals$Draws", "changeStep", "(LBranchGoals$Case;I)V"⟩, prog_4_method_8_code, 5, none),
  (13, ⟨"java/lang/Integer", "bitCount", "(I)I"⟩, prog_12_method_49_code, 1, some (FieldType.int)),
  (8, ⟨"BranchGoals", "finish", "()I"⟩, prog_1_method_9_code, 2, some (FieldType.int)),
  (7, ⟨"BranchGoals$Suite", "clear", "()V"⟩, prog_9_method_2_code, 1, none),
  (7, ⟨"BranchGoals$Suite", "goals", "()I"⟩, prog_9_method_3_code, 1, some (FieldType.int)),
  (7, ⟨"BranchGoals$Suite", "goalsOf", "(II)I"⟩, prog_9_method_4_code, 5, some (FieldType.int)),
  (7, ⟨"BranchGoals$Suite", "appendCut", "(LBranchGoals$Case;ILBranchGoals$Runner;LBranchGoals$Program;)V"⟩, prog_9_method_5_code, 7, none),
  (1, ⟨"BranchGoals$Case", "isReferredTo", "(I)Z"⟩, prog_3_method_10_code, 3, some (FieldType.boolean)),
  (7, ⟨"BranchGoals$Suite", "dropNeedless", "()V"⟩, prog_9_method_6_code, 5, none),
  (8, ⟨"BranchGoals", "found", "()I"⟩, prog_1_method_10_code, 1, some (FieldType.int)),
  (8, ⟨"BranchGoals", "active", "()I"⟩, prog_1_method_11_code, 1, some (FieldType.int)),
  (8, ⟨"BranchGoals", "reported", "()I"⟩, prog_1_method_12_code, 1, some (FieldType.int)),
  (8, ⟨"BranchGoals", "length", "(I)I"⟩, prog_1_method_13_code, 3, some (FieldType.int)),
  (8, ⟨"BranchGoals", "caseNamed", "(I)LBranchGoals$Case;"⟩, prog_1_method_23_code, 3, some ((FieldType.object "BranchGoals$Case"))),
  (8, ⟨"BranchGoals", "step", "(III)I"⟩, prog_1_method_14_code, 5, some (FieldType.int)),
  (1, ⟨"BranchGoals$Case", "hasStep", "(I)Z"⟩, prog_3_method_2_code, 2, some (FieldType.boolean)),
  (8, ⟨"BranchGoals", "covers", "(I)I"⟩, prog_1_method_15_code, 3, some (FieldType.int)),
  (8, ⟨"BranchGoals", "fitness", "(II)J"⟩, prog_1_method_16_code, 4, some (FieldType.long)),
  (8, ⟨"BranchGoals", "result", "(II)J"⟩, prog_1_method_17_code, 4, some (FieldType.long)),
  (8, ⟨"BranchGoals", "runs", "()I"⟩, prog_1_method_18_code, 1, some (FieldType.int)),
  (8, ⟨"BranchGoals", "state", "()J"⟩, prog_1_method_19_code, 1, some (FieldType.long)),
  (10, ⟨"BranchGoalsLaw", "cell", "([II)I"⟩, method_2_code, 2, some (FieldType.int)),
  (9, ⟨"BranchGoalsModel", "<init>", "(I)V"⟩, prog_11_method_1_code, 2, none),
  (9, ⟨"BranchGoalsModel", "line", "(IIIII)Z"⟩, prog_11_method_5_code, 11, some (FieldType.boolean)),
  (9, ⟨"BranchGoalsModel", "within", "(III)Z"⟩, prog_11_method_4_code, 3, some (FieldType.boolean)),
  (9, ⟨"BranchGoalsModel", "watched", "(I)Z"⟩, prog_11_method_11_code, 2, some (FieldType.boolean)),
  (9, ⟨"BranchGoalsModel", "depends", "(II)Z"⟩, prog_11_method_13_code, 3, some (FieldType.boolean)),
  (9, ⟨"BranchGoalsModel", "goal", "(I)Z"⟩, prog_11_method_12_code, 2, some (FieldType.boolean)),
  (9, ⟨"BranchGoalsModel", "put", "(IIII)Z"⟩, prog_11_method_28_code, 7, some (FieldType.boolean)),
  (9, ⟨"BranchGoalsModel", "write", "(IIII)V"⟩, prog_11_method_23_code, 6, none),
  (9, ⟨"BranchGoalsModel", "second", "(IIII)V"⟩, prog_11_method_24_code, 5, none),
  (9, ⟨"BranchGoalsModel", "found", "()I"⟩, prog_11_method_35_code, 3, some (FieldType.int)),
  (9, ⟨"BranchGoalsModel", "active", "()I"⟩, prog_11_method_36_code, 5, some (FieldType.int)),
  (9, ⟨"BranchGoalsModel", "start", "()I"⟩, prog_11_method_44_code, 2, some (FieldType.int)),
  (9, ⟨"BranchGoalsModel", "number", "(I)V"⟩, prog_11_method_9_code, 4, none),
  (9, ⟨"BranchGoalsModel", "branchAt", "(II)Z"⟩, prog_11_method_3_code, 3, some (FieldType.boolean)),
  (9, ⟨"BranchGoalsModel", "code", "(III)I"⟩, prog_11_method_2_code, 4, some (FieldType.int)),
  (9, ⟨"BranchGoalsModel", "relate", "(I)V"⟩, prog_11_method_10_code, 5, none),
  (9, ⟨"BranchGoalsModel", "must", "(III)Z"⟩, prog_11_method_8_code, 4, some (FieldType.boolean)),
  (9, ⟨"BranchGoalsModel", "way", "(III)Z"⟩, prog_11_method_7_code, 10, some (FieldType.boolean)),
  (9, ⟨"BranchGoalsModel", "lead", "(III)I"⟩, prog_11_method_6_code, 6, some (FieldType.int)),
  (9, ⟨"BranchGoalsModel", "drawCase", "(I)V"⟩, prog_11_method_43_code, 3, none),
  (9, ⟨"BranchGoalsModel", "draw", "(I)I"⟩, prog_11_method_29_code, 2, some (FieldType.int)),
  (9, ⟨"BranchGoalsModel", "drawStep", "(II)V"⟩, prog_11_method_32_code, 7, none),
  (9, ⟨"BranchGoalsModel", "drawNumber", "()I"⟩, prog_11_method_30_code, 5, some (FieldType.int)),
  (9, ⟨"BranchGoalsModel", "setLine", "(I)Z"⟩, prog_11_method_31_code, 2, some (FieldType.boolean)),
  (9, ⟨"BranchGoalsModel", "archive", "(I)V"⟩, prog_11_method_34_code, 5, none),
  (9, ⟨"BranchGoalsModel", "reached", "(I)I"⟩, prog_11_method_20_code, 4, some (FieldType.int)),
  (9, ⟨"BranchGoalsModel", "perform", "(I)V"⟩, prog_11_method_19_code, 6, none),
  (9, ⟨"BranchGoalsModel", "part", "(III)I"⟩, prog_11_method_14_code, 4, some (FieldType.int)),
  (9, ⟨"BranchGoalsModel", "value", "(I)I"⟩, prog_11_method_18_code, 2, some (FieldType.int)),
  (9, ⟨"BranchGoalsModel", "call", "(I)J"⟩, prog_11_method_17_code, 5, some (FieldType.long)),
  (9, ⟨"BranchGoalsModel", "go", "(II)I"⟩, prog_11_method_16_code, 9, some (FieldType.int)),
  (9, ⟨"BranchGoalsModel", "note", "(IIII)V"⟩, prog_11_method_15_code, 15, none),
  (9, ⟨"BranchGoalsModel", "copy", "(II)V"⟩, prog_11_method_22_code, 4, none),
  (9, ⟨"BranchGoalsModel", "putInOrder", "(I)V"⟩, prog_11_method_41_code, 6, none),
  (9, ⟨"BranchGoalsModel", "level", "(I)J"⟩, prog_11_method_21_code, 8, some (FieldType.long)),
  (9, ⟨"BranchGoalsModel", "prefer", "(II)V"⟩, prog_11_method_38_code, 9, none),
  (9, ⟨"BranchGoalsModel", "fronts", "(II)V"⟩, prog_11_method_39_code, 7, none),
  (9, ⟨"BranchGoalsModel", "better", "(III)I"⟩, prog_11_method_37_code, 6, some (FieldType.int)),
  (9, ⟨"BranchGoalsModel", "rearrange", "(I)V"⟩, prog_11_method_42_code, 5, none),
  (9, ⟨"BranchGoalsModel", "before", "(II)Z"⟩, prog_11_method_40_code, 3, some (FieldType.boolean)),
  (9, ⟨"BranchGoalsModel", "run", "()I"⟩, prog_11_method_45_code, 1, some (FieldType.int)),
  (9, ⟨"BranchGoalsModel", "evolve", "()I"⟩, prog_11_method_48_code, 5, some (FieldType.int)),
  (9, ⟨"BranchGoalsModel", "lesser", "()I"⟩, prog_11_method_46_code, 3, some (FieldType.int)),
  (9, ⟨"BranchGoalsModel", "join", "(IIIII)V"⟩, prog_11_method_47_code, 8, none),
  (9, ⟨"BranchGoalsModel", "move", "(IIIIII)V"⟩, prog_11_method_25_code, 10, none),
  (9, ⟨"BranchGoalsModel", "change", "(I)V"⟩, prog_11_method_33_code, 8, none),
  (9, ⟨"BranchGoalsModel", "makeRoom", "(II)V"⟩, prog_11_method_27_code, 6, none),
  (9, ⟨"BranchGoalsModel", "takeOut", "(II)V"⟩, prog_11_method_26_code, 6, none),
  (9, ⟨"BranchGoalsModel", "count", "(I)I"⟩, prog_11_method_49_code, 3, some (FieldType.int)),
  (9, ⟨"BranchGoalsModel", "finish", "()I"⟩, prog_11_method_53_code, 5, some (FieldType.int)),
  (9, ⟨"BranchGoalsModel", "others", "(I)I"⟩, prog_11_method_52_code, 4, some (FieldType.int)),
  (9, ⟨"BranchGoalsModel", "cut", "(II)V"⟩, prog_11_method_51_code, 4, none),
  (9, ⟨"BranchGoalsModel", "referred", "(II)Z"⟩, prog_11_method_50_code, 5, some (FieldType.boolean)),
  (9, ⟨"BranchGoalsModel", "reported", "()I"⟩, prog_11_method_54_code, 1, some (FieldType.int)),
  (9, ⟨"BranchGoalsModel", "length", "(I)I"⟩, prog_11_method_56_code, 3, some (FieldType.int)),
  (9, ⟨"BranchGoalsModel", "slot", "(I)I"⟩, prog_11_method_55_code, 2, some (FieldType.int)),
  (9, ⟨"BranchGoalsModel", "step", "(III)I"⟩, prog_11_method_57_code, 5, some (FieldType.int)),
  (9, ⟨"BranchGoalsModel", "covers", "(I)I"⟩, prog_11_method_58_code, 3, some (FieldType.int)),
  (9, ⟨"BranchGoalsModel", "fitness", "(II)J"⟩, prog_11_method_59_code, 4, some (FieldType.long)),
  (9, ⟨"BranchGoalsModel", "result", "(II)J"⟩, prog_11_method_60_code, 4, some (FieldType.long)),
  (9, ⟨"BranchGoalsModel", "runs", "()I"⟩, prog_11_method_61_code, 1, some (FieldType.int)),
  (9, ⟨"BranchGoalsModel", "state", "()J"⟩, prog_11_method_62_code, 1, some (FieldType.long)),
  (10, ⟨"BranchGoalsLaw", "law", "([I)Z"⟩, code, 4, some (FieldType.boolean))]
def xMd (k : Nat) : Nat × MethodName × ByteArray × Nat × Option FieldType := xM.getD k (99, ⟨"", "", ""⟩, ⟨#[]⟩, 0, none)
def xkc (k : Nat) : Nat := (xMd k).1
def xyn (k : Nat) : MethodName := (xMd k).2.1
def xcode (k : Nat) : ByteArray := (xMd k).2.2.1
def xml (k : Nat) : Nat := (xMd k).2.2.2.1
def xrty (k : Nat) : Option FieldType := (xMd k).2.2.2.2
def xmkT : List Nat := [2, 2, 2, 2, 2, 2, 0, 2, 2, 2, 1, 0, 1, 0, 0, 0, 1, 1, 1, 1, 1, 1, 1, 1, 0, 0, 1, 1, 1, 1, 1, 1, 1, 1, 1, 0, 0, 1, 1, 0, 1, 1, 0, 1, 0, 0, 1, 1, 1, 0, 1, 1, 1, 1, 1, 1, 1, 1, 1, 0, 1, 0, 1, 0, 1, 1, 1, 1, 0, 1, 1, 1, 1, 1, 1, 1, 1, 0, 1, 1, 1, 1, 1, 1, 1, 1, 1, 1, 1, 1, 1, 1, 1, 1, 1, 1, 1, 0, 2, 1, 0, 1, 1, 1, 1, 1, 1, 1, 1, 1, 1, 1, 1, 1, 1, 1, 1, 1, 1, 1, 1, 1, 1, 1, 1, 1, 1, 1, 1, 1, 1, 1, 1, 1, 1, 1, 1, 1, 1, 1, 1, 1, 1, 1, 1, 1, 0, 1, 1, 1, 1, 1, 1, 1, 1, 1, 1, 1, 1, 1, 1]
def xmk (k : Nat) : Nat := xmkT.getD k 9
def xrob (k : Nat) : Bool := match xrty k with
  | some (.object _) => true
  | some (.array _) => true
  | _ => false
def xfldT : List (Nat × Nat × Nat × Nat) := [(3, 9, 3, 0), (2, 38, 3, 0), (6, 91, 3, 0), (3, 15, 3, 1), (6, 94, 3, 1), (3, 18, 3, 2), (6, 108, 3, 2), (3, 21, 3, 3), (2, 41, 3, 3), (6, 99, 3, 3), (3, 24, 3, 4), (5, 56, 3, 4), (6, 130, 3, 4), (3, 27, 3, 5), (2, 33, 3, 5), (5, 42, 3, 5), (6, 86, 3, 5), (3, 31, 3, 6), (5, 34, 3, 6), (8, 114, 3, 6), (5, 12, 5, 0), (2, 27, 5, 0), (8, 71, 5, 0), (6, 78, 5, 0), (5, 18, 5, 1), (8, 120, 5, 1), (5, 22, 5, 2), (5, 26, 5, 3), (2, 9, 2, 0), (2, 15, 2, 1), (2, 23, 2, 2), (8, 204, 2, 2), (6, 9, 6, 0), (6, 15, 6, 1), (6, 19, 6, 2), (8, 201, 6, 2), (1, 9, 1, 0), (2, 77, 1, 0), (1, 15, 1, 1), (6, 39, 1, 1), (8, 198, 1, 1), (1, 19, 1, 2), (6, 59, 1, 2), (4, 61, 1, 2), (8, 192, 1, 2), (1, 22, 1, 3), (6, 34, 1, 3), (0, 30, 1, 3), (7, 41, 1, 3), (4, 65, 1, 3), (8, 128, 1, 3), (2, 60, 1, 3), (1, 26, 1, 4), (0, 23, 1, 4), (6, 50, 1, 4), (7, 34, 1, 4), (8, 141, 1, 4), (1, 29, 1, 5), (4, 46, 1, 5), (1, 32, 1, 6), (4, 31, 1, 6), (0, 13, 0, 0), (8, 166, 0, 0), (0, 19, 0, 1), (8, 99, 0, 1), (4, 13, 4, 0), (8, 216, 4, 0), (4, 19, 4, 1), (8, 215, 4, 1), (7, 13, 7, 0), (8, 224, 7, 0), (7, 22, 7, 1), (7, 26, 7, 2), (8, 177, 7, 2), (8, 12, 8, 0), (8, 21, 8, 1), (8, 28, 8, 2), (8, 35, 8, 3), (8, 42, 8, 4), (8, 49, 8, 5), (8, 56, 8, 6), (8, 60, 8, 7), (8, 63, 8, 8), (9, 7, 9, 0), (9, 13, 9, 1), (9, 16, 9, 2), (9, 19, 9, 3), (9, 22, 9, 4), (9, 26, 9, 5), (9, 29, 9, 6), (9, 32, 9, 7), (9, 35, 9, 8), (9, 71, 9, 9), (9, 89, 9, 10), (9, 198, 9, 11), (9, 236, 9, 12), (9, 168, 9, 13), (9, 64, 9, 14), (9, 38, 9, 15), (9, 41, 9, 16), (9, 45, 9, 17), (9, 48, 9, 18), (9, 51, 9, 19), (9, 54, 9, 20), (9, 57, 9, 21)]
def xcalL : List (Nat × Nat × Nat × Nat) := [(10, 15, 0, 1), (8, 18, 3, 1), (10, 21, 10, 5), (8, 67, 11, 1), (8, 75, 12, 4), (3, 35, 13, 4), (3, 39, 14, 1), (3, 43, 15, 1), (10, 26, 16, 0), (8, 81, 17, 0), (5, 30, 18, 1), (3, 46, 19, 1), (5, 38, 20, 1), (5, 45, 19, 1), (5, 49, 21, 1), (3, 55, 22, 1), (3, 59, 23, 2), (3, 49, 24, 2), (5, 52, 25, 3), (5, 59, 23, 2), (8, 84, 26, 1), (8, 88, 27, 1), (8, 92, 28, 1), (2, 46, 29, 1), (2, 63, 30, 2), (2, 50, 31, 0), (2, 54, 32, 5), (8, 96, 33, 1), (8, 208, 34, 2), (6, 23, 35, 2), (6, 31, 36, 2), (6, 44, 37, 3), (6, 66, 38, 2), (6, 74, 39, 1), (6, 82, 40, 1), (6, 104, 41, 2), (6, 111, 42, 3), (6, 115, 19, 1), (6, 118, 43, 2), (6, 124, 44, 1), (6, 133, 45, 2), (6, 121, 23, 2), (6, 53, 46, 0), (6, 62, 47, 2), (6, 137, 48, 2), (6, 141, 50, 1), (8, 212, 51, 1), (0, 33, 52, 1), (1, 35, 53, 1), (8, 103, 54, 1), (8, 107, 55, 1), (4, 23, 56, 2), (4, 53, 57, 2), (4, 57, 58, 4), (4, 68, 59, 3), (4, 27, 60, 3), (4, 72, 61, 2), (4, 36, 62, 1), (4, 75, 63, 2), (4, 40, 24, 2), (8, 110, 46, 0), (10, 31, 64, 1), (10, 36, 65, 2), (8, 117, 66, 1), (8, 124, 49, 2), (10, 41, 67, 4), (8, 131, 68, 1), (8, 134, 32, 5), (10, 46, 69, 0), (8, 138, 52, 1), (10, 50, 70, 0), (8, 142, 71, 0), (8, 146, 29, 1), (8, 219, 24, 2), (8, 149, 72, 4), (1, 45, 24, 2), (1, 51, 38, 2), (8, 153, 73, 1), (2, 67, 74, 1), (2, 71, 75, 1), (2, 74, 76, 2), (8, 156, 77, 1), (10, 54, 78, 0), (8, 161, 79, 0), (8, 164, 80, 0), (7, 30, 81, 2), (8, 170, 82, 4), (7, 37, 52, 1), (7, 44, 83, 1), (7, 48, 53, 1), (7, 51, 75, 1), (7, 55, 34, 2), (8, 174, 84, 0), (10, 58, 85, 0), (10, 62, 86, 0), (10, 66, 87, 0), (10, 70, 88, 1), (8, 180, 89, 1), (10, 75, 90, 3), (8, 183, 91, 1), (8, 186, 38, 2), (10, 80, 92, 1), (10, 84, 93, 2), (10, 89, 94, 2), (10, 93, 95, 0), (10, 97, 96, 0), (10, 9, 97, 2), (10, 20, 98, 1), (10, 25, 99, 5), (9, 75, 100, 3), (10, 35, 101, 1), (10, 40, 102, 2), (9, 96, 103, 1), (10, 45, 104, 4), (9, 137, 105, 4), (9, 140, 106, 4), (10, 61, 107, 0), (10, 65, 108, 0), (9, 174, 107, 0), (10, 30, 109, 0), (9, 204, 110, 1), (9, 79, 111, 2), (9, 68, 112, 3), (9, 207, 113, 1), (9, 93, 114, 3), (9, 86, 115, 3), (9, 83, 116, 3), (9, 210, 117, 1), (9, 145, 118, 1), (9, 159, 119, 2), (9, 151, 120, 0), (9, 148, 121, 1), (9, 201, 122, 1), (9, 165, 123, 1), (9, 129, 124, 1), (9, 118, 125, 3), (9, 121, 126, 1), (9, 125, 127, 1), (9, 108, 128, 2), (9, 100, 129, 4), (9, 171, 130, 2), (9, 213, 131, 1), (9, 180, 108, 0), (9, 183, 132, 1), (9, 186, 133, 2), (9, 189, 134, 2), (9, 177, 135, 3), (9, 192, 136, 1), (9, 195, 137, 2), (10, 49, 138, 0), (10, 53, 139, 0), (9, 220, 140, 0), (9, 223, 141, 5), (9, 216, 142, 6), (9, 227, 143, 1), (9, 155, 144, 2), (9, 162, 145, 2), (9, 230, 146, 1), (10, 57, 147, 0), (9, 239, 148, 1), (9, 242, 149, 2), (9, 233, 150, 2), (10, 69, 151, 0), (10, 74, 152, 1), (9, 245, 153, 1), (10, 79, 154, 3), (10, 83, 155, 1), (10, 88, 156, 2), (10, 92, 157, 2), (10, 96, 158, 0), (10, 101, 159, 0)]
def xcalN : List (Nat × Nat × Nat × Nat) := [(8, 11, 1, 0), (5, 11, 2, 0), (8, 27, 4, 0), (8, 34, 5, 0), (0, 9, 6, 1), (8, 55, 7, 0), (8, 41, 8, 0), (4, 9, 6, 1), (8, 48, 9, 0), (7, 9, 6, 1), (7, 21, 7, 0), (6, 70, 11, 1), (6, 147, 49, 2), (0, 26, 49, 2), (4, 49, 49, 2), (2, 80, 11, 1), (7, 61, 49, 2)]
def xcalT : List (Nat × Nat × Nat × Nat) := xcalL ++ xcalN
def xnatT : List (Nat × Nat × Nat) := [(8, 3, 0), (5, 3, 0), (3, 3, 0), (2, 3, 0), (6, 3, 0), (0, 3, 0), (1, 3, 0), (4, 3, 0), (7, 3, 0), (1, 39, 7), (9, 1, 0)]
def xnwcT : List (Nat × Nat × Nat) := [(10, 7, 8), (8, 9, 5), (5, 9, 3), (8, 16, 2), (8, 25, 6), (8, 32, 0), (8, 53, 1), (8, 39, 4), (8, 46, 7), (7, 19, 1), (10, 18, 9)]
def xanwT : List (Nat × Nat × Nat) := [(5, 9, 1), (8, 53, 0), (7, 19, 0)]
def xcstT : List (Nat × Nat × Value) := [(2, 19, .long (25214903917)), (2, 21, .long (281474976710655)), (2, 44, .long (11)), (6, 29, .long (8589934592)), (6, 42, .long (4294967296)), (6, 97, .long (4294967298)), (6, 102, .long (4294967297)), (6, 48, .long (4294967299)), (6, 145, .long (549755813888)), (13, 265, .int (1431655765)), (13, 266, .int (858993459)), (13, 267, .int (252645135)), (8, 190, .long (-1)), (8, 196, .long (4294967300)), (9, 60, .long (25214903917)), (9, 62, .long (281474976710655)), (9, 143, .long (11)), (9, 116, .long (-1)), (9, 114, .long (4294967296)), (9, 104, .long (4294967298)), (9, 106, .long (4294967297)), (9, 112, .long (4294967299)), (9, 133, .long (8589934592)), (9, 135, .long (549755813888)), (9, 248, .long (4294967300))]
def xfind {α : Type} (T : List (Nat × Nat × α)) (c i : Nat) : Option α := (T.find? (fun q => q.1 == c && q.2.1 == i)).map (fun q => q.2.2)
def xfld (c i : Nat) : Option (Nat × Nat) := xfind xfldT c i
def xcal (c i : Nat) : Option (Nat × Nat) := xfind xcalT c i
def xnat (c i : Nat) : Option (Nat) := xfind xnatT c i
def xnwc (c i : Nat) : Option (Nat) := xfind xnwcT c i
def xanw (c i : Nat) : Option (Nat) := xfind xanwT c i
def xcst (c i : Nat) : Option (Value) := xfind xcstT c i
def xpok (k ci j : Nat) : Bool := match xcls[ci]? with
  | some (_, T, _) => !(T j).2.2.2 || ((xyn k).name == "<init>" && xkc k == ci)
  | none => false
def xnest : List Cond := lw_tbl.filter (fun w => match w with
  | .methodLinkNest _ _ _ _ => true
  | _ => false)
def xgood : List Cond := lw_tbl.filter goodWord
end
section
/-! The small machine in which this claim is walked: a memory of three tables (ints, longs, references), locals by their places, the method's number. -/
abbrev XH : Type := Nat × Nat × (Nat → Nat × Nat) × (Nat → Nat → Int32) × (Nat → Nat → Int64) × (Nat → Nat → Option Nat)
abbrev XL : Type := List (Option Value)
abbrev XS : Type := Nat × (Nat → Int32)
def xhz (h : XH) : Nat := h.1
def xhs (h : XH) : Nat := h.2.1
def xhk (h : XH) : Nat → Nat × Nat := h.2.2.1
def xhI (h : XH) : Nat → Nat → Int32 := h.2.2.2.1
def xhJ (h : XH) : Nat → Nat → Int64 := h.2.2.2.2.1
def xhR (h : XH) : Nat → Nat → Option Nat := h.2.2.2.2.2
def xu {α : Type} (f : Nat → Nat → α) (a i : Nat) (v : α) : Nat → Nat → α := fun x y => if x = a ∧ y = i then v else f x y
def xrow {α : Type} (f : Nat → Nat → α) (a : Nat) (g : Nat → α) : Nat → Nat → α := fun x y => if x = a then g y else f x y
def xsI (h : XH) (f : Nat → Nat → Int32) : XH := (xhz h, xhs h, xhk h, f, xhJ h, xhR h)
def xsJ (h : XH) (f : Nat → Nat → Int64) : XH := (xhz h, xhs h, xhk h, xhI h, f, xhR h)
def xsR (h : XH) (f : Nat → Nat → Option Nat) : XH := (xhz h, xhs h, xhk h, xhI h, xhJ h, f)
def xnew (h : XH) (t n : Nat) : XH := (xhz h + 1, xhs h + n, (fun x => if x = xhz h then (t, n) else xhk h x), xrow (xhI h) (xhz h) (fun _ => 0), xrow (xhJ h) (xhz h) (fun _ => 0), xrow (xhR h) (xhz h) (fun _ => none))
-- locals
def xcat2 : Option Value → Bool
  | some v => v.category == 2
  | none => false
def xst1 : XL → Nat → Value → XL
  | [], _, _ => []
  | _ :: L, 0, v => some v :: L
  | x :: L, 1, v => (if xcat2 x then none else x) :: xst1 L 0 v
  | x :: L, i + 2, v => x :: xst1 L (i + 1) v
def xst2 : XL → Nat → Value → XL
  | _ :: _ :: L, 0, v => some v :: none :: L
  | x :: L, 1, v => (if xcat2 x then none else x) :: xst2 L 0 v
  | x :: L, i + 2, v => x :: xst2 L (i + 1) v
  | L, _, _ => L
def xld (L : XL) (i : Nat) : Option Value := (L[i]?).bind id
def xent : List Value → Nat → XL
  | _, 0 => []
  | [], n + 1 => none :: xent [] n
  | v :: vs, n + 1 => if v.category = 2 then (match n with | 0 => [none] | n + 1 => some v :: none :: xent vs n) else some v :: xent vs n
def xwid (vs : List Value) : Nat := (vs.map fun v => v.category).sum
-- fields
def xfv (ty : FieldType) (I : Nat → Int32) (J : Nat → Int64) (R : Nat → Option Nat) (j : Nat) : Value := match ty with
  | .long => .long (J j)
  | .object _ => va_rf (R j)
  | .array _ => va_rf (R j)
  | _ => .int (I j)
def xfp (ty : FieldType) (h : XH) (a j : Nat) (v : Value) : Option XH := match ty with
  | .int => (match v with | .int x => some (xsI h (xu (xhI h) a j x)) | _ => none)
  | .boolean => (match v with | .int x => if x = 0 ∨ x = 1 then some (xsI h (xu (xhI h) a j x)) else none | _ => none)
  | .long => (match v with | .long x => some (xsJ h (xu (xhJ h) a j x)) | _ => none)
  | .object _ => (match v with | .ref r => some (xsR h (xu (xhR h) a j (some r))) | .null => some (xsR h (xu (xhR h) a j none)) | _ => none)
  | .array _ => (match v with | .ref r => some (xsR h (xu (xhR h) a j (some r))) | .null => some (xsR h (xu (xhR h) a j none)) | _ => none)
  | _ => none
-- instructions on the stack alone
def xi1 (f : Int32 → Int32) : List Value → Option (List Value)
  | .int x :: r => some (.int (f x) :: r)
  | _ => none
def xi2 (f : Int32 → Int32 → Int32) : List Value → Option (List Value)
  | .int y :: .int x :: r => some (.int (f x y) :: r)
  | _ => none
def xi2z (f : Int32 → Int32 → Int32) : List Value → Option (List Value)
  | .int y :: .int x :: r => if y = 0 then none else some (.int (f x y) :: r)
  | _ => none
def xj1 (f : Int64 → Int64) : List Value → Option (List Value)
  | .long x :: r => some (.long (f x) :: r)
  | _ => none
def xj2 (f : Int64 → Int64 → Int64) : List Value → Option (List Value)
  | .long y :: .long x :: r => some (.long (f x y) :: r)
  | _ => none
def xj2z (f : Int64 → Int64 → Int64) : List Value → Option (List Value)
  | .long y :: .long x :: r => if y = 0 then none else some (.long (f x y) :: r)
  | _ => none
def xji (f : Int64 → Int32 → Int64) : List Value → Option (List Value)
  | .int y :: .long x :: r => some (.long (f x y) :: r)
  | _ => none
def xi2l : List Value → Option (List Value)
  | .int x :: r => some (.long x.toInt64 :: r)
  | _ => none
def xl2i : List Value → Option (List Value)
  | .long x :: r => some (.int x.toInt32 :: r)
  | _ => none
def xlcmp : List Value → Option (List Value)
  | .long y :: .long x :: r => some (.int (lg_cmp x y) :: r)
  | _ => none
def xdup : List Value → Option (List Value)
  | v :: r => if v.category = 1 then some (v :: v :: r) else none
  | _ => none
def xpop : List Value → Option (List Value)
  | v :: r => if v.category = 1 then some r else none
  | _ => none
def xpop2 : List Value → Option (List Value)
  | v :: r => if v.category = 2 then some r else (match r with | w :: r => if w.category = 1 then some r else none | _ => none)
  | _ => none
def xdupx1 : List Value → Option (List Value)
  | v :: w :: r => if v.category = 1 ∧ w.category = 1 then some (v :: w :: v :: r) else none
  | _ => none
def xdupx2 : List Value → Option (List Value)
  | v :: w :: u :: r => if v.category = 1 ∧ w.category = 1 ∧ u.category = 1 then some (v :: w :: u :: v :: r) else none
  | _ => none
def xdup2 : List Value → Option (List Value)
  | v :: r => if v.category = 2 then some (v :: v :: r) else (match r with | w :: r => if w.category = 1 then some (v :: w :: v :: w :: r) else none | _ => none)
  | _ => none
def xdup2x1 : List Value → Option (List Value)
  | v :: w :: r => if v.category = 2 ∧ w.category = 1 then some (v :: w :: v :: r) else none
  | _ => none
def xdup2x2 : List Value → Option (List Value)
  | v :: w :: u :: r => if v.category = 2 ∧ w.category = 1 ∧ u.category = 1 then some (v :: w :: u :: v :: r) else none
  | _ => none
def xop (i : Instr) (st : List Value) : Option (List Value) := match i with
  | .iconst n => some (.int (Int32.ofInt n) :: st)
  | .bipush n => some (.int (Int8.ofInt n).toInt32 :: st)
  | .sipush n => some (.int (Int16.ofInt n).toInt32 :: st)
  | .lconst n => some (.long (Int64.ofNat n) :: st)
  | .aconst_null => some (.null :: st)
  | .iadd => xi2 (fun x y => x + y) st
  | .isub => xi2 (fun x y => x - y) st
  | .imul => xi2 (fun x y => x * y) st
  | .iand => xi2 (fun x y => x &&& y) st
  | .ior => xi2 (fun x y => x ||| y) st
  | .ixor => xi2 (fun x y => x ^^^ y) st
  | .ishl => xi2 (fun x y => x <<< (y &&& 31)) st
  | .ishr => xi2 (fun x y => x >>> (y &&& 31)) st
  | .iushr => xi2 (fun x y => (x.toUInt32 >>> (y.toUInt32 &&& Int32.toUInt32 31)).toInt32) st
  | .idiv => xi2z (fun x y => x / y) st
  | .irem => xi2z (fun x y => x - x / y * y) st
  | .ineg => xi1 (fun x => -x) st
  | .ladd => xj2 (fun x y => x + y) st
  | .lsub => xj2 (fun x y => x - y) st
  | .lmul => xj2 (fun x y => x * y) st
  | .land => xj2 (fun x y => x &&& y) st
  | .lor => xj2 (fun x y => x ||| y) st
  | .lxor => xj2 (fun x y => x ^^^ y) st
  | .ldiv => xj2z (fun x y => x / y) st
  | .lrem => xj2z (fun x y => x - x / y * y) st
  | .lneg => xj1 (fun x => -x) st
  | .lshl => xji (fun x y => x <<< (y.toInt64 &&& 63)) st
  | .lshr => xji (fun x y => x >>> (y.toInt64 &&& 63)) st
  | .lushr => xji (fun x y => (x.toUInt64 >>> (y.toInt64.toUInt64 &&& Int64.toUInt64 63)).toInt64) st
  | .i2l => xi2l st
  | .l2i => xl2i st
  | .lcmp => xlcmp st
  | .dup => xdup st
  | .pop => xpop st
  | .pop2 => xpop2 st
  | .dup_x1 => xdupx1 st
  | .dup_x2 => xdupx2 st
  | .dup2 => xdup2 st
  | .dup2_x1 => xdup2x1 st
  | .dup2_x2 => xdup2x2 st
  | _ => none
end
section
-- jumps
def xtg (pc : Nat) (off : Int) : Option Nat := if 0 ≤ (pc : Int) + off then some ((pc : Int) + off).toNat else none
def xcnd (c : ClassFile.Cond) (x y : Int32) : Bool := match c with
  | .eq => decide (x = y)
  | .ne => decide (¬ x = y)
  | .lt => decide (x < y)
  | .ge => decide (y ≤ x)
  | .gt => decide (y < x)
  | .le => decide (x ≤ y)
def xrf : Value → Option (Option Nat)
  | .null => some none
  | .ref a => some (some a)
  | _ => none
def xjc (b : Bool) (pc : Nat) (off : Int) (r : List Value) : Option (Nat × List Value) := match xtg pc off with
  | none => none
  | some t => if b = true then some (t, r) else some (pc + 3, r)
def xjif (c : ClassFile.Cond) (pc : Nat) (off : Int) : List Value → Option (Nat × List Value)
  | .int x :: r => xjc (xcnd c x 0) pc off r
  | _ => none
def xjcmp (c : ClassFile.Cond) (pc : Nat) (off : Int) : List Value → Option (Nat × List Value)
  | .int y :: .int x :: r => xjc (xcnd c x y) pc off r
  | _ => none
def xjnull (b : Bool) (pc : Nat) (off : Int) : List Value → Option (Nat × List Value)
  | .null :: r => xjc b pc off r
  | .ref _ :: r => xjc (!b) pc off r
  | _ => none
def xjacmp (b : Bool) (pc : Nat) (off : Int) : List Value → Option (Nat × List Value)
  | y :: x :: r => (match xrf x, xrf y with
    | some rx, some ry => xjc (decide (rx = ry) == b) pc off r
    | _, _ => none)
  | _ => none
def xjtab (d lo hi : Int) (offs : Array Int) (pc : Nat) : List Value → Option (Nat × List Value)
  | .int x :: r => if x.toInt < lo ∨ hi < x.toInt then (xtg pc d).map (fun t => (t, r)) else (match offs[(x.toInt - lo).toNat]? with
    | some off => (xtg pc off).map (fun t => (t, r))
    | none => none)
  | _ => none
def xjlook (d : Int) (ps : Array (Int × Int)) (pc : Nat) : List Value → Option (Nat × List Value)
  | .int x :: r => if (ps.toList.zip (ps.toList.drop 1)).all (fun (a, next) => a.1 < next.1) = true then (xtg pc (Op.lookupswitch.offset ps.toList d x.toInt)).map (fun t => (t, r)) else none
  | _ => none
def xjmp (i : Instr) (len pc : Nat) (st : List Value) : Option (Nat × List Value) := match i with
  | .goto off => if len = 3 then (xtg pc off).map (fun t => (t, st)) else none
  | .ifCond c off => if len = 3 then xjif c pc off st else none
  | .if_icmp c off => if len = 3 then xjcmp c pc off st else none
  | .ifnull off => if len = 3 then xjnull true pc off st else none
  | .ifnonnull off => if len = 3 then xjnull false pc off st else none
  | .if_acmp c off => if len = 3 then xjacmp (match c with | .eq => true | .ne => false) pc off st else none
  | .tableswitch d lo hi offs => xjtab d lo hi offs pc st
  | .lookupswitch d ps => xjlook d ps pc st
  | _ => none
-- locals
def xlI (L : XL) (i : Nat) (st : List Value) : Option (XL × List Value) := match xld L i with
  | some (.int x) => some (L, .int x :: st)
  | _ => none
def xlJ (L : XL) (i : Nat) (st : List Value) : Option (XL × List Value) := match xld L i with
  | some (.long x) => some (L, .long x :: st)
  | _ => none
def xlA (L : XL) (i : Nat) (st : List Value) : Option (XL × List Value) := match xld L i with
  | some (.ref x) => some (L, .ref x :: st)
  | some .null => some (L, .null :: st)
  | _ => none
def xsI1 (L : XL) (i : Nat) : List Value → Option (XL × List Value)
  | .int x :: r => if i < L.length then some (xst1 L i (.int x), r) else none
  | _ => none
def xsJ1 (L : XL) (i : Nat) : List Value → Option (XL × List Value)
  | .long x :: r => if i + 1 < L.length then some (xst2 L i (.long x), r) else none
  | _ => none
def xsA1 (L : XL) (i : Nat) : List Value → Option (XL × List Value)
  | .ref x :: r => if i < L.length then some (xst1 L i (.ref x), r) else none
  | .null :: r => if i < L.length then some (xst1 L i .null, r) else none
  | _ => none
def xinc (L : XL) (i : Nat) (n : Int) (st : List Value) : Option (XL × List Value) := match xld L i with
  | some (.int x) => if i < L.length then some (xst1 L i (.int (x + Int32.ofInt n)), st) else none
  | _ => none
def xloc (i : Instr) (L : XL) (st : List Value) : Option (XL × List Value) := match i with
  | .iload i => xlI L i st
  | .iload_n i => xlI L i st
  | .lload i => xlJ L i st
  | .lload_n i => xlJ L i st
  | .aload i => xlA L i st
  | .aload_n i => xlA L i st
  | .istore i => xsI1 L i st
  | .istore_n i => xsI1 L i st
  | .lstore i => xsJ1 L i st
  | .lstore_n i => xsJ1 L i st
  | .astore i => xsA1 L i st
  | .astore_n i => xsA1 L i st
  | .iinc i n => xinc L i n st
  | _ => none
def xlen : Instr → Nat
  | .bipush _ => 2
  | .sipush _ => 3
  | .iload _ => 2
  | .lload _ => 2
  | .aload _ => 2
  | .istore _ => 2
  | .lstore _ => 2
  | .astore _ => 2
  | .iinc _ _ => 3
  | .ldc _ => 2
  | .ldc_w _ => 3
  | .ldc2_w _ => 3
  | .getfield _ => 3
  | .putfield _ => 3
  | .new _ => 3
  | .newarray _ => 2
  | .anewarray _ => 3
  | .invokespecial _ => 3
  | .invokestatic _ => 3
  | .invokevirtual _ => 3
  | .checkcast _ => 3
  | _ => 1
end
section
-- memory
def xkd (h : XH) (a : Nat) : Nat × Nat := if 1 ≤ a ∧ a < xhz h then xhk h a else (999, 0)
def xgetf (k idx : Nat) (h : XH) : List Value → Option (List Value × XH)
  | .ref a :: r => (match xfld (xkc k) idx with
    | some (ci, j) => if xkd h a = (ci, xnf ci) then some (xfv (xft ci j) (xhI h a) (xhJ h a) (xhR h a) j :: r, h) else none
    | none => none)
  | _ => none
def xputf (k idx : Nat) (h : XH) : List Value → Option (List Value × XH)
  | v :: .ref a :: r => (match xfld (xkc k) idx with
    | some (ci, j) => if xkd h a = (ci, xnf ci) ∧ xpok k ci j = true then (xfp (xft ci j) h a j v).map (fun h' => (r, h')) else none
    | none => none)
  | _ => none
def xin (i : Int32) (n : Nat) : Prop := ¬ (i < 0 ∨ n ≤ i.toNatClampNeg)
def xinb (i : Int32) (n : Nat) : Bool := decide (¬ (i < 0 ∨ n ≤ i.toNatClampNeg))
def xiald (S : XS) (h : XH) : List Value → Option (List Value × XH)
  | .int i :: .ref a :: r => if a = 0 then (if xinb i S.1 = true then some (.int (S.2 i.toNatClampNeg) :: r, h) else none)
    else if (xkd h a).1 = 100 ∧ xinb i (xkd h a).2 = true then some (.int (xhI h a i.toNatClampNeg) :: r, h) else none
  | _ => none
def xjald (h : XH) : List Value → Option (List Value × XH)
  | .int i :: .ref a :: r => if (xkd h a).1 = 101 ∧ xinb i (xkd h a).2 = true then some (.long (xhJ h a i.toNatClampNeg) :: r, h) else none
  | _ => none
def xzald (h : XH) : List Value → Option (List Value × XH)
  | .int i :: .ref a :: r => if (xkd h a).1 = 102 ∧ xinb i (xkd h a).2 = true then some (.int (xhI h a i.toNatClampNeg) :: r, h) else none
  | _ => none
def xaald (h : XH) : List Value → Option (List Value × XH)
  | .int i :: .ref a :: r => if 103 ≤ (xkd h a).1 ∧ (xkd h a).1 < 103 + xnq ∧ xinb i (xkd h a).2 = true then some (va_rf (xhR h a i.toNatClampNeg) :: r, h) else none
  | _ => none
def xiast (h : XH) : List Value → Option (List Value × XH)
  | .int x :: .int i :: .ref a :: r => if (xkd h a).1 = 100 ∧ xinb i (xkd h a).2 = true then some (r, xsI h (xu (xhI h) a i.toNatClampNeg x)) else none
  | _ => none
def xjast (h : XH) : List Value → Option (List Value × XH)
  | .long x :: .int i :: .ref a :: r => if (xkd h a).1 = 101 ∧ xinb i (xkd h a).2 = true then some (r, xsJ h (xu (xhJ h) a i.toNatClampNeg x)) else none
  | _ => none
def xzast (h : XH) : List Value → Option (List Value × XH)
  | .int x :: .int i :: .ref a :: r => if (xkd h a).1 = 102 ∧ xinb i (xkd h a).2 = true ∧ (x = 0 ∨ x = 1) then some (r, xsI h (xu (xhI h) a i.toNatClampNeg x)) else none
  | _ => none
def xaast (h : XH) : List Value → Option (List Value × XH)
  | .ref v :: .int i :: .ref a :: r => if 103 ≤ (xkd h a).1 ∧ (xkd h a).1 < 103 + xnq ∧ xinb i (xkd h a).2 = true ∧ xkd h v = (xqc ((xkd h a).1 - 103), xnf (xqc ((xkd h a).1 - 103))) then some (r, xsR h (xu (xhR h) a i.toNatClampNeg (some v))) else none
  | .null :: .int i :: .ref a :: r => if 103 ≤ (xkd h a).1 ∧ (xkd h a).1 < 103 + xnq ∧ xinb i (xkd h a).2 = true then some (r, xsR h (xu (xhR h) a i.toNatClampNeg none)) else none
  | _ => none
def xalen (S : XS) (h : XH) : List Value → Option (List Value × XH)
  | .ref a :: r => if a = 0 then some (.int (Int32.ofNat S.1) :: r, h) else if 100 ≤ (xkd h a).1 ∧ (xkd h a).1 < 103 + xnq then some (.int (Int32.ofNat (xkd h a).2) :: r, h) else none
  | _ => none
def xnwa (t : Nat) (h : XH) : List Value → Option (List Value × XH)
  | .int n :: r => if ¬ n < 0 ∧ n.toNatClampNeg ≤ 1000000 then some (.ref (xhz h) :: r, xnew h (100 + t) n.toNatClampNeg) else none
  | _ => none
def xnwo (ci : Nat) (h : XH) (st : List Value) : Option (List Value × XH) := some (.ref (xhz h) :: st, xnew h ci (xnf ci))
def xldc (k idx : Nat) (h : XH) (st : List Value) : Option (List Value × XH) := (xcst (xkc k) idx).bind (fun v => match v with
  | .int x => some (.int x :: st, h)
  | _ => none)
def xldc2 (k idx : Nat) (h : XH) (st : List Value) : Option (List Value × XH) := (xcst (xkc k) idx).bind (fun v => match v with
  | .long x => some (.long x :: st, h)
  | _ => none)
def xmem (S : XS) (k : Nat) (i : Instr) (st : List Value) (h : XH) : Option (List Value × XH) := match i with
  | .getfield idx => xgetf k idx h st
  | .putfield idx => xputf k idx h st
  | .iaload => xiald S h st
  | .laload => xjald h st
  | .baload => xzald h st
  | .aaload => xaald h st
  | .iastore => xiast h st
  | .lastore => xjast h st
  | .bastore => xzast h st
  | .aastore => xaast h st
  | .arraylength => xalen S h st
  | .newarray t => (match t with
    | .int => xnwa 0 h st
    | .long => xnwa 1 h st
    | .boolean => xnwa 2 h st
    | _ => none)
  | .anewarray idx => (xanw (xkc k) idx).bind (fun t => xnwa (3 + t) h st)
  | .new idx => (xnwc (xkc k) idx).bind (fun ci => xnwo ci h st)
  | .ldc idx => xldc k idx h st
  | .ldc_w idx => xldc k idx h st
  | .ldc2_w idx => xldc2 k idx h st
  | _ => none
-- members of the JDK that are done at once
def xcpy (h : XH) : List Value → Option (List Value × XH)
  | .int n :: .int dp :: .ref a :: .int sp :: .ref a0 :: r => if xwid r ≤ 8 ∧ ¬ sp < 0 ∧ ¬ dp < 0 ∧ ¬ n < 0 ∧ sp.toNatClampNeg + n.toNatClampNeg ≤ (xkd h a0).2 ∧ dp.toNatClampNeg + n.toNatClampNeg ≤ (xkd h a).2 then
      (if (xkd h a0).1 = 100 ∧ (xkd h a).1 = 100 then some (r, xsI h (xrow (xhI h) a (va_cpy (xhI h a0) (xhI h a) sp.toNatClampNeg dp.toNatClampNeg n.toNatClampNeg)))
      else if (xkd h a0).1 = 101 ∧ (xkd h a).1 = 101 then some (r, xsJ h (xrow (xhJ h) a (va_cpy (xhJ h a0) (xhJ h a) sp.toNatClampNeg dp.toNatClampNeg n.toNatClampNeg)))
      else none) else none
  | _ => none
def xn0 : List Value → Option (List Value)
  | .ref _ :: r => if xwid r ≤ 8 then some r else none
  | _ => none
def xnatS (t : Nat) (h : XH) (st : List Value) : Option (List Value × XH) := if t = 7 then xcpy h st else none
def xnatv (d k : Nat) (i : Instr) (st : List Value) (h : XH) : Option (List Value × XH) := if d = 0 then none else match i with
  | .invokespecial idx => if xnat (xkc k) idx = some 0 then (xn0 st).map (fun r => (r, h)) else none
  | .invokestatic idx => (xnat (xkc k) idx).bind (fun t => xnatS t h st)
  | _ => none
def x1 (S : XS) (d k : Nat) (i : Instr) (len pc : Nat) (L : XL) (st : List Value) (h : XH) : Option (Nat × XL × List Value × XH) := match xjmp i len pc st with
  | some q => some (q.1, L, q.2, h)
  | none => if len = xlen i then (match xop i st with
    | some st' => some (pc + len, L, st', h)
    | none => match xloc i L st with
      | some q => some (pc + len, q.1, q.2, h)
      | none => match xmem S k i st h with
        | some q => some (pc + len, L, q.1, q.2)
        | none => match xnatv d k i st h with
          | some q => some (pc + len, L, q.1, q.2)
          | none => none) else none
def xret (k : Nat) (i : Instr) (len : Nat) (st : List Value) : Option (Option Value) := if len = 1 then (match i with
  | .return_ => if xrty k = none ∧ st = [] then some none else none
  | .ireturn => (match st with
    | [.int x] => if xrty k = some .int ∨ (xrty k = some .boolean ∧ (x = 0 ∨ x = 1)) then some (some (.int x)) else none
    | _ => none)
  | .lreturn => (match st with
    | [.long x] => if xrty k = some .long then some (some (.long x)) else none
    | _ => none)
  | .areturn => (match st with
    | [.ref x] => if xrob k = true then some (some (.ref x)) else none
    | [.null] => if xrob k = true then some (some .null) else none
    | _ => none)
  | _ => none) else none
def xcall (k : Nat) (i : Instr) (len : Nat) (st : List Value) (h : XH) : Option (Nat × List Value × List Value) := if len = 3 then (match i with
  | .invokestatic idx => (match xcal (xkc k) idx with
    | some (y, n) => if xmk y = 0 ∧ n ≤ st.length ∧ xwid (st.drop n) ≤ 8 ∧ xwid (st.take n).reverse ≤ xml y then some (y, (st.take n).reverse, st.drop n) else none
    | none => none)
  | .invokevirtual idx => (match xcal (xkc k) idx with
    | some (y, n) => (match st.drop n with
      | .ref a :: r => if xmk y = 1 ∧ xwid r ≤ 8 ∧ xkd h a = (xkc y, xnf (xkc y)) ∧ n ≤ st.length ∧ xwid (.ref a :: (st.take n).reverse) ≤ xml y then some (y, .ref a :: (st.take n).reverse, r) else none
      | _ => none)
    | none => none)
  | .invokespecial idx => (match xcal (xkc k) idx with
    | some (y, n) => (match st.drop n with
      | .ref a :: r => if xmk y = 2 ∧ xwid r ≤ 8 ∧ n ≤ st.length ∧ xwid (.ref a :: (st.take n).reverse) ≤ xml y then some (y, .ref a :: (st.take n).reverse, r) else none
      | _ => none)
    | none => none)
  | _ => none) else none
def xrun (S : XS) : Nat → Nat → Nat → Nat → XL → List Value → XH → Option (Option Value × XH)
  | 0, _, _, _, _, _, _ => none
  | n + 1, d, k, pc, L, st, h => match decode (xcode k) pc with
    | .error _ => none
    | .ok (i, len) => match xret k i len st with
      | some r => some (r, h)
      | none => match xcall k i len st h with
        | some (y, as, r) => if d = 0 then none else (match xrun S n (d - 1) y 0 (xent as (xml y)) [] h with
          | none => none
          | some (v, h') => xrun S n d k (pc + 3) L (v.toList ++ r) h')
        | none => match x1 S d k i len pc L st h with
          | none => none
          | some (pc', L', st', h') => xrun S n d k pc' L' st' h'
theorem xnatv_mono {d d' k : Nat} {i : Instr} {st : List Value} {h : XH} {q : List Value × XH} (hd : d ≤ d') (e : xnatv d k i st h = some q) : xnatv d' k i st h = some q := by
  unfold xnatv at e ⊢
  split at e
  · cases e
  · rw [if_neg (by omega)]
    exact e
theorem x1_mono {S : XS} {d d' k len pc : Nat} {i : Instr} {L : XL} {st : List Value} {h : XH} {q : Nat × XL × List Value × XH} (hd : d ≤ d') (e : x1 S d k i len pc L st h = some q) : x1 S d' k i len pc L st h = some q := by
  unfold x1 at e ⊢
  split at e
  · exact e
  · split at e
    · rename_i hl
      rw [if_pos hl]
      split at e
      · exact e
      · split at e
        · exact e
        · split at e
          · exact e
          · split at e
            · rename_i q' hq'
              rw [xnatv_mono hd hq']
              exact e
            · cases e
    · cases e
theorem xrun_mono {S : XS} : ∀ (n d k pc : Nat) (L : XL) (st : List Value) (h : XH) (q : Option Value × XH), xrun S n d k pc L st h = some q → ∀ n' d', n ≤ n' → d ≤ d' → xrun S n' d' k pc L st h = some q := by
  intro n
  induction n with
  | zero => intro d k pc L st h q e; cases e
  | succ n ih =>
    intro d k pc L st h q e n' d' hn hd
    obtain ⟨n'', rfl⟩ : ∃ n'', n' = n'' + 1 := ⟨n' - 1, by omega⟩
    simp only [xrun] at e ⊢
    split at e
    · cases e
    · split at e
      · exact e
      · split at e
        · split at e
          · cases e
          · rename_i hz
            rw [if_neg (by omega)]
            split at e
            · cases e
            · rename_i v h' hc
              rw [ih _ _ _ _ _ _ _ hc n'' (d' - 1) (by omega) (by omega)]
              exact ih _ _ _ _ _ _ _ e n'' d' (by omega) hd
        · split at e
          · cases e
          · rename_i pc' L' st' h' hc
            rw [x1_mono hd hc]
            exact ih _ _ _ _ _ _ _ e n'' d' (by omega) hd
end
section
/-! Written by a program (wip/gen/mk15.py): the small tables are the claim's. -/
theorem xpl_in {ws : List Cond} {ps : List Nat} {big : List Cond} (e : ws = ps.filterMap (fun i => big[i]?)) {w : Cond} (h : w ∈ ws) : w ∈ big := by
  rw [e] at h
  obtain ⟨i, -, hi⟩ := List.mem_filterMap.mp h
  exact List.mem_of_getElem? hi
theorem xgood_of {w : Cond} (h : w ∈ lw_tbl) (hg : goodWord w = true) : w ∈ xgood := List.mem_filter.mpr ⟨h, hg⟩
theorem xgood_t {w : Cond} (h : w ∈ tables_1) (hg : goodWord w = true) : w ∈ xgood := xgood_of (List.mem_append_right _ h) hg
theorem xfind_mem {α : Type} {T : List (Nat × Nat × α)} {c i : Nat} {v : α} (h : xfind T c i = some v) : (c, i, v) ∈ T := by
  unfold xfind at h
  cases hf : T.find? (fun q => q.1 == c && q.2.1 == i) with
  | none => rw [hf] at h; cases h
  | some q =>
    rw [hf] at h
    have h1 := List.find?_some hf
    have h2 := List.mem_of_find?_eq_some hf
    simp only [Bool.and_eq_true, beq_iff_eq] at h1
    obtain ⟨q1, q2, q3⟩ := q
    cases h
    obtain ⟨rfl, rfl⟩ := h1
    exact h2
def xTT (ci : Nat) : u_T := (xcls.getD ci ("", xT0, 0)).2.1
def xkCl_p : List Nat := [187, 189, 168, 170, 172, 174, 176, 178, 180, 102, 104, 106, 56, 58, 60, 62, 64, 66, 68, 203, 205, 80, 82, 84, 86, 119, 121, 123, 222, 224, 226, 238, 240, 242, 244, 246, 248, 250, 252, 254, 658, 660, 662, 664, 666, 668, 670, 672, 674, 676, 678, 680, 682, 684, 686, 688, 690, 692, 694, 696, 698, 700]
set_option maxRecDepth 100000 in
set_option maxHeartbeats 4000000 in
theorem xkCl_e : (List.range 10).flatMap (fun ci => u_ws (xcn ci) (xTT ci) (xnf ci)) = xkCl_p.filterMap (fun i => tables_1[i]?) := by rfl
def xkIs_p : List Nat := [128, 138, 91, 31, 193, 24, 110, 209, 16, 629]
set_option maxRecDepth 100000 in
set_option maxHeartbeats 4000000 in
theorem xkIs_e : (List.range 10).map (fun ci => Cond.instantiable (xcn ci) (xnf ci)) = xkIs_p.filterMap (fun i => tables_1[i]?) := by rfl
def xkIn_p : List Nat := [6, 7, 4, 3, 8, 2, 5, 9, 1, 10, 0, 11, 12, 14]
set_option maxRecDepth 100000 in
set_option maxHeartbeats 4000000 in
theorem xkIn_e : (List.range 14).map (fun ci => Cond.initialized (xcn ci)) = xkIn_p.filterMap (fun i => tables_1[i]?) := by rfl
def xkFl_p : List Nat := [36, 37, 38, 39, 40, 41, 42, 43, 44, 45, 46, 47, 48, 49, 50, 51, 52, 53, 54, 55, 72, 73, 74, 75, 76, 77, 78, 79, 98, 99, 100, 101, 115, 116, 117, 118, 143, 144, 145, 146, 147, 148, 149, 150, 151, 152, 153, 154, 155, 156, 157, 158, 159, 160, 161, 162, 163, 164, 165, 166, 167, 183, 184, 185, 186, 199, 200, 201, 202, 217, 218, 219, 220, 221, 229, 230, 231, 232, 233, 234, 235, 236, 237, 636, 637, 638, 639, 640, 641, 642, 643, 644, 645, 646, 647, 648, 649, 650, 651, 652, 653, 654, 655, 656, 657]
set_option maxRecDepth 100000 in
set_option maxHeartbeats 4000000 in
theorem xkFl_e : xfldT.map (fun q => Cond.fieldLink (xcn q.1) q.2.1 (xTT q.2.2.1 q.2.2.2).1 (xTT q.2.2.1 q.2.2.2).2.1 (xTT q.2.2.1 q.2.2.2).2.2.1) = xkFl_p.filterMap (fun i => tables_1[i]?) := by rfl
def xkCo_p : List Nat := [19, 27, 34, 94, 113, 131, 135, 141, 196, 212, 260, 263, 267, 270, 273, 276, 280, 284, 288, 292, 296, 301, 305, 309, 312, 315, 320, 324, 328, 332, 337, 341, 345, 349, 353, 356, 360, 365, 369, 373, 377, 383, 386, 391, 394, 397, 403, 407, 411, 414, 418, 423, 428, 432, 439, 443, 447, 452, 456, 459, 463, 466, 470, 473, 479, 483, 487, 492, 495, 500, 505, 509, 515, 521, 525, 529, 533, 537, 544, 548, 552, 556, 560, 565, 573, 577, 581, 585, 589, 593, 597, 601, 606, 610, 615, 620, 624, 627, 632, 706, 709, 713, 717, 721, 725, 729, 733, 737, 741, 746, 750, 754, 758, 762, 766, 770, 774, 778, 782, 787, 791, 795, 799, 803, 807, 812, 817, 821, 827, 831, 836, 840, 845, 851, 855, 859, 863, 867, 871, 875, 879, 883, 887, 891, 895, 899, 902, 906, 910, 914, 918, 922, 926, 930, 934, 938, 942, 946, 951, 955]
set_option maxRecDepth 100000 in
set_option maxHeartbeats 4000000 in
theorem xkCo_e : (List.range 160).map (fun k => Cond.code (xyn k) (xcode k) (xml k) (xrty k)) = xkCo_p.filterMap (fun i => tables_1[i]?) := by rfl
def xK0 : List Nat := [6, 11, 13, 14, 15, 24, 25, 35, 36, 39, 42, 44, 45, 49, 59, 61, 63, 68, 77, 97, 100, 146]
def xK1 : List Nat := [10, 12, 16, 17, 18, 19, 20, 21, 22, 23, 26, 27, 28, 29, 30, 31, 32, 33, 34, 37, 38, 40, 41, 43, 46, 47, 48, 50, 51, 52, 53, 54, 55, 56, 57, 58, 60, 62, 64, 65, 66, 67, 69, 70, 71, 72, 73, 74, 75, 76, 78, 79, 80, 81, 82, 83, 84, 85, 86, 87, 88, 89, 90, 91, 92, 93, 94, 95, 96, 99, 101, 102, 103, 104, 105, 106, 107, 108, 109, 110, 111, 112, 113, 114, 115, 116, 117, 118, 119, 120, 121, 122, 123, 124, 125, 126, 127, 128, 129, 130, 131, 132, 133, 134, 135, 136, 137, 138, 139, 140, 141, 142, 143, 144, 145, 147, 148, 149, 150, 151, 152, 153, 154, 155, 156, 157, 158, 159]
def xK2 : List Nat := [0, 1, 2, 3, 4, 5, 7, 8, 9, 98]
def xkSt_p : List Nat := [134, 262, 269, 272, 275, 311, 314, 355, 359, 372, 385, 393, 396, 413, 458, 465, 472, 494, 536, 626, 708, 901]
set_option maxRecDepth 100000 in
set_option maxHeartbeats 4000000 in
theorem xkSt_e : xK0.map (fun k => Cond.static (xyn k)) = xkSt_p.filterMap (fun i => tables_1[i]?) := by rfl
def xkIm_p : List Nat := [258, 265, 278, 282, 286, 290, 295, 299, 304, 307, 318, 322, 326, 330, 335, 339, 343, 348, 351, 364, 367, 376, 382, 390, 401, 406, 410, 416, 421, 426, 430, 437, 441, 446, 451, 455, 462, 469, 477, 481, 486, 490, 498, 503, 508, 513, 519, 523, 527, 532, 542, 546, 550, 555, 558, 563, 571, 575, 579, 583, 587, 592, 595, 599, 604, 608, 613, 618, 622, 704, 711, 715, 720, 723, 728, 732, 735, 739, 744, 749, 753, 757, 761, 765, 769, 773, 777, 781, 786, 790, 794, 798, 802, 806, 811, 816, 820, 826, 830, 835, 839, 844, 850, 854, 858, 862, 866, 869, 873, 878, 882, 886, 890, 894, 898, 904, 909, 913, 917, 920, 924, 929, 932, 936, 940, 944, 949, 953, 18, 26, 33, 93, 112, 130, 140, 195, 211, 631]
set_option maxRecDepth 100000 in
set_option maxHeartbeats 4000000 in
theorem xkIm_e : (xK1 ++ xK2).map (fun k => Cond.instanceMethod (xyn k)) = xkIm_p.filterMap (fun i => tables_1[i]?) := by rfl
def xkSe_p : List Nat := [319, 326, 339, 343, 347, 351, 0, 360, 1, 368, 379, 383, 387, 391, 396, 400, 404, 2, 412, 3, 428, 4, 5, 6, 462, 7, 8, 477, 482, 487, 491, 498, 502, 9, 10, 11, 12, 13, 538, 542, 14, 551, 559, 564, 15, 574, 580, 584, 588, 16, 603, 607, 611, 17, 619, 624, 632, 636, 640, 644, 648, 18, 656, 660, 665, 669, 674, 679, 683, 765, 772, 776, 19, 784, 20, 21, 796, 800, 805, 22, 23, 24, 25, 26, 27, 28, 29, 30, 31, 32, 33, 34, 35, 36, 37, 38, 39, 40, 41, 42, 43, 44, 45, 46, 47, 48, 49, 930, 934, 50, 51, 52, 53, 54, 55, 965, 56, 57, 58, 981, 985, 59, 993, 997, 1001, 1005, 1010, 1014]
set_option maxRecDepth 100000 in
set_option maxHeartbeats 4000000 in
theorem xkSe_e : xK1.map (fun k => Cond.selects (xcn (xkc k)) (xyn k) (xyn k)) = xkSe_p.filterMap (fun i => lw_tbl[i]?) := by rfl
def xkLi_p : List Nat := [17, 92, 257, 261, 264, 268, 271, 274, 277, 281, 285, 289, 293, 297, 298, 302, 306, 310, 313, 316, 317, 321, 325, 329, 334, 338, 342, 346, 350, 354, 358, 362, 366, 371, 374, 380, 384, 387, 388, 392, 395, 398, 400, 404, 408, 415, 420, 425, 429, 436, 440, 444, 449, 453, 457, 460, 464, 467, 471, 474, 475, 476, 480, 484, 488, 489, 493, 496, 497, 501, 502, 506, 510, 511, 512, 516, 517, 518, 522, 526, 530, 535, 541, 545, 549, 553, 557, 561, 562, 566, 567, 568, 570, 574, 578, 582, 586, 590, 594, 598, 602, 603, 607, 612, 617, 621, 625, 630, 703, 707, 710, 714, 718, 722, 726, 730, 734, 738, 742, 743, 747, 751, 755, 759, 763, 767, 771, 775, 779, 784, 788, 792, 796, 800, 804, 809, 814, 818, 824, 828, 833, 837, 841, 842, 848, 852, 856, 860, 864, 868, 872, 876, 880, 884, 888, 892, 896, 900, 903, 907, 911, 915, 919, 923, 927, 931, 935, 939, 943, 948, 952]
set_option maxRecDepth 100000 in
set_option maxHeartbeats 4000000 in
theorem xkLi_e : xcalL.map (fun q => Cond.methodLink (xcn q.1) q.2.1 (xyn q.2.2.1)) = xkLi_p.filterMap (fun i => tables_1[i]?) := by rfl
def xkLn_p : List Nat := [25, 32, 111, 129, 133, 139, 194, 198, 210, 214, 216, 370, 412, 424, 448, 534, 569]
set_option maxRecDepth 100000 in
set_option maxHeartbeats 4000000 in
theorem xkLn_e : xcalN.map (fun q => Cond.methodLinkNest (xcn q.1) q.2.1 (xyn q.2.2.1) "BranchGoals") = xkLn_p.filterMap (fun i => tables_1[i]?) := by rfl
def xkNw_p : List Nat := [15, 23, 29, 90, 109, 127, 136, 192, 208, 215, 628]
set_option maxRecDepth 100000 in
set_option maxHeartbeats 4000000 in
theorem xkNw_e : xnwcT.map (fun q => Cond.classLink (xcn q.1) q.2.1 (xcn q.2.2)) = xkNw_p.filterMap (fun i => tables_1[i]?) := by rfl
def xkAn_p : List Nat := [29, 136, 215]
set_option maxRecDepth 100000 in
set_option maxHeartbeats 4000000 in
theorem xkAn_e : xanwT.map (fun q => Cond.classLink (xcn q.1) q.2.1 (xcn (xqc q.2.2))) = xkAn_p.filterMap (fun i => tables_1[i]?) := by rfl
def xcstC (q : Nat × Nat × Value) : Cond := match q.2.2 with
  | .int x => .constant (xcn q.1) q.2.1 x
  | .long x => .constantLong (xcn q.1) q.2.1 x
  | _ => .tt
def xkCs_p : List Nat := [96, 97, 333, 357, 361, 378, 379, 399, 419, 538, 539, 540, 611, 616, 634, 635, 783, 808, 813, 822, 823, 832, 846, 847, 947]
set_option maxRecDepth 100000 in
set_option maxHeartbeats 4000000 in
theorem xkCs_e : xcstT.map xcstC = xkCs_p.filterMap (fun i => tables_1[i]?) := by rfl
def xkNa_p : List Nat := [20, 28, 35, 95, 114, 132, 142, 197, 213, 433, 633]
set_option maxRecDepth 100000 in
set_option maxHeartbeats 4000000 in
theorem xkNa_e : xnatT.map (fun q => Cond.methodLink (xcn q.1) q.2.1 (if q.2.2 = 0 then objectInit else arraycopyName)) = xkNa_p.filterMap (fun i => tables_1[i]?) := by rfl
def xkG_p : List Nat := [21, 22, 435, 434, 13, 71, 126, 89]
set_option maxRecDepth 100000 in
set_option maxHeartbeats 4000000 in
theorem xkG_e : ([.instanceMethod objectInit, .code objectInit ⟨#[0xb1]⟩ 1 none, .native arraycopyName, .static arraycopyName, .initialized "java/lang/System", .arrayClass .int, .arrayClass .long, .arrayClass .boolean] : List Cond) = xkG_p.filterMap (fun i => tables_1[i]?) := by rfl
def xkO_p : List Nat := [137, 30]
set_option maxRecDepth 100000 in
set_option maxHeartbeats 4000000 in
theorem xkO_e : ([.arrayOver (.object "BranchGoals$Case"), .arrayOver (.object "BranchGoals$Method")] : List Cond) = xkO_p.filterMap (fun i => tables_1[i]?) := by rfl
set_option maxRecDepth 100000 in
theorem xkCl_g : (xkCl_p.filterMap (fun i => tables_1[i]?)).all goodWord = true := by decide +kernel
set_option maxRecDepth 100000 in
theorem xkIs_g : (xkIs_p.filterMap (fun i => tables_1[i]?)).all goodWord = true := by decide +kernel
set_option maxRecDepth 100000 in
theorem xkIn_g : (xkIn_p.filterMap (fun i => tables_1[i]?)).all goodWord = true := by decide +kernel
set_option maxRecDepth 100000 in
theorem xkFl_g : (xkFl_p.filterMap (fun i => tables_1[i]?)).all goodWord = true := by decide +kernel
set_option maxRecDepth 100000 in
theorem xkCo_g : (xkCo_p.filterMap (fun i => tables_1[i]?)).all goodWord = true := by decide +kernel
set_option maxRecDepth 100000 in
theorem xkSt_g : (xkSt_p.filterMap (fun i => tables_1[i]?)).all goodWord = true := by decide +kernel
set_option maxRecDepth 100000 in
theorem xkIm_g : (xkIm_p.filterMap (fun i => tables_1[i]?)).all goodWord = true := by decide +kernel
set_option maxRecDepth 100000 in
theorem xkSe_g : (xkSe_p.filterMap (fun i => lw_tbl[i]?)).all goodWord = true := by decide +kernel
set_option maxRecDepth 100000 in
theorem xkLi_g : (xkLi_p.filterMap (fun i => tables_1[i]?)).all goodWord = true := by decide +kernel
set_option maxRecDepth 100000 in
theorem xkNw_g : (xkNw_p.filterMap (fun i => tables_1[i]?)).all goodWord = true := by decide +kernel
set_option maxRecDepth 100000 in
theorem xkAn_g : (xkAn_p.filterMap (fun i => tables_1[i]?)).all goodWord = true := by decide +kernel
set_option maxRecDepth 100000 in
theorem xkCs_g : (xkCs_p.filterMap (fun i => tables_1[i]?)).all goodWord = true := by decide +kernel
set_option maxRecDepth 100000 in
theorem xkNa_g : (xkNa_p.filterMap (fun i => tables_1[i]?)).all goodWord = true := by decide +kernel
set_option maxRecDepth 100000 in
theorem xkG_g : (xkG_p.filterMap (fun i => tables_1[i]?)).all goodWord = true := by decide +kernel
set_option maxRecDepth 100000 in
theorem xkN1 : (xfldT.all (fun q => decide (q.2.2.1 < 10) && decide (q.2.2.2 < xnf q.2.2.1)) && (List.range 160).all (fun k => decide (xml k ≤ 20) && decide (xkc k < 14)) && xcalT.all (fun q => decide (q.2.2.1 < 160)) && (xK1).all (fun k => decide (xkc k < 10)) && (List.range 160).all (fun k => match xmk k with | 0 => xK0.contains k | 1 => xK1.contains k | 2 => xK2.contains k | _ => false) && xnwcT.all (fun q => decide (q.2.2 < 14)) && xanwT.all (fun q => decide (q.2.2 < 2)) && xnatT.all (fun q => q.2.2 == 0 || q.2.2 == 7)) = true := by decide +kernel
end
section
/-! What the small tables say, as the walk uses it. -/
set_option maxRecDepth 100000 in
theorem xs_cls : (List.range 161).map (fun k => (xyn k).cls) = (List.range 161).map (fun k => xcn (xkc k)) := by rfl
theorem xs_init : xK2.map (fun k => (xyn k).name) = xK2.map (fun _ => "<init>") := by rfl
theorem xs_ret : xK2.map (fun k => xrty k) = xK2.map (fun _ => none) := by rfl
set_option maxRecDepth 100000 in
theorem xs_fd : (List.range 10).all (fun ci => (List.range (xnf ci)).all (fun j => decide (parseFieldDescriptor (xTT ci j).2.2.1 = some (xft ci j)))) = true := by decide +kernel
set_option maxRecDepth 100000 in
theorem xs_nm : (List.range 10).all (fun ci => (List.range (xnf ci)).all (fun a => (List.range (xnf ci)).all (fun b => decide (a = b) || decide ((xTT ci a).2.1 ≠ (xTT ci b).2.1)))) = true := by decide +kernel
set_option maxRecDepth 100000 in
theorem xs_pm : xcalT.all (fun q => decide ((parseMethodDescriptor (xyn q.2.2.1).desc).map (fun d => d.parameters.length) = some q.2.2.2)) = true := by decide +kernel
set_option maxRecDepth 100000 in
theorem xs_pl : (List.range 14).all (fun c => decide (xcn c ≠ "java/lang/invoke/MethodHandle") && decide (xcn c ≠ "java/lang/invoke/VarHandle")) = true := by decide +kernel
set_option maxRecDepth 100000 in
theorem xs_pf : (List.range 160).all (fun k => plainFor (xyn k)) = true := by decide +kernel
set_option maxRecDepth 100000 in
theorem xs_dc : (List.range 10).all (fun ci => (List.range (xnf ci)).all (fun j => decide ((xTT ci j).1 = xcn ci))) = true := by decide +kernel
theorem xgd {ws : List Cond} {ps : List Nat} (e : ws = ps.filterMap (fun i => tables_1[i]?)) (g : (ps.filterMap (fun i => tables_1[i]?)).all goodWord = true) {w : Cond} (h : w ∈ ws) : w ∈ xgood := xgood_t (xpl_in e h) (List.all_eq_true.mp g w (by rw [← e]; exact h))
theorem xall_r {n : Nat} {f : Nat → Bool} (h : (List.range n).all f = true) {i : Nat} (hi : i < n) : f i = true := List.all_eq_true.mp h i (List.mem_range.mpr hi)
theorem xmap_r {α : Type} {n : Nat} {f g : Nat → α} (h : (List.range n).map f = (List.range n).map g) {i : Nat} (hi : i < n) : f i = g i := List.map_inj_left.mp h i (List.mem_range.mpr hi)
theorem xcls_at {ci : Nat} (h : ci < 10) : xcls[ci]? = some (xcn ci, xTT ci, xnf ci) := by
  match ci, h with
  | 0, _ => rfl
  | 1, _ => rfl
  | 2, _ => rfl
  | 3, _ => rfl
  | 4, _ => rfl
  | 5, _ => rfl
  | 6, _ => rfl
  | 7, _ => rfl
  | 8, _ => rfl
  | 9, _ => rfl
theorem xws_in {ci : Nat} (h : ci < 10) : ∀ w ∈ u_ws (xcn ci) (xTT ci) (xnf ci), w ∈ xgood := fun w hw => xgd xkCl_e xkCl_g (List.mem_flatMap.mpr ⟨ci, List.mem_range.mpr h, hw⟩)
theorem xf_ty {ci : Nat} (h : ci < 10) : ∀ j, j < xnf ci → parseFieldDescriptor (xTT ci j).2.2.1 = some (xft ci j) := fun j hj => of_decide_eq_true (xall_r (xall_r xs_fd h) hj)
theorem xf_dc {ci : Nat} (h : ci < 10) : ∀ j, j < xnf ci → (xTT ci j).1 = xcn ci := fun j hj => of_decide_eq_true (xall_r (xall_r xs_dc h) hj)
theorem xf_nm {ci : Nat} (h : ci < 10) : ∀ a, a < xnf ci → ∀ b, b < xnf ci → a ≠ b → (xTT ci a).2.1 ≠ (xTT ci b).2.1 := fun a ha b hb hne => by
  have h1 := xall_r (xall_r (xall_r xs_nm h) ha) hb
  simp only [Bool.or_eq_true, decide_eq_true_eq] at h1
  exact h1.resolve_left hne
theorem xk_all : (xfldT.all (fun q => decide (q.2.2.1 < 10) && decide (q.2.2.2 < xnf q.2.2.1)) = true) ∧ ((List.range 160).all (fun k => decide (xml k ≤ 20) && decide (xkc k < 14)) = true) ∧ (xcalT.all (fun q => decide (q.2.2.1 < 160)) = true) ∧ (xK1.all (fun k => decide (xkc k < 10)) = true) ∧ ((List.range 160).all (fun k => match xmk k with | 0 => xK0.contains k | 1 => xK1.contains k | 2 => xK2.contains k | _ => false) = true) ∧ (xnwcT.all (fun q => decide (q.2.2 < 14)) = true) ∧ (xanwT.all (fun q => decide (q.2.2 < 2)) = true) ∧ (xnatT.all (fun q => q.2.2 == 0 || q.2.2 == 7) = true) := by
  have h := xkN1
  simp only [Bool.and_eq_true] at h
  obtain ⟨⟨⟨⟨⟨⟨⟨h1, h2⟩, h3⟩, h4⟩, h5⟩, h6⟩, h7⟩, h8⟩ := h
  exact ⟨h1, h2, h3, h4, h5, h6, h7, h8⟩
theorem xfld_ok {kc idx ci j : Nat} (h : xfld kc idx = some (ci, j)) : ci < 10 ∧ j < xnf ci ∧ Cond.fieldLink (xcn kc) idx (xTT ci j).1 (xTT ci j).2.1 (xTT ci j).2.2.1 ∈ xgood := by
  have hm := xfind_mem h
  have h1 := List.all_eq_true.mp xk_all.1 _ hm
  simp only [Bool.and_eq_true, decide_eq_true_eq] at h1
  exact ⟨h1.1, h1.2, xgd xkFl_e xkFl_g (List.mem_map.mpr ⟨_, hm, rfl⟩)⟩
theorem xm_code {k : Nat} (h : k < 160) : Cond.code (xyn k) (xcode k) (xml k) (xrty k) ∈ xgood := xgd xkCo_e xkCo_g (List.mem_map.mpr ⟨k, List.mem_range.mpr h, rfl⟩)
theorem xm_kc {k : Nat} (h : k < 160) : xml k ≤ 20 ∧ xkc k < 14 := by
  have h1 := xall_r xk_all.2.1 h
  simpa only [Bool.and_eq_true, decide_eq_true_eq] using h1
theorem xm_cls {k : Nat} (h : k < 161) : (xyn k).cls = xcn (xkc k) := xmap_r xs_cls h
theorem xm_ini {k : Nat} (h : k < 160) : Cond.initialized (xyn k).cls ∈ xgood := by
  rw [xm_cls (by omega)]
  exact xgd xkIn_e xkIn_g (List.mem_map.mpr ⟨xkc k, List.mem_range.mpr (xm_kc h).2, rfl⟩)
theorem xm_pl {k : Nat} (h : k < 160) : plainFor (xyn k) = true ∧ (xyn k).cls ≠ "java/lang/invoke/MethodHandle" ∧ (xyn k).cls ≠ "java/lang/invoke/VarHandle" := by
  have h1 := xall_r xs_pl (xm_kc h).2
  simp only [Bool.and_eq_true, decide_eq_true_eq] at h1
  rw [xm_cls (by omega)]
  exact ⟨xall_r xs_pf h, h1.1, h1.2⟩
theorem xm_mem0 {k : Nat} (h : k < 160) (hn : xmk k = 0) : k ∈ xK0 := by
  have h1 := xall_r xk_all.2.2.2.2.1 h
  rw [hn] at h1
  exact List.contains_iff_mem.mp h1
theorem xm_mem1 {k : Nat} (h : k < 160) (hn : xmk k = 1) : k ∈ xK1 := by
  have h1 := xall_r xk_all.2.2.2.2.1 h
  rw [hn] at h1
  exact List.contains_iff_mem.mp h1
theorem xm_mem2 {k : Nat} (h : k < 160) (hn : xmk k = 2) : k ∈ xK2 := by
  have h1 := xall_r xk_all.2.2.2.2.1 h
  rw [hn] at h1
  exact List.contains_iff_mem.mp h1
theorem xm_k0 {k : Nat} (h : k < 160) (hn : xmk k = 0) : Cond.static (xyn k) ∈ xgood := xgd xkSt_e xkSt_g (List.mem_map.mpr ⟨k, xm_mem0 h hn, rfl⟩)
theorem xm_k1 {k : Nat} (h : k < 160) (hn : xmk k = 1) : Cond.instanceMethod (xyn k) ∈ xgood ∧ Cond.selects (xcn (xkc k)) (xyn k) (xyn k) ∈ xgood ∧ xkc k < 10 := by
  have hm := xm_mem1 h hn
  refine ⟨xgd xkIm_e xkIm_g (List.mem_map.mpr ⟨k, List.mem_append_left _ hm, rfl⟩), ?_, of_decide_eq_true (List.all_eq_true.mp xk_all.2.2.2.1 k hm)⟩
  have hw : Cond.selects (xcn (xkc k)) (xyn k) (xyn k) ∈ xK1.map (fun k => Cond.selects (xcn (xkc k)) (xyn k) (xyn k)) := List.mem_map.mpr ⟨k, hm, rfl⟩
  exact xgood_of (xpl_in xkSe_e hw) (List.all_eq_true.mp xkSe_g _ (by rw [← xkSe_e]; exact hw))
theorem xm_k2 {k : Nat} (h : k < 160) (hn : xmk k = 2) : Cond.instanceMethod (xyn k) ∈ xgood ∧ (xyn k).name = "<init>" ∧ xrty k = none := by
  have hm := xm_mem2 h hn
  exact ⟨xgd xkIm_e xkIm_g (List.mem_map.mpr ⟨k, List.mem_append_right _ hm, rfl⟩), List.map_inj_left.mp xs_init k hm, List.map_inj_left.mp xs_ret k hm⟩
theorem xcal_ok {kc idx y n : Nat} (h : xcal kc idx = some (y, n)) : y < 160 ∧ (parseMethodDescriptor (xyn y).desc).map (fun d => d.parameters.length) = some n ∧ (Cond.methodLink (xcn kc) idx (xyn y) ∈ xgood ∨ Cond.methodLinkNest (xcn kc) idx (xyn y) "BranchGoals" ∈ xnest) := by
  have hm : (kc, idx, y, n) ∈ xcalT := xfind_mem h
  have h1 := List.all_eq_true.mp xk_all.2.2.1 _ hm
  have h2 := List.all_eq_true.mp xs_pm _ hm
  simp only [decide_eq_true_eq] at h1 h2
  refine ⟨h1, h2, ?_⟩
  unfold xcalT at hm
  rcases List.mem_append.mp hm with hm | hm
  · exact Or.inl (xgd xkLi_e xkLi_g (List.mem_map.mpr ⟨_, hm, rfl⟩))
  · exact Or.inr (List.mem_filter.mpr ⟨List.mem_append_right _ (xpl_in xkLn_e (List.mem_map.mpr ⟨_, hm, rfl⟩)), rfl⟩)
theorem xnwc_ok {kc idx ci : Nat} (h : xnwc kc idx = some ci) : Cond.classLink (xcn kc) idx (xcn ci) ∈ xgood := xgd xkNw_e xkNw_g (List.mem_map.mpr ⟨_, xfind_mem h, rfl⟩)
theorem xanw_ok {kc idx t : Nat} (h : xanw kc idx = some t) : t < 2 ∧ Cond.classLink (xcn kc) idx (xcn (xqc t)) ∈ xgood := ⟨of_decide_eq_true (List.all_eq_true.mp xk_all.2.2.2.2.2.2.1 _ (xfind_mem h)), xgd xkAn_e xkAn_g (List.mem_map.mpr ⟨_, xfind_mem h, rfl⟩)⟩
theorem xcst_ok {kc idx : Nat} {v : Value} (h : xcst kc idx = some v) : xcstC (kc, idx, v) ∈ xgood := xgd xkCs_e xkCs_g (List.mem_map.mpr ⟨_, xfind_mem h, rfl⟩)
theorem xnat_ok {kc idx t : Nat} (h : xnat kc idx = some t) : (t = 0 ∧ Cond.methodLink (xcn kc) idx objectInit ∈ xgood) ∨ (t = 7 ∧ Cond.methodLink (xcn kc) idx arraycopyName ∈ xgood) := by
  have hm := xfind_mem h
  have h1 := List.all_eq_true.mp xk_all.2.2.2.2.2.2.2 _ hm
  have h2 := xgd xkNa_e xkNa_g (List.mem_map.mpr ⟨_, hm, rfl⟩)
  simp only [Bool.or_eq_true, beq_iff_eq] at h1
  rcases h1 with rfl | rfl
  · exact Or.inl ⟨rfl, h2⟩
  · exact Or.inr ⟨rfl, h2⟩
theorem xin_ci {ci : Nat} (h : ci < 10) : Cond.instantiable (xcn ci) (xnf ci) ∈ xgood ∧ Cond.initialized (xcn ci) ∈ xgood := ⟨xgd xkIs_e xkIs_g (List.mem_map.mpr ⟨ci, List.mem_range.mpr h, rfl⟩), xgd xkIn_e xkIn_g (List.mem_map.mpr ⟨ci, List.mem_range.mpr (by omega), rfl⟩)⟩
theorem xg_glob : Cond.instanceMethod objectInit ∈ xgood ∧ Cond.code objectInit ⟨#[0xb1]⟩ 1 none ∈ xgood ∧ Cond.native arraycopyName ∈ xgood ∧ Cond.static arraycopyName ∈ xgood ∧ Cond.initialized "java/lang/System" ∈ xgood ∧ Cond.arrayClass .int ∈ xgood ∧ Cond.arrayClass .long ∈ xgood ∧ Cond.arrayClass .boolean ∈ xgood :=
  ⟨xgd xkG_e xkG_g (by simp), xgd xkG_e xkG_g (by simp), xgd xkG_e xkG_g (by simp), xgd xkG_e xkG_g (by simp), xgd xkG_e xkG_g (by simp), xgd xkG_e xkG_g (by simp), xgd xkG_e xkG_g (by simp), xgd xkG_e xkG_g (by simp)⟩
end
section
/-! The small machine is sound: what it does the machine does. First the instructions on the stack alone, jumps, locals. -/
def xad (b scr : Nat) : Nat → Nat
  | 0 => scr
  | a + 1 => b + a
def xemb (ad : Nat → Nat) : Value → Value
  | .ref a => .ref (ad a)
  | v => v
theorem xemb_cat (ad : Nat → Nat) (v : Value) : (xemb ad v).category = v.category := by cases v <;> rfl
theorem xemb_rf (ad : Nat → Nat) (r : Option Nat) : xemb ad (va_rf r) = va_rf (r.map ad) := by cases r <;> rfl
def XLH (ad : Nat → Nat) (ls : Array Slot) (n : Nat) (L : XL) : Prop := ls.size = n ∧ L.length = n ∧ lv_wf ls ∧ ∀ (i : Nat) (v : Value), xld L i = some v → ls[i]? = some (.val (xemb ad v))
def xcl0 (ad : Nat → Nat) (ca : Nat → ClassId) (t : Nat × Nat) (I : Nat → Int32) (J : Nat → Int64) (R : Nat → Option Nat) : va_E :=
  if t.1 < 100 then .inr (t.1, (List.range t.2).map (fun j => xemb ad (xfv (xft t.1 j) I J R j)))
  else .inl (ca (t.1 - 100), t.2, if t.1 = 101 then .inr (.inl J) else if t.1 < 103 then .inl I else .inr (.inr (.inr (.inr (fun i => (R i).map ad)))))
def xcell (ad : Nat → Nat) (ca : Nat → ClassId) (h : XH) (a : Nat) : va_E := xcl0 ad ca (xhk h a) (xhI h a) (xhJ h a) (xhR h a)
def xw (ad : Nat → Nat) (ca : Nat → ClassId) (b : Nat) (h : XH) : va_W := (List.range (xhz h - 1)).map (fun a => (b + a, xcell ad ca h (a + 1)))
abbrev XG : Type := Program × Launch × Env × Room × State × MethodId × Array Value × List Frame × Method × Code × (State → Prop) × va_G × (Nat → ClassId) × Nat × Nat × Nat × Nat
def XW : XG → Nat → Nat → XL → List Value → XH → Prop
  | (p, l, e, R, s, m, args, below, meth, c, Q, D, ca, b, scr, z0, s0), k, pc, L, st, h =>
    ∀ (H : Heap) (locs : List Loc) (ls : Array Slot), va_P D xcls (xw (xad b scr) ca b h) H → va_S (fun q => b ≤ q) s.heap H locs → XLH (xad b scr) ls (xml k) L →
      W p l e R s m args below meth c H locs (xhz h - z0) (xhs h - s0) Q (F0 m pc ls (st.map (xemb (xad b scr))))
theorem xi1_inv {f : Int32 → Int32} {st st' : List Value} (h : xi1 f st = some st') : ∃ x r, st = .int x :: r ∧ st' = .int (f x) :: r := by
  unfold xi1 at h
  split at h
  · exact ⟨_, _, rfl, (Option.some.inj h).symm⟩
  · cases h
theorem xi2_inv {f : Int32 → Int32 → Int32} {st st' : List Value} (h : xi2 f st = some st') : ∃ x y r, st = .int y :: .int x :: r ∧ st' = .int (f x y) :: r := by
  unfold xi2 at h
  split at h
  · exact ⟨_, _, _, rfl, (Option.some.inj h).symm⟩
  · cases h
theorem xi2z_inv {f : Int32 → Int32 → Int32} {st st' : List Value} (h : xi2z f st = some st') : ∃ x y r, st = .int y :: .int x :: r ∧ st' = .int (f x y) :: r ∧ ¬ y = 0 := by
  unfold xi2z at h
  split at h
  · split at h
    · cases h
    · exact ⟨_, _, _, rfl, (Option.some.inj h).symm, by assumption⟩
  · cases h
theorem xj1_inv {f : Int64 → Int64} {st st' : List Value} (h : xj1 f st = some st') : ∃ x r, st = .long x :: r ∧ st' = .long (f x) :: r := by
  unfold xj1 at h
  split at h
  · exact ⟨_, _, rfl, (Option.some.inj h).symm⟩
  · cases h
theorem xj2_inv {f : Int64 → Int64 → Int64} {st st' : List Value} (h : xj2 f st = some st') : ∃ x y r, st = .long y :: .long x :: r ∧ st' = .long (f x y) :: r := by
  unfold xj2 at h
  split at h
  · exact ⟨_, _, _, rfl, (Option.some.inj h).symm⟩
  · cases h
theorem xj2z_inv {f : Int64 → Int64 → Int64} {st st' : List Value} (h : xj2z f st = some st') : ∃ x y r, st = .long y :: .long x :: r ∧ st' = .long (f x y) :: r ∧ ¬ y = 0 := by
  unfold xj2z at h
  split at h
  · split at h
    · cases h
    · exact ⟨_, _, _, rfl, (Option.some.inj h).symm, by assumption⟩
  · cases h
theorem xji_inv {f : Int64 → Int32 → Int64} {st st' : List Value} (h : xji f st = some st') : ∃ x y r, st = .int y :: .long x :: r ∧ st' = .long (f x y) :: r := by
  unfold xji at h
  split at h
  · exact ⟨_, _, _, rfl, (Option.some.inj h).symm⟩
  · cases h
theorem xi2l_inv {st st' : List Value} (h : xi2l st = some st') : ∃ x r, st = .int x :: r ∧ st' = .long x.toInt64 :: r := by
  unfold xi2l at h
  split at h
  · exact ⟨_, _, rfl, (Option.some.inj h).symm⟩
  · cases h
theorem xl2i_inv {st st' : List Value} (h : xl2i st = some st') : ∃ x r, st = .long x :: r ∧ st' = .int x.toInt32 :: r := by
  unfold xl2i at h
  split at h
  · exact ⟨_, _, rfl, (Option.some.inj h).symm⟩
  · cases h
theorem xlcmp_inv {st st' : List Value} (h : xlcmp st = some st') : ∃ x y r, st = .long y :: .long x :: r ∧ st' = .int (lg_cmp x y) :: r := by
  unfold xlcmp at h
  split at h
  · exact ⟨_, _, _, rfl, (Option.some.inj h).symm⟩
  · cases h
theorem xdup_inv {st st' : List Value} (h : xdup st = some st') : ∃ v r, st = v :: r ∧ st' = v :: v :: r ∧ v.category = 1 := by
  unfold xdup at h
  split at h
  · split at h
    · exact ⟨_, _, rfl, (Option.some.inj h).symm, by assumption⟩
    · cases h
  · cases h
theorem xpop_inv {st st' : List Value} (h : xpop st = some st') : ∃ v, st = v :: st' ∧ v.category = 1 := by
  unfold xpop at h
  split at h
  · split at h
    · cases h; exact ⟨_, rfl, by assumption⟩
    · cases h
  · cases h
theorem xcat_1 {v : Value} (h : ¬ v.category = 2) : v.category = 1 := by cases v <;> first | rfl | exact absurd rfl h
theorem xpop2_inv {st st' : List Value} (h : xpop2 st = some st') : (∃ v, st = v :: st' ∧ v.category = 2) ∨ ∃ v w, st = v :: w :: st' ∧ v.category = 1 ∧ w.category = 1 := by
  unfold xpop2 at h
  split at h
  · split at h
    · cases h; exact Or.inl ⟨_, rfl, by assumption⟩
    · split at h
      · split at h
        · cases h
          exact Or.inr ⟨_, _, rfl, xcat_1 (by assumption), by assumption⟩
        · cases h
      · cases h
  · cases h
theorem xdupx1_inv {st st' : List Value} (h : xdupx1 st = some st') : ∃ v w r, st = v :: w :: r ∧ st' = v :: w :: v :: r ∧ v.category = 1 ∧ w.category = 1 := by
  unfold xdupx1 at h
  split at h
  · split at h
    · exact ⟨_, _, _, rfl, (Option.some.inj h).symm, by assumption⟩
    · cases h
  · cases h
theorem xdupx2_inv {st st' : List Value} (h : xdupx2 st = some st') : ∃ v w u r, st = v :: w :: u :: r ∧ st' = v :: w :: u :: v :: r ∧ v.category = 1 ∧ w.category = 1 ∧ u.category = 1 := by
  unfold xdupx2 at h
  split at h
  · split at h
    · exact ⟨_, _, _, _, rfl, (Option.some.inj h).symm, by assumption⟩
    · cases h
  · cases h
theorem xdup2_inv {st st' : List Value} (h : xdup2 st = some st') : (∃ v r, st = v :: r ∧ st' = v :: v :: r ∧ v.category = 2) ∨ ∃ v w r, st = v :: w :: r ∧ st' = v :: w :: v :: w :: r ∧ v.category = 1 ∧ w.category = 1 := by
  unfold xdup2 at h
  split at h
  · split at h
    · cases h; exact Or.inl ⟨_, _, rfl, rfl, by assumption⟩
    · split at h
      · split at h
        · cases h
          exact Or.inr ⟨_, _, _, rfl, rfl, xcat_1 (by assumption), by assumption⟩
        · cases h
      · cases h
  · cases h
theorem xdup2x1_inv {st st' : List Value} (h : xdup2x1 st = some st') : ∃ v w r, st = v :: w :: r ∧ st' = v :: w :: v :: r ∧ v.category = 2 ∧ w.category = 1 := by
  unfold xdup2x1 at h
  split at h
  · split at h
    · exact ⟨_, _, _, rfl, (Option.some.inj h).symm, by assumption⟩
    · cases h
  · cases h
theorem xdup2x2_inv {st st' : List Value} (h : xdup2x2 st = some st') : ∃ v w u r, st = v :: w :: u :: r ∧ st' = v :: w :: u :: v :: r ∧ v.category = 2 ∧ w.category = 1 ∧ u.category = 1 := by
  unfold xdup2x2 at h
  split at h
  · split at h
    · exact ⟨_, _, _, _, rfl, (Option.some.inj h).symm, by assumption⟩
    · cases h
  · cases h
set_option maxHeartbeats 4000000 in
theorem xop_sound {G : XG} {k pc : Nat} {L : XL} {st st' : List Value} {h : XH} {i : Instr} (hx : G.1.tables.exec = Jvm.exec) (hb : G.2.2.2.2.2.2.2.2.2.1.code = xcode k)
    (hd : decode (xcode k) pc = .ok (i, xlen i)) (ho : xop i st = some st') (K : XW G k (pc + xlen i) L st' h) : XW G k pc L st h := by
  obtain ⟨p, l, e, R, s, m, args, below, meth, c, Q, D, ca, b, scr, z0, s0⟩ := G
  intro H locs ls hP hS hL
  have K := K H locs ls hP hS hL
  cases i with
  | iconst n => cases ho; exact lv_iconst hx hb hd rfl K
  | bipush n => cases ho; exact lv_bipush hx hb hd rfl K
  | sipush n => cases ho; exact lv_sipush hx hb hd rfl K
  | lconst n => cases ho; exact lv_lconst hx hb hd rfl K
  | aconst_null => cases ho; exact lv_null hx hb hd K
  | iadd => obtain ⟨x, y, r, rfl, rfl⟩ := xi2_inv ho; exact lv_iadd hx hb hd K
  | isub => obtain ⟨x, y, r, rfl, rfl⟩ := xi2_inv ho; exact lv_isub hx hb hd K
  | imul => obtain ⟨x, y, r, rfl, rfl⟩ := xi2_inv ho; exact lv_imul hx hb hd K
  | iand => obtain ⟨x, y, r, rfl, rfl⟩ := xi2_inv ho; exact lv_iand hx hb hd K
  | ior => obtain ⟨x, y, r, rfl, rfl⟩ := xi2_inv ho; exact lv_ior hx hb hd K
  | ixor => obtain ⟨x, y, r, rfl, rfl⟩ := xi2_inv ho; exact lv_ixor hx hb hd K
  | ishl => obtain ⟨x, y, r, rfl, rfl⟩ := xi2_inv ho; exact lv_ishl hx hb hd K
  | ishr => obtain ⟨x, y, r, rfl, rfl⟩ := xi2_inv ho; exact lv_ishr hx hb hd K
  | iushr => obtain ⟨x, y, r, rfl, rfl⟩ := xi2_inv ho; exact lv_iushr hx hb hd rfl K
  | idiv => obtain ⟨x, y, r, rfl, rfl, hy⟩ := xi2z_inv ho; exact lv_idiv hx hb hd hy K
  | irem => obtain ⟨x, y, r, rfl, rfl, hy⟩ := xi2z_inv ho; exact lv_irem hx hb hd hy K
  | ineg => obtain ⟨x, r, rfl, rfl⟩ := xi1_inv ho; exact lv_ineg hx hb hd K
  | ladd => obtain ⟨x, y, r, rfl, rfl⟩ := xj2_inv ho; exact lv_ladd hx hb hd K
  | lsub => obtain ⟨x, y, r, rfl, rfl⟩ := xj2_inv ho; exact lv_lsub hx hb hd K
  | lmul => obtain ⟨x, y, r, rfl, rfl⟩ := xj2_inv ho; exact lv_lmul hx hb hd K
  | land => obtain ⟨x, y, r, rfl, rfl⟩ := xj2_inv ho; exact lv_land hx hb hd K
  | lor => obtain ⟨x, y, r, rfl, rfl⟩ := xj2_inv ho; exact lv_lor hx hb hd K
  | lxor => obtain ⟨x, y, r, rfl, rfl⟩ := xj2_inv ho; exact lv_lxor hx hb hd K
  | ldiv => obtain ⟨x, y, r, rfl, rfl, hy⟩ := xj2z_inv ho; exact lv_ldiv hx hb hd hy K
  | lrem => obtain ⟨x, y, r, rfl, rfl, hy⟩ := xj2z_inv ho; exact lv_lrem hx hb hd hy K
  | lneg => obtain ⟨x, r, rfl, rfl⟩ := xj1_inv ho; exact lv_lneg hx hb hd K
  | lshl => obtain ⟨x, y, r, rfl, rfl⟩ := xji_inv ho; exact lv_lshl hx hb hd rfl K
  | lshr => obtain ⟨x, y, r, rfl, rfl⟩ := xji_inv ho; exact lv_lshr hx hb hd rfl K
  | lushr => obtain ⟨x, y, r, rfl, rfl⟩ := xji_inv ho; exact lv_lushr hx hb hd rfl K
  | i2l => obtain ⟨x, r, rfl, rfl⟩ := xi2l_inv ho; exact lv_i2l hx hb hd rfl K
  | l2i => obtain ⟨x, r, rfl, rfl⟩ := xl2i_inv ho; exact lv_l2i hx hb hd rfl K
  | lcmp => obtain ⟨x, y, r, rfl, rfl⟩ := xlcmp_inv ho; exact W.lcmp hx hb hd K
  | dup => obtain ⟨v, r, rfl, rfl, h1⟩ := xdup_inv ho; exact lv_dup hx hb hd ((xemb_cat _ v).trans h1) K
  | pop => obtain ⟨v, rfl, h1⟩ := xpop_inv ho; exact lv_pop hx hb hd ((xemb_cat _ v).trans h1) K
  | pop2 =>
    rcases xpop2_inv ho with ⟨v, rfl, h1⟩ | ⟨v, w, rfl, h1, h2⟩
    · exact lv_pop2_2 hx hb hd ((xemb_cat _ v).trans h1) K
    · exact lv_pop2_11 hx hb hd ((xemb_cat _ v).trans h1) ((xemb_cat _ w).trans h2) K
  | dup_x1 => obtain ⟨v, w, r, rfl, rfl, h1, h2⟩ := xdupx1_inv ho; exact lv_dup_x1 hx hb hd ((xemb_cat _ v).trans h1) ((xemb_cat _ w).trans h2) K
  | dup_x2 => obtain ⟨v, w, u, r, rfl, rfl, h1, h2, h3⟩ := xdupx2_inv ho; exact lv_dup_x2 hx hb hd ((xemb_cat _ v).trans h1) ((xemb_cat _ w).trans h2) ((xemb_cat _ u).trans h3) K
  | dup2 =>
    rcases xdup2_inv ho with ⟨v, r, rfl, rfl, h1⟩ | ⟨v, w, r, rfl, rfl, h1, h2⟩
    · exact lv_dup2_2 hx hb hd ((xemb_cat _ v).trans h1) K
    · exact lv_dup2_11 hx hb hd ((xemb_cat _ v).trans h1) ((xemb_cat _ w).trans h2) K
  | dup2_x1 => obtain ⟨v, w, r, rfl, rfl, h1, h2⟩ := xdup2x1_inv ho; exact lv_dup2_x1_2 hx hb hd ((xemb_cat _ v).trans h1) ((xemb_cat _ w).trans h2) K
  | dup2_x2 => obtain ⟨v, w, u, r, rfl, rfl, h1, h2, h3⟩ := xdup2x2_inv ho; exact lv_dup2_x2_2 hx hb hd ((xemb_cat _ v).trans h1) ((xemb_cat _ w).trans h2) ((xemb_cat _ u).trans h3) K
  | _ => cases ho
end
section
/-! Jumps and locals. -/
theorem xad_inj {b scr : Nat} (h : scr < b) {x y : Nat} (e : xad b scr x = xad b scr y) : x = y := by
  cases x with
  | zero => cases y with
    | zero => rfl
    | succ y => exfalso; simp only [xad] at e; omega
  | succ x => cases y with
    | zero => exfalso; simp only [xad] at e; omega
    | succ y => simp only [xad] at e; omega
theorem xad_injO {b scr : Nat} (h : scr < b) {x y : Option Nat} (e : x.map (xad b scr) = y.map (xad b scr)) : x = y := by
  cases x with
  | none => cases y with
    | none => rfl
    | some y => cases e
  | some x => cases y with
    | none => cases e
    | some y => exact congrArg some (xad_inj h (Option.some.inj e))
theorem xtg_inv {pc t : Nat} {off : Int} (h : xtg pc off = some t) : (pc : Int) + off = (t : Int) := by
  unfold xtg at h
  split at h
  · cases h; omega
  · cases h
theorem xjc_inv {b : Bool} {pc : Nat} {off : Int} {r : List Value} {q : Nat × List Value} (h : xjc b pc off r = some q) : ∃ t : Nat, (pc : Int) + off = (t : Int) ∧ ((b = true ∧ q = (t, r)) ∨ (b = false ∧ q = (pc + 3, r))) := by
  unfold xjc at h
  split at h
  · cases h
  · rename_i t ht
    refine ⟨t, xtg_inv ht, ?_⟩
    cases b
    · exact Or.inr ⟨rfl, (Option.some.inj h).symm⟩
    · exact Or.inl ⟨rfl, (Option.some.inj h).symm⟩
theorem xmap_inv {o : Option Nat} {r : List Value} {q : Nat × List Value} (h : o.map (fun t => (t, r)) = some q) : o = some q.1 ∧ q.2 = r := by
  cases o with
  | none => cases h
  | some t => cases h; exact ⟨rfl, rfl⟩
theorem xrf_inv {v : Value} {r : Option Nat} (h : xrf v = some r) : v = va_rf r := by
  cases v <;> first | (cases h; rfl) | cases h
section XJ
variable {p : Program} {l : Launch} {e : Env} {R : Room} {s : State} {m : MethodId} {args : Array Value} {below : List Frame} {meth : Method} {c : Code} {Q : State → Prop} {D : va_G} {ca : Nat → ClassId} {b scr z0 s0 k pc pc' len : Nat} {L L' : XL} {st st' r : List Value} {h : XH} {i : Instr}
theorem xjif_sound {cd : ClassFile.Cond} {off : Int} {x : Int32} (hx : p.tables.exec = Jvm.exec) (hb : c.code = xcode k) (hd : decode (xcode k) pc = .ok (.ifCond cd off, 3)) (ho : xjc (xcnd cd x 0) pc off r = some (pc', st')) (K : XW (p, l, e, R, s, m, args, below, meth, c, Q, D, ca, b, scr, z0, s0) k pc' L st' h) : XW (p, l, e, R, s, m, args, below, meth, c, Q, D, ca, b, scr, z0, s0) k pc L (.int x :: r) h := by
  intro H locs ls hP hS hL
  have K := K H locs ls hP hS hL
  obtain ⟨t, ht, hc⟩ := xjc_inv ho
  cases cd
  · refine lv_if_eq hx hb hd ht (fun q => ?_) (fun q => ?_) <;> rcases hc with ⟨h1, h2⟩ | ⟨h1, h2⟩ <;> simp only [xcnd, decide_eq_true_eq, decide_eq_false_iff_not] at h1 <;> first | (cases h2; exact K) | exact absurd q h1 | exact absurd h1 q
  · refine lv_if_ne hx hb hd ht (fun q => ?_) (fun q => ?_) <;> rcases hc with ⟨h1, h2⟩ | ⟨h1, h2⟩ <;> simp only [xcnd, decide_eq_true_eq, decide_eq_false_iff_not] at h1 <;> first | (cases h2; exact K) | exact absurd q h1 | exact absurd h1 q
  · refine lv_if_lt hx hb hd ht (fun q => ?_) (fun q => ?_) <;> rcases hc with ⟨h1, h2⟩ | ⟨h1, h2⟩ <;> simp only [xcnd, decide_eq_true_eq, decide_eq_false_iff_not] at h1 <;> first | (cases h2; exact K) | exact absurd q h1 | exact absurd h1 q
  · refine lv_if_ge hx hb hd ht (fun q => ?_) (fun q => ?_) <;> rcases hc with ⟨h1, h2⟩ | ⟨h1, h2⟩ <;> simp only [xcnd, decide_eq_true_eq, decide_eq_false_iff_not] at h1 <;> first | (cases h2; exact K) | exact absurd q h1 | exact absurd h1 q
  · refine lv_if_gt hx hb hd ht (fun q => ?_) (fun q => ?_) <;> rcases hc with ⟨h1, h2⟩ | ⟨h1, h2⟩ <;> simp only [xcnd, decide_eq_true_eq, decide_eq_false_iff_not] at h1 <;> first | (cases h2; exact K) | exact absurd q h1 | exact absurd h1 q
  · refine lv_if_le hx hb hd ht (fun q => ?_) (fun q => ?_) <;> rcases hc with ⟨h1, h2⟩ | ⟨h1, h2⟩ <;> simp only [xcnd, decide_eq_true_eq, decide_eq_false_iff_not] at h1 <;> first | (cases h2; exact K) | exact absurd q h1 | exact absurd h1 q
theorem xjcmp_sound {cd : ClassFile.Cond} {off : Int} {x y : Int32} (hx : p.tables.exec = Jvm.exec) (hb : c.code = xcode k) (hd : decode (xcode k) pc = .ok (.if_icmp cd off, 3)) (ho : xjc (xcnd cd x y) pc off r = some (pc', st')) (K : XW (p, l, e, R, s, m, args, below, meth, c, Q, D, ca, b, scr, z0, s0) k pc' L st' h) : XW (p, l, e, R, s, m, args, below, meth, c, Q, D, ca, b, scr, z0, s0) k pc L (.int y :: .int x :: r) h := by
  intro H locs ls hP hS hL
  have K := K H locs ls hP hS hL
  obtain ⟨t, ht, hc⟩ := xjc_inv ho
  cases cd
  · refine lv_icmp_eq hx hb hd ht (fun q => ?_) (fun q => ?_) <;> rcases hc with ⟨h1, h2⟩ | ⟨h1, h2⟩ <;> simp only [xcnd, decide_eq_true_eq, decide_eq_false_iff_not] at h1 <;> first | (cases h2; exact K) | exact absurd q h1 | exact absurd h1 q
  · refine lv_icmp_ne hx hb hd ht (fun q => ?_) (fun q => ?_) <;> rcases hc with ⟨h1, h2⟩ | ⟨h1, h2⟩ <;> simp only [xcnd, decide_eq_true_eq, decide_eq_false_iff_not] at h1 <;> first | (cases h2; exact K) | exact absurd q h1 | exact absurd h1 q
  · refine lv_icmp_lt hx hb hd ht (fun q => ?_) (fun q => ?_) <;> rcases hc with ⟨h1, h2⟩ | ⟨h1, h2⟩ <;> simp only [xcnd, decide_eq_true_eq, decide_eq_false_iff_not] at h1 <;> first | (cases h2; exact K) | exact absurd q h1 | exact absurd h1 q
  · refine lv_icmp_ge hx hb hd ht (fun q => ?_) (fun q => ?_) <;> rcases hc with ⟨h1, h2⟩ | ⟨h1, h2⟩ <;> simp only [xcnd, decide_eq_true_eq, decide_eq_false_iff_not] at h1 <;> first | (cases h2; exact K) | exact absurd q h1 | exact absurd h1 q
  · refine lv_icmp_gt hx hb hd ht (fun q => ?_) (fun q => ?_) <;> rcases hc with ⟨h1, h2⟩ | ⟨h1, h2⟩ <;> simp only [xcnd, decide_eq_true_eq, decide_eq_false_iff_not] at h1 <;> first | (cases h2; exact K) | exact absurd q h1 | exact absurd h1 q
  · refine lv_icmp_le hx hb hd ht (fun q => ?_) (fun q => ?_) <;> rcases hc with ⟨h1, h2⟩ | ⟨h1, h2⟩ <;> simp only [xcnd, decide_eq_true_eq, decide_eq_false_iff_not] at h1 <;> first | (cases h2; exact K) | exact absurd q h1 | exact absurd h1 q
theorem xjmp_sound (hsb : scr < b) (hx : p.tables.exec = Jvm.exec) (hb : c.code = xcode k) (hd : decode (xcode k) pc = .ok (i, len)) (ho : xjmp i len pc st = some (pc', st')) (K : XW (p, l, e, R, s, m, args, below, meth, c, Q, D, ca, b, scr, z0, s0) k pc' L st' h) : XW (p, l, e, R, s, m, args, below, meth, c, Q, D, ca, b, scr, z0, s0) k pc L st h := by
  cases i with
  | goto off =>
    simp only [xjmp] at ho
    split at ho
    · rename_i hl
      subst hl
      obtain ⟨h1, h2⟩ := xmap_inv ho
      cases h2
      intro H locs ls hP hS hL
      exact lv_goto hx hb hd (xtg_inv h1) (K H locs ls hP hS hL)
    · cases ho
  | ifCond cd off =>
    simp only [xjmp] at ho
    split at ho
    · rename_i hl
      subst hl
      unfold xjif at ho
      split at ho
      · exact xjif_sound hx hb hd ho K
      · cases ho
    · cases ho
  | if_icmp cd off =>
    simp only [xjmp] at ho
    split at ho
    · rename_i hl
      subst hl
      unfold xjcmp at ho
      split at ho
      · exact xjcmp_sound hx hb hd ho K
      · cases ho
    · cases ho
  | ifnull off =>
    simp only [xjmp] at ho
    split at ho
    · rename_i hl
      subst hl
      unfold xjnull at ho
      split at ho
      · obtain ⟨t, ht, ⟨h1, h2⟩ | ⟨h1, h2⟩⟩ := xjc_inv ho
        · cases h2
          intro H locs ls hP hS hL
          exact lv_ifnullN hx hb hd ht (K H locs ls hP hS hL)
        · cases h1
      · obtain ⟨t, ht, ⟨h1, h2⟩ | ⟨h1, h2⟩⟩ := xjc_inv ho
        · cases h1
        · cases h2
          intro H locs ls hP hS hL
          exact lv_ifnull hx hb hd (K H locs ls hP hS hL)
      · cases ho
    · cases ho
  | ifnonnull off =>
    simp only [xjmp] at ho
    split at ho
    · rename_i hl
      subst hl
      unfold xjnull at ho
      split at ho
      · obtain ⟨t, ht, ⟨h1, h2⟩ | ⟨h1, h2⟩⟩ := xjc_inv ho
        · cases h1
        · cases h2
          intro H locs ls hP hS hL
          exact lv_ifnonnullN hx hb hd (K H locs ls hP hS hL)
      · obtain ⟨t, ht, ⟨h1, h2⟩ | ⟨h1, h2⟩⟩ := xjc_inv ho
        · cases h2
          intro H locs ls hP hS hL
          exact lv_ifnonnull hx hb hd ht (K H locs ls hP hS hL)
        · cases h1
      · cases ho
    · cases ho
  | if_acmp cd off =>
    simp only [xjmp] at ho
    split at ho
    · rename_i hl
      subst hl
      unfold xjacmp at ho
      split at ho
      · rename_i y x r
        split at ho
        · rename_i rx ry hrx hry
          obtain ⟨t, ht, hc⟩ := xjc_inv ho
          intro H locs ls hP hS hL
          have K := K H locs ls hP hS hL
          rw [xrf_inv hrx, xrf_inv hry]
          show W _ _ _ _ _ _ _ _ _ _ _ _ _ _ _ (F0 m pc ls (xemb _ (va_rf ry) :: xemb _ (va_rf rx) :: List.map _ r))
          rw [xemb_rf, xemb_rf]
          cases cd
          · refine lv_acmp_eq hx hb hd ht (fun q => ?_) (fun q => ?_)
            · have q := xad_injO hsb q
              rcases hc with ⟨h1, h2⟩ | ⟨h1, h2⟩
              · cases h2; exact K
              · simp [q] at h1
            · have q : ¬ rx = ry := fun z => q (by rw [z])
              rcases hc with ⟨h1, h2⟩ | ⟨h1, h2⟩
              · simp [q] at h1
              · cases h2; exact K
          · refine lv_acmp_ne hx hb hd ht (fun q => ?_) (fun q => ?_)
            · have q : ¬ rx = ry := fun z => q (by rw [z])
              rcases hc with ⟨h1, h2⟩ | ⟨h1, h2⟩
              · cases h2; exact K
              · simp [q] at h1
            · have q := xad_injO hsb q
              rcases hc with ⟨h1, h2⟩ | ⟨h1, h2⟩
              · simp [q] at h1
              · cases h2; exact K
        · cases ho
      · cases ho
    · cases ho
  | tableswitch d lo hi offs =>
    simp only [xjmp] at ho
    unfold xjtab at ho
    split at ho
    · split at ho
      · rename_i hq
        obtain ⟨h1, h2⟩ := xmap_inv ho
        cases h2
        intro H locs ls hP hS hL
        exact lv_tableOut hx hb hd hq (xtg_inv h1) (K H locs ls hP hS hL)
      · rename_i hq
        split at ho
        · rename_i off hoff
          obtain ⟨h1, h2⟩ := xmap_inv ho
          cases h2
          intro H locs ls hP hS hL
          exact lv_tableIn hx hb hd (fun z => hq (Or.inl z)) (fun z => hq (Or.inr z)) hoff (xtg_inv h1) (K H locs ls hP hS hL)
        · cases ho
    · cases ho
  | lookupswitch d ps =>
    simp only [xjmp] at ho
    unfold xjlook at ho
    split at ho
    · split at ho
      · rename_i hq
        obtain ⟨h1, h2⟩ := xmap_inv ho
        cases h2
        intro H locs ls hP hS hL
        exact lv_lookup hx hb hd hq rfl (xtg_inv h1) (K H locs ls hP hS hL)
      · cases ho
    · cases ho
  | _ => cases ho
end XJ
end
section
/-! Locals. -/
theorem xst1_len : ∀ (L : XL) (i : Nat) (v : Value), (xst1 L i v).length = L.length
  | [], _, _ => rfl
  | _ :: _, 0, _ => rfl
  | x :: L, 1, v => by simp only [xst1, List.length_cons, xst1_len L 0 v]
  | x :: L, i + 2, v => by simp only [xst1, List.length_cons, xst1_len L (i + 1) v]
theorem xst2_len : ∀ (L : XL) (i : Nat) (v : Value), (xst2 L i v).length = L.length
  | [], 0, _ => rfl
  | [], _ + 1, _ => by simp [xst2]
  | [_], 0, _ => rfl
  | _ :: _ :: _, 0, _ => rfl
  | x :: L, 1, v => by simp only [xst2, List.length_cons, xst2_len L 0 v]
  | x :: L, i + 2, v => by simp only [xst2, List.length_cons, xst2_len L (i + 1) v]
theorem xld_cons0 (x : Option Value) (L : XL) : xld (x :: L) 0 = x := by simp [xld]
theorem xld_consS (x : Option Value) (L : XL) (j : Nat) : xld (x :: L) (j + 1) = xld L j := by simp [xld]
theorem xld_nil (j : Nat) : xld [] j = none := by simp [xld]
theorem xst1_ld : ∀ (L : XL) (i : Nat) (v : Value) (j : Nat) (w : Value), xld (xst1 L i v) j = some w → (j = i ∧ w = v) ∨ (j ≠ i ∧ xld L j = some w ∧ ¬ (j + 1 = i ∧ w.category = 2))
  | [], i, v, j, w, h => by simp only [xst1, xld_nil] at h; cases h
  | x :: L, 0, v, 0, w, h => by simp only [xst1, xld_cons0] at h; exact Or.inl ⟨rfl, (Option.some.inj h).symm⟩
  | x :: L, 0, v, j + 1, w, h => by
    simp only [xst1, xld_consS] at h
    refine Or.inr ⟨by omega, by rw [xld_consS]; exact h, fun q => by omega⟩
  | x :: L, 1, v, 0, w, h => by
    simp only [xst1, xld_cons0] at h
    split at h
    · cases h
    · rename_i hc
      refine Or.inr ⟨by omega, by rw [xld_cons0]; exact h, fun q => hc ?_⟩
      rw [h]
      simp [xcat2, q.2]
  | x :: L, 1, v, j + 1, w, h => by
    simp only [xst1, xld_consS] at h
    rcases xst1_ld L 0 v j w h with ⟨h1, h2⟩ | ⟨h1, h2, h3⟩
    · exact Or.inl ⟨by omega, h2⟩
    · exact Or.inr ⟨by omega, by rw [xld_consS]; exact h2, fun q => by omega⟩
  | x :: L, i + 2, v, 0, w, h => by
    simp only [xst1, xld_cons0] at h
    exact Or.inr ⟨by omega, by rw [xld_cons0]; exact h, fun q => by omega⟩
  | x :: L, i + 2, v, j + 1, w, h => by
    simp only [xst1, xld_consS] at h
    rcases xst1_ld L (i + 1) v j w h with ⟨h1, h2⟩ | ⟨h1, h2, h3⟩
    · exact Or.inl ⟨by omega, h2⟩
    · exact Or.inr ⟨by omega, by rw [xld_consS]; exact h2, fun q => h3 ⟨by omega, q.2⟩⟩
theorem xst2_ld : ∀ (L : XL) (i : Nat) (v : Value) (j : Nat) (w : Value), i + 1 < L.length → xld (xst2 L i v) j = some w → (j = i ∧ w = v) ∨ (j ≠ i ∧ j ≠ i + 1 ∧ xld L j = some w ∧ ¬ (j + 1 = i ∧ w.category = 2))
  | [], i, v, j, w, hl, h => by simp at hl
  | [x], i, v, j, w, hl, h => by simp at hl
  | x :: y :: L, 0, v, 0, w, hl, h => by simp only [xst2, xld_cons0] at h; exact Or.inl ⟨rfl, (Option.some.inj h).symm⟩
  | x :: y :: L, 0, v, 1, w, hl, h => by simp only [xst2, xld_consS, xld_cons0] at h; cases h
  | x :: y :: L, 0, v, j + 2, w, hl, h => by
    simp only [xst2, xld_consS] at h
    exact Or.inr ⟨by omega, by omega, by rw [xld_consS, xld_consS]; exact h, fun q => by omega⟩
  | x :: y :: L, 1, v, 0, w, hl, h => by
    simp only [xst2, xld_cons0] at h
    split at h
    · cases h
    · rename_i hc
      refine Or.inr ⟨by omega, by omega, by rw [xld_cons0]; exact h, fun q => hc ?_⟩
      rw [h]
      simp [xcat2, q.2]
  | x :: y :: L, 1, v, j + 1, w, hl, h => by
    simp only [xst2, xld_consS] at h
    rcases xst2_ld (y :: L) 0 v j w (by simp at hl ⊢; omega) h with ⟨h1, h2⟩ | ⟨h1, h2, h3, h4⟩
    · exact Or.inl ⟨by omega, h2⟩
    · exact Or.inr ⟨by omega, by omega, by rw [xld_consS]; exact h3, fun q => by omega⟩
  | x :: y :: L, i + 2, v, 0, w, hl, h => by
    simp only [xst2, xld_cons0] at h
    exact Or.inr ⟨by omega, by omega, by rw [xld_cons0]; exact h, fun q => by omega⟩
  | x :: y :: L, i + 2, v, j + 1, w, hl, h => by
    simp only [xst2, xld_consS] at h
    rcases xst2_ld (y :: L) (i + 1) v j w (by simp at hl ⊢; omega) h with ⟨h1, h2⟩ | ⟨h1, h2, h3, h4⟩
    · exact Or.inl ⟨by omega, h2⟩
    · exact Or.inr ⟨by omega, by omega, by rw [xld_consS]; exact h3, fun q => h4 ⟨by omega, q.2⟩⟩
def xfacts (ad : Nat → Nat) (L : XL) : List (Nat × Value) := (List.range L.length).filterMap (fun j => (xld L j).map (fun v => (j, xemb ad v)))
theorem xfacts_mem {ad : Nat → Nat} {L : XL} {j : Nat} {v : Value} (h : xld L j = some v) : (j, xemb ad v) ∈ xfacts ad L := by
  refine List.mem_filterMap.mpr ⟨j, List.mem_range.mpr ?_, by rw [h]; rfl⟩
  unfold xld at h
  cases hj : L[j]? with
  | none => rw [hj] at h; cases h
  | some q => exact (List.getElem?_eq_some_iff.mp hj).1
theorem XLH.has {ad : Nat → Nat} {ls : Array Slot} {n : Nat} {L : XL} (h : XLH ad ls n L) : lv_has ls n (xfacts ad L) := by
  refine ⟨h.1, h.2.2.1, fun q hq => ?_⟩
  obtain ⟨j, -, hj⟩ := List.mem_filterMap.mp hq
  cases hv : xld L j with
  | none => rw [hv] at hj; cases hj
  | some v =>
    rw [hv] at hj
    cases hj
    exact h.2.2.2 j v hv
theorem XLH.st1 {ad : Nat → Nat} {ls ls' : Array Slot} {n i : Nat} {L : XL} {v : Value} (h : XLH ad ls n L) (h' : lv_has ls' n ((i, xemb ad v) :: (xfacts ad L).filter (fun q => !(q.1 == i) && !(q.1 + 1 == i && q.2.category == 2)))) : XLH ad ls' n (xst1 L i v) := by
  refine ⟨h'.1, (xst1_len L i v).trans h.2.1, h'.2.1, fun j w hw => ?_⟩
  rcases xst1_ld L i v j w hw with ⟨rfl, rfl⟩ | ⟨h1, h2, h3⟩
  · exact h'.2.2 _ List.mem_cons_self
  · refine h'.2.2 (j, xemb ad w) (List.mem_cons_of_mem _ (List.mem_filter.mpr ⟨xfacts_mem h2, ?_⟩))
    simp only [Bool.and_eq_true, Bool.not_eq_true', beq_eq_false_iff_ne, xemb_cat]
    refine ⟨h1, ?_⟩
    cases hq : (j + 1 == i && w.category == 2) with
    | false => rfl
    | true => simp only [Bool.and_eq_true, beq_iff_eq] at hq; exact absurd hq h3
theorem XLH.st2 {ad : Nat → Nat} {ls ls' : Array Slot} {n i : Nat} {L : XL} {v : Value} (h : XLH ad ls n L) (hi : i + 1 < L.length) (h' : lv_has ls' n ((i, xemb ad v) :: (xfacts ad L).filter (fun q => !(q.1 == i) && (!(q.1 == i + 1) && !(q.1 + 1 == i && q.2.category == 2))))) : XLH ad ls' n (xst2 L i v) := by
  refine ⟨h'.1, (xst2_len L i v).trans h.2.1, h'.2.1, fun j w hw => ?_⟩
  rcases xst2_ld L i v j w hi hw with ⟨rfl, rfl⟩ | ⟨h1, h2, h3, h4⟩
  · exact h'.2.2 _ List.mem_cons_self
  · refine h'.2.2 (j, xemb ad w) (List.mem_cons_of_mem _ (List.mem_filter.mpr ⟨xfacts_mem h3, ?_⟩))
    simp only [Bool.and_eq_true, Bool.not_eq_true', beq_eq_false_iff_ne, xemb_cat]
    refine ⟨h1, h2, ?_⟩
    cases hq : (j + 1 == i && w.category == 2) with
    | false => rfl
    | true => simp only [Bool.and_eq_true, beq_iff_eq] at hq; exact absurd hq h4
theorem xlI_inv {L L' : XL} {i : Nat} {st st' : List Value} (h : xlI L i st = some (L', st')) : ∃ x, xld L i = some (.int x) ∧ L' = L ∧ st' = .int x :: st := by
  unfold xlI at h
  split at h
  · cases h; exact ⟨_, by assumption, rfl, rfl⟩
  · cases h
theorem xlJ_inv {L L' : XL} {i : Nat} {st st' : List Value} (h : xlJ L i st = some (L', st')) : ∃ x, xld L i = some (.long x) ∧ L' = L ∧ st' = .long x :: st := by
  unfold xlJ at h
  split at h
  · cases h; exact ⟨_, by assumption, rfl, rfl⟩
  · cases h
theorem xlA_inv {L L' : XL} {i : Nat} {st st' : List Value} (h : xlA L i st = some (L', st')) : L' = L ∧ ((∃ x, xld L i = some (.ref x) ∧ st' = .ref x :: st) ∨ (xld L i = some .null ∧ st' = .null :: st)) := by
  unfold xlA at h
  split at h
  · cases h; exact ⟨rfl, Or.inl ⟨_, by assumption, rfl⟩⟩
  · cases h; exact ⟨rfl, Or.inr ⟨by assumption, rfl⟩⟩
  · cases h
theorem xsI1_inv {L L' : XL} {i : Nat} {st st' : List Value} (h : xsI1 L i st = some (L', st')) : ∃ x, st = .int x :: st' ∧ L' = xst1 L i (.int x) ∧ i < L.length := by
  unfold xsI1 at h
  split at h
  · split at h
    · cases h; exact ⟨_, rfl, rfl, by assumption⟩
    · cases h
  · cases h
theorem xsJ1_inv {L L' : XL} {i : Nat} {st st' : List Value} (h : xsJ1 L i st = some (L', st')) : ∃ x, st = .long x :: st' ∧ L' = xst2 L i (.long x) ∧ i + 1 < L.length := by
  unfold xsJ1 at h
  split at h
  · split at h
    · cases h; exact ⟨_, rfl, rfl, by assumption⟩
    · cases h
  · cases h
theorem xsA1_inv {L L' : XL} {i : Nat} {st st' : List Value} (h : xsA1 L i st = some (L', st')) : i < L.length ∧ ((∃ x, st = .ref x :: st' ∧ L' = xst1 L i (.ref x)) ∨ (st = .null :: st' ∧ L' = xst1 L i .null)) := by
  unfold xsA1 at h
  split at h
  · split at h
    · cases h; exact ⟨by assumption, Or.inl ⟨_, rfl, rfl⟩⟩
    · cases h
  · split at h
    · cases h; exact ⟨by assumption, Or.inr ⟨rfl, rfl⟩⟩
    · cases h
  · cases h
theorem xinc_inv {L L' : XL} {i : Nat} {n : Int} {st st' : List Value} (h : xinc L i n st = some (L', st')) : ∃ x, xld L i = some (.int x) ∧ i < L.length ∧ L' = xst1 L i (.int (x + Int32.ofInt n)) ∧ st' = st := by
  unfold xinc at h
  split at h
  · split at h
    · cases h; exact ⟨_, by assumption, by assumption, rfl, rfl⟩
    · cases h
  · cases h
section XLO
variable {p : Program} {l : Launch} {e : Env} {R : Room} {s : State} {m : MethodId} {args : Array Value} {below : List Frame} {meth : Method} {c : Code} {Q : State → Prop} {D : va_G} {ca : Nat → ClassId} {b scr z0 s0 k pc pc' len : Nat} {L L' : XL} {st st' r : List Value} {h : XH} {i : Instr}
set_option maxHeartbeats 4000000 in
theorem xloc_sound (hx : p.tables.exec = Jvm.exec) (hb : c.code = xcode k) (hd : decode (xcode k) pc = .ok (i, xlen i)) (ho : xloc i L st = some (L', st')) (K : XW (p, l, e, R, s, m, args, below, meth, c, Q, D, ca, b, scr, z0, s0) k (pc + xlen i) L' st' h) : XW (p, l, e, R, s, m, args, below, meth, c, Q, D, ca, b, scr, z0, s0) k pc L st h := by
  intro H locs ls hP hS hL
  have hn := hL.2.1
  cases i with
  | iload i => obtain ⟨x, h1, rfl, rfl⟩ := xlI_inv ho; exact lv_iload hx hb hd (hL.2.2.2 _ _ h1) (K H locs ls hP hS hL)
  | iload_n i => obtain ⟨x, h1, rfl, rfl⟩ := xlI_inv ho; exact lv_iload_n hx hb hd rfl (hL.2.2.2 _ _ h1) (K H locs ls hP hS hL)
  | lload i => obtain ⟨x, h1, rfl, rfl⟩ := xlJ_inv ho; exact lv_lload hx hb hd (hL.2.2.2 _ _ h1) (K H locs ls hP hS hL)
  | lload_n i => obtain ⟨x, h1, rfl, rfl⟩ := xlJ_inv ho; exact lv_lload_n hx hb hd rfl (hL.2.2.2 _ _ h1) (K H locs ls hP hS hL)
  | aload i =>
    obtain ⟨rfl, ⟨x, h1, rfl⟩ | ⟨h1, rfl⟩⟩ := xlA_inv ho
    · exact lv_aload hx hb hd (hL.2.2.2 _ _ h1) (K H locs ls hP hS hL)
    · exact lv_aloadN hx hb hd (hL.2.2.2 _ _ h1) (K H locs ls hP hS hL)
  | aload_n i =>
    obtain ⟨rfl, ⟨x, h1, rfl⟩ | ⟨h1, rfl⟩⟩ := xlA_inv ho
    · exact lv_aload_n hx hb hd rfl (hL.2.2.2 _ _ h1) (K H locs ls hP hS hL)
    · exact lv_aload_nN hx hb hd rfl (hL.2.2.2 _ _ h1) (K H locs ls hP hS hL)
  | istore i =>
    obtain ⟨x, rfl, rfl, h1⟩ := xsI1_inv ho
    exact lv_istore hx hb hd hL.has (by omega) rfl (fun ls' h' => K H locs ls' hP hS (hL.st1 (v := .int x) h'))
  | istore_n i =>
    obtain ⟨x, rfl, rfl, h1⟩ := xsI1_inv ho
    exact lv_istore_n hx hb hd rfl hL.has (by omega) rfl (fun ls' h' => K H locs ls' hP hS (hL.st1 (v := .int x) h'))
  | lstore i =>
    obtain ⟨x, rfl, rfl, h1⟩ := xsJ1_inv ho
    exact lv_lstore hx hb hd hL.has (by omega) rfl (fun ls' h' => K H locs ls' hP hS (hL.st2 (v := .long x) h1 h'))
  | lstore_n i =>
    obtain ⟨x, rfl, rfl, h1⟩ := xsJ1_inv ho
    exact lv_lstore_n hx hb hd rfl hL.has (by omega) rfl (fun ls' h' => K H locs ls' hP hS (hL.st2 (v := .long x) h1 h'))
  | astore i =>
    obtain ⟨h1, ⟨x, rfl, rfl⟩ | ⟨rfl, rfl⟩⟩ := xsA1_inv ho
    · exact lv_astore hx hb hd hL.has (by omega) rfl (fun ls' h' => K H locs ls' hP hS (hL.st1 (v := .ref x) h'))
    · exact lv_astoreN hx hb hd hL.has (by omega) rfl (fun ls' h' => K H locs ls' hP hS (hL.st1 (v := .null) h'))
  | astore_n i =>
    obtain ⟨h1, ⟨x, rfl, rfl⟩ | ⟨rfl, rfl⟩⟩ := xsA1_inv ho
    · exact lv_astore_n hx hb hd rfl hL.has (by omega) rfl (fun ls' h' => K H locs ls' hP hS (hL.st1 (v := .ref x) h'))
    · exact lv_astore_nN hx hb hd rfl hL.has (by omega) rfl (fun ls' h' => K H locs ls' hP hS (hL.st1 (v := .null) h'))
  | iinc i n =>
    obtain ⟨x, h1, h2, rfl, rfl⟩ := xinc_inv ho
    obtain ⟨q, hq⟩ := List.getElem?_of_mem (xfacts_mem (ad := xad b scr) h1)
    exact lv_iinc hx hb hd hL.has hq rfl (by omega) rfl (fun ls' h' => K H locs ls' hP hS (hL.st1 (v := .int (x + Int32.ofInt n)) h'))
  | _ => cases ho
end XLO
end
section
/-! Memory: fields, arrays, new cells. -/
def xtys (ca : Nat → ClassId) : List (ClassId × FieldType) := [(ca 0, .int), (ca 1, .long), (ca 2, .boolean), (ca 3, .object "BranchGoals$Case"), (ca 4, .object "BranchGoals$Method")]
theorem xad_pos {b scr a : Nat} (h : 1 ≤ a) : xad b scr a = b + (a - 1) := by
  cases a with
  | zero => omega
  | succ a => rfl
theorem xkd_in {h : XH} {a : Nat} (ht : (xkd h a).1 ≠ 999) : 1 ≤ a ∧ a < xhz h ∧ xhk h a = xkd h a := by
  unfold xkd at ht ⊢
  by_cases hc : 1 ≤ a ∧ a < xhz h
  · rw [if_pos hc]; exact ⟨hc.1, hc.2, rfl⟩
  · rw [if_neg hc] at ht; exact absurd rfl ht
theorem xw_at {ad : Nat → Nat} {ca : Nat → ClassId} {b scr a : Nat} {h : XH} (h1 : 1 ≤ a) (h2 : a < xhz h) : (xw ad ca b h)[a - 1]? = some (xad b scr a, xcell ad ca h a) := by
  unfold xw
  rw [List.getElem?_map, List.getElem?_range (by omega)]
  simp only [Option.map_some]
  rw [xad_pos h1, Nat.sub_add_cancel h1]
theorem xw_D (ad : Nat → Nat) (ca : Nat → ClassId) (b : Nat) (h : XH) : va_D (fun q => b ≤ q) (xw ad ca b h) := by
  have key : ∀ (i : Nat) (q : Nat × va_E), (xw ad ca b h)[i]? = some q → q.1 = b + i := by
    intro i q hq
    unfold xw at hq
    rw [List.getElem?_map] at hq
    cases hr : (List.range (xhz h - 1))[i]? with
    | none => rw [hr] at hq; cases hq
    | some j =>
      rw [hr] at hq
      cases hq
      have := List.getElem?_eq_some_iff.mp hr
      obtain ⟨hl, he⟩ := this
      rw [List.getElem_range] at he
      show b + j = b + i
      omega
  refine ⟨fun i j p q hp hq e => ?_, fun k q hq => ?_⟩
  · have h1 := key i p hp
    have h2 := key j q hq
    omega
  · have h1 := key k q hq
    show b ≤ q.1
    omega
theorem xw_set {ad : Nat → Nat} {ca : Nat → ClassId} {b scr a : Nat} {h h' : XH} (hz : xhz h' = xhz h) (h1 : 1 ≤ a) (h2 : a < xhz h) (ho : ∀ x, x ≠ a → xcell ad ca h' x = xcell ad ca h x) {e : va_E} (he : xcell ad ca h' a = e) : (xw ad ca b h).set (a - 1) (xad b scr a, e) = xw ad ca b h' := by
  subst he
  apply List.ext_getElem?
  intro i
  rw [List.getElem?_set]
  have hl : (xw ad ca b h).length = xhz h - 1 := by simp [xw]
  by_cases hi : a - 1 = i
  · subst hi
    rw [if_pos rfl, if_pos (by omega), xw_at (scr := scr) h1 (by omega)]
  · rw [if_neg hi]
    by_cases hlt : i < xhz h - 1
    · unfold xw
      rw [List.getElem?_map, List.getElem?_map, List.getElem?_range hlt, List.getElem?_range (by omega)]
      simp only [Option.map_some]
      rw [ho (i + 1) (by omega)]
    · rw [List.getElem?_eq_none (by omega), List.getElem?_eq_none (by simp [xw]; omega)]
theorem xw_obj {ad : Nat → Nat} {ca : Nat → ClassId} {b scr a ci n : Nat} {h : XH} (e : xkd h a = (ci, n)) (hci : ci < 100) : (xw ad ca b h)[a - 1]? = some (xad b scr a, .inr (ci, (List.range n).map (fun j => xemb ad (xfv (xft ci j) (xhI h a) (xhJ h a) (xhR h a) j)))) := by
  obtain ⟨h1, h2, h3⟩ := xkd_in (h := h) (a := a) (by rw [e]; show ci ≠ 999; omega)
  rw [xw_at (scr := scr) h1 h2]
  unfold xcell xcl0
  rw [h3, e, if_pos hci]
theorem xc_int {ad : Nat → Nat} {ca : Nat → ClassId} {t : Nat × Nat} {I : Nat → Int32} {J : Nat → Int64} {R : Nat → Option Nat} (e : t.1 = 100) : xcl0 ad ca t I J R = .inl (ca 0, t.2, .inl I) := by
  unfold xcl0
  rw [e]
  rfl
theorem xc_long {ad : Nat → Nat} {ca : Nat → ClassId} {t : Nat × Nat} {I : Nat → Int32} {J : Nat → Int64} {R : Nat → Option Nat} (e : t.1 = 101) : xcl0 ad ca t I J R = .inl (ca 1, t.2, .inr (.inl J)) := by
  unfold xcl0
  rw [e]
  rfl
theorem xc_bool {ad : Nat → Nat} {ca : Nat → ClassId} {t : Nat × Nat} {I : Nat → Int32} {J : Nat → Int64} {R : Nat → Option Nat} (e : t.1 = 102) : xcl0 ad ca t I J R = .inl (ca 2, t.2, .inl I) := by
  unfold xcl0
  rw [e]
  rfl
theorem xc_ref {ad : Nat → Nat} {ca : Nat → ClassId} {t : Nat × Nat} {I : Nat → Int32} {J : Nat → Int64} {R : Nat → Option Nat} {q : Nat} (e : t.1 = 103 + q) : xcl0 ad ca t I J R = .inl (ca (3 + q), t.2, .inr (.inr (.inr (.inr (fun i => (R i).map ad))))) := by
  unfold xcl0
  rw [e, if_neg (by omega), if_neg (by omega), if_neg (by omega), show 103 + q - 100 = 3 + q by omega]
theorem xw_arr {ad : Nat → Nat} {ca : Nat → ClassId} {b scr a : Nat} {h : XH} (ht : (xkd h a).1 ≠ 999) : (xw ad ca b h)[a - 1]? = some (xad b scr a, xcl0 ad ca (xkd h a) (xhI h a) (xhJ h a) (xhR h a)) := by
  obtain ⟨h1, h2, h3⟩ := xkd_in ht
  rw [xw_at (scr := scr) h1 h2]
  unfold xcell
  rw [h3]
theorem xinb_in {i : Int32} {n : Nat} (h : xinb i n = true) : vp_in i n := by
  have h2 : ¬ (i < 0 ∨ n ≤ i.toNatClampNeg) := of_decide_eq_true h
  exact h2
theorem xu_ne {α : Type} {f : Nat → Nat → α} {a i x : Nat} {v : α} (h : x ≠ a) : xu f a i v x = f x := by
  funext y
  unfold xu
  rw [if_neg (fun q => h q.1)]
theorem xu_at {α : Type} {f : Nat → Nat → α} {a i : Nat} {v : α} (y : Nat) : xu f a i v a y = if y = i then v else f a y := by
  unfold xu
  by_cases h : y = i
  · rw [if_pos ⟨rfl, h⟩, if_pos h]
  · rw [if_neg (fun q => h q.2), if_neg h]
theorem xrow_ne {α : Type} {f : Nat → Nat → α} {a x : Nat} {g : Nat → α} (h : x ≠ a) : xrow f a g x = f x := by
  funext y
  unfold xrow
  rw [if_neg h]
theorem xrow_at {α : Type} {f : Nat → Nat → α} {a : Nat} {g : Nat → α} : xrow f a g a = g := by
  funext y
  unfold xrow
  rw [if_pos rfl]
theorem xfp_obj {h h' : XH} {a j : Nat} {v : Value} {ty : FieldType} (hty : (∃ n, ty = .object n) ∨ ∃ t, ty = .array t) (e : xfp ty h a j v = some h') : ∃ r, v = va_rf r ∧ h' = xsR h (xu (xhR h) a j r) := by
  rcases hty with ⟨n, rfl⟩ | ⟨t, rfl⟩ <;> cases v <;> first | (cases e; exact ⟨none, rfl, rfl⟩) | (cases e; exact ⟨some _, rfl, rfl⟩) | cases e
theorem xfp_spec {ty : FieldType} {h h' : XH} {a j : Nat} {v : Value} (e : xfp ty h a j v = some h') : xhz h' = xhz h ∧ xhs h' = xhs h ∧ xhk h' = xhk h ∧ (∀ x, x ≠ a → xhI h' x = xhI h x ∧ xhJ h' x = xhJ h x ∧ xhR h' x = xhR h x) ∧ (∀ ty' q, q ≠ j → xfv ty' (xhI h' a) (xhJ h' a) (xhR h' a) q = xfv ty' (xhI h a) (xhJ h a) (xhR h a) q) ∧ xfv ty (xhI h' a) (xhJ h' a) (xhR h' a) j = v ∧ ∀ ad, narrow ty (xemb ad v) = xemb ad v ∧ fits ty (xemb ad v) = true := by
  have gi : ∀ x : Int32, xhz (xsI h (xu (xhI h) a j x)) = xhz h ∧ xhs (xsI h (xu (xhI h) a j x)) = xhs h ∧ xhk (xsI h (xu (xhI h) a j x)) = xhk h ∧ (∀ y, y ≠ a → xhI (xsI h (xu (xhI h) a j x)) y = xhI h y ∧ xhJ (xsI h (xu (xhI h) a j x)) y = xhJ h y ∧ xhR (xsI h (xu (xhI h) a j x)) y = xhR h y) ∧ (∀ ty' q, q ≠ j → xfv ty' (xhI (xsI h (xu (xhI h) a j x)) a) (xhJ (xsI h (xu (xhI h) a j x)) a) (xhR (xsI h (xu (xhI h) a j x)) a) q = xfv ty' (xhI h a) (xhJ h a) (xhR h a) q) ∧ xhI (xsI h (xu (xhI h) a j x)) a j = x := by
    intro x
    refine ⟨rfl, rfl, rfl, fun y hy => ⟨xu_ne hy, rfl, rfl⟩, fun ty' q hq => ?_, ?_⟩
    · have : xhI (xsI h (xu (xhI h) a j x)) a q = xhI h a q := by
        show xu (xhI h) a j x a q = _
        rw [xu_at, if_neg hq]
      unfold xfv
      cases ty' <;> first | rfl | (show Value.int _ = Value.int _; rw [this])
    · show xu (xhI h) a j x a j = x
      rw [xu_at, if_pos rfl]
  have gr : ∀ r : Option Nat, xhz (xsR h (xu (xhR h) a j r)) = xhz h ∧ xhs (xsR h (xu (xhR h) a j r)) = xhs h ∧ xhk (xsR h (xu (xhR h) a j r)) = xhk h ∧ (∀ y, y ≠ a → xhI (xsR h (xu (xhR h) a j r)) y = xhI h y ∧ xhJ (xsR h (xu (xhR h) a j r)) y = xhJ h y ∧ xhR (xsR h (xu (xhR h) a j r)) y = xhR h y) ∧ (∀ ty' q, q ≠ j → xfv ty' (xhI (xsR h (xu (xhR h) a j r)) a) (xhJ (xsR h (xu (xhR h) a j r)) a) (xhR (xsR h (xu (xhR h) a j r)) a) q = xfv ty' (xhI h a) (xhJ h a) (xhR h a) q) ∧ xhR (xsR h (xu (xhR h) a j r)) a j = r := by
    intro x
    refine ⟨rfl, rfl, rfl, fun y hy => ⟨rfl, rfl, xu_ne hy⟩, fun ty' q hq => ?_, ?_⟩
    · have : xhR (xsR h (xu (xhR h) a j x)) a q = xhR h a q := by
        show xu (xhR h) a j x a q = _
        rw [xu_at, if_neg hq]
      unfold xfv
      cases ty' <;> first | rfl | (show va_rf _ = va_rf _; rw [this])
    · show xu (xhR h) a j x a j = x
      rw [xu_at, if_pos rfl]
  have gro : ∀ ty, ((∃ n, ty = .object n) ∨ ∃ t, ty = .array t) → ∀ (r : Option Nat) (ad : Nat → Nat), narrow ty (xemb ad (va_rf r)) = xemb ad (va_rf r) ∧ fits ty (xemb ad (va_rf r)) = true := by
    intro ty hty r ad
    rcases hty with ⟨n, rfl⟩ | ⟨t, rfl⟩ <;> cases r <;> exact ⟨rfl, rfl⟩
  cases ty with
  | int =>
    cases v with
    | int x => cases e; obtain ⟨a1, a2, a3, a4, a5, a6⟩ := gi x; exact ⟨a1, a2, a3, a4, a5, congrArg Value.int a6, fun _ => ⟨rfl, rfl⟩⟩
    | _ => cases e
  | boolean =>
    cases v with
    | int x =>
      simp only [xfp] at e
      split at e
      · rename_i hx
        cases e
        obtain ⟨a1, a2, a3, a4, a5, a6⟩ := gi x
        refine ⟨a1, a2, a3, a4, a5, congrArg Value.int a6, fun _ => ?_⟩
        rcases hx with rfl | rfl
        · exact ⟨(by decide : narrow FieldType.boolean (Value.int 0) = Value.int 0), (by decide : fits FieldType.boolean (Value.int 0) = true)⟩
        · exact ⟨(by decide : narrow FieldType.boolean (Value.int 1) = Value.int 1), (by decide : fits FieldType.boolean (Value.int 1) = true)⟩
      · cases e
    | _ => cases e
  | long =>
    cases v with
    | long x =>
      cases e
      refine ⟨rfl, rfl, rfl, fun y hy => ⟨rfl, xu_ne hy, rfl⟩, fun ty' q hq => ?_, ?_, fun _ => ⟨rfl, rfl⟩⟩
      · have : xhJ (xsJ h (xu (xhJ h) a j x)) a q = xhJ h a q := by
          show xu (xhJ h) a j x a q = _
          rw [xu_at, if_neg hq]
        unfold xfv
        cases ty' <;> first | rfl | (show Value.long _ = Value.long _; rw [this])
      · show Value.long (xu (xhJ h) a j x a j) = _
        rw [xu_at, if_pos rfl]
    | _ => cases e
  | object n =>
    obtain ⟨r, rfl, rfl⟩ := xfp_obj (Or.inl ⟨n, rfl⟩) e
    obtain ⟨a1, a2, a3, a4, a5, a6⟩ := gr r
    exact ⟨a1, a2, a3, a4, a5, congrArg va_rf a6, fun ad => gro _ (Or.inl ⟨n, rfl⟩) r ad⟩
  | array t =>
    obtain ⟨r, rfl, rfl⟩ := xfp_obj (Or.inr ⟨t, rfl⟩) e
    obtain ⟨a1, a2, a3, a4, a5, a6⟩ := gr r
    exact ⟨a1, a2, a3, a4, a5, congrArg va_rf a6, fun ad => gro _ (Or.inr ⟨t, rfl⟩) r ad⟩
  | _ => cases e
section XME
variable {p : Program} {l : Launch} {e : Env} {R : Room} {s : State} {m : MethodId} {args : Array Value} {below : List Frame} {meth : Method} {c : Code} {Q : State → Prop} {D : va_G} {ca : Nat → ClassId} {b scr z0 s0 k pc pc' len : Nat} {L L' : XL} {st st' r : List Value} {h h' : XH} {i : Instr} {S : XS}
theorem xgetf_sound {idx : Nat} (hx : p.tables.exec = Jvm.exec) (hb : c.code = xcode k) (hown : s.vm.findClass (xcn (xkc k)) = some m.cls) (hts : ∀ w ∈ xgood, w.before args s = true) (hK : va_K D xcls (xtys ca) s)
    (hd : decode (xcode k) pc = .ok (.getfield idx, 3)) (ho : xgetf k idx h st = some (st', h')) (K : XW (p, l, e, R, s, m, args, below, meth, c, Q, D, ca, b, scr, z0, s0) k (pc + 3) L st' h') : XW (p, l, e, R, s, m, args, below, meth, c, Q, D, ca, b, scr, z0, s0) k pc L st h := by
  unfold xgetf at ho
  split at ho
  · split at ho
    · split at ho
      · rename_i a r _ ci j hf hk
        cases ho
        obtain ⟨hci, hj, hl⟩ := xfld_ok hf
        intro H locs ls hP hS hL
        refine va_get (D := D) (ci := ci) (C := xcn ci) (T := xTT ci) (N := xnf ci) hx hb hts (xws_in hci) hown hK hP (a - 1) (xw_obj (scr := scr) hk (by omega)) (xcls_at hci) j hj (hts _ hl) (fun _ q => q) ?_ hd (K H locs ls hP hS hL)
        rw [List.getElem?_map, List.getElem?_range hj]
        rfl
      · cases ho
    · cases ho
  · cases ho
theorem xputf_sound {idx : Nat} (hx : p.tables.exec = Jvm.exec) (hb : c.code = xcode k) (hown : s.vm.findClass (xcn (xkc k)) = some m.cls) (hts : ∀ w ∈ xgood, w.before args s = true) (hK : va_K D xcls (xtys ca) s) (hin : (xyn k).name = "<init>" → meth.name = "<init>")
    (hd : decode (xcode k) pc = .ok (.putfield idx, 3)) (ho : xputf k idx h st = some (st', h')) (K : XW (p, l, e, R, s, m, args, below, meth, c, Q, D, ca, b, scr, z0, s0) k (pc + 3) L st' h') : XW (p, l, e, R, s, m, args, below, meth, c, Q, D, ca, b, scr, z0, s0) k pc L st h := by
  unfold xputf at ho
  split at ho
  · split at ho
    · split at ho
      · rename_i v a r _ ci j hf hk
        obtain ⟨hk, hpo⟩ := hk
        cases hfp : xfp (xft ci j) h a j v with
        | none => rw [hfp] at ho; cases ho
        | some h2 =>
          rw [hfp] at ho
          cases ho
          obtain ⟨hci, hj, hl⟩ := xfld_ok hf
          obtain ⟨f1, f2, f3, f4, f5, f6, f7⟩ := xfp_spec hfp
          obtain ⟨g1, g2, g3⟩ := xkd_in (h := h) (a := a) (by rw [hk]; show ci ≠ 999; omega)
          have hset : (xw (xad b scr) ca b h).set (a - 1) (xad b scr a, .inr (ci, ((List.range (xnf ci)).map (fun j => xemb (xad b scr) (xfv (xft ci j) (xhI h a) (xhJ h a) (xhR h a) j))).set j (xemb (xad b scr) v))) = xw (xad b scr) ca b h' := by
            refine xw_set f1 g1 g2 (fun x hx => ?_) ?_
            · unfold xcell
              obtain ⟨q1, q2, q3⟩ := f4 x hx
              rw [f3, q1, q2, q3]
            · unfold xcell xcl0
              rw [f3, g3, hk, if_pos (show ci < 100 by omega)]
              congr 2
              apply List.ext_getElem?
              intro q
              rw [List.getElem?_set, List.getElem?_map, List.getElem?_map]
              by_cases hq : j = q
              · subst hq
                rw [if_pos rfl, List.getElem?_range hj, if_pos (by simpa using hj)]
                simp only [Option.map_some]
                rw [f6]
              · rw [if_neg hq]
                by_cases hql : q < xnf ci
                · rw [List.getElem?_range hql]
                  simp only [Option.map_some]
                  rw [f5 _ q (fun z => hq z.symm)]
                · rw [List.getElem?_eq_none (by simpa using hql)]
                  rfl
          intro H locs ls hP hS hL
          have hk2 : ∀ (H1 : Heap) (locs1 : List Loc), va_P D xcls ((xw (xad b scr) ca b h).set (a - 1) (xad b scr a, .inr (ci, ((List.range (xnf ci)).map (fun j => xemb (xad b scr) (xfv (xft ci j) (xhI h a) (xhJ h a) (xhR h a) j))).set j (xemb (xad b scr) v)))) H1 → va_D (fun q => b ≤ q) ((xw (xad b scr) ca b h).set (a - 1) (xad b scr a, .inr (ci, ((List.range (xnf ci)).map (fun j => xemb (xad b scr) (xfv (xft ci j) (xhI h a) (xhJ h a) (xhR h a) j))).set j (xemb (xad b scr) v)))) → va_S (fun q => b ≤ q) s.heap H1 locs1 → W p l e R s m args below meth c H1 locs1 (xhz h - z0) (xhs h - s0) Q (F0 m (pc + 3) ls (st'.map (xemb (xad b scr)))) := by
            intro H1 locs1 hP1 _ hS1
            rw [hset] at hP1
            have := K H1 locs1 ls hP1 hS1 hL
            rw [f1, f2] at this
            exact this
          cases hfin : (xTT ci j).2.2.2 with
          | false =>
            exact va_put (D := D) (ci := ci) (C := xcn ci) (T := xTT ci) (N := xnf ci) hx hb hts (xws_in hci) (xft ci) (xf_ty hci) (xf_nm hci) hown hK hP (xw_D _ _ _ _) hS (a - 1) (xw_obj (scr := scr) hk (by omega)) (xcls_at hci) j hj (hts _ hl) (fun _ q => q) hfin (xf_ty hci j hj) (f7 _).1 (f7 _).2 (by simpa using hj) hd hk2
          | true =>
            unfold xpok at hpo
            rw [xcls_at hci] at hpo
            simp only [hfin, Bool.not_true, Bool.false_or, Bool.and_eq_true, beq_iff_eq] at hpo
            exact va_putF (D := D) (ci := ci) (C := xcn ci) (T := xTT ci) (N := xnf ci) hx hb hts (xws_in hci) (xft ci) (xf_ty hci) (xf_nm hci) hown hK hP (xw_D _ _ _ _) hS (a - 1) (xw_obj (scr := scr) hk (by omega)) (xcls_at hci) j hj (hts _ hl) (fun _ q => q) hfin (hin hpo.1) (by rw [xf_dc hci j hj, hpo.2]) (xf_ty hci j hj) (f7 _).1 (f7 _).2 (by simpa using hj) hd hk2
      · cases ho
    · cases ho
  · cases ho
end XME
end
section
/-! Arrays, new cells, constants. -/
theorem xu_upd {f : Nat → Nat → Int32} {a i : Nat} {x : Int32} : xu f a i x a = upd (f a) i x := by
  funext y
  rw [xu_at]
  rfl
theorem xu_updL {f : Nat → Nat → Int64} {a i : Nat} {x : Int64} : xu f a i x a = vp_updL (f a) i x := by
  funext y
  rw [xu_at]
  rfl
theorem xwid_emb (ad : Nat → Nat) (r : List Value) : ((r.map (xemb ad)).map fun v => v.category).sum = xwid r := by
  unfold xwid
  rw [List.map_map]
  congr 1
  apply List.map_congr_left
  intro v _
  exact xemb_cat ad v
theorem xsetI {ad : Nat → Nat} {ca : Nat → ClassId} {b scr a i : Nat} {h : XH} {x : Int32} {e : va_E} (ht : (xkd h a).1 ≠ 999) (he : xcl0 ad ca (xkd h a) (xu (xhI h) a i x a) (xhJ h a) (xhR h a) = e) : (xw ad ca b h).set (a - 1) (xad b scr a, e) = xw ad ca b (xsI h (xu (xhI h) a i x)) := by
  obtain ⟨h1, h2, h3⟩ := xkd_in ht
  refine xw_set (h := h) (h' := xsI h (xu (xhI h) a i x)) rfl h1 h2 (fun y hy => ?_) ?_
  · show xcl0 ad ca (xhk h y) (xu (xhI h) a i x y) (xhJ h y) (xhR h y) = xcl0 ad ca (xhk h y) (xhI h y) (xhJ h y) (xhR h y)
    rw [xu_ne hy]
  · show xcl0 ad ca (xhk h a) (xu (xhI h) a i x a) (xhJ h a) (xhR h a) = e
    rw [h3]
    exact he
theorem xsetJ {ad : Nat → Nat} {ca : Nat → ClassId} {b scr a i : Nat} {h : XH} {x : Int64} {e : va_E} (ht : (xkd h a).1 ≠ 999) (he : xcl0 ad ca (xkd h a) (xhI h a) (xu (xhJ h) a i x a) (xhR h a) = e) : (xw ad ca b h).set (a - 1) (xad b scr a, e) = xw ad ca b (xsJ h (xu (xhJ h) a i x)) := by
  obtain ⟨h1, h2, h3⟩ := xkd_in ht
  refine xw_set (h := h) (h' := xsJ h (xu (xhJ h) a i x)) rfl h1 h2 (fun y hy => ?_) ?_
  · show xcl0 ad ca (xhk h y) (xhI h y) (xu (xhJ h) a i x y) (xhR h y) = xcl0 ad ca (xhk h y) (xhI h y) (xhJ h y) (xhR h y)
    rw [xu_ne hy]
  · show xcl0 ad ca (xhk h a) (xhI h a) (xu (xhJ h) a i x a) (xhR h a) = e
    rw [h3]
    exact he
theorem xsetR {ad : Nat → Nat} {ca : Nat → ClassId} {b scr a i : Nat} {h : XH} {x : Option Nat} {e : va_E} (ht : (xkd h a).1 ≠ 999) (he : xcl0 ad ca (xkd h a) (xhI h a) (xhJ h a) (xu (xhR h) a i x a) = e) : (xw ad ca b h).set (a - 1) (xad b scr a, e) = xw ad ca b (xsR h (xu (xhR h) a i x)) := by
  obtain ⟨h1, h2, h3⟩ := xkd_in ht
  refine xw_set (h := h) (h' := xsR h (xu (xhR h) a i x)) rfl h1 h2 (fun y hy => ?_) ?_
  · show xcl0 ad ca (xhk h y) (xhI h y) (xhJ h y) (xu (xhR h) a i x y) = xcl0 ad ca (xhk h y) (xhI h y) (xhJ h y) (xhR h y)
    rw [xu_ne hy]
  · show xcl0 ad ca (xhk h a) (xhI h a) (xhJ h a) (xu (xhR h) a i x a) = e
    rw [h3]
    exact he
theorem xrowI {ad : Nat → Nat} {ca : Nat → ClassId} {b scr a : Nat} {h : XH} {g : Nat → Int32} {e : va_E} (ht : (xkd h a).1 ≠ 999) (he : xcl0 ad ca (xkd h a) g (xhJ h a) (xhR h a) = e) : (xw ad ca b h).set (a - 1) (xad b scr a, e) = xw ad ca b (xsI h (xrow (xhI h) a g)) := by
  obtain ⟨h1, h2, h3⟩ := xkd_in ht
  refine xw_set (h := h) (h' := xsI h (xrow (xhI h) a g)) rfl h1 h2 (fun y hy => ?_) ?_
  · show xcl0 ad ca (xhk h y) (xrow (xhI h) a g y) (xhJ h y) (xhR h y) = xcl0 ad ca (xhk h y) (xhI h y) (xhJ h y) (xhR h y)
    rw [xrow_ne hy]
  · show xcl0 ad ca (xhk h a) (xrow (xhI h) a g a) (xhJ h a) (xhR h a) = e
    rw [h3, xrow_at]
    exact he
theorem xrowJ {ad : Nat → Nat} {ca : Nat → ClassId} {b scr a : Nat} {h : XH} {g : Nat → Int64} {e : va_E} (ht : (xkd h a).1 ≠ 999) (he : xcl0 ad ca (xkd h a) (xhI h a) g (xhR h a) = e) : (xw ad ca b h).set (a - 1) (xad b scr a, e) = xw ad ca b (xsJ h (xrow (xhJ h) a g)) := by
  obtain ⟨h1, h2, h3⟩ := xkd_in ht
  refine xw_set (h := h) (h' := xsJ h (xrow (xhJ h) a g)) rfl h1 h2 (fun y hy => ?_) ?_
  · show xcl0 ad ca (xhk h y) (xhI h y) (xrow (xhJ h) a g y) (xhR h y) = xcl0 ad ca (xhk h y) (xhI h y) (xhJ h y) (xhR h y)
    rw [xrow_ne hy]
  · show xcl0 ad ca (xhk h a) (xhI h a) (xrow (xhJ h) a g a) (xhR h a) = e
    rw [h3, xrow_at]
    exact he
theorem xw_xnew {ad : Nat → Nat} {ca : Nat → ClassId} {b t n : Nat} {h : XH} (h1 : 1 ≤ xhz h) : xw ad ca b (xnew h t n) = xw ad ca b h ++ [(b + (xhz h - 1), xcl0 ad ca (t, n) (fun _ => 0) (fun _ => 0) (fun _ => none))] := by
  have hold : ∀ x, x < xhz h → xcell ad ca (xnew h t n) x = xcell ad ca h x := by
    intro x hx
    have hne : x ≠ xhz h := by omega
    show xcl0 ad ca (if x = xhz h then (t, n) else xhk h x) (xrow (xhI h) (xhz h) (fun _ => 0) x) (xrow (xhJ h) (xhz h) (fun _ => 0) x) (xrow (xhR h) (xhz h) (fun _ => none) x) = xcl0 ad ca (xhk h x) (xhI h x) (xhJ h x) (xhR h x)
    rw [if_neg hne, xrow_ne hne, xrow_ne hne, xrow_ne hne]
  have hnew : xcell ad ca (xnew h t n) (xhz h) = xcl0 ad ca (t, n) (fun _ => 0) (fun _ => 0) (fun _ => none) := by
    show xcl0 ad ca (if xhz h = xhz h then (t, n) else xhk h (xhz h)) (xrow (xhI h) (xhz h) (fun _ => 0) (xhz h)) (xrow (xhJ h) (xhz h) (fun _ => 0) (xhz h)) (xrow (xhR h) (xhz h) (fun _ => none) (xhz h)) = _
    rw [if_pos rfl, xrow_at, xrow_at, xrow_at]
  unfold xw
  rw [show xhz (xnew h t n) - 1 = (xhz h - 1) + 1 from by show xhz h + 1 - 1 = _; omega, List.range_succ, List.map_append]
  congr 1
  · apply List.map_congr_left
    intro x hx
    rw [hold (x + 1) (by have := List.mem_range.mp hx; omega)]
  · rw [List.map_singleton, Nat.sub_add_cancel h1, hnew]
theorem xw_push {D : va_G} {ad : Nat → Nat} {ca : Nat → ClassId} {b q : Nat} {h : XH} {e : va_E} {H1 : Heap} (h1 : 1 ≤ xhz h) (hP : va_P D xcls (xw ad ca b h ++ [(q, e)]) H1) (hD : va_D (fun q => b ≤ q) (xw ad ca b h ++ [(q, e)])) (hz : H1.size ≤ b + xhz h) : q = b + (xhz h - 1) := by
  have hl : (xw ad ca b h).length = xhz h - 1 := by simp [xw]
  have hlast : (xw ad ca b h ++ [(q, e)])[xhz h - 1]? = some (q, e) := by
    rw [List.getElem?_append_right (by omega), hl, Nat.sub_self]
    rfl
  have hlt : q < H1.size := (hP _ _ hlast).lt
  have hge : b ≤ q := hD.2 _ _ hlast
  by_cases hc : q - b < xhz h - 1
  · exfalso
    have hi : (xw ad ca b h ++ [(q, e)])[q - b]? = some (b + (q - b), xcell ad ca h (q - b + 1)) := by
      rw [List.getElem?_append_left (by omega)]
      unfold xw
      rw [List.getElem?_map, List.getElem?_range hc]
      rfl
    have := hD.1 _ _ _ _ hi hlast (by show b + (q - b) = q; omega)
    omega
  · omega
theorem W.sized {p : Program} {l : Launch} {e : Env} {R : Room} {s : State} {m : MethodId} {args : Array Value} {below : List Frame} {meth : Method} {c : Code} {H : Heap} {locs : List Loc} {cells slots : Nat} {Q : State → Prop} {g : JFrame} (k : H.size ≤ s.heap.size + cells → W p l e R s m args below meth c H locs cells slots Q g) : W p l e R s m args below meth c H locs cells slots Q g := fun T hT X => k (by rw [← hT]; exact X.heapSize) T hT X
def xoty : FieldType → Bool
  | .int => true
  | .long => true
  | .boolean => true
  | .object _ => true
  | .array _ => true
  | _ => false
set_option maxRecDepth 100000 in
theorem xs_oty : (List.range 10).all (fun ci => (List.range (xnf ci)).all (fun j => xoty (xft ci j))) = true := by decide +kernel
theorem xoty_def {ty : FieldType} (h : xoty ty = true) (ad : Nat → Nat) (j : Nat) : defaultValue ty = xemb ad (xfv ty (fun _ => 0) (fun _ => 0) (fun _ => none) j) := by
  cases ty <;> first | rfl | cases h
section XAR
variable {p : Program} {l : Launch} {e : Env} {R : Room} {s : State} {m : MethodId} {args : Array Value} {below : List Frame} {meth : Method} {c : Code} {Q : State → Prop} {D : va_G} {ca : Nat → ClassId} {b scr z0 s0 k pc pc' len : Nat} {L L' : XL} {st st' r : List Value} {h h' : XH} {i : Instr} {S : XS}
theorem xloads_sound (hx : p.tables.exec = Jvm.exec) (hb : c.code = xcode k) (hK : va_K D xcls (xtys ca) s) (hX : va_X scr S.1 S.2 s s.heap) (hsb : scr < b) (hbs : b ≤ s.heap.size) :
    (decode (xcode k) pc = .ok (.iaload, 1) → xiald S h st = some (st', h') → XW (p, l, e, R, s, m, args, below, meth, c, Q, D, ca, b, scr, z0, s0) k (pc + 1) L st' h' → XW (p, l, e, R, s, m, args, below, meth, c, Q, D, ca, b, scr, z0, s0) k pc L st h) ∧
    (decode (xcode k) pc = .ok (.laload, 1) → xjald h st = some (st', h') → XW (p, l, e, R, s, m, args, below, meth, c, Q, D, ca, b, scr, z0, s0) k (pc + 1) L st' h' → XW (p, l, e, R, s, m, args, below, meth, c, Q, D, ca, b, scr, z0, s0) k pc L st h) ∧
    (decode (xcode k) pc = .ok (.baload, 1) → xzald h st = some (st', h') → XW (p, l, e, R, s, m, args, below, meth, c, Q, D, ca, b, scr, z0, s0) k (pc + 1) L st' h' → XW (p, l, e, R, s, m, args, below, meth, c, Q, D, ca, b, scr, z0, s0) k pc L st h) ∧
    (decode (xcode k) pc = .ok (.aaload, 1) → xaald h st = some (st', h') → XW (p, l, e, R, s, m, args, below, meth, c, Q, D, ca, b, scr, z0, s0) k (pc + 1) L st' h' → XW (p, l, e, R, s, m, args, below, meth, c, Q, D, ca, b, scr, z0, s0) k pc L st h) ∧
    (decode (xcode k) pc = .ok (.arraylength, 1) → xalen S h st = some (st', h') → XW (p, l, e, R, s, m, args, below, meth, c, Q, D, ca, b, scr, z0, s0) k (pc + 1) L st' h' → XW (p, l, e, R, s, m, args, below, meth, c, Q, D, ca, b, scr, z0, s0) k pc L st h) := by
  refine ⟨fun hd ho K => ?_, fun hd ho K => ?_, fun hd ho K => ?_, fun hd ho K => ?_, fun hd ho K => ?_⟩
  · unfold xiald at ho
    split at ho
    · split at ho
      · rename_i i a r ha
        subst ha
        split at ho
        · rename_i hi
          cases ho
          intro H locs ls hP hS hL
          exact va_sld hx hb hX (by omega) (by omega) hS (xinb_in hi) hd (K H locs ls hP hS hL)
        · cases ho
      · split at ho
        · rename_i hc
          cases ho
          intro H locs ls hP hS hL
          refine va_iald hx hb hK hP _ 0 ((xw_arr (scr := scr) (by rw [hc.1]; decide)).trans (by rw [xc_int hc.1])) rfl (xinb_in hc.2) hd (K H locs ls hP hS hL)
        · cases ho
    · cases ho
  · unfold xjald at ho
    split at ho
    · split at ho
      · rename_i hc
        cases ho
        intro H locs ls hP hS hL
        refine va_lald hx hb hK hP _ 1 ((xw_arr (scr := scr) (by rw [hc.1]; decide)).trans (by rw [xc_long hc.1])) rfl (xinb_in hc.2) hd (K H locs ls hP hS hL)
      · cases ho
    · cases ho
  · unfold xzald at ho
    split at ho
    · split at ho
      · rename_i hc
        cases ho
        intro H locs ls hP hS hL
        refine va_zald hx hb hK hP _ 2 ((xw_arr (scr := scr) (by rw [hc.1]; decide)).trans (by rw [xc_bool hc.1])) rfl (xinb_in hc.2) hd (K H locs ls hP hS hL)
      · cases ho
    · cases ho
  · unfold xaald at ho
    split at ho
    · split at ho
      · rename_i i a r hc
        cases ho
        obtain ⟨q, hq, hq2⟩ : ∃ q, (xkd h a).1 = 103 + q ∧ q < 2 := ⟨(xkd h a).1 - 103, by omega, by have := hc.2.1; unfold xnq at this; omega⟩
        intro H locs ls hP hS hL
        have K := K H locs ls hP hS hL
        rw [List.map_cons, xemb_rf] at K
        have ha := (xw_arr (scr := scr) (ad := xad b scr) (ca := ca) (b := b) (h := h) (a := a) (by omega)).trans (by rw [xc_ref hq])
        rcases (show q = 0 ∨ q = 1 by omega) with rfl | rfl
        · exact va_aldq hx hb hK hP _ 3 ha rfl (xinb_in hc.2.2) hd K
        · exact va_aldq hx hb hK hP _ 4 ha rfl (xinb_in hc.2.2) hd K
      · cases ho
    · cases ho
  · unfold xalen at ho
    split at ho
    · split at ho
      · rename_i a r ha
        subst ha
        cases ho
        intro H locs ls hP hS hL
        exact va_slen (b := scr) hx hb hX (by omega) (by omega) hS hd (K H locs ls hP hS hL)
      · split at ho
        · rename_i a r _ hc
          cases ho
          intro H locs ls hP hS hL
          have K := K H locs ls hP hS hL
          have ht : (xkd h a).1 ≠ 999 := by have := hc.2; unfold xnq at this; omega
          have ha := xw_arr (scr := scr) (ad := xad b scr) (ca := ca) (b := b) (h := h) (a := a) ht
          have hc2 : (xkd h a).1 < 105 := by have := hc.2; unfold xnq at this; omega
          rcases (show (xkd h a).1 = 100 ∨ (xkd h a).1 = 101 ∨ (xkd h a).1 = 102 ∨ (xkd h a).1 = 103 + 0 ∨ (xkd h a).1 = 103 + 1 by omega) with q | q | q | q | q
          · exact va_alen (cA := ca 0) (x := ((xkd h a).2, .inl (xhI h a))) hx hb hK hP _ 0 (ha.trans (by rw [xc_int q])) rfl rfl hd K
          · exact va_alen (cA := ca 1) (x := ((xkd h a).2, .inr (.inl (xhJ h a)))) hx hb hK hP _ 1 (ha.trans (by rw [xc_long q])) rfl rfl hd K
          · exact va_alen (cA := ca 2) (x := ((xkd h a).2, .inl (xhI h a))) hx hb hK hP _ 2 (ha.trans (by rw [xc_bool q])) rfl rfl hd K
          · exact va_alen (cA := ca 3) (x := ((xkd h a).2, .inr (.inr (.inr (.inr (fun i => (xhR h a i).map (xad b scr))))))) hx hb hK hP _ 3 (ha.trans (by rw [xc_ref q])) rfl rfl hd K
          · exact va_alen (cA := ca 4) (x := ((xkd h a).2, .inr (.inr (.inr (.inr (fun i => (xhR h a i).map (xad b scr))))))) hx hb hK hP _ 4 (ha.trans (by rw [xc_ref q])) rfl rfl hd K
        · cases ho
    · cases ho
theorem xstores_sound (hx : p.tables.exec = Jvm.exec) (hb : c.code = xcode k) (hK : va_K D xcls (xtys ca) s) :
    (decode (xcode k) pc = .ok (.iastore, 1) → xiast h st = some (st', h') → XW (p, l, e, R, s, m, args, below, meth, c, Q, D, ca, b, scr, z0, s0) k (pc + 1) L st' h' → XW (p, l, e, R, s, m, args, below, meth, c, Q, D, ca, b, scr, z0, s0) k pc L st h) ∧
    (decode (xcode k) pc = .ok (.lastore, 1) → xjast h st = some (st', h') → XW (p, l, e, R, s, m, args, below, meth, c, Q, D, ca, b, scr, z0, s0) k (pc + 1) L st' h' → XW (p, l, e, R, s, m, args, below, meth, c, Q, D, ca, b, scr, z0, s0) k pc L st h) ∧
    (decode (xcode k) pc = .ok (.bastore, 1) → xzast h st = some (st', h') → XW (p, l, e, R, s, m, args, below, meth, c, Q, D, ca, b, scr, z0, s0) k (pc + 1) L st' h' → XW (p, l, e, R, s, m, args, below, meth, c, Q, D, ca, b, scr, z0, s0) k pc L st h) ∧
    (decode (xcode k) pc = .ok (.aastore, 1) → xaast h st = some (st', h') → XW (p, l, e, R, s, m, args, below, meth, c, Q, D, ca, b, scr, z0, s0) k (pc + 1) L st' h' → XW (p, l, e, R, s, m, args, below, meth, c, Q, D, ca, b, scr, z0, s0) k pc L st h) := by
  refine ⟨fun hd ho K => ?_, fun hd ho K => ?_, fun hd ho K => ?_, fun hd ho K => ?_⟩
  · unfold xiast at ho
    split at ho
    · split at ho
      · rename_i x i a r hc
        cases ho
        intro H locs ls hP hS hL
        have ht : (xkd h a).1 ≠ 999 := by rw [hc.1]; decide
        refine va_iast hx hb hK hP (xw_D _ _ _ _) hS _ 0 ((xw_arr (scr := scr) ht).trans (by rw [xc_int hc.1])) rfl (xinb_in hc.2) hd (fun H1 locs1 hP1 _ hS1 => ?_)
        rw [xsetI (i := i.toNatClampNeg) (x := x) ht (by rw [xc_int hc.1, xu_upd])] at hP1
        exact K H1 locs1 ls hP1 hS1 hL
      · cases ho
    · cases ho
  · unfold xjast at ho
    split at ho
    · split at ho
      · rename_i x i a r hc
        cases ho
        intro H locs ls hP hS hL
        have ht : (xkd h a).1 ≠ 999 := by rw [hc.1]; decide
        refine va_last hx hb hK hP (xw_D _ _ _ _) hS _ 1 ((xw_arr (scr := scr) ht).trans (by rw [xc_long hc.1])) rfl (xinb_in hc.2) hd (fun H1 locs1 hP1 _ hS1 => ?_)
        rw [xsetJ (i := i.toNatClampNeg) (x := x) ht (by rw [xc_long hc.1, xu_updL])] at hP1
        exact K H1 locs1 ls hP1 hS1 hL
      · cases ho
    · cases ho
  · unfold xzast at ho
    split at ho
    · split at ho
      · rename_i x i a r hc
        cases ho
        intro H locs ls hP hS hL
        have ht : (xkd h a).1 ≠ 999 := by rw [hc.1]; decide
        have hn : vp_nar .boolean x = x := by rcases hc.2.2 with rfl | rfl <;> decide
        refine va_zast hx hb hK hP (xw_D _ _ _ _) hS _ 2 ((xw_arr (scr := scr) ht).trans (by rw [xc_bool hc.1])) rfl (xinb_in hc.2.1) hd (fun H1 locs1 hP1 _ hS1 => ?_)
        rw [hn, xsetI (i := i.toNatClampNeg) (x := x) ht (by rw [xc_bool hc.1, xu_upd])] at hP1
        exact K H1 locs1 ls hP1 hS1 hL
      · cases ho
    · cases ho
  · unfold xaast at ho
    split at ho
    · split at ho
      · rename_i v i a r hc
        cases ho
        obtain ⟨q, hq, hq2⟩ : ∃ q, (xkd h a).1 = 103 + q ∧ q < 2 := ⟨(xkd h a).1 - 103, by omega, by have := hc.2.1; unfold xnq at this; omega⟩
        have hvk := hc.2.2.2
        rw [show (xkd h a).1 - 103 = q by omega] at hvk
        intro H locs ls hP hS hL
        have ht : (xkd h a).1 ≠ 999 := by omega
        have ha := (xw_arr (scr := scr) (ad := xad b scr) (ca := ca) (b := b) (h := h) (a := a) ht).trans (by rw [xc_ref hq])
        have hfin : ∀ (H1 : Heap) (locs1 : List Loc), va_P D xcls ((xw (xad b scr) ca b h).set (a - 1) (xad b scr a, .inl (ca (3 + q), (xkd h a).2, .inr (.inr (.inr (.inr (va_up (fun i => (xhR h a i).map (xad b scr)) i.toNatClampNeg (some (xad b scr v))))))))) H1 → va_D (fun q => b ≤ q) ((xw (xad b scr) ca b h).set (a - 1) (xad b scr a, .inl (ca (3 + q), (xkd h a).2, .inr (.inr (.inr (.inr (va_up (fun i => (xhR h a i).map (xad b scr)) i.toNatClampNeg (some (xad b scr v))))))))) → va_S (fun q => b ≤ q) s.heap H1 locs1 → W p l e R s m args below meth c H1 locs1 (xhz h - z0) (xhs h - s0) Q (F0 m (pc + 1) ls (st'.map (xemb (xad b scr)))) := by
          intro H1 locs1 hP1 _ hS1
          rw [xsetR (i := i.toNatClampNeg) (x := some v) ht (by
            rw [xc_ref hq]
            congr 7
            funext y
            rw [xu_at]
            unfold va_up
            by_cases hy : y = i.toNatClampNeg
            · rw [if_pos hy, if_pos hy]; rfl
            · rw [if_neg hy, if_neg hy])] at hP1
          exact K H1 locs1 ls hP1 hS1 hL
        rcases (show q = 0 ∨ q = 1 by omega) with rfl | rfl
        · exact va_astq (r := (xcn 1, xTT 1, xnf 1)) hx hb hK hP (xw_D _ _ _ _) hS _ 3 _ 1 ha rfl (xw_obj (scr := scr) hvk (by decide)) (xcls_at (by decide)) (xinb_in hc.2.2.1) hd hfin
        · exact va_astq (r := (xcn 3, xTT 3, xnf 3)) hx hb hK hP (xw_D _ _ _ _) hS _ 4 _ 3 ha rfl (xw_obj (scr := scr) hvk (by decide)) (xcls_at (by decide)) (xinb_in hc.2.2.1) hd hfin
      · cases ho
    · split at ho
      · rename_i i a r hc
        cases ho
        obtain ⟨q, hq, hq2⟩ : ∃ q, (xkd h a).1 = 103 + q ∧ q < 2 := ⟨(xkd h a).1 - 103, by omega, by have := hc.2.1; unfold xnq at this; omega⟩
        intro H locs ls hP hS hL
        have ht : (xkd h a).1 ≠ 999 := by omega
        have ha := (xw_arr (scr := scr) (ad := xad b scr) (ca := ca) (b := b) (h := h) (a := a) ht).trans (by rw [xc_ref hq])
        have hfin : ∀ (H1 : Heap) (locs1 : List Loc), va_P D xcls ((xw (xad b scr) ca b h).set (a - 1) (xad b scr a, .inl (ca (3 + q), (xkd h a).2, .inr (.inr (.inr (.inr (va_up (fun i => (xhR h a i).map (xad b scr)) i.toNatClampNeg none))))))) H1 → va_D (fun q => b ≤ q) ((xw (xad b scr) ca b h).set (a - 1) (xad b scr a, .inl (ca (3 + q), (xkd h a).2, .inr (.inr (.inr (.inr (va_up (fun i => (xhR h a i).map (xad b scr)) i.toNatClampNeg none))))))) → va_S (fun q => b ≤ q) s.heap H1 locs1 → W p l e R s m args below meth c H1 locs1 (xhz h - z0) (xhs h - s0) Q (F0 m (pc + 1) ls (st'.map (xemb (xad b scr)))) := by
          intro H1 locs1 hP1 _ hS1
          rw [xsetR (i := i.toNatClampNeg) (x := none) ht (by
            rw [xc_ref hq]
            congr 7
            funext y
            rw [xu_at]
            unfold va_up
            by_cases hy : y = i.toNatClampNeg
            · rw [if_pos hy, if_pos hy]; rfl
            · rw [if_neg hy, if_neg hy])] at hP1
          exact K H1 locs1 ls hP1 hS1 hL
        rcases (show q = 0 ∨ q = 1 by omega) with rfl | rfl
        · exact va_astqN hx hb hK hP (xw_D _ _ _ _) hS _ 3 ha rfl (xinb_in hc.2.2) hd hfin
        · exact va_astqN hx hb hK hP (xw_D _ _ _ _) hS _ 4 ha rfl (xinb_in hc.2.2) hd hfin
      · cases ho
    · cases ho
end XAR
end
section
/-! One step of the small machine is sound. -/
def XCx (S : XS) (p : Program) (s : State) (m : MethodId) (args : Array Value) (meth : Method) (c : Code) (D : va_G) (ca : Nat → ClassId) (b scr z0 k : Nat) : Prop :=
  p.tables.exec = Jvm.exec ∧ c.code = xcode k ∧ c.maxLocals = xml k ∧ s.vm.findClass (xcn (xkc k)) = some m.cls ∧ (∀ w ∈ xgood, w.before args s = true) ∧ (∀ w ∈ xnest, va_Nw w s) ∧ va_AO (xcn 1) s ∧ va_AO (xcn 3) s ∧ va_K D xcls (xtys ca) s ∧ va_X scr S.1 S.2 s s.heap ∧ scr < b ∧ 1 ≤ z0 ∧ s.heap.size = b + (z0 - 1) ∧ ((xyn k).name = "<init>" → meth.name = "<init>") ∧ meth.sig.returnType = xrty k ∧ meth.locks = false
theorem xmem_grow {S : XS} {k : Nat} {i : Instr} {st st' : List Value} {h h' : XH} (ho : xmem S k i st h = some (st', h')) : xhz h ≤ xhz h' ∧ xhs h ≤ xhs h' := by
  have same : ∀ {q : List Value × XH}, some q = some (st', h') → xhz q.2 = xhz h → xhs q.2 = xhs h → xhz h ≤ xhz h' ∧ xhs h ≤ xhs h' := by
    intro q e a b
    cases e
    exact ⟨Nat.le_of_eq a.symm, Nat.le_of_eq b.symm⟩
  cases i with
  | getfield idx =>
    simp only [xmem] at ho
    unfold xgetf at ho
    split at ho
    · split at ho
      · split at ho
        · exact same ho rfl rfl
        · cases ho
      · cases ho
    · cases ho
  | putfield idx =>
    simp only [xmem] at ho
    unfold xputf at ho
    split at ho
    · split at ho
      · split at ho
        · rename_i v a r _ ci j _ _
          cases hfp : xfp (xft ci j) h a j v with
          | none => rw [hfp] at ho; cases ho
          | some h2 =>
            rw [hfp] at ho
            obtain ⟨f1, f2, -⟩ := xfp_spec hfp
            exact same ho f1 f2
        · cases ho
      · cases ho
    · cases ho
  | iaload =>
    simp only [xmem] at ho
    unfold xiald at ho
    split at ho
    · split at ho
      · split at ho
        · exact same ho rfl rfl
        · cases ho
      · split at ho
        · exact same ho rfl rfl
        · cases ho
    · cases ho
  | laload =>
    simp only [xmem] at ho
    unfold xjald at ho
    split at ho
    · split at ho
      · exact same ho rfl rfl
      · cases ho
    · cases ho
  | baload =>
    simp only [xmem] at ho
    unfold xzald at ho
    split at ho
    · split at ho
      · exact same ho rfl rfl
      · cases ho
    · cases ho
  | aaload =>
    simp only [xmem] at ho
    unfold xaald at ho
    split at ho
    · split at ho
      · exact same ho rfl rfl
      · cases ho
    · cases ho
  | iastore =>
    simp only [xmem] at ho
    unfold xiast at ho
    split at ho
    · split at ho
      · exact same ho rfl rfl
      · cases ho
    · cases ho
  | lastore =>
    simp only [xmem] at ho
    unfold xjast at ho
    split at ho
    · split at ho
      · exact same ho rfl rfl
      · cases ho
    · cases ho
  | bastore =>
    simp only [xmem] at ho
    unfold xzast at ho
    split at ho
    · split at ho
      · exact same ho rfl rfl
      · cases ho
    · cases ho
  | aastore =>
    simp only [xmem] at ho
    unfold xaast at ho
    split at ho
    · split at ho
      · exact same ho rfl rfl
      · cases ho
    · split at ho
      · exact same ho rfl rfl
      · cases ho
    · cases ho
  | arraylength =>
    simp only [xmem] at ho
    unfold xalen at ho
    split at ho
    · split at ho
      · exact same ho rfl rfl
      · split at ho
        · exact same ho rfl rfl
        · cases ho
    · cases ho
  | newarray t =>
    have key : ∀ t, xnwa t h st = some (st', h') → xhz h ≤ xhz h' ∧ xhs h ≤ xhs h' := by
      intro t ho
      unfold xnwa at ho
      split at ho
      · split at ho
        · cases ho
          exact ⟨Nat.le_succ _, Nat.le_add_right _ _⟩
        · cases ho
      · cases ho
    cases t <;> first | exact key _ ho | cases ho
  | anewarray idx =>
    simp only [xmem] at ho
    cases hq : xanw (xkc k) idx with
    | none => rw [hq] at ho; cases ho
    | some t =>
      rw [hq] at ho
      simp only [Option.bind_some] at ho
      unfold xnwa at ho
      split at ho
      · split at ho
        · cases ho
          exact ⟨Nat.le_succ _, Nat.le_add_right _ _⟩
        · cases ho
      · cases ho
  | new idx =>
    simp only [xmem] at ho
    cases hq : xnwc (xkc k) idx with
    | none => rw [hq] at ho; cases ho
    | some t =>
      rw [hq] at ho
      cases ho
      exact ⟨Nat.le_succ _, Nat.le_add_right _ _⟩
  | ldc idx =>
    simp only [xmem, xldc] at ho
    cases hq : xcst (xkc k) idx with
    | none => rw [hq] at ho; cases ho
    | some v => rw [hq] at ho; cases v <;> first | exact same ho rfl rfl | cases ho
  | ldc_w idx =>
    simp only [xmem, xldc] at ho
    cases hq : xcst (xkc k) idx with
    | none => rw [hq] at ho; cases ho
    | some v => rw [hq] at ho; cases v <;> first | exact same ho rfl rfl | cases ho
  | ldc2_w idx =>
    simp only [xmem, xldc2] at ho
    cases hq : xcst (xkc k) idx with
    | none => rw [hq] at ho; cases ho
    | some v => rw [hq] at ho; cases v <;> first | exact same ho rfl rfl | cases ho
  | _ => cases ho
theorem xcpy_inv {h h' : XH} {st st' : List Value} (ho : xcpy h st = some (st', h')) : ∃ n dp a sp a0, st = .int n :: .int dp :: .ref a :: .int sp :: .ref a0 :: st' ∧ xwid st' ≤ 8 ∧ ¬ sp < 0 ∧ ¬ dp < 0 ∧ ¬ n < 0 ∧ sp.toNatClampNeg + n.toNatClampNeg ≤ (xkd h a0).2 ∧ dp.toNatClampNeg + n.toNatClampNeg ≤ (xkd h a).2 ∧
    (((xkd h a0).1 = 100 ∧ (xkd h a).1 = 100 ∧ h' = xsI h (xrow (xhI h) a (va_cpy (xhI h a0) (xhI h a) sp.toNatClampNeg dp.toNatClampNeg n.toNatClampNeg))) ∨
     ((xkd h a0).1 = 101 ∧ (xkd h a).1 = 101 ∧ h' = xsJ h (xrow (xhJ h) a (va_cpy (xhJ h a0) (xhJ h a) sp.toNatClampNeg dp.toNatClampNeg n.toNatClampNeg)))) := by
  unfold xcpy at ho
  split at ho
  · split at ho
    · rename_i hc
      obtain ⟨c1, c2, c3, c4, c5, c6⟩ := hc
      split at ho
      · rename_i hq
        cases ho
        exact ⟨_, _, _, _, _, rfl, c1, c2, c3, c4, c5, c6, Or.inl ⟨hq.1, hq.2, rfl⟩⟩
      · split at ho
        · rename_i hq
          cases ho
          exact ⟨_, _, _, _, _, rfl, c1, c2, c3, c4, c5, c6, Or.inr ⟨hq.1, hq.2, rfl⟩⟩
        · cases ho
    · cases ho
  · cases ho
theorem xn0_inv {st st' : List Value} (h : xn0 st = some st') : ∃ a, st = .ref a :: st' ∧ xwid st' ≤ 8 := by
  unfold xn0 at h
  split at h
  · split at h
    · cases h; exact ⟨_, rfl, by assumption⟩
    · cases h
  · cases h
theorem xnatv_inv {d k : Nat} {i : Instr} {st st' : List Value} {h h' : XH} (ho : xnatv d k i st h = some (st', h')) : ¬ d = 0 ∧ ((∃ idx, i = .invokespecial idx ∧ xnat (xkc k) idx = some 0 ∧ h' = h ∧ ∃ a, st = .ref a :: st' ∧ xwid st' ≤ 8) ∨ (∃ idx, i = .invokestatic idx ∧ xnat (xkc k) idx = some 7 ∧ xcpy h st = some (st', h'))) := by
  unfold xnatv at ho
  split at ho
  · cases ho
  · rename_i hd
    refine ⟨hd, ?_⟩
    cases i with
    | invokespecial idx =>
      simp only at ho
      split at ho
      · rename_i hn
        cases hq : xn0 st with
        | none => rw [hq] at ho; cases ho
        | some r =>
          rw [hq] at ho
          cases ho
          exact Or.inl ⟨idx, rfl, hn, rfl, xn0_inv hq⟩
      · cases ho
    | invokestatic idx =>
      simp only at ho
      cases hq : xnat (xkc k) idx with
      | none => rw [hq] at ho; cases ho
      | some t =>
        rw [hq] at ho
        simp only [Option.bind_some, xnatS] at ho
        split at ho
        · rename_i ht
          exact Or.inr ⟨idx, rfl, by rw [hq, ht], ho⟩
        · cases ho
    | _ => cases ho
theorem xnatv_grow {d k : Nat} {i : Instr} {st st' : List Value} {h h' : XH} (ho : xnatv d k i st h = some (st', h')) : xhz h' = xhz h ∧ xhs h' = xhs h := by
  obtain ⟨-, ⟨idx, -, -, rfl, -⟩ | ⟨idx, -, -, hc⟩⟩ := xnatv_inv ho
  · exact ⟨rfl, rfl⟩
  · obtain ⟨n, dp, a, sp, a0, -, -, -, -, -, -, -, ⟨-, -, rfl⟩ | ⟨-, -, rfl⟩⟩ := xcpy_inv hc <;> exact ⟨rfl, rfl⟩
theorem x1_grow {S : XS} {d k len pc pc' : Nat} {i : Instr} {L L' : XL} {st st' : List Value} {h h' : XH} (e : x1 S d k i len pc L st h = some (pc', L', st', h')) : xhz h ≤ xhz h' ∧ xhs h ≤ xhs h' := by
  unfold x1 at e
  split at e
  · cases e; exact ⟨Nat.le_refl _, Nat.le_refl _⟩
  · split at e
    · split at e
      · cases e; exact ⟨Nat.le_refl _, Nat.le_refl _⟩
      · split at e
        · cases e; exact ⟨Nat.le_refl _, Nat.le_refl _⟩
        · split at e
          · rename_i q hq
            cases e
            exact xmem_grow hq
          · split at e
            · rename_i q hq
              cases e
              obtain ⟨a, b⟩ := xnatv_grow hq
              exact ⟨Nat.le_of_eq a.symm, Nat.le_of_eq b.symm⟩
            · cases e
    · cases e
theorem xrun_grow {S : XS} : ∀ (n d k pc : Nat) (L : XL) (st : List Value) (h : XH) (v : Option Value) (h' : XH), xrun S n d k pc L st h = some (v, h') → xhz h ≤ xhz h' ∧ xhs h ≤ xhs h' := by
  intro n
  induction n with
  | zero => intro d k pc L st h v h' e; cases e
  | succ n ih =>
    intro d k pc L st h v h' e
    simp only [xrun] at e
    split at e
    · cases e
    · split at e
      · cases e; exact ⟨Nat.le_refl _, Nat.le_refl _⟩
      · split at e
        · split at e
          · cases e
          · split at e
            · cases e
            · rename_i v1 h1 hc
              have q1 := ih _ _ _ _ _ _ _ _ hc
              have q2 := ih _ _ _ _ _ _ _ _ e
              exact ⟨Nat.le_trans q1.1 q2.1, Nat.le_trans q1.2 q2.2⟩
        · split at e
          · cases e
          · rename_i pc' L' st' h1 hc
            have q1 := x1_grow hc
            have q2 := ih _ _ _ _ _ _ _ _ e
            exact ⟨Nat.le_trans q1.1 q2.1, Nat.le_trans q1.2 q2.2⟩
theorem xs_nw : xnwcT.all (fun q => decide (q.2.2 < 10)) = true := by decide +kernel
theorem xnwc_lt {kc idx ci : Nat} (h : xnwc kc idx = some ci) : ci < 10 := by
  have h1 := List.all_eq_true.mp xs_nw _ (xfind_mem h)
  simpa only [decide_eq_true_eq] using h1
section XST
variable {p : Program} {l : Launch} {e : Env} {R : Room} {s : State} {m : MethodId} {args : Array Value} {below : List Frame} {meth : Method} {c : Code} {Q : State → Prop} {D : va_G} {ca : Nat → ClassId} {b scr z0 s0 k pc pc' len d : Nat} {L L' : XL} {st st' r : List Value} {h h' : XH} {i : Instr} {S : XS}
theorem xnew_go {q t n : Nat} {el : va_E} {H1 : Heap} {locs : List Loc} {ls : Array Slot} (h1 : 1 ≤ z0) (hz0 : z0 ≤ xhz h) (hs0 : s0 ≤ xhs h) (hss : s.heap.size = b + (z0 - 1)) (he : el = xcl0 (xad b scr) ca (t, n) (fun _ => 0) (fun _ => 0) (fun _ => none)) (hP1 : va_P D xcls (xw (xad b scr) ca b h ++ [(q, el)]) H1) (hD1 : va_D (fun q => b ≤ q) (xw (xad b scr) ca b h ++ [(q, el)])) (hS1 : va_S (fun q => b ≤ q) s.heap H1 locs) (hL : XLH (xad b scr) ls (xml k) L) (K : XW (p, l, e, R, s, m, args, below, meth, c, Q, D, ca, b, scr, z0, s0) k pc' L (.ref (xhz h) :: r) (xnew h t n)) :
    W p l e R s m args below meth c H1 locs (xhz h - z0 + 1) (xhs h - s0 + n) Q (F0 m pc' ls (.ref q :: r.map (xemb (xad b scr)))) := by
  refine W.sized (fun hz => ?_)
  have hq := xw_push (by omega) hP1 hD1 (by omega)
  subst hq
  rw [he, ← xw_xnew (by omega)] at hP1
  have K := K H1 locs ls hP1 hS1 hL
  have e1 : xhz (xnew h t n) - z0 = xhz h - z0 + 1 := by show xhz h + 1 - z0 = _; omega
  have e2 : xhs (xnew h t n) - s0 = xhs h - s0 + n := by show xhs h + n - s0 = _; omega
  rw [e1, e2] at K
  have e3 : (Value.ref (xhz h) :: r).map (xemb (xad b scr)) = .ref (b + (xhz h - 1)) :: r.map (xemb (xad b scr)) := by
    rw [List.map_cons]
    show Value.ref (xad b scr (xhz h)) :: _ = _
    rw [xad_pos (by omega)]
  rw [e3] at K
  exact K
set_option maxHeartbeats 4000000 in
theorem xmem_sound (C : XCx S p s m args meth c D ca b scr z0 k) (hz0 : z0 ≤ xhz h) (hs0 : s0 ≤ xhs h) (hR1 : xhz h' - z0 ≤ R.cells) (hR2 : xhs h' - s0 ≤ R.slots)
    (hd : decode (xcode k) pc = .ok (i, xlen i)) (ho : xmem S k i st h = some (st', h')) (K : XW (p, l, e, R, s, m, args, below, meth, c, Q, D, ca, b, scr, z0, s0) k (pc + xlen i) L st' h') : XW (p, l, e, R, s, m, args, below, meth, c, Q, D, ca, b, scr, z0, s0) k pc L st h := by
  obtain ⟨hx, hb, hml, hown, hts, hnw, hao1, hao3, hK, hX, hsb, hz1, hss, hin, hrt, hlk⟩ := C
  have hA : ∀ q, s.heap.size ≤ q → b ≤ q := fun q hq => by omega
  cases i with
  | getfield idx => exact xgetf_sound hx hb hown hts hK hd ho K
  | putfield idx => exact xputf_sound hx hb hown hts hK hin hd ho K
  | iaload => exact (xloads_sound hx hb hK hX hsb (by omega)).1 hd ho K
  | laload => exact (xloads_sound hx hb hK hX hsb (by omega)).2.1 hd ho K
  | baload => exact (xloads_sound hx hb hK hX hsb (by omega)).2.2.1 hd ho K
  | aaload => exact (xloads_sound hx hb hK hX hsb (by omega)).2.2.2.1 hd ho K
  | arraylength => exact (xloads_sound hx hb hK hX hsb (by omega)).2.2.2.2 hd ho K
  | iastore => exact (xstores_sound hx hb hK).1 hd ho K
  | lastore => exact (xstores_sound hx hb hK).2.1 hd ho K
  | bastore => exact (xstores_sound hx hb hK).2.2.1 hd ho K
  | aastore => exact (xstores_sound hx hb hK).2.2.2 hd ho K
  | newarray t =>
    cases t with
    | int =>
      simp only [xmem] at ho
      unfold xnwa at ho
      split at ho
      · split at ho
        · rename_i n r hn
          cases ho
          intro H locs ls hP hS hL
          have e1 : xhz (xnew h (100 + 0) n.toNatClampNeg) = xhz h + 1 := rfl
          have e2 : xhs (xnew h (100 + 0) n.toNatClampNeg) = xhs h + n.toNatClampNeg := rfl
          refine va_newa (atype := .int) hx hb (hts _ xg_glob.2.2.2.2.2.1) (ty := .int) rfl hK hP (xw_D _ _ _ _) hS hA (a0 := (n.toNatClampNeg, .inl (fun _ => 0))) (fun _ => rfl) hn.1 rfl (by show _ * 4 ≤ _; omega) (by omega) (by omega) hd (fun q cA H1 hK1 hP1 hD1 hS1 => ?_)
          have hc : cA = ca 0 := Option.some.inj ((hK1.2 5 _ rfl).2.symm.trans (hK.2 0 _ rfl).2)
          subst hc
          exact xnew_go hz1 hz0 hs0 hss (by rw [xc_int rfl]) hP1 hD1 hS1 hL K
        · cases ho
      · cases ho
    | long =>
      simp only [xmem] at ho
      unfold xnwa at ho
      split at ho
      · split at ho
        · rename_i n r hn
          cases ho
          intro H locs ls hP hS hL
          have e1 : xhz (xnew h (100 + 1) n.toNatClampNeg) = xhz h + 1 := rfl
          have e2 : xhs (xnew h (100 + 1) n.toNatClampNeg) = xhs h + n.toNatClampNeg := rfl
          refine va_newa (atype := .long) hx hb (hts _ xg_glob.2.2.2.2.2.2.1) (ty := .long) rfl hK hP (xw_D _ _ _ _) hS hA (a0 := (n.toNatClampNeg, .inr (.inl (fun _ => 0)))) (fun _ => rfl) hn.1 rfl (by show _ * 8 ≤ _; omega) (by omega) (by omega) hd (fun q cA H1 hK1 hP1 hD1 hS1 => ?_)
          have hc : cA = ca 1 := Option.some.inj ((hK1.2 5 _ rfl).2.symm.trans (hK.2 1 _ rfl).2)
          subst hc
          exact xnew_go hz1 hz0 hs0 hss (by rw [xc_long rfl]) hP1 hD1 hS1 hL K
        · cases ho
      · cases ho
    | boolean =>
      simp only [xmem] at ho
      unfold xnwa at ho
      split at ho
      · split at ho
        · rename_i n r hn
          cases ho
          intro H locs ls hP hS hL
          have e1 : xhz (xnew h (100 + 2) n.toNatClampNeg) = xhz h + 1 := rfl
          have e2 : xhs (xnew h (100 + 2) n.toNatClampNeg) = xhs h + n.toNatClampNeg := rfl
          refine va_newa (atype := .boolean) hx hb (hts _ xg_glob.2.2.2.2.2.2.2) (ty := .boolean) rfl hK hP (xw_D _ _ _ _) hS hA (a0 := (n.toNatClampNeg, .inl (fun _ => 0))) (fun _ => rfl) hn.1 rfl (by show _ * 1 ≤ _; omega) (by omega) (by omega) hd (fun q cA H1 hK1 hP1 hD1 hS1 => ?_)
          have hc : cA = ca 2 := Option.some.inj ((hK1.2 5 _ rfl).2.symm.trans (hK.2 2 _ rfl).2)
          subst hc
          exact xnew_go hz1 hz0 hs0 hss (by rw [xc_bool rfl]) hP1 hD1 hS1 hL K
        · cases ho
      · cases ho
    | _ => cases ho
  | anewarray idx =>
    simp only [xmem] at ho
    cases hq : xanw (xkc k) idx with
    | none => rw [hq] at ho; cases ho
    | some t =>
      rw [hq] at ho
      simp only [Option.bind_some] at ho
      obtain ⟨ht, hl⟩ := xanw_ok hq
      unfold xnwa at ho
      split at ho
      · split at ho
        · rename_i n r hn
          cases ho
          intro H locs ls hP hS hL
          have e1 : xhz (xnew h (100 + (3 + t)) n.toNatClampNeg) = xhz h + 1 := rfl
          have e2 : xhs (xnew h (100 + (3 + t)) n.toNatClampNeg) = xhs h + n.toNatClampNeg := rfl
          rcases (show t = 0 ∨ t = 1 by omega) with rfl | rfl
          · refine va_newq hx hb hown (hts _ hl) hao1 hK hP (xw_D _ _ _ _) hS hA hn.1 rfl (by omega) (by omega) (by omega) hd (fun q cA H1 hK1 hP1 hD1 hS1 => ?_)
            obtain ⟨_, _, -, -, -, g1⟩ := (hK1.2 5 _ rfl).2
            obtain ⟨_, _, -, -, -, g2⟩ := (hK.2 3 _ rfl).2
            have hc : cA = ca 3 := Option.some.inj (g1.symm.trans g2)
            subst hc
            exact xnew_go hz1 hz0 hs0 hss (by rw [xc_ref (q := 0) rfl]; rfl) hP1 hD1 hS1 hL K
          · refine va_newq hx hb hown (hts _ hl) hao3 hK hP (xw_D _ _ _ _) hS hA hn.1 rfl (by omega) (by omega) (by omega) hd (fun q cA H1 hK1 hP1 hD1 hS1 => ?_)
            obtain ⟨_, _, -, -, -, g1⟩ := (hK1.2 5 _ rfl).2
            obtain ⟨_, _, -, -, -, g2⟩ := (hK.2 4 _ rfl).2
            have hc : cA = ca 4 := Option.some.inj (g1.symm.trans g2)
            subst hc
            exact xnew_go hz1 hz0 hs0 hss (by rw [xc_ref (q := 1) rfl]; rfl) hP1 hD1 hS1 hL K
        · cases ho
      · cases ho
  | new idx =>
    simp only [xmem] at ho
    cases hq : xnwc (xkc k) idx with
    | none => rw [hq] at ho; cases ho
    | some ci =>
      rw [hq] at ho
      cases ho
      have hci : ci < 10 := xnwc_lt hq
      intro H locs ls hP hS hL
      have e1 : xhz (xnew h ci (xnf ci)) = xhz h + 1 := rfl
      have e2 : xhs (xnew h ci (xnf ci)) = xhs h + xnf ci := rfl
      refine va_new (ci := ci) (C := xcn ci) (T := xTT ci) (N := xnf ci) (fs := (List.range (xnf ci)).map (fun j => xemb (xad b scr) (xfv (xft ci j) (fun _ => 0) (fun _ => 0) (fun _ => none) j))) hx hb hts (xws_in hci) (xft ci) (xf_ty hci) hown (hts _ (xnwc_ok hq)) (hts _ (xin_ci hci).1) (hts _ (xin_ci hci).2) hK hP (xw_D _ _ _ _) hS hA (xcls_at hci) (fun j hj => ?_) (by omega) (by omega) hd (fun q H1 hP1 hD1 hS1 => ?_)
      · rw [xoty_def (xall_r (xall_r xs_oty hci) hj) (xad b scr) j]
        unfold vp_V
        rw [List.getD_eq_getElem?_getD, List.getElem?_map, List.getElem?_range hj]
        rfl
      · exact xnew_go hz1 hz0 hs0 hss (by unfold xcl0; rw [if_pos (show (ci, xnf ci).1 < 100 by show ci < 100; omega)]) hP1 hD1 hS1 hL K
  | ldc idx =>
    simp only [xmem, xldc] at ho
    cases hq : xcst (xkc k) idx with
    | none => rw [hq] at ho; cases ho
    | some v =>
      rw [hq] at ho
      cases v with
      | int x => cases ho; intro H locs ls hP hS hL; exact lv_ldc hx hb hown (hts _ (xcst_ok hq)) hd (K H locs ls hP hS hL)
      | _ => cases ho
  | ldc_w idx =>
    simp only [xmem, xldc] at ho
    cases hq : xcst (xkc k) idx with
    | none => rw [hq] at ho; cases ho
    | some v =>
      rw [hq] at ho
      cases v with
      | int x => cases ho; intro H locs ls hP hS hL; exact lv_ldcw hx hb hown (hts _ (xcst_ok hq)) hd (K H locs ls hP hS hL)
      | _ => cases ho
  | ldc2_w idx =>
    simp only [xmem, xldc2] at ho
    cases hq : xcst (xkc k) idx with
    | none => rw [hq] at ho; cases ho
    | some v =>
      rw [hq] at ho
      cases v with
      | long x => cases ho; intro H locs ls hP hS hL; exact lv_ldc2 hx hb hown (hts _ (xcst_ok hq)) hd (K H locs ls hP hS hL)
      | _ => cases ho
  | _ => cases ho
end XST
end
section
/-! The small machine is sound: calls, returns, whole runs. -/
theorem xnfw : nativeFrameWords "java/lang/System" "arraycopy" 5 + 11 ≤ 32 := by decide +kernel
section XS1
variable {p : Program} {l : Launch} {e : Env} {R : Room} {s : State} {m : MethodId} {args : Array Value} {below : List Frame} {meth : Method} {c : Code} {Q : State → Prop} {D : va_G} {ca : Nat → ClassId} {b scr z0 s0 k pc pc' len d : Nat} {L L' : XL} {st st' r : List Value} {h h' : XH} {i : Instr} {S : XS}
theorem xnatv_sound (C : XCx S p s m args meth c D ca b scr z0 k) (hf : d ≤ R.frames) (hlo : 40 * d ≤ R.locals)
    (hd : decode (xcode k) pc = .ok (i, xlen i)) (ho : xnatv d k i st h = some (st', h')) (K : XW (p, l, e, R, s, m, args, below, meth, c, Q, D, ca, b, scr, z0, s0) k (pc + xlen i) L st' h') : XW (p, l, e, R, s, m, args, below, meth, c, Q, D, ca, b, scr, z0, s0) k pc L st h := by
  obtain ⟨hx, hb, hml, hown, hts, hnw, hao1, hao3, hK, hX, hsb, hz1, hss, hin, hrt, hlk⟩ := C
  obtain ⟨hd0, ⟨idx, rfl, hn, rfl, a, rfl, hw⟩ | ⟨idx, rfl, hn, hc⟩⟩ := xnatv_inv ho
  · rcases xnat_ok hn with ⟨-, hl⟩ | ⟨h7, -⟩
    · intro H locs ls hP hS hL
      refine W.objInit hx hb hown (hts _ hl) (hts _ xg_glob.1) (hts _ xg_glob.2.1) rfl (by rw [hml]; exact hL.1) rfl hd (by omega) (by show 2 * 0 + _ + 12 ≤ _; rw [xwid_emb]; omega) ?_
      exact K H locs ls hP hS hL
    · cases h7
  · rcases xnat_ok hn with ⟨h0, -⟩ | ⟨-, hl⟩
    · cases h0
    · obtain ⟨n, dp, a, sp, a0, rfl, hw, h1, h2, h3, h4, h5, ⟨t0, t1, rfl⟩ | ⟨t0, t1, rfl⟩⟩ := xcpy_inv hc
      · intro H locs ls hP hS hL
        have g0 : (xkd h a0).1 ≠ 999 := by rw [t0]; decide
        have g1 : (xkd h a).1 ≠ 999 := by rw [t1]; decide
        refine va_copyi hx hb (by rw [hml]; exact hL.1.symm) hown (hts _ hl) (hts _ xg_glob.2.2.1) (hts _ xg_glob.2.2.2.1) (hts _ xg_glob.2.2.2.2.1) hK hP (xw_D _ _ _ _) hS _ _ 0 0 ((xw_arr (scr := scr) g0).trans (by rw [xc_int t0])) ((xw_arr (scr := scr) g1).trans (by rw [xc_int t1])) rfl rfl rfl h1 h2 h3 h4 h5 (fun _ _ => rfl) (by omega) (by rw [xwid_emb]; have := xnfw; omega) hd (fun H1 locs1 hP1 _ hS1 => ?_)
        rw [xrowI g1 (by rw [xc_int t1])] at hP1
        exact K H1 locs1 ls hP1 hS1 hL
      · intro H locs ls hP hS hL
        have g0 : (xkd h a0).1 ≠ 999 := by rw [t0]; decide
        have g1 : (xkd h a).1 ≠ 999 := by rw [t1]; decide
        refine va_copyl hx hb (by rw [hml]; exact hL.1.symm) hown (hts _ hl) (hts _ xg_glob.2.2.1) (hts _ xg_glob.2.2.2.1) (hts _ xg_glob.2.2.2.2.1) hK hP (xw_D _ _ _ _) hS _ _ 1 1 ((xw_arr (scr := scr) g0).trans (by rw [xc_long t0])) ((xw_arr (scr := scr) g1).trans (by rw [xc_long t1])) rfl rfl rfl h1 h2 h3 h4 h5 (fun _ _ => rfl) (by omega) (by rw [xwid_emb]; have := xnfw; omega) hd (fun H1 locs1 hP1 _ hS1 => ?_)
        rw [xrowJ g1 (by rw [xc_long t1])] at hP1
        exact K H1 locs1 ls hP1 hS1 hL
theorem x1_sound (C : XCx S p s m args meth c D ca b scr z0 k) (hf : d ≤ R.frames) (hlo : 40 * d ≤ R.locals) (hz0 : z0 ≤ xhz h) (hs0 : s0 ≤ xhs h) (hR1 : xhz h' - z0 ≤ R.cells) (hR2 : xhs h' - s0 ≤ R.slots)
    (hd : decode (xcode k) pc = .ok (i, len)) (ho : x1 S d k i len pc L st h = some (pc', L', st', h')) (K : XW (p, l, e, R, s, m, args, below, meth, c, Q, D, ca, b, scr, z0, s0) k pc' L' st' h') : XW (p, l, e, R, s, m, args, below, meth, c, Q, D, ca, b, scr, z0, s0) k pc L st h := by
  have C' := C
  obtain ⟨hx, hb, -, -, -, -, -, -, -, -, hsb, -⟩ := C'
  unfold x1 at ho
  split at ho
  · rename_i q hq
    cases ho
    exact xjmp_sound hsb hx hb hd hq K
  · split at ho
    · rename_i hl
      subst hl
      split at ho
      · rename_i q hq
        cases ho
        exact xop_sound (G := (p, l, e, R, s, m, args, below, meth, c, Q, D, ca, b, scr, z0, s0)) hx hb hd hq K
      · split at ho
        · rename_i q hq
          cases ho
          exact xloc_sound hx hb hd hq K
        · split at ho
          · rename_i q hq
            cases ho
            exact xmem_sound C hz0 hs0 hR1 hR2 hd hq K
          · split at ho
            · rename_i q hq
              cases ho
              exact xnatv_sound C hf hlo hd hq K
            · cases ho
    · cases ho
end XS1
theorem xent_len : ∀ (as : List Value) (n : Nat), (xent as n).length = n
  | _, 0 => by simp [xent]
  | [], n + 1 => by simp [xent, xent_len [] n]
  | v :: vs, 1 => by simp only [xent]; split <;> simp [xent_len vs 0]
  | v :: vs, n + 2 => by simp only [xent]; split <;> simp [xent_len vs n, xent_len vs (n + 1)]
theorem xent_nil : ∀ (n i : Nat), xld (xent [] n) i = none
  | 0, i => by simp [xent, xld]
  | n + 1, 0 => by simp [xent, xld]
  | n + 1, i + 1 => by simp only [xent, xld_consS]; exact xent_nil n i
theorem xent_ld (ad : Nat → Nat) : ∀ (as : List Value) (n o i : Nat) (v : Value), xld (xent as n) i = some v → (i + o, xemb ad v) ∈ lv_args o (as.map (xemb ad))
  | [], n, o, i, v, h => by rw [xent_nil] at h; cases h
  | w :: ws, 0, o, i, v, h => by simp [xent, xld] at h
  | w :: ws, 1, o, i, v, h => by
    simp only [xent] at h
    split at h
    · cases i with
      | zero => rw [xld_cons0] at h; cases h
      | succ i => rw [xld_consS, xld_nil] at h; cases h
    · rename_i hc
      cases i with
      | zero =>
        rw [xld_cons0] at h
        cases h
        simp [lv_args]
      | succ i =>
        rw [xld_consS] at h
        have := xent_ld ad ws 0 (o + 1) i v h
        simp only [List.map_cons, lv_args, xemb_cat, if_neg hc]
        exact List.mem_cons_of_mem _ (by rw [show i + 1 + o = i + (o + 1) by omega]; exact this)
  | w :: ws, n + 2, o, i, v, h => by
    simp only [xent] at h
    split at h
    · rename_i hc
      match i with
      | 0 =>
        rw [xld_cons0] at h
        cases h
        simp [lv_args]
      | 1 => rw [xld_consS, xld_cons0] at h; cases h
      | i + 2 =>
        rw [xld_consS, xld_consS] at h
        have := xent_ld ad ws n (o + 2) i v h
        simp only [List.map_cons, lv_args, xemb_cat, if_pos hc]
        exact List.mem_cons_of_mem _ (by rw [show i + 2 + o = i + (o + 2) by omega]; exact this)
    · rename_i hc
      cases i with
      | zero =>
        rw [xld_cons0] at h
        cases h
        simp [lv_args]
      | succ i =>
        rw [xld_consS] at h
        have := xent_ld ad ws (n + 1) (o + 1) i v h
        simp only [List.map_cons, lv_args, xemb_cat, if_neg hc]
        exact List.mem_cons_of_mem _ (by rw [show i + 1 + o = i + (o + 1) by omega]; exact this)
theorem xsl_len (vs : List Value) : (lg_sl vs).length = xwid vs := by
  induction vs with
  | nil => rfl
  | cons v vs ih =>
    have : lg_sl (v :: vs) = (if v.category = 2 then [.val v, .second] else [.val v]) ++ lg_sl vs := by simp [lg_sl]
    rw [this, List.length_append, ih]
    unfold xwid
    rw [List.map_cons, List.sum_cons]
    congr 1
    cases v <;> rfl
theorem XLH.entry {ad : Nat → Nat} {as : List Value} {n : Nat} (h : xwid as ≤ n) : XLH ad ((lg_sl (as.map (xemb ad)) ++ List.replicate (n - (lg_sl (as.map (xemb ad))).length) Slot.unset).toArray) n (xent as n) := by
  have hw : xwid (as.map (xemb ad)) = xwid as := by
    have := xwid_emb ad as
    unfold xwid at this ⊢
    exact this
  have hl := lv_entry (as.map (xemb ad)) (n := n) (by rw [xsl_len, hw]; exact h)
  refine ⟨hl.1, xent_len as n, hl.2.1, fun i v hv => ?_⟩
  have := xent_ld ad as n 0 i v hv
  exact hl.2.2 _ this
def xws (y : Nat) : List Cond := Cond.code (xyn y) (xcode y) (xml y) (xrty y) :: xgood
def xrm (d mc ms : Nat) : Room := { frames := d, cells := mc, slots := ms, locals := 40 * d }
def XU (S : XS) (D : va_G) (ca : Nat → ClassId) (b scr : Nat) (h : XH) (U : State) : Prop := (∀ w ∈ xnest, va_Nw w U) ∧ va_AO (xcn 1) U ∧ va_AO (xcn 3) U ∧ va_K D xcls (xtys ca) U ∧ va_X scr S.1 S.2 U U.heap ∧ U.heap.size = b + (xhz h - 1) ∧ va_P D xcls (xw (xad b scr) ca b h) U.heap
def XQ (D : va_G) (ca : Nat → ClassId) (b scr : Nat) (v : Option Value) (h : XH) : Array Value → State → Outcome → State → Prop := fun _ st oc t => oc = .returned (v.map (xemb (xad b scr))) ∧ va_P D xcls (xw (xad b scr) ca b h) t.heap ∧ va_F (fun q => b ≤ q) st t
theorem xgood_in {y : Nat} (hy : y < 160) : GoodIn xgood (xws y) := by
  intro w hw
  have : w ∈ xgood := by
    rcases List.mem_cons.mp hw with rfl | h
    · exact xm_code hy
    · exact h
  exact ⟨this, good_of_word (List.mem_filter.mp this).2⟩
theorem xU_blind {S : XS} {D : va_G} {ca : Nat → ClassId} {b scr : Nat} {h : XH} {as : List Value} : FrameBlind (va_Pc as (XU S D ca b scr h)) := by
  intro a U g mk hp
  obtain ⟨h1, h2, h3, h4, h5, h6, h7, h8⟩ := hp
  refine ⟨h1, fun w hw => ?_, h3, h4, h5, h6, h7, h8⟩
  have hw2 : w.onTables = true := by
    have := (List.mem_filter.mp hw).2
    cases w <;> first | rfl | cases this
  exact va_Nw.same (u := U) (U := U.calling g mk a) hw2 rfl (h2 w hw)
theorem xU_warm {S : XS} {s U : State} {D : va_G} {ca : Nat → ClassId} {b scr : Nat} {h : XH} {H : Heap} {locs : List Loc} (hnw : ∀ w ∈ xnest, va_Nw w s) (ha1 : va_AO (xcn 1) s) (ha3 : va_AO (xcn 3) s) (hK : va_K D xcls (xtys ca) s) (hX : va_X scr S.1 S.2 s s.heap) (hsb : scr < b) (hbs : b ≤ s.heap.size) (hS : va_S (fun q => b ≤ q) s.heap H locs) (hz : H.size = b + (xhz h - 1)) (hP : va_P D xcls (xw (xad b scr) ca b h) H) (hU : U.heap = H) (hW : s.WarmedH U.vm) : XU S D ca b scr h U := by
  subst hU
  refine ⟨fun w hw => ?_, va_AO.moved hW.alike ha1, va_AO.moved hW.alike ha3, va_K.moved hW.alike hK, va_X.moved hW.alike (va_X.kept hX (hS.2.1 scr (by omega) (by omega))), hz, hP⟩
  have hq := (List.mem_filter.mp hw).2
  have hz := hnw w hw
  cases w with
  | methodLinkNest a i x h => exact va_Nw.warmM hW hz
  | _ => cases hq
end
section
/-! The main theorem: a run of the small machine is a run of the machine. -/
theorem xcall_inv {k len y : Nat} {i : Instr} {st as r : List Value} {h : XH} (ho : xcall k i len st h = some (y, as, r)) : len = 3 ∧ ∃ idx n, xcal (xkc k) idx = some (y, n) ∧ xwid r ≤ 8 ∧ xwid as ≤ xml y ∧ n ≤ st.length ∧
    ((i = .invokestatic idx ∧ xmk y = 0 ∧ as = (st.take n).reverse ∧ r = st.drop n) ∨ ∃ a, st.drop n = .ref a :: r ∧ as = .ref a :: (st.take n).reverse ∧ ((i = .invokevirtual idx ∧ xmk y = 1 ∧ xkd h a = (xkc y, xnf (xkc y))) ∨ (i = .invokespecial idx ∧ xmk y = 2))) := by
  unfold xcall at ho
  split at ho
  · rename_i hl
    refine ⟨hl, ?_⟩
    cases i with
    | invokestatic idx =>
      simp only at ho
      split at ho
      · rename_i y' n hc
        split at ho
        · rename_i hq
          cases ho
          exact ⟨idx, n, hc, hq.2.2.1, hq.2.2.2, hq.2.1, Or.inl ⟨rfl, hq.1, rfl, rfl⟩⟩
        · cases ho
      · cases ho
    | invokevirtual idx =>
      simp only at ho
      split at ho
      · rename_i y' n hc
        split at ho
        · rename_i a r' hdr
          split at ho
          · rename_i hq
            cases ho
            exact ⟨idx, n, hc, hq.2.1, hq.2.2.2.2, hq.2.2.2.1, Or.inr ⟨a, hdr, rfl, Or.inl ⟨rfl, hq.1, hq.2.2.1⟩⟩⟩
          · cases ho
        · cases ho
      · cases ho
    | invokespecial idx =>
      simp only at ho
      split at ho
      · rename_i y' n hc
        split at ho
        · rename_i a r' hdr
          split at ho
          · rename_i hq
            cases ho
            exact ⟨idx, n, hc, hq.2.1, hq.2.2.2, hq.2.2.1, Or.inr ⟨a, hdr, rfl, Or.inr ⟨rfl, hq.1⟩⟩⟩
          · cases ho
        · cases ho
      · cases ho
    | _ => cases ho
  · cases ho
section XMA
variable {p : Program} {l : Launch} {e : Env} {R : Room} {s : State} {m : MethodId} {args : Array Value} {below : List Frame} {meth : Method} {c : Code} {Q : State → Prop} {D : va_G} {ca : Nat → ClassId} {b scr z0 s0 k pc pc' len d : Nat} {L L' : XL} {st st' r : List Value} {h h' h1 : XH} {i : Instr} {S : XS} {v : Option Value}
theorem xret_sound (C : XCx S p s m args meth c D ca b scr z0 k) (hd : decode (xcode k) pc = .ok (i, len)) (hr : xret k i len st = some v) : XW (p, l, e, R, s, m, args, below, meth, c, MQ below (XQ D ca b scr v h) args s (xhz h - z0) (xhs h - s0) (fun q => b ≤ q), D, ca, b, scr, z0, s0) k pc L st h := by
  obtain ⟨hx, hb, hml, hown, hts, hnw, hao1, hao3, hK, hX, hsb, hz1, hss, hin, hrt, hlk⟩ := C
  unfold xret at hr
  split at hr
  · rename_i hl
    subst hl
    cases i with
    | return_ =>
      simp only at hr
      split at hr
      · rename_i hc
        cases hr
        obtain ⟨h1, rfl⟩ := hc
        intro H locs ls hP hS hL
        exact W.vret hx hb (hrt.trans h1) (fun t ht hW => ⟨rfl, by rw [ht]; exact hP, hS.F ht⟩) hS.2.2 hd hlk
      · cases hr
    | ireturn =>
      simp only at hr
      split at hr
      · split at hr
        · rename_i hc
          cases hr
          intro H locs ls hP hS hL
          rcases hc with h1 | ⟨h1, h2⟩
          · exact W.iret hx hb (hrt.trans h1) (fun t ht hW => ⟨rfl, by rw [ht]; exact hP, hS.F ht⟩) hS.2.2 hd hlk
          · exact W.zret (ty := .boolean) hx hb (hrt.trans h1) (by rcases h2 with rfl | rfl <;> decide) (fun t ht hW => ⟨rfl, by rw [ht]; exact hP, hS.F ht⟩) hS.2.2 hd hlk
        · cases hr
      · cases hr
    | lreturn =>
      simp only at hr
      split at hr
      · split at hr
        · rename_i h1
          cases hr
          intro H locs ls hP hS hL
          exact W.lret hx hb (hrt.trans h1) (fun t ht hW => ⟨rfl, by rw [ht]; exact hP, hS.F ht⟩) hS.2.2 hd hlk
        · cases hr
      · cases hr
    | areturn =>
      have hro : xrob k = true → ∃ rt, xrty k = some rt ∧ ((∃ n, rt = .object n) ∨ ∃ t, rt = .array t) := by
        intro hq
        unfold xrob at hq
        split at hq
        · rename_i hq2; exact ⟨_, hq2, Or.inl ⟨_, rfl⟩⟩
        · rename_i hq2; exact ⟨_, hq2, Or.inr ⟨_, rfl⟩⟩
        · cases hq
      simp only at hr
      split at hr
      · split at hr
        · rename_i hq
          cases hr
          obtain ⟨rt, h1, h2⟩ := hro hq
          intro H locs ls hP hS hL
          exact W.aret hx hb (hrt.trans h1) h2 (Or.inr ⟨_, rfl⟩) (fun t ht hW => ⟨rfl, by rw [ht]; exact hP, hS.F ht⟩) hS.2.2 hd hlk
        · cases hr
      · split at hr
        · rename_i hq
          cases hr
          obtain ⟨rt, h1, h2⟩ := hro hq
          intro H locs ls hP hS hL
          exact W.aret hx hb (hrt.trans h1) h2 (Or.inl rfl) (fun t ht hW => ⟨rfl, by rw [ht]; exact hP, hS.F ht⟩) hS.2.2 hd hlk
        · cases hr
      · cases hr
    | _ => cases hr
  · cases hr
theorem xgo {H : Heap} {locs : List Loc} {ls : Array Slot} {st0 rest : List Value} {a : Array Value} {mc ms : Nat} (hr : va_Run p l e R s m args below meth c H locs (xhz h - z0) (xhs h - s0) mc ms (F0 m pc ls st0) rest (XQ D ca b scr v h1 a) (fun q => b ≤ q)) (hS : va_S (fun q => b ≤ q) s.heap H locs)
    (kk : ∀ (H1 : Heap) (locs1 : List Loc), va_P D xcls (xw (xad b scr) ca b h1) H1 → va_S (fun q => b ≤ q) s.heap H1 locs1 → W p l e R s m args below meth c H1 locs1 (xhz h - z0 + mc) (xhs h - s0 + ms) Q (F0 m (pc + 3) ls ((v.map (xemb (xad b scr))).toList ++ rest))) : W p l e R s m args below meth c H locs (xhz h - z0) (xhs h - s0) Q (F0 m pc ls st0) := by
  intro T hT X
  obtain ⟨v', st₀, t, T', L, h0, X', hL, e1, e2, ⟨hv, hP, hz, hk⟩, st⟩ := hr T hT X
  cases hv
  rw [h0] at hz hk
  obtain ⟨t2, a1, b1⟩ := kk T'.heap (locs ++ L) (by rw [e1]; exact hP) ⟨Nat.le_trans hS.1 (by rw [e1]; exact hz), fun q h1 h2 => by rw [e1, hk q (Nat.lt_of_lt_of_le h1 hS.1) h2]; exact hS.2.1 q h1 h2, fun q hq => by
      rcases List.mem_append.mp hq with h | h
      · exact hS.2.2 q h
      · exact hL q h⟩ T' rfl X'
  exact ⟨t2, st t2 a1, b1⟩
end XMA
theorem xsound (S : XS) (l : Launch) (D : va_G) (ca : Nat → ClassId) (b scr : Nat) : ∀ (n d k pc : Nat) (L : XL) (st : List Value) (h : XH) (v : Option Value) (h' : XH), xrun S n d k pc L st h = some (v, h') →
    ∀ (p : Program) (e : Env) (R : Room) (s : State) (m : MethodId) (args : Array Value) (below : List Frame) (meth : Method) (c : Code) (Q : State → Prop) (z0 s0 : Nat), XCx S p s m args meth c D ca b scr z0 k → d ≤ R.frames → 40 * d ≤ R.locals → z0 ≤ xhz h → s0 ≤ xhs h → xhz h' - z0 ≤ R.cells → xhs h' - s0 ≤ R.slots →
      (∀ i len pc1 st1 L1, decode (xcode k) pc1 = .ok (i, len) → xret k i len st1 = some v → XW (p, l, e, R, s, m, args, below, meth, c, Q, D, ca, b, scr, z0, s0) k pc1 L1 st1 h') → XW (p, l, e, R, s, m, args, below, meth, c, Q, D, ca, b, scr, z0, s0) k pc L st h := by
  intro n
  induction n with
  | zero => intro d k pc L st h v h' ho; cases ho
  | succ n ih =>
    intro d k pc L st h v h' ho p e R s m args below meth c Q z0 s0 C hf hlo hz0 hs0 hR1 hR2 HR
    simp only [xrun] at ho
    split at ho
    · cases ho
    · rename_i i len hd
      split at ho
      · rename_i r hr
        cases ho
        exact HR i len pc st L hd hr
      · split at ho
        · rename_i y as r hc
          split at ho
          · cases ho
          · rename_i hd0
            split at ho
            · cases ho
            · rename_i v1 h1 hcal
              have g1 := xrun_grow _ _ _ _ _ _ _ _ _ hcal
              have g2 := xrun_grow _ _ _ _ _ _ _ _ _ ho
              obtain ⟨rfl, idx, nn, hxc, hwr, hwa, hnn, hkind⟩ := xcall_inv hc
              obtain ⟨hy, hpar, hlink⟩ := xcal_ok hxc
              have hM : Met l (xyn y) (xws y) (xrm (d - 1) (xhz h1 - xhz h) (xhs h1 - xhs h)) (va_Pc (as.map (xemb (xad b scr))) (XU S D ca b scr h)) (XQ D ca b scr v1 h1) (xhz h1 - xhz h) (xhs h1 - xhs h) (fun q => b ≤ q) := by
                refine va_MetF (cc := xcode y) (maxL := xml y) (ret := xrty y) (xm_pl hy).1 rfl ?_
                intro p' e' s' m' args' below' meth' c' s₁ B hml' hv
                obtain ⟨rfl, u1, u2, u3, u4, u5, u6, u7⟩ := hv
                have hts' := atoms_spec (ws := xws y) B.pre
                have C' : XCx S p' s' m' ((as.map (xemb (xad b scr))).toArray) meth' c' D ca b scr (xhz h) y := by
                  obtain ⟨-, -, -, -, -, -, -, -, -, -, hsb, hz1, -⟩ := C
                  refine ⟨B.exec, B.bytes, hml', ?_, fun w hw => hts' w (List.mem_cons_of_mem _ hw), u1, u2, u3, u4, u5, hsb, by omega, u6, fun q => ?_, B.returns, B.notSynchronized⟩
                  · have := findClass_of_methodNamed B.named
                    rw [xm_cls (by omega)] at this
                    exact this
                  · rw [← q]
                    exact (name_of_methodNamed B.named B.method).1
                have K := ih (d - 1) y 0 (xent as (xml y)) [] h v1 h1 hcal p' e' (xrm (d - 1) (xhz h1 - xhz h) (xhs h1 - xhs h)) s' m' _ below' meth' c' (MQ below' (XQ D ca b scr v1 h1) ((as.map (xemb (xad b scr))).toArray) s' (xhz h1 - xhz h) (xhs h1 - xhs h) (fun q => b ≤ q)) (xhz h) (xhs h) C' (Nat.le_refl _) (Nat.le_refl _) (Nat.le_refl _) (Nat.le_refl _) (Nat.le_refl _) (Nat.le_refl _) (fun i len pc1 st1 L1 q1 q2 => xret_sound C' q1 q2)
                rw [lg_entry_eq]
                have K := K s'.heap [] _ u7 va_S.rf (XLH.entry hwa)
                rw [Nat.sub_self, Nat.sub_self] at K
                exact K
              have K := ih d k (pc + 3) L (v1.toList ++ r) h1 v h' ho p e R s m args below meth c Q z0 s0 C hf hlo (by omega) (by omega) hR1 hR2 HR
              obtain ⟨hx, hb, hml, hown, hts, hnw, hao1, hao3, hK, hX, hsb, hz1, hss, hin, hrt, hlk⟩ := C
              have hmL := (xm_kc hy).1
              have hroom : (xrm (d - 1) (xhz h1 - xhz h) (xhs h1 - xhs h)).frames + 1 ≤ R.frames ∧ 8 + (xml y + 11) + (xrm (d - 1) (xhz h1 - xhz h) (xhs h1 - xhs h)).locals ≤ R.locals := by
                refine ⟨?_, ?_⟩
                · show d - 1 + 1 ≤ _; omega
                · show 8 + (xml y + 11) + 40 * (d - 1) ≤ _; omega
              have hds : (xyn y).cls ≠ "java/lang/invoke/MethodHandle" ∧ (xyn y).cls ≠ "java/lang/invoke/VarHandle" ∧ (parseMethodDescriptor (xyn y).desc).map (fun d => d.parameters.length) = some nn := ⟨(xm_pl hy).2.1, (xm_pl hy).2.2, hpar⟩
              intro H locs ls hP hS hL
              refine W.sized (fun hsz => ?_)
              have hsz2 : H.size = b + (xhz h - 1) := by
                refine Nat.le_antisymm (by omega) ?_
                by_cases hq : xhz h = 1
                · have := hS.1; omega
                · have := (hP (xhz h - 1 - 1) _ (xw_at (scr := scr) (a := xhz h - 1) (by omega) (by omega))).lt
                  rw [xad_pos (by omega)] at this
                  have h2 : b + (xhz h - 1 - 1) < H.size := this
                  omega
              have hUU : ∀ U : State, U.heap = H → s.WarmedH U.vm → XU S D ca b scr h U := fun U hU hW => xU_warm hnw hao1 hao3 hK hX hsb (by omega) hS hsz2 hP hU hW
              have hcs : xhz h - z0 + (xhz h1 - xhz h) ≤ R.cells ∧ xhs h - s0 + (xhs h1 - xhs h) ≤ R.slots := by omega
              have fin : ∀ (a : Array Value) (st0 : List Value), va_Run p l e R s m args below meth c H locs (xhz h - z0) (xhs h - s0) (xhz h1 - xhz h) (xhs h1 - xhs h) (F0 m pc ls st0) (r.map (xemb (xad b scr))) (XQ D ca b scr v1 h1 a) (fun q => b ≤ q) → W p l e R s m args below meth c H locs (xhz h - z0) (xhs h - s0) Q (F0 m pc ls st0) := by
                intro a st0 hrun
                refine xgo hrun hS (fun H1 locs1 hP1 hS1 => ?_)
                have K := K H1 locs1 ls hP1 hS1 hL
                have e1 : xhz h1 - z0 = xhz h - z0 + (xhz h1 - xhz h) := by omega
                have e2 : xhs h1 - s0 = xhs h - s0 + (xhs h1 - xhs h) := by omega
                have e3 : (v1.toList ++ r).map (xemb (xad b scr)) = (v1.map (xemb (xad b scr))).toList ++ r.map (xemb (xad b scr)) := by cases v1 <;> rfl
                rw [e1, e2, e3] at K
                exact K
              have hCF : CallFix p m c (xcode k) (xml k) s args xgood (xcn (xkc k)) := ⟨hx, hb, hml, hown, hts⟩
              have hlen : ((st.take nn).reverse.map (xemb (xad b scr))).length = nn := by simp; omega
              rcases hkind with ⟨rfl, hmk, rfl, rfl⟩ | ⟨a, hdr, rfl, ⟨rfl, hmk, hkd⟩ | ⟨rfl, hmk⟩⟩
              · have hst : (F0 m pc ls (st.map (xemb (xad b scr)))).stack = ((st.take nn).reverse.map (xemb (xad b scr))).reverse ++ (st.drop nn).map (xemb (xad b scr)) := by
                  show st.map _ = _
                  rw [← List.map_reverse, List.reverse_reverse, ← List.map_append, List.take_append_drop]
                refine fin ((st.take nn).reverse.map (xemb (xad b scr))).toArray _ ?_
                rcases hlink with hl | hl
                · exact va_runS hCF hM ⟨callB_of nn hts (xgood_in hy) rfl rfl rfl (hts _ (xm_ini hy)) (hts _ hl) hds hroom, hts _ (xm_k0 hy hmk)⟩ ⟨xU_blind, fun U hU hW => ⟨rfl, hUU U hU hW⟩⟩ rfl hlen hL.1 hst (lv_room (by rw [xwid_emb]; exact hwr)) hd hcs
                · exact va_runSN hCF hM ⟨va_cnB nn hts (xgood_in hy) rfl rfl rfl (hnw _ hl) (hts _ (xm_ini hy)) hds hroom, hts _ (xm_k0 hy hmk), trivial⟩ ⟨xU_blind, fun U hU hW => ⟨rfl, hUU U hU hW⟩⟩ rfl hlen hL.1 hst (lv_room (by rw [xwid_emb]; exact hwr)) hd hcs
              · have hst : (F0 m pc ls (st.map (xemb (xad b scr)))).stack = ((st.take nn).reverse.map (xemb (xad b scr))).reverse ++ .ref (xad b scr a) :: r.map (xemb (xad b scr)) := by
                  show st.map _ = _
                  rw [← List.map_reverse, List.reverse_reverse]
                  conv => lhs; rw [← List.take_append_drop nn st, List.map_append, hdr]
                  rfl
                refine fin (Value.ref (xad b scr a) :: (st.take nn).reverse.map (xemb (xad b scr))).toArray _ ?_
                obtain ⟨k1, k2, k3⟩ := xm_k1 hy hmk
                have hrec := va_recv hK hP (xcls_at k3) (xw_obj (scr := scr) hkd (by omega))
                rcases hlink with hl | hl
                · exact va_runV hCF hM ⟨callB_of nn hts (xgood_in hy) rfl rfl rfl (hts _ (xm_ini hy)) (hts _ hl) hds hroom, hts _ k1, hts _ k2⟩ ⟨xU_blind, hrec, fun U hU hW => ⟨rfl, hUU U hU hW⟩⟩ rfl hlen hL.1 hst (lv_room (by rw [xwid_emb]; exact hwr)) hd hcs
                · exact va_runVN hCF hM ⟨va_cnB nn hts (xgood_in hy) rfl rfl rfl (hnw _ hl) (hts _ (xm_ini hy)) hds hroom, hts _ k1, hts _ k2⟩ ⟨xU_blind, hrec, fun U hU hW => ⟨rfl, hUU U hU hW⟩⟩ rfl hlen hL.1 hst (lv_room (by rw [xwid_emb]; exact hwr)) hd hcs
              · have hst : (F0 m pc ls (st.map (xemb (xad b scr)))).stack = ((st.take nn).reverse.map (xemb (xad b scr))).reverse ++ .ref (xad b scr a) :: r.map (xemb (xad b scr)) := by
                  show st.map _ = _
                  rw [← List.map_reverse, List.reverse_reverse]
                  conv => lhs; rw [← List.take_append_drop nn st, List.map_append, hdr]
                  rfl
                refine fin (Value.ref (xad b scr a) :: (st.take nn).reverse.map (xemb (xad b scr))).toArray _ ?_
                obtain ⟨k1, k2, k3⟩ := xm_k2 hy hmk
                have hM2 := hM
                rcases hlink with hl | hl
                · exact va_runI (maxL := xml y) (bytes := xcode y) hCF hM ⟨callB_of nn hts (xgood_in hy) (by unfold xws; rw [k3]) rfl rfl (hts _ (xm_ini hy)) (hts _ hl) hds hroom, k2, hts _ k1⟩ ⟨xU_blind, fun U hU hW => ⟨rfl, hUU U hU hW⟩⟩ rfl hlen hL.1 hst (lv_room (by rw [xwid_emb]; exact hwr)) hd hcs
                · exact va_runIN (maxL := xml y) (bytes := xcode y) hCF hM ⟨va_cnB nn hts (xgood_in hy) (by unfold xws; rw [k3]) rfl rfl (hnw _ hl) (hts _ (xm_ini hy)) hds hroom, k2, hts _ k1⟩ ⟨xU_blind, fun U hU hW => ⟨rfl, hUU U hU hW⟩⟩ rfl hlen hL.1 hst (lv_room (by rw [xwid_emb]; exact hwr)) hd hcs
        · split at ho
          · cases ho
          · rename_i pc' L' st' h1 h1e
            have g1 := x1_grow h1e
            have g2 := xrun_grow _ _ _ _ _ _ _ _ _ ho
            exact x1_sound C hf hlo hz0 hs0 (by omega) (by omega) hd h1e (ih d k pc' L' st' h1 v h' ho p e R s m args below meth c Q z0 s0 C hf hlo (by omega) (by omega) hR1 hR2 HR)
end
section
/-! THE CLAIM OUT OF ONE WALK OF THE LAW'S BODY. Your part is whole_start (and what it stands on); all else here is the same for every law, but numbers. -/
def R_law : String := "BranchGoalsLaw"
def lw_P (b : Addr) (xs : List Int32) (args : Array Value) (s : State) : Prop := args = #[.ref b] ∧ s.IntsAt b xs ∧ xs.length ≤ 3073 ∧ (Jvm.Cond.and given_1 narrow_1).before args s = true
def lw_Q (_ : Array Value) (s : State) (o : Outcome) (t : State) : Prop := o = .returned (some (.int 1)) ∧ Framed s o t [] 600000 7302250
def lw_Z (below : List Frame) (a : Array Value) (s : State) : State → Prop := fun t => ∃ o, t.status = .running ∧ Ended t below o ∧ lw_Q a s o t
/-- the law's own end, with 1 on the stack, nothing written that was there before, its room as the claim has it -/
theorem lw_ret {p : Program} {l : Launch} {e : Env} {s : State} {m : MethodId} {below : List Frame} {meth : Method} {c : Code} {b : Nat} (hx : p.tables.exec = Jvm.exec) (hb : c.code = code) (hr : meth.sig.returnType = ret) (hlocks : meth.locks = false) {pc : Nat} {H : Heap} {ls : Array Slot} (hdg : decode code pc = .ok (.ireturn, 1)) : W p l e room_1 s m #[Value.ref b] below meth c H [] 600000 7302250 (lw_Z below #[Value.ref b] s) (F0 m pc ls [.int 1]) := by
  intro T hT X
  obtain ⟨fs, hret, hrun, hended, hW, hframe⟩ := X.leave (v := some (.int 1)) (hlocks := hlocks) (fun h => by rw [hr] at h; cases h)
  have hmeth' : T.vm.method? m = some meth := X.method'
  refine ⟨T.setFrames fs, ?_, .returned (some (.int 1)), hrun, hended, rfl, ⟨_, rfl⟩, hW, hframe⟩
  jvm_step X.here [X.here.top, hx, hb, hdg, hmeth', hr, ret, narrow_b1]
  (try refine ⟨rfl, ?_⟩); (try refine ⟨rfl, ?_⟩)
  first | (intro acts; rw [hret _ acts rfl rfl rfl]) | rw [hret _ _ rfl rfl rfl]
  exact Steps.refl _
/-- what holds at the law's entry: the machine, the code, the tables' words (any of lw_tbl by 'hts w (by decide +kernel)'), the script of L ints xs at the cell b, what the Statement gives of the start (any of its parts by flat_of_before) -/
def lw_At (p : Program) (s : State) (m : MethodId) (meth : Method) (c : Code) (b L : Nat) (xs : Nat → Int32) : Prop :=
  p.tables.exec = Jvm.exec ∧ c.code = code ∧ meth.sig.returnType = ret ∧ c.maxLocals = 4 ∧ s.vm.findClass R_law = some m.cls ∧ (∀ w ∈ lw_tbl, w.before #[Value.ref b] s = true) ∧ va_X b L xs s s.heap ∧ b < s.heap.size ∧ meth.locks = false ∧ (Jvm.Cond.and given_1 narrow_1).before #[Value.ref b] s = true
def xh0 : XH := (1, 0, (fun _ => (999, 0)), (fun _ _ => 0), (fun _ _ => 0), (fun _ _ => none))
/-- what is left: on every script the small machine runs the law to 1, in its room -/
def XLaw : Prop := ∀ (N : Nat) (xs : Nat → Int32), N ≤ 3073 → ∃ (n : Nat) (h' : XH), xrun (N, xs) n 11 160 0 (xent [.ref 0] 4) [] xh0 = some (some (.int 1), h') ∧ xhz h' ≤ 600001 ∧ xhs h' ≤ 7302250
theorem xl_ca {s : State} {args : Array Value} {ty : FieldType} (h : (Cond.arrayClass ty).before args s = true) (hp : ∀ n, ty ≠ .object n) : ∃ c, ArrOfT s c ty ∧ va_RA s c ty := by
  obtain ⟨c, k, comp, h1, h2, h3⟩ := Cond.arrayClass_spec h
  refine ⟨c, fun n z => ⟨fun k h => (by cases h), k, h2, comp, h3⟩, ?_⟩
  cases ty <;> first | exact h1 | exact absurd rfl (hp _)
theorem xl_co {s : State} {C : String} (h : va_AO C s) : ∃ c, ArrOfT s c (.object C) ∧ va_RA s c (.object C) := by
  obtain ⟨comp, c, k, h1, h2, h3, h4, h5⟩ := Cond.arrayOver_spec h
  exact ⟨c, fun n z => ⟨fun k h => (by cases h), k, h3, comp, h4⟩, k, comp, h3, h4, h1, h5⟩
theorem xl_cls {s : State} {args : Array Value} (hts : ∀ w ∈ xgood, w.before args s = true) : ∃ D : va_G, ∀ (ci : Nat) (q : vw_C), xcls[ci]? = some q → u_Kn s q.1 q.2.1 q.2.2 (D.1 ci) (D.2 ci) := by
  have h1 : ∀ ci : Nat, ∃ (cC : ClassId) (iS : Nat → Nat), ci < 10 → u_Kn s (xcn ci) (xTT ci) (xnf ci) cC iS := by
    intro ci
    by_cases hc : ci < 10
    · obtain ⟨cC, iS, hk⟩ := u_known hts (xws_in hc) (hts _ (xin_ci hc).1)
      exact ⟨cC, iS, fun _ => hk⟩
    · exact ⟨default, fun _ => 0, fun q => absurd q hc⟩
  refine ⟨(fun ci => (h1 ci).choose, fun ci => (h1 ci).choose_spec.choose), fun ci q hq => ?_⟩
  have hlt : ci < 10 := (List.getElem?_eq_some_iff.mp hq).1
  have := xcls_at hlt
  rw [hq] at this
  cases this
  exact (h1 ci).choose_spec.choose_spec hlt
set_option maxHeartbeats 4000000 in
theorem whole_start_open (hXL : XLaw) {p : Program} {e : Env} {s : State} {m : MethodId} {below : List Frame} {meth : Method} {c : Code} (l : Launch) {b L : Nat} {xs : Nat → Int32} (hL : L ≤ 3073) (C0 : lw_At p s m meth c b L xs) : W p l e room_1 s m #[Value.ref b] below meth c s.heap [] 0 0 (lw_Z below #[Value.ref b] s) (entryFrame m ([Value.ref b] : List Value).toArray 4) := by
  obtain ⟨hx, hb, hr, hml, hown, hts, hX, hbl, hlk, hgv⟩ := C0
  obtain ⟨n, h', hrun, hc, hs⟩ := hXL L xs hL
  have htg : ∀ w ∈ xgood, w.before #[Value.ref b] s = true := fun w hw => hts w (List.mem_filter.mp hw).1
  have ha1 : va_AO (xcn 1) s := va_AO.of (hts _ (List.mem_append_right _ (xpl_in xkO_e (w := .arrayOver (.object (xcn 1))) (by simp [xcn, xcnT]))))
  have ha3 : va_AO (xcn 3) s := va_AO.of (hts _ (List.mem_append_right _ (xpl_in xkO_e (w := .arrayOver (.object (xcn 3))) (by simp [xcn, xcnT]))))
  have hnw : ∀ w ∈ xnest, va_Nw w s := fun w hw => by
    have hw2 : w.onTables = true := by
      have := (List.mem_filter.mp hw).2
      cases w <;> first | rfl | cases this
    exact va_Nw.of hw2 (hts w (List.mem_filter.mp hw).1)
  obtain ⟨D, hD⟩ := xl_cls htg
  obtain ⟨c0, k0⟩ := xl_ca (htg _ xg_glob.2.2.2.2.2.1) (fun n q => by cases q)
  obtain ⟨c1, k1⟩ := xl_ca (htg _ xg_glob.2.2.2.2.2.2.1) (fun n q => by cases q)
  obtain ⟨c2, k2⟩ := xl_ca (htg _ xg_glob.2.2.2.2.2.2.2) (fun n q => by cases q)
  obtain ⟨c3, k3⟩ := xl_co ha1
  obtain ⟨c4, k4⟩ := xl_co ha3
  have hK : va_K D xcls (xtys (fun t => ([c0, c1, c2, c3, c4] : List ClassId).getD t c0)) s := by
    refine ⟨hD, fun t q hq => ?_⟩
    match t, hq with
    | 0, hq => cases hq; exact k0
    | 1, hq => cases hq; exact k1
    | 2, hq => cases hq; exact k2
    | 3, hq => cases hq; exact k3
    | 4, hq => cases hq; exact k4
  have C : XCx (L, xs) p s m #[Value.ref b] meth c D (fun t => ([c0, c1, c2, c3, c4] : List ClassId).getD t c0) s.heap.size b 1 160 :=
    ⟨hx, hb, hml, hown, htg, hnw, ha1, ha3, hK, hX, hbl, Nat.le_refl 1, rfl, fun q => absurd q (by decide), hr, hlk⟩
  have K := xsound (L, xs) l D _ s.heap.size b n 11 160 0 (xent [.ref 0] 4) [] xh0 (some (.int 1)) h' hrun p e room_1 s m #[Value.ref b] below meth c (lw_Z below #[Value.ref b] s) 1 0 C (by decide) (by decide) (Nat.le_refl 1) (Nat.le_refl 0) (by show xhz h' - 1 ≤ 600000; omega) (by show xhs h' - 0 ≤ 7302250; omega) ?_
  · rw [lg_entry_eq]
    exact K s.heap [] _ (fun k q hq => by simp [xw, xh0, xhz] at hq) va_S.rf (XLH.entry (as := [.ref 0]) (by decide))
  · intro i len pc1 st1 L1 hd hret H locs ls hP hS hLs
    unfold xret at hret
    split at hret
    · rename_i hl
      subst hl
      cases i with
      | return_ =>
        simp only at hret
        split at hret
        · cases hret
        · cases hret
      | ireturn =>
        simp only at hret
        split at hret
        · split at hret
          · cases hret
            refine va_forget (fun q hq => hS.2.2 q hq) ?_
            refine W.widen (k := 600000) (n := 7302250) (by show xhz h' - 1 ≤ 600000; omega) (by show xhs h' - 0 ≤ 7302250; omega) ?_
            exact lw_ret hx hb hr hlk hd
          · cases hret
        · cases hret
      | lreturn =>
        simp only at hret
        split at hret
        · split at hret
          · cases hret
          · cases hret
        · cases hret
      | areturn =>
        simp only at hret
        split at hret
        · split at hret
          · cases hret
          · cases hret
        · split at hret
          · cases hret
          · cases hret
        · cases hret
      | _ => cases hret
    · cases hret
end
section
/-! Rows for walks in the small machine: XP, from this point the method returns so that Q. -/
def xle (L L' : XL) : Prop := L.length = L'.length ∧ ∀ (i : Nat) (v : Value), xld L i = some v → xld L' i = some v
theorem xle.rf (L : XL) : xle L L := ⟨rfl, fun _ _ h => h⟩
theorem xle.cons {x y : Option Value} {L L' : XL} (h : xle L L') (hx : ∀ v, x = some v → y = some v) : xle (x :: L) (y :: L') := by
  refine ⟨by simp [h.1], fun i v hv => ?_⟩
  cases i with
  | zero => rw [xld_cons0] at hv ⊢; exact hx v hv
  | succ i => rw [xld_consS] at hv ⊢; exact h.2 i v hv
theorem xle.tl {x y : Option Value} {L L' : XL} (h : xle (x :: L) (y :: L')) : xle L L' ∧ ∀ v, x = some v → y = some v := by
  refine ⟨⟨by have := h.1; simpa using this, fun i v hv => ?_⟩, fun v hv => ?_⟩
  · have := h.2 (i + 1) v (by rw [xld_consS]; exact hv)
    rwa [xld_consS] at this
  · have := h.2 0 v (by rw [xld_cons0]; exact hv)
    rwa [xld_cons0] at this
theorem xle_kill {x y : Option Value} (h : ∀ v, x = some v → y = some v) : ∀ v, (if xcat2 x then none else x) = some v → (if xcat2 y then none else y) = some v := by
  intro v hv
  split at hv
  · cases hv
  · rename_i hc
    rw [h v hv]
    rw [hv] at hc
    rw [if_neg hc]
theorem xle.st1 : ∀ {L L' : XL} (i : Nat) (v : Value), xle L L' → xle (xst1 L i v) (xst1 L' i v)
  | [], [], i, v, h => h
  | [], _ :: _, i, v, h => absurd h.1 (by simp)
  | _ :: _, [], i, v, h => absurd h.1 (by simp)
  | x :: L, y :: L', 0, v, h => (h.tl).1.cons (fun _ q => q)
  | x :: L, y :: L', 1, v, h => (xle.st1 0 v h.tl.1).cons (xle_kill h.tl.2)
  | x :: L, y :: L', i + 2, v, h => (xle.st1 (i + 1) v h.tl.1).cons h.tl.2
theorem xle.st2 : ∀ {L L' : XL} (i : Nat) (v : Value), xle L L' → xle (xst2 L i v) (xst2 L' i v)
  | [], [], i, v, h => xle.rf _
  | [], _ :: _, i, v, h => absurd h.1 (by simp)
  | _ :: _, [], i, v, h => absurd h.1 (by simp)
  | [x], [y], 0, v, h => h
  | [_], _ :: _ :: _, 0, v, h => absurd h.1 (by simp)
  | _ :: _ :: _, [_], 0, v, h => absurd h.1 (by simp)
  | x :: x2 :: L, y :: y2 :: L', 0, v, h => ((h.tl).1.tl.1.cons (fun _ q => q)).cons (fun _ q => q)
  | x :: L, y :: L', 1, v, h => by
    simp only [xst2]
    exact (xle.st2 0 v h.tl.1).cons (xle_kill h.tl.2)
  | x :: L, y :: L', i + 2, v, h => by
    simp only [xst2]
    exact (xle.st2 (i + 1) v h.tl.1).cons h.tl.2
def XP (S : XS) (d k pc : Nat) (L : XL) (st : List Value) (h : XH) (Q : Option Value → XH → Prop) : Prop := ∀ L', xle L L' → ∃ (n : Nat) (v : Option Value) (h' : XH), xrun S n d k pc L' st h = some (v, h') ∧ Q v h'
section XPR
variable {S : XS} {d d' k pc pc' len y : Nat} {L L1 L2 : XL} {st st' r as : List Value} {h h' : XH} {Q Q' : Option Value → XH → Prop} {cc : ByteArray} {i : Instr} {v : Option Value}
theorem XP.conseq (K : XP S d k pc L st h Q) (hq : ∀ v h', Q v h' → Q' v h') : XP S d k pc L st h Q' := fun L' hL => by
  obtain ⟨n, v, h', e, q⟩ := K L' hL
  exact ⟨n, v, h', e, hq v h' q⟩
theorem XP.weak (hL : xle L1 L) (K : XP S d k pc L1 st h Q) : XP S d k pc L st h Q := fun L' h1 => K L' ⟨hL.1.trans h1.1, fun i v q => h1.2 i v (hL.2 i v q)⟩
theorem XP.deep (hd : d ≤ d') (K : XP S d k pc L st h Q) : XP S d' k pc L st h Q := fun L' hL => by
  obtain ⟨n, v, h', e, q⟩ := K L' hL
  exact ⟨n, v, h', xrun_mono _ _ _ _ _ _ _ _ e n d' (Nat.le_refl _) hd, q⟩
theorem XP.one (hc : xcode k = cc) (hd : decode cc pc = .ok (i, len)) (hr : xret k i len st = none) (hcl : xcall k i len st h = none)
    (h1 : ∀ L', xle L L' → ∃ L'', x1 S d k i len pc L' st h = some (pc', L'', st', h') ∧ xle L1 L'') (K : XP S d k pc' L1 st' h' Q) : XP S d k pc L st h Q := fun L' hL => by
  obtain ⟨L'', e1, hL1⟩ := h1 L' hL
  obtain ⟨n, v, h2, e, q⟩ := K L'' hL1
  refine ⟨n + 1, v, h2, ?_, q⟩
  subst hc
  simp only [xrun, hd, hr, hcl, e1]
  exact e
theorem xop_not (ho : xop i st = some st') : xret k i len st = none ∧ xcall k i len st h = none ∧ xjmp i len pc st = none := by
  cases i <;> first | (refine ⟨?_, ?_, rfl⟩ <;> first | (unfold xret; split <;> rfl) | (unfold xcall; split <;> rfl)) | exact absurd ho (by intro q; cases q)
theorem xloc_not (ho : xloc i L st = some (L1, st')) : xret k i len st = none ∧ xcall k i len st h = none ∧ xjmp i len pc st = none ∧ xop i st = none := by
  cases i <;> first | (refine ⟨?_, ?_, rfl, rfl⟩ <;> first | (unfold xret; split <;> rfl) | (unfold xcall; split <;> rfl)) | exact absurd ho (by intro q; cases q)
theorem xmem_not (ho : xmem S k i st h = some (st', h')) : xret k i len st = none ∧ xcall k i len st h = none ∧ xjmp i len pc st = none ∧ xop i st = none ∧ ∀ L, xloc i L st = none := by
  cases i <;> first | (refine ⟨?_, ?_, rfl, rfl, fun _ => rfl⟩ <;> first | (unfold xret; split <;> rfl) | (unfold xcall; split <;> rfl)) | exact absurd ho (by intro q; cases q)
theorem xjmp_not (ho : xjmp i len pc st = some (pc', st')) : xret k i len st = none ∧ xcall k i len st h = none := by
  cases i <;> first | (refine ⟨?_, ?_⟩ <;> first | (unfold xret; split <;> rfl) | (unfold xcall; split <;> rfl)) | exact absurd ho (by intro q; cases q)
/-- an instruction on the stack alone -/
theorem x_op (hc : xcode k = cc) (hd : decode cc pc = .ok (i, len)) (hl : len = xlen i) (ho : xop i st = some st') (hp : pc + len = pc') (K : XP S d k pc' L st' h Q) : XP S d k pc L st h Q := by
  obtain ⟨n1, n2, n3⟩ := xop_not (k := k) (len := len) (h := h) (pc := pc) ho
  refine XP.one hc hd n1 n2 (fun L' hL => ⟨L', ?_, hL⟩) K
  subst hp
  simp only [x1, n3, if_pos hl, ho]
theorem xloc_mono (hL : xle L L2) (ho : xloc i L st = some (L1, st')) : ∃ L3, xloc i L2 st = some (L3, st') ∧ xle L1 L3 := by
  cases i with
  | iload i => obtain ⟨x, h1, rfl, rfl⟩ := xlI_inv ho; exact ⟨L2, by simp only [xloc, xlI, hL.2 _ _ h1], hL⟩
  | iload_n i => obtain ⟨x, h1, rfl, rfl⟩ := xlI_inv ho; exact ⟨L2, by simp only [xloc, xlI, hL.2 _ _ h1], hL⟩
  | lload i => obtain ⟨x, h1, rfl, rfl⟩ := xlJ_inv ho; exact ⟨L2, by simp only [xloc, xlJ, hL.2 _ _ h1], hL⟩
  | lload_n i => obtain ⟨x, h1, rfl, rfl⟩ := xlJ_inv ho; exact ⟨L2, by simp only [xloc, xlJ, hL.2 _ _ h1], hL⟩
  | aload i => obtain ⟨rfl, ⟨x, h1, rfl⟩ | ⟨h1, rfl⟩⟩ := xlA_inv ho <;> exact ⟨L2, by simp only [xloc, xlA, hL.2 _ _ h1], hL⟩
  | aload_n i => obtain ⟨rfl, ⟨x, h1, rfl⟩ | ⟨h1, rfl⟩⟩ := xlA_inv ho <;> exact ⟨L2, by simp only [xloc, xlA, hL.2 _ _ h1], hL⟩
  | istore i => obtain ⟨x, rfl, rfl, h1⟩ := xsI1_inv ho; exact ⟨_, by simp only [xloc, xsI1]; rw [if_pos (by rw [← hL.1]; exact h1)], hL.st1 _ _⟩
  | istore_n i => obtain ⟨x, rfl, rfl, h1⟩ := xsI1_inv ho; exact ⟨_, by simp only [xloc, xsI1]; rw [if_pos (by rw [← hL.1]; exact h1)], hL.st1 _ _⟩
  | lstore i => obtain ⟨x, rfl, rfl, h1⟩ := xsJ1_inv ho; exact ⟨_, by simp only [xloc, xsJ1]; rw [if_pos (by rw [← hL.1]; exact h1)], hL.st2 _ _⟩
  | lstore_n i => obtain ⟨x, rfl, rfl, h1⟩ := xsJ1_inv ho; exact ⟨_, by simp only [xloc, xsJ1]; rw [if_pos (by rw [← hL.1]; exact h1)], hL.st2 _ _⟩
  | astore i => obtain ⟨h1, ⟨x, rfl, rfl⟩ | ⟨rfl, rfl⟩⟩ := xsA1_inv ho <;> exact ⟨_, by simp only [xloc, xsA1]; rw [if_pos (by rw [← hL.1]; exact h1)], hL.st1 _ _⟩
  | astore_n i => obtain ⟨h1, ⟨x, rfl, rfl⟩ | ⟨rfl, rfl⟩⟩ := xsA1_inv ho <;> exact ⟨_, by simp only [xloc, xsA1]; rw [if_pos (by rw [← hL.1]; exact h1)], hL.st1 _ _⟩
  | iinc i n => obtain ⟨x, h1, h2, rfl, rfl⟩ := xinc_inv ho; exact ⟨_, by simp only [xloc, xinc, hL.2 _ _ h1]; rw [if_pos (by rw [← hL.1]; exact h2)], hL.st1 _ _⟩
  | _ => cases ho
/-- an instruction on the locals -/
theorem x_loc (hc : xcode k = cc) (hd : decode cc pc = .ok (i, len)) (hl : len = xlen i) (ho : xloc i L st = some (L1, st')) (hp : pc + len = pc') (K : XP S d k pc' L1 st' h Q) : XP S d k pc L st h Q := by
  obtain ⟨n1, n2, n3, n4⟩ := xloc_not (k := k) (len := len) (h := h) (pc := pc) ho
  refine XP.one hc hd n1 n2 (fun L' hL => ?_) K
  obtain ⟨L3, e, hL3⟩ := xloc_mono hL ho
  refine ⟨L3, ?_, hL3⟩
  subst hp
  simp only [x1, n3, n4, if_pos hl, e]
/-- an instruction on the memory -/
theorem x_mem (hc : xcode k = cc) (hd : decode cc pc = .ok (i, len)) (hl : len = xlen i) (ho : xmem S k i st h = some (st', h')) (hp : pc + len = pc') (K : XP S d k pc' L st' h' Q) : XP S d k pc L st h Q := by
  obtain ⟨n1, n2, n3, n4, n5⟩ := xmem_not (len := len) (pc := pc) ho
  refine XP.one hc hd n1 n2 (fun L' hL => ⟨L', ?_, hL⟩) K
  subst hp
  simp only [x1, n3, n4, n5, if_pos hl, ho]
/-- a jump, known where to -/
theorem x_jmp (hc : xcode k = cc) (hd : decode cc pc = .ok (i, len)) (ho : xjmp i len pc st = some (pc', st')) (K : XP S d k pc' L st' h Q) : XP S d k pc L st h Q := by
  obtain ⟨n1, n2⟩ := xjmp_not (k := k) (h := h) ho
  refine XP.one hc hd n1 n2 (fun L' hL => ⟨L', ?_, hL⟩) K
  simp only [x1, ho]
theorem x_goto {off : Int} (hc : xcode k = cc) (hd : decode cc pc = .ok (.goto off, 3)) (ht : xtg pc off = some pc') (K : XP S d k pc' L st h Q) : XP S d k pc L st h Q :=
  x_jmp hc hd (by simp only [xjmp, ht]; rfl) K
theorem x_if {cd : ClassFile.Cond} {off : Int} {x : Int32} (hc : xcode k = cc) (hd : decode cc pc = .ok (.ifCond cd off, 3)) (ht : xtg pc off = some pc') (kt : xcnd cd x 0 = true → XP S d k pc' L r h Q) (kf : xcnd cd x 0 = false → XP S d k (pc + 3) L r h Q) : XP S d k pc L (.int x :: r) h Q := by
  cases hq : xcnd cd x 0
  · exact x_jmp hc hd (by simp only [xjmp, xjif, xjc, ht, hq]; rfl) (kf hq)
  · exact x_jmp hc hd (by simp only [xjmp, xjif, xjc, ht, hq]; rfl) (kt hq)
theorem x_icmp {cd : ClassFile.Cond} {off : Int} {x z : Int32} (hc : xcode k = cc) (hd : decode cc pc = .ok (.if_icmp cd off, 3)) (ht : xtg pc off = some pc') (kt : xcnd cd x z = true → XP S d k pc' L r h Q) (kf : xcnd cd x z = false → XP S d k (pc + 3) L r h Q) : XP S d k pc L (.int z :: .int x :: r) h Q := by
  cases hq : xcnd cd x z
  · exact x_jmp hc hd (by simp only [xjmp, xjcmp, xjc, ht, hq]; rfl) (kf hq)
  · exact x_jmp hc hd (by simp only [xjmp, xjcmp, xjc, ht, hq]; rfl) (kt hq)
/-- the end -/
theorem x_ret (hc : xcode k = cc) (hd : decode cc pc = .ok (i, len)) (hr : xret k i len st = some v) (hq : Q v h) : XP S d k pc L st h Q := fun L' hL => by
  refine ⟨1, v, h, ?_, hq⟩
  subst hc
  simp only [xrun, hd, hr]
theorem xcall_notret (ho : xcall k i len st h = some (y, as, r)) : xret k i len st = none := by
  cases i <;> first | (unfold xret; split <;> rfl) | (exfalso; revert ho; unfold xcall; split <;> intro q <;> cases q)
/-- a call -/
theorem x_call (hc : xcode k = cc) (hd : decode cc pc = .ok (i, len)) (ho : xcall k i len st h = some (y, as, r)) (hcal : XP S d y 0 (xent as (xml y)) [] h Q') (kk : ∀ v h', Q' v h' → XP S (d + 1) k (pc + 3) L (v.toList ++ r) h' Q) : XP S (d + 1) k pc L st h Q := fun L' hL => by
  obtain ⟨n1, v1, h1, e1, q1⟩ := hcal _ (xle.rf _)
  obtain ⟨n2, v2, h2, e2, q2⟩ := kk v1 h1 q1 L' hL
  refine ⟨max n1 n2 + 1, v2, h2, ?_, q2⟩
  subst hc
  have e1' := xrun_mono _ _ _ _ _ _ _ _ e1 (max n1 n2) d (Nat.le_max_left _ _) (Nat.le_refl _)
  have e2' := xrun_mono _ _ _ _ _ _ _ _ e2 (max n1 n2) (d + 1) (Nat.le_max_right _ _) (Nat.le_refl _)
  simp only [xrun, hd, xcall_notret ho, ho, if_neg (Nat.succ_ne_zero d), Nat.add_sub_cancel, e1']
  exact e2'
end XPR
end
section
/-! Written by a program (wip/gen/mk31.py): the methods decoded, checked by the kernel. -/
def xat (T : List (Nat × Instr × Nat)) (pc : Nat) : Option (Instr × Nat) := (T.find? (fun q => q.1 == pc)).map (fun q => q.2)
def XDec (k : Nat) (T : List (Nat × Instr × Nat)) : Prop := ∀ q ∈ T, decode (xcode k) q.1 = .ok q.2
theorem XDec.at {k pc : Nat} {T : List (Nat × Instr × Nat)} {q : Instr × Nat} (h : XDec k T) (e : xat T pc = some q) : decode (xcode k) pc = .ok q := by
  unfold xat at e
  cases hf : T.find? (fun q => q.1 == pc) with
  | none => rw [hf] at e; cases e
  | some r =>
    rw [hf] at e
    cases e
    have h1 := List.find?_some hf
    simp only [beq_iff_eq] at h1
    subst h1
    exact h r (List.mem_of_find?_eq_some hf)
theorem XDec.of {k : Nat} {T : List (Nat × Instr × Nat)} (h : T.all (fun q => decide (decode (xcode k) q.1 = .ok q.2)) = true) : XDec k T := fun q hq => of_decide_eq_true (List.all_eq_true.mp h q hq)
/-- BranchGoals.<init>(I)V -/
def xI_0 : List (Nat × Instr × Nat) := [(0, .aload_n 0, 1), (1, .invokespecial 3, 3), (4, .aload_n 0, 1), (5, .new 9, 3), (8, .dup, 1), (9, .invokespecial 11, 3), (12, .putfield 12, 3), (15, .aload_n 0, 1), (16, .new 16, 3), (19, .dup, 1), (20, .iload_n 1, 1), (21, .invokespecial 18, 3), (24, .putfield 21, 3), (27, .aload_n 0, 1), (28, .new 25, 3), (31, .dup, 1), (32, .invokespecial 27, 3), (35, .putfield 28, 3), (38, .aload_n 0, 1), (39, .new 32, 3), (42, .dup, 1), (43, .invokespecial 34, 3), (46, .putfield 35, 3), (49, .aload_n 0, 1), (50, .new 39, 3), (53, .dup, 1), (54, .invokespecial 41, 3), (57, .putfield 42, 3), (60, .aload_n 0, 1), (61, .new 46, 3), (64, .dup, 1), (65, .invokespecial 48, 3), (68, .putfield 49, 3), (71, .aload_n 0, 1), (72, .new 53, 3), (75, .dup, 1), (76, .invokespecial 55, 3), (79, .putfield 56, 3), (82, .aload_n 0, 1), (83, .new 53, 3), (86, .dup, 1), (87, .invokespecial 55, 3), (90, .putfield 60, 3), (93, .aload_n 0, 1), (94, .iconst 0, 1), (95, .putfield 63, 3), (98, .return_, 1)]
set_option maxRecDepth 100000 in
theorem xD_0 : XDec 0 xI_0 := XDec.of (by decide +kernel)
/-- BranchGoals$Program.<init>()V -/
def xI_1 : List (Nat × Instr × Nat) := [(0, .aload_n 0, 1), (1, .invokespecial 3, 3), (4, .aload_n 0, 1), (5, .iconst 2, 1), (6, .anewarray 9, 3), (9, .dup, 1), (10, .iconst 0, 1), (11, .new 9, 3), (14, .dup, 1), (15, .invokespecial 11, 3), (18, .aastore, 1), (19, .dup, 1), (20, .iconst 1, 1), (21, .new 9, 3), (24, .dup, 1), (25, .invokespecial 11, 3), (28, .aastore, 1), (29, .putfield 12, 3), (32, .aload_n 0, 1), (33, .bipush 12, 2), (35, .newarray .int, 2), (37, .putfield 18, 3), (40, .aload_n 0, 1), (41, .bipush 12, 2), (43, .newarray .boolean, 2), (45, .putfield 22, 3), (48, .aload_n 0, 1), (49, .iconst 0, 1), (50, .putfield 26, 3), (53, .return_, 1)]
set_option maxRecDepth 100000 in
theorem xD_1 : XDec 1 xI_1 := XDec.of (by decide +kernel)
/-- BranchGoals$Method.<init>()V -/
def xI_2 : List (Nat × Instr × Nat) := [(0, .aload_n 0, 1), (1, .invokespecial 3, 3), (4, .aload_n 0, 1), (5, .bipush 10, 2), (7, .newarray .int, 2), (9, .putfield 9, 3), (12, .aload_n 0, 1), (13, .bipush 10, 2), (15, .newarray .int, 2), (17, .putfield 15, 3), (20, .aload_n 0, 1), (21, .bipush 10, 2), (23, .newarray .int, 2), (25, .putfield 18, 3), (28, .aload_n 0, 1), (29, .bipush 10, 2), (31, .newarray .int, 2), (33, .putfield 21, 3), (36, .aload_n 0, 1), (37, .bipush 10, 2), (39, .newarray .int, 2), (41, .putfield 24, 3), (44, .aload_n 0, 1), (45, .iconst 0, 1), (46, .putfield 27, 3), (49, .aload_n 0, 1), (50, .iconst 0, 1), (51, .putfield 31, 3), (54, .return_, 1)]
set_option maxRecDepth 100000 in
theorem xD_2 : XDec 2 xI_2 := XDec.of (by decide +kernel)
/-- BranchGoals$Draws.<init>(I)V -/
def xI_3 : List (Nat × Instr × Nat) := [(0, .aload_n 0, 1), (1, .invokespecial 3, 3), (4, .aload_n 0, 1), (5, .bipush 20, 2), (7, .newarray .int, 2), (9, .putfield 9, 3), (12, .aload_n 0, 1), (13, .iconst 0, 1), (14, .putfield 15, 3), (17, .aload_n 0, 1), (18, .iload_n 1, 1), (19, .i2l, 1), (20, .ldc2_w 19, 3), (23, .lxor, 1), (24, .ldc2_w 21, 3), (27, .land, 1), (28, .putfield 23, 3), (31, .return_, 1)]
set_option maxRecDepth 100000 in
theorem xD_3 : XDec 3 xI_3 := XDec.of (by decide +kernel)
/-- BranchGoals$Runner.<init>()V -/
def xI_4 : List (Nat × Instr × Nat) := [(0, .aload_n 0, 1), (1, .invokespecial 3, 3), (4, .aload_n 0, 1), (5, .bipush 8, 2), (7, .newarray .int, 2), (9, .putfield 9, 3), (12, .aload_n 0, 1), (13, .bipush 24, 2), (15, .newarray .long, 2), (17, .putfield 15, 3), (20, .aload_n 0, 1), (21, .iconst 0, 1), (22, .putfield 19, 3), (25, .return_, 1)]
set_option maxRecDepth 100000 in
theorem xD_4 : XDec 4 xI_4 := XDec.of (by decide +kernel)
/-- BranchGoals$Archive.<init>()V -/
def xI_5 : List (Nat × Instr × Nat) := [(0, .aload_n 0, 1), (1, .invokespecial 3, 3), (4, .aload_n 0, 1), (5, .bipush 24, 2), (7, .invokestatic 9, 3), (10, .putfield 13, 3), (13, .aload_n 0, 1), (14, .iconst 0, 1), (15, .putfield 19, 3), (18, .return_, 1)]
set_option maxRecDepth 100000 in
theorem xD_5 : XDec 5 xI_5 := XDec.of (by decide +kernel)
/-- BranchGoals.makeCases(I)[LBranchGoals$Case; -/
def xI_6 : List (Nat × Instr × Nat) := [(0, .iload_n 0, 1), (1, .anewarray 53, 3), (4, .astore_n 1, 1), (5, .iconst 0, 1), (6, .istore_n 2, 1), (7, .iload_n 2, 1), (8, .iload_n 0, 1), (9, .if_icmp .ge 19, 3), (12, .aload_n 1, 1), (13, .iload_n 2, 1), (14, .new 53, 3), (17, .dup, 1), (18, .invokespecial 55, 3), (21, .aastore, 1), (22, .iinc 2 1, 3), (25, .goto (-18), 3), (28, .aload_n 1, 1), (29, .areturn, 1)]
set_option maxRecDepth 100000 in
theorem xD_6 : XDec 6 xI_6 := XDec.of (by decide +kernel)
/-- BranchGoals$Case.<init>()V -/
def xI_7 : List (Nat × Instr × Nat) := [(0, .aload_n 0, 1), (1, .invokespecial 3, 3), (4, .aload_n 0, 1), (5, .bipush 24, 2), (7, .newarray .int, 2), (9, .putfield 9, 3), (12, .aload_n 0, 1), (13, .bipush 6, 2), (15, .newarray .long, 2), (17, .putfield 15, 3), (20, .aload_n 0, 1), (21, .bipush 24, 2), (23, .newarray .long, 2), (25, .putfield 19, 3), (28, .aload_n 0, 1), (29, .iconst 0, 1), (30, .putfield 22, 3), (33, .aload_n 0, 1), (34, .iconst 0, 1), (35, .putfield 26, 3), (38, .aload_n 0, 1), (39, .iconst 0, 1), (40, .putfield 29, 3), (43, .aload_n 0, 1), (44, .iconst 0, 1), (45, .putfield 32, 3), (48, .return_, 1)]
set_option maxRecDepth 100000 in
theorem xD_7 : XDec 7 xI_7 := XDec.of (by decide +kernel)
/-- BranchGoals$Population.<init>()V -/
def xI_8 : List (Nat × Instr × Nat) := [(0, .aload_n 0, 1), (1, .invokespecial 3, 3), (4, .aload_n 0, 1), (5, .bipush 7, 2), (7, .invokestatic 9, 3), (10, .putfield 13, 3), (13, .aload_n 0, 1), (14, .iconst 0, 1), (15, .putfield 19, 3), (18, .return_, 1)]
set_option maxRecDepth 100000 in
theorem xD_8 : XDec 8 xI_8 := XDec.of (by decide +kernel)
/-- BranchGoals$Suite.<init>()V -/
def xI_9 : List (Nat × Instr × Nat) := [(0, .aload_n 0, 1), (1, .invokespecial 3, 3), (4, .aload_n 0, 1), (5, .bipush 24, 2), (7, .invokestatic 9, 3), (10, .putfield 13, 3), (13, .aload_n 0, 1), (14, .new 19, 3), (17, .dup, 1), (18, .invokespecial 21, 3), (21, .putfield 22, 3), (24, .aload_n 0, 1), (25, .iconst 0, 1), (26, .putfield 26, 3), (29, .return_, 1)]
set_option maxRecDepth 100000 in
theorem xD_9 : XDec 9 xI_9 := XDec.of (by decide +kernel)
/-- BranchGoals.line(IIIII)Z -/
def xI_10 : List (Nat × Instr × Nat) := [(0, .aload_n 0, 1), (1, .getfield 63, 3), (4, .ifCond .ne 10, 3), (7, .iload_n 1, 1), (8, .invokestatic 67, 3), (11, .ifCond .ne 5, 3), (14, .iconst 0, 1), (15, .ireturn, 1), (16, .aload_n 0, 1), (17, .getfield 12, 3), (20, .getfield 71, 3), (23, .iload_n 1, 1), (24, .aaload, 1), (25, .iload_n 2, 1), (26, .iload_n 3, 1), (27, .iload 4, 2), (29, .iload 5, 2), (31, .invokevirtual 75, 3), (34, .ireturn, 1)]
set_option maxRecDepth 100000 in
theorem xD_10 : XDec 10 xI_10 := XDec.of (by decide +kernel)
/-- BranchGoals.isMethod(I)Z -/
def xI_11 : List (Nat × Instr × Nat) := [(0, .iload_n 0, 1), (1, .ifCond .lt 12, 3), (4, .iload_n 0, 1), (5, .iconst 2, 1), (6, .if_icmp .ge 7, 3), (9, .iconst 1, 1), (10, .goto 4, 3), (13, .iconst 0, 1), (14, .ireturn, 1)]
set_option maxRecDepth 100000 in
theorem xD_11 : XDec 11 xI_11 := XDec.of (by decide +kernel)
/-- BranchGoals$Method.append(IIII)Z -/
def xI_12 : List (Nat × Instr × Nat) := [(0, .aload_n 0, 1), (1, .getfield 27, 3), (4, .bipush 10, 2), (6, .if_icmp .ge 14, 3), (9, .iload_n 1, 1), (10, .iload_n 2, 1), (11, .iload_n 3, 1), (12, .iload 4, 2), (14, .invokestatic 35, 3), (17, .ifCond .ne 5, 3), (20, .iconst 0, 1), (21, .ireturn, 1), (22, .aload_n 0, 1), (23, .getfield 9, 3), (26, .aload_n 0, 1), (27, .getfield 27, 3), (30, .iload_n 1, 1), (31, .iastore, 1), (32, .aload_n 0, 1), (33, .getfield 15, 3), (36, .aload_n 0, 1), (37, .getfield 27, 3), (40, .iload_n 2, 1), (41, .iastore, 1), (42, .aload_n 0, 1), (43, .getfield 18, 3), (46, .aload_n 0, 1), (47, .getfield 27, 3), (50, .iload_n 3, 1), (51, .iastore, 1), (52, .aload_n 0, 1), (53, .getfield 21, 3), (56, .aload_n 0, 1), (57, .getfield 27, 3), (60, .iload 4, 2), (62, .iastore, 1), (63, .aload_n 0, 1), (64, .getfield 24, 3), (67, .aload_n 0, 1), (68, .getfield 27, 3), (71, .iconst (-1), 1), (72, .iastore, 1), (73, .aload_n 0, 1), (74, .dup, 1), (75, .getfield 27, 3), (78, .iconst 1, 1), (79, .iadd, 1), (80, .putfield 27, 3), (83, .iconst 1, 1), (84, .ireturn, 1)]
set_option maxRecDepth 100000 in
theorem xD_12 : XDec 12 xI_12 := XDec.of (by decide +kernel)
/-- BranchGoals$Method.isAllowed(IIII)Z -/
def xI_13 : List (Nat × Instr × Nat) := [(0, .iload_n 0, 1), (1, .tableswitch 121 0 9 #[55, 60, 60, 60, 60, 87, 87, 114, 55, 119], 55), (56, .iload_n 1, 1), (57, .invokestatic 39, 3), (60, .ireturn, 1), (61, .iload_n 1, 1), (62, .invokestatic 39, 3), (65, .ifCond .eq 21, 3), (68, .iload_n 2, 1), (69, .invokestatic 39, 3), (72, .ifCond .eq 14, 3), (75, .iload_n 3, 1), (76, .invokestatic 39, 3), (79, .ifCond .eq 7, 3), (82, .iconst 1, 1), (83, .goto 4, 3), (86, .iconst 0, 1), (87, .ireturn, 1), (88, .iload_n 1, 1), (89, .invokestatic 39, 3), (92, .ifCond .eq 21, 3), (95, .iload_n 2, 1), (96, .invokestatic 39, 3), (99, .ifCond .eq 14, 3), (102, .iload_n 3, 1), (103, .invokestatic 43, 3), (106, .ifCond .eq 7, 3), (109, .iconst 1, 1), (110, .goto 4, 3), (113, .iconst 0, 1), (114, .ireturn, 1), (115, .iload_n 3, 1), (116, .invokestatic 43, 3), (119, .ireturn, 1), (120, .iconst 1, 1), (121, .ireturn, 1), (122, .iconst 0, 1), (123, .ireturn, 1)]
set_option maxRecDepth 100000 in
theorem xD_13 : XDec 13 xI_13 := XDec.of (by decide +kernel)
/-- BranchGoals$Method.isVariable(I)Z -/
def xI_14 : List (Nat × Instr × Nat) := [(0, .iload_n 0, 1), (1, .ifCond .lt 13, 3), (4, .iload_n 0, 1), (5, .bipush 8, 2), (7, .if_icmp .ge 7, 3), (10, .iconst 1, 1), (11, .goto 4, 3), (14, .iconst 0, 1), (15, .ireturn, 1)]
set_option maxRecDepth 100000 in
theorem xD_14 : XDec 14 xI_14 := XDec.of (by decide +kernel)
/-- BranchGoals$Method.isTarget(I)Z -/
def xI_15 : List (Nat × Instr × Nat) := [(0, .iload_n 0, 1), (1, .ifCond .lt 13, 3), (4, .iload_n 0, 1), (5, .bipush 10, 2), (7, .if_icmp .gt 7, 3), (10, .iconst 1, 1), (11, .goto 4, 3), (14, .iconst 0, 1), (15, .ireturn, 1)]
set_option maxRecDepth 100000 in
theorem xD_15 : XDec 15 xI_15 := XDec.of (by decide +kernel)
/-- BranchGoals.start()I -/
def xI_16 : List (Nat × Instr × Nat) := [(0, .aload_n 0, 1), (1, .getfield 63, 3), (4, .ifCond .eq 5, 3), (7, .iconst (-1), 1), (8, .ireturn, 1), (9, .aload_n 0, 1), (10, .iconst 1, 1), (11, .putfield 63, 3), (14, .aload_n 0, 1), (15, .getfield 12, 3), (18, .invokevirtual 81, 3), (21, .aload_n 0, 1), (22, .getfield 21, 3), (25, .aload_n 0, 1), (26, .getfield 12, 3), (29, .invokevirtual 84, 3), (32, .iconst 0, 1), (33, .istore_n 1, 1), (34, .iload_n 1, 1), (35, .iconst 2, 1), (36, .if_icmp .ge 31, 3), (39, .aload_n 0, 1), (40, .getfield 42, 3), (43, .iload_n 1, 1), (44, .invokevirtual 88, 3), (47, .astore_n 2, 1), (48, .aload_n 0, 1), (49, .getfield 21, 3), (52, .aload_n 2, 1), (53, .invokevirtual 92, 3), (56, .aload_n 0, 1), (57, .aload_n 2, 1), (58, .invokevirtual 96, 3), (61, .iinc 1 1, 3), (64, .goto (-30), 3), (67, .aload_n 0, 1), (68, .getfield 42, 3), (71, .aload_n 0, 1), (72, .getfield 12, 3), (75, .aload_n 0, 1), (76, .getfield 35, 3), (79, .getfield 99, 3), (82, .invokevirtual 103, 3), (85, .invokevirtual 107, 3), (88, .aload_n 0, 1), (89, .getfield 12, 3), (92, .invokevirtual 110, 3), (95, .ireturn, 1)]
set_option maxRecDepth 100000 in
theorem xD_16 : XDec 16 xI_16 := XDec.of (by decide +kernel)
/-- BranchGoals$Program.numberBranches()V -/
def xI_17 : List (Nat × Instr × Nat) := [(0, .iconst 0, 1), (1, .istore_n 1, 1), (2, .iload_n 1, 1), (3, .iconst 2, 1), (4, .if_icmp .ge 48, 3), (7, .aload_n 0, 1), (8, .aload_n 0, 1), (9, .getfield 12, 3), (12, .iload_n 1, 1), (13, .aaload, 1), (14, .aload_n 0, 1), (15, .getfield 26, 3), (18, .invokevirtual 30, 3), (21, .putfield 26, 3), (24, .aload_n 0, 1), (25, .getfield 12, 3), (28, .iload_n 1, 1), (29, .aaload, 1), (30, .getfield 34, 3), (33, .ifCond .eq 13, 3), (36, .aload_n 0, 1), (37, .aload_n 0, 1), (38, .getfield 12, 3), (41, .iload_n 1, 1), (42, .aaload, 1), (43, .invokevirtual 38, 3), (46, .iinc 1 1, 3), (49, .goto (-47), 3), (52, .return_, 1)]
set_option maxRecDepth 100000 in
theorem xD_17 : XDec 17 xI_17 := XDec.of (by decide +kernel)
/-- BranchGoals$Method.numberBranches(I)I -/
def xI_18 : List (Nat × Instr × Nat) := [(0, .iconst 0, 1), (1, .istore_n 2, 1), (2, .iconst 0, 1), (3, .istore_n 3, 1), (4, .iload_n 3, 1), (5, .aload_n 0, 1), (6, .getfield 27, 3), (9, .if_icmp .ge 20, 3), (12, .aload_n 0, 1), (13, .iload_n 3, 1), (14, .invokevirtual 46, 3), (17, .ifCond .eq 6, 3), (20, .iinc 2 1, 3), (23, .iinc 3 1, 3), (26, .goto (-22), 3), (29, .aload_n 0, 1), (30, .aload_n 0, 1), (31, .getfield 27, 3), (34, .iconst 2, 1), (35, .iload_n 2, 1), (36, .imul, 1), (37, .iadd, 1), (38, .bipush 20, 2), (40, .if_icmp .gt 7, 3), (43, .iconst 1, 1), (44, .goto 4, 3), (47, .iconst 0, 1), (48, .putfield 31, 3), (51, .aload_n 0, 1), (52, .getfield 31, 3), (55, .ifCond .ne 5, 3), (58, .iload_n 1, 1), (59, .ireturn, 1), (60, .iload_n 1, 1), (61, .istore_n 3, 1), (62, .iconst 0, 1), (63, .istore 4, 2), (65, .iload 4, 2), (67, .aload_n 0, 1), (68, .getfield 27, 3), (71, .if_icmp .ge 29, 3), (74, .aload_n 0, 1), (75, .iload 4, 2), (77, .invokevirtual 46, 3), (80, .ifCond .eq 14, 3), (83, .aload_n 0, 1), (84, .getfield 24, 3), (87, .iload 4, 2), (89, .iload_n 3, 1), (90, .iinc 3 1, 3), (93, .iastore, 1), (94, .iinc 4 1, 3), (97, .goto (-32), 3), (100, .iload_n 3, 1), (101, .ireturn, 1)]
set_option maxRecDepth 100000 in
theorem xD_18 : XDec 18 xI_18 := XDec.of (by decide +kernel)
/-- BranchGoals$Method.isBranch(I)Z -/
def xI_19 : List (Nat × Instr × Nat) := [(0, .aload_n 0, 1), (1, .getfield 9, 3), (4, .iload_n 1, 1), (5, .iaload, 1), (6, .iconst 5, 1), (7, .if_icmp .eq 14, 3), (10, .aload_n 0, 1), (11, .getfield 9, 3), (14, .iload_n 1, 1), (15, .iaload, 1), (16, .bipush 6, 2), (18, .if_icmp .ne 7, 3), (21, .iconst 1, 1), (22, .goto 4, 3), (25, .iconst 0, 1), (26, .ireturn, 1)]
set_option maxRecDepth 100000 in
theorem xD_19 : XDec 19 xI_19 := XDec.of (by decide +kernel)
/-- BranchGoals$Program.linkBranches(LBranchGoals$Method;)V -/
def xI_20 : List (Nat × Instr × Nat) := [(0, .iconst 0, 1), (1, .istore_n 2, 1), (2, .iload_n 2, 1), (3, .aload_n 1, 1), (4, .getfield 42, 3), (7, .if_icmp .ge 71, 3), (10, .aload_n 1, 1), (11, .iload_n 2, 1), (12, .invokevirtual 45, 3), (15, .ifCond .eq 57, 3), (18, .aload_n 1, 1), (19, .iload_n 2, 1), (20, .invokevirtual 49, 3), (23, .istore_n 3, 1), (24, .iload_n 2, 1), (25, .iload_n 3, 1), (26, .aload_n 1, 1), (27, .invokestatic 52, 3), (30, .istore 4, 2), (32, .aload_n 0, 1), (33, .getfield 18, 3), (36, .aload_n 1, 1), (37, .getfield 56, 3), (40, .iload_n 2, 1), (41, .iaload, 1), (42, .iload 4, 2), (44, .iastore, 1), (45, .aload_n 0, 1), (46, .getfield 22, 3), (49, .aload_n 1, 1), (50, .getfield 56, 3), (53, .iload_n 2, 1), (54, .iaload, 1), (55, .iload 4, 2), (57, .ifCond .eq 9, 3), (60, .iload_n 3, 1), (61, .iconst 1, 1), (62, .iand, 1), (63, .ifCond .eq 7, 3), (66, .iconst 1, 1), (67, .goto 4, 3), (70, .iconst 0, 1), (71, .bastore, 1), (72, .iinc 2 1, 3), (75, .goto (-73), 3), (78, .return_, 1)]
set_option maxRecDepth 100000 in
theorem xD_20 : XDec 20 xI_20 := XDec.of (by decide +kernel)
/-- BranchGoals$Method.postDominatedBy(I)I -/
def xI_21 : List (Nat × Instr × Nat) := [(0, .aload_n 0, 1), (1, .aload_n 0, 1), (2, .getfield 27, 3), (5, .invokevirtual 55, 3), (8, .aload_n 0, 1), (9, .iload_n 1, 1), (10, .invokevirtual 55, 3), (13, .iconst (-1), 1), (14, .ixor, 1), (15, .iand, 1), (16, .ireturn, 1)]
set_option maxRecDepth 100000 in
theorem xD_21 : XDec 21 xI_21 := XDec.of (by decide +kernel)
/-- BranchGoals$Method.placesReachingEnd(I)I -/
def xI_22 : List (Nat × Instr × Nat) := [(0, .iconst 1, 1), (1, .aload_n 0, 1), (2, .getfield 27, 3), (5, .ishl, 1), (6, .istore_n 2, 1), (7, .iconst 0, 1), (8, .istore_n 3, 1), (9, .iload_n 3, 1), (10, .aload_n 0, 1), (11, .getfield 27, 3), (14, .if_icmp .ge 69, 3), (17, .aload_n 0, 1), (18, .getfield 27, 3), (21, .iconst 1, 1), (22, .isub, 1), (23, .istore 4, 2), (25, .iload 4, 2), (27, .ifCond .lt 50, 3), (30, .iconst 1, 1), (31, .aload_n 0, 1), (32, .iload 4, 2), (34, .iconst 0, 1), (35, .invokevirtual 59, 3), (38, .ishl, 1), (39, .iconst 1, 1), (40, .aload_n 0, 1), (41, .iload 4, 2), (43, .iconst 1, 1), (44, .invokevirtual 59, 3), (47, .ishl, 1), (48, .ior, 1), (49, .istore 5, 2), (51, .iload 4, 2), (53, .iload_n 1, 1), (54, .if_icmp .eq 17, 3), (57, .iload_n 2, 1), (58, .iload 5, 2), (60, .iand, 1), (61, .ifCond .eq 10, 3), (64, .iload_n 2, 1), (65, .iconst 1, 1), (66, .iload 4, 2), (68, .ishl, 1), (69, .ior, 1), (70, .istore_n 2, 1), (71, .iinc 4 (-1), 3), (74, .goto (-49), 3), (77, .iinc 3 1, 3), (80, .goto (-71), 3), (83, .iload_n 2, 1), (84, .ireturn, 1)]
set_option maxRecDepth 100000 in
theorem xD_22 : XDec 22 xI_22 := XDec.of (by decide +kernel)
/-- BranchGoals$Method.placeAfter(II)I -/
def xI_23 : List (Nat × Instr × Nat) := [(0, .aload_n 0, 1), (1, .getfield 9, 3), (4, .iload_n 1, 1), (5, .iaload, 1), (6, .tableswitch 78 5 9 #[34, 34, 59, 73, 73], 34), (40, .iload_n 2, 1), (41, .iconst 1, 1), (42, .if_icmp .ne 19, 3), (45, .aload_n 0, 1), (46, .getfield 21, 3), (49, .iload_n 1, 1), (50, .iaload, 1), (51, .aload_n 0, 1), (52, .getfield 27, 3), (55, .invokestatic 49, 3), (58, .goto 6, 3), (61, .iload_n 1, 1), (62, .iconst 1, 1), (63, .iadd, 1), (64, .ireturn, 1), (65, .aload_n 0, 1), (66, .getfield 21, 3), (69, .iload_n 1, 1), (70, .iaload, 1), (71, .aload_n 0, 1), (72, .getfield 27, 3), (75, .invokestatic 49, 3), (78, .ireturn, 1), (79, .aload_n 0, 1), (80, .getfield 27, 3), (83, .ireturn, 1), (84, .iload_n 1, 1), (85, .iconst 1, 1), (86, .iadd, 1), (87, .ireturn, 1)]
set_option maxRecDepth 100000 in
theorem xD_23 : XDec 23 xI_23 := XDec.of (by decide +kernel)
/-- java/lang/Math.min(II)I -/
def xI_24 : List (Nat × Instr × Nat) := [(0, .iload_n 0, 1), (1, .iload_n 1, 1), (2, .if_icmp .gt 7, 3), (5, .iload_n 0, 1), (6, .goto 4, 3), (9, .iload_n 1, 1), (10, .ireturn, 1)]
set_option maxRecDepth 100000 in
theorem xD_24 : XDec 24 xI_24 := XDec.of (by decide +kernel)
/-- BranchGoals$Program.goalsNeededAt(IILBranchGoals$Method;)I -/
def xI_25 : List (Nat × Instr × Nat) := [(0, .iconst 0, 1), (1, .istore_n 3, 1), (2, .iconst 0, 1), (3, .istore 4, 2), (5, .iload 4, 2), (7, .aload_n 2, 1), (8, .getfield 42, 3), (11, .if_icmp .ge 80, 3), (14, .aload_n 2, 1), (15, .iload 4, 2), (17, .invokevirtual 45, 3), (20, .ifCond .eq 65, 3), (23, .iload 4, 2), (25, .iload_n 0, 1), (26, .if_icmp .eq 12, 3), (29, .iload_n 1, 1), (30, .iload 4, 2), (32, .ishr, 1), (33, .iconst 1, 1), (34, .iand, 1), (35, .ifCond .ne 50, 3), (38, .iconst 2, 1), (39, .aload_n 2, 1), (40, .getfield 56, 3), (43, .iload 4, 2), (45, .iaload, 1), (46, .imul, 1), (47, .istore 5, 2), (49, .iload_n 3, 1), (50, .iload_n 1, 1), (51, .aload_n 2, 1), (52, .iload 4, 2), (54, .iconst 0, 1), (55, .invokevirtual 59, 3), (58, .ishr, 1), (59, .iconst 1, 1), (60, .iand, 1), (61, .iload 5, 2), (63, .ishl, 1), (64, .ior, 1), (65, .istore_n 3, 1), (66, .iload_n 3, 1), (67, .iload_n 1, 1), (68, .aload_n 2, 1), (69, .iload 4, 2), (71, .iconst 1, 1), (72, .invokevirtual 59, 3), (75, .ishr, 1), (76, .iconst 1, 1), (77, .iand, 1), (78, .iload 5, 2), (80, .iconst 1, 1), (81, .iadd, 1), (82, .ishl, 1), (83, .ior, 1), (84, .istore_n 3, 1), (85, .iinc 4 1, 3), (88, .goto (-83), 3), (91, .iload_n 3, 1), (92, .ireturn, 1)]
set_option maxRecDepth 100000 in
theorem xD_25 : XDec 25 xI_25 := XDec.of (by decide +kernel)
/-- BranchGoals$Draws.gatherConstants(LBranchGoals$Program;)V -/
def xI_26 : List (Nat × Instr × Nat) := [(0, .iconst 0, 1), (1, .istore_n 2, 1), (2, .iload_n 2, 1), (3, .iconst 2, 1), (4, .if_icmp .ge 67, 3), (7, .aload_n 1, 1), (8, .getfield 27, 3), (11, .iload_n 2, 1), (12, .aaload, 1), (13, .astore_n 3, 1), (14, .iconst 0, 1), (15, .istore 4, 2), (17, .iload 4, 2), (19, .aload_n 3, 1), (20, .getfield 33, 3), (23, .if_icmp .ge 42, 3), (26, .aload_n 3, 1), (27, .getfield 38, 3), (30, .iload 4, 2), (32, .iaload, 1), (33, .ifCond .ne 26, 3), (36, .aload_n 0, 1), (37, .getfield 9, 3), (40, .aload_n 0, 1), (41, .dup, 1), (42, .getfield 15, 3), (45, .dup_x1, 1), (46, .iconst 1, 1), (47, .iadd, 1), (48, .putfield 15, 3), (51, .aload_n 3, 1), (52, .getfield 41, 3), (55, .iload 4, 2), (57, .iaload, 1), (58, .iastore, 1), (59, .iinc 4 1, 3), (62, .goto (-45), 3), (65, .iinc 2 1, 3), (68, .goto (-66), 3), (71, .return_, 1)]
set_option maxRecDepth 100000 in
theorem xD_26 : XDec 26 xI_26 := XDec.of (by decide +kernel)
/-- BranchGoals$Population.child(I)LBranchGoals$Case; -/
def xI_27 : List (Nat × Instr × Nat) := [(0, .aload_n 0, 1), (1, .getfield 13, 3), (4, .aload_n 0, 1), (5, .getfield 19, 3), (8, .iload_n 1, 1), (9, .iadd, 1), (10, .aaload, 1), (11, .areturn, 1)]
set_option maxRecDepth 100000 in
theorem xD_27 : XDec 27 xI_27 := XDec.of (by decide +kernel)
/-- BranchGoals$Draws.drawCase(LBranchGoals$Case;)V -/
def xI_28 : List (Nat × Instr × Nat) := [(0, .aload_n 1, 1), (1, .iconst 1, 1), (2, .aload_n 0, 1), (3, .iconst 2, 1), (4, .invokevirtual 46, 3), (7, .iadd, 1), (8, .putfield 60, 3), (11, .iconst 0, 1), (12, .istore_n 2, 1), (13, .iload_n 2, 1), (14, .aload_n 1, 1), (15, .getfield 60, 3), (18, .if_icmp .ge 15, 3), (21, .aload_n 0, 1), (22, .aload_n 1, 1), (23, .iload_n 2, 1), (24, .invokevirtual 63, 3), (27, .iinc 2 1, 3), (30, .goto (-17), 3), (33, .return_, 1)]
set_option maxRecDepth 100000 in
theorem xD_28 : XDec 28 xI_28 := XDec.of (by decide +kernel)
/-- BranchGoals$Draws.draw(I)I -/
def xI_29 : List (Nat × Instr × Nat) := [(0, .aload_n 0, 1), (1, .aload_n 0, 1), (2, .getfield 23, 3), (5, .ldc2_w 19, 3), (8, .lmul, 1), (9, .ldc2_w 44, 3), (12, .ladd, 1), (13, .ldc2_w 21, 3), (16, .land, 1), (17, .putfield 23, 3), (20, .iload_n 1, 1), (21, .iconst 1, 1), (22, .if_icmp .ge 7, 3), (25, .iconst 0, 1), (26, .goto 14, 3), (29, .aload_n 0, 1), (30, .getfield 23, 3), (33, .bipush 17, 2), (35, .lushr, 1), (36, .iload_n 1, 1), (37, .i2l, 1), (38, .lrem, 1), (39, .l2i, 1), (40, .ireturn, 1)]
set_option maxRecDepth 100000 in
theorem xD_29 : XDec 29 xI_29 := XDec.of (by decide +kernel)
/-- BranchGoals$Draws.drawStep(LBranchGoals$Case;I)V -/
def xI_30 : List (Nat × Instr × Nat) := [(0, .aload_n 0, 1), (1, .iconst 5, 1), (2, .invokevirtual 46, 3), (5, .istore_n 3, 1), (6, .iload_n 3, 1), (7, .iconst 4, 1), (8, .if_icmp .ne 26, 3), (11, .iconst 4, 1), (12, .aload_n 0, 1), (13, .iconst 4, 1), (14, .invokevirtual 46, 3), (17, .iadd, 1), (18, .istore 4, 2), (20, .aload_n 1, 1), (21, .iload_n 2, 1), (22, .iload 4, 2), (24, .aload_n 0, 1), (25, .invokevirtual 50, 3), (28, .iconst 0, 1), (29, .iconst (-1), 1), (30, .invokevirtual 54, 3), (33, .return_, 1), (34, .aload_n 0, 1), (35, .invokevirtual 50, 3), (38, .istore 4, 2), (40, .aload_n 0, 1), (41, .iload_n 2, 1), (42, .iconst 2, 1), (43, .iadd, 1), (44, .invokevirtual 46, 3), (47, .istore 5, 2), (49, .iload 5, 2), (51, .iload_n 2, 1), (52, .if_icmp .ge 19, 3), (55, .aload_n 1, 1), (56, .iload_n 2, 1), (57, .iload_n 3, 1), (58, .iconst 2, 1), (59, .idiv, 1), (60, .iload 4, 2), (62, .iconst 0, 1), (63, .iload 5, 2), (65, .invokevirtual 54, 3), (68, .goto 18, 3), (71, .aload_n 1, 1), (72, .iload_n 2, 1), (73, .iload_n 3, 1), (74, .iconst 2, 1), (75, .idiv, 1), (76, .iload 4, 2), (78, .aload_n 0, 1), (79, .invokevirtual 50, 3), (82, .iconst (-1), 1), (83, .invokevirtual 54, 3), (86, .return_, 1)]
set_option maxRecDepth 100000 in
theorem xD_30 : XDec 30 xI_30 := XDec.of (by decide +kernel)
/-- BranchGoals$Draws.drawNumber()I -/
def xI_31 : List (Nat × Instr × Nat) := [(0, .aload_n 0, 1), (1, .iconst 4, 1), (2, .invokevirtual 46, 3), (5, .istore_n 1, 1), (6, .iload_n 1, 1), (7, .ifCond .eq 10, 3), (10, .aload_n 0, 1), (11, .getfield 15, 3), (14, .ifCond .ne 13, 3), (17, .aload_n 0, 1), (18, .bipush 21, 2), (20, .invokevirtual 46, 3), (23, .bipush 10, 2), (25, .isub, 1), (26, .ireturn, 1), (27, .aload_n 0, 1), (28, .getfield 9, 3), (31, .aload_n 0, 1), (32, .aload_n 0, 1), (33, .getfield 15, 3), (36, .invokevirtual 46, 3), (39, .iaload, 1), (40, .iload_n 1, 1), (41, .iadd, 1), (42, .iconst 2, 1), (43, .isub, 1), (44, .ireturn, 1)]
set_option maxRecDepth 100000 in
theorem xD_31 : XDec 31 xI_31 := XDec.of (by decide +kernel)
/-- BranchGoals$Case.write(IIIII)V -/
def xI_32 : List (Nat × Instr × Nat) := [(0, .aload_n 0, 1), (1, .getfield 9, 3), (4, .iload_n 1, 1), (5, .iconst 4, 1), (6, .imul, 1), (7, .iconst 0, 1), (8, .iadd, 1), (9, .iload_n 2, 1), (10, .iastore, 1), (11, .aload_n 0, 1), (12, .getfield 9, 3), (15, .iload_n 1, 1), (16, .iconst 4, 1), (17, .imul, 1), (18, .iconst 1, 1), (19, .iadd, 1), (20, .iload_n 3, 1), (21, .iastore, 1), (22, .aload_n 0, 1), (23, .getfield 9, 3), (26, .iload_n 1, 1), (27, .iconst 4, 1), (28, .imul, 1), (29, .iconst 2, 1), (30, .iadd, 1), (31, .iload 4, 2), (33, .iastore, 1), (34, .aload_n 0, 1), (35, .getfield 9, 3), (38, .iload_n 1, 1), (39, .iconst 4, 1), (40, .imul, 1), (41, .iconst 3, 1), (42, .iadd, 1), (43, .iload 5, 2), (45, .iastore, 1), (46, .return_, 1)]
set_option maxRecDepth 100000 in
theorem xD_32 : XDec 32 xI_32 := XDec.of (by decide +kernel)
/-- BranchGoals.runAndArchive(LBranchGoals$Case;)V -/
def xI_33 : List (Nat × Instr × Nat) := [(0, .aload_n 0, 1), (1, .getfield 28, 3), (4, .aload_n 1, 1), (5, .aload_n 0, 1), (6, .getfield 12, 3), (9, .invokevirtual 208, 3), (12, .aload_n 0, 1), (13, .getfield 35, 3), (16, .aload_n 1, 1), (17, .invokevirtual 212, 3), (20, .return_, 1)]
set_option maxRecDepth 100000 in
theorem xD_33 : XDec 33 xI_33 := XDec.of (by decide +kernel)
/-- BranchGoals$Runner.perform(LBranchGoals$Case;LBranchGoals$Program;)V -/
def xI_34 : List (Nat × Instr × Nat) := [(0, .aload_n 0, 1), (1, .dup, 1), (2, .getfield 19, 3), (5, .iconst 1, 1), (6, .iadd, 1), (7, .putfield 19, 3), (10, .aload_n 0, 1), (11, .getfield 9, 3), (14, .iconst 0, 1), (15, .invokestatic 23, 3), (18, .aload_n 0, 1), (19, .getfield 15, 3), (22, .ldc2_w 29, 3), (25, .invokestatic 31, 3), (28, .iconst 0, 1), (29, .istore_n 3, 1), (30, .iconst 0, 1), (31, .istore 4, 2), (33, .iload 4, 2), (35, .aload_n 1, 1), (36, .getfield 34, 3), (39, .if_icmp .ge 58, 3), (42, .aload_n 1, 1), (43, .getfield 39, 3), (46, .iload 4, 2), (48, .iload_n 3, 1), (49, .ifCond .eq 9, 3), (52, .ldc2_w 42, 3), (55, .goto 11, 3), (58, .aload_n 0, 1), (59, .aload_n 1, 1), (60, .iload 4, 2), (62, .aload_n 2, 1), (63, .invokevirtual 44, 3), (66, .lastore, 1), (67, .iload_n 3, 1), (68, .ifCond .ne 17, 3), (71, .aload_n 1, 1), (72, .getfield 39, 3), (75, .iload 4, 2), (77, .laload, 1), (78, .ldc2_w 48, 3), (81, .lcmp, 1), (82, .ifCond .ne 7, 3), (85, .iconst 1, 1), (86, .goto 4, 3), (89, .iconst 0, 1), (90, .istore_n 3, 1), (91, .iinc 4 1, 3), (94, .goto (-61), 3), (97, .aload_n 1, 1), (98, .iconst 0, 1), (99, .putfield 50, 3), (102, .iconst 0, 1), (103, .istore 4, 2), (105, .iload 4, 2), (107, .aload_n 2, 1), (108, .invokevirtual 53, 3), (111, .if_icmp .ge 52, 3), (114, .aload_n 1, 1), (115, .dup, 1), (116, .getfield 50, 3), (119, .aload_n 0, 1), (120, .getfield 15, 3), (123, .iload 4, 2), (125, .laload, 1), (126, .lconst 0, 1), (127, .lcmp, 1), (128, .ifCond .ne 10, 3), (131, .iconst 1, 1), (132, .iload 4, 2), (134, .ishl, 1), (135, .goto 4, 3), (138, .iconst 0, 1), (139, .ior, 1), (140, .putfield 50, 3), (143, .aload_n 1, 1), (144, .getfield 59, 3), (147, .iload 4, 2), (149, .aload_n 0, 1), (150, .iload 4, 2), (152, .aload_n 2, 1), (153, .invokevirtual 62, 3), (156, .lastore, 1), (157, .iinc 4 1, 3), (160, .goto (-55), 3), (163, .return_, 1)]
set_option maxRecDepth 100000 in
theorem xD_34 : XDec 34 xI_34 := XDec.of (by decide +kernel)
/-- java/util/Arrays.fill([II)V -/
def xI_35 : List (Nat × Instr × Nat) := [(0, .iconst 0, 1), (1, .istore_n 2, 1), (2, .aload_n 0, 1), (3, .arraylength, 1), (4, .istore_n 3, 1), (5, .iload_n 2, 1), (6, .iload_n 3, 1), (7, .if_icmp .ge 13, 3), (10, .aload_n 0, 1), (11, .iload_n 2, 1), (12, .iload_n 1, 1), (13, .iastore, 1), (14, .iinc 2 1, 3), (17, .goto (-12), 3), (20, .return_, 1)]
set_option maxRecDepth 100000 in
theorem xD_35 : XDec 35 xI_35 := XDec.of (by decide +kernel)
/-- java/util/Arrays.fill([JJ)V -/
def xI_36 : List (Nat × Instr × Nat) := [(0, .iconst 0, 1), (1, .istore_n 3, 1), (2, .aload_n 0, 1), (3, .arraylength, 1), (4, .istore 4, 2), (6, .iload_n 3, 1), (7, .iload 4, 2), (9, .if_icmp .ge 13, 3), (12, .aload_n 0, 1), (13, .iload_n 3, 1), (14, .lload_n 1, 1), (15, .lastore, 1), (16, .iinc 3 1, 3), (19, .goto (-13), 3), (22, .return_, 1)]
set_option maxRecDepth 100000 in
theorem xD_36 : XDec 36 xI_36 := XDec.of (by decide +kernel)
/-- BranchGoals$Runner.doStep(LBranchGoals$Case;ILBranchGoals$Program;)J -/
def xI_37 : List (Nat × Instr × Nat) := [(0, .aload_n 1, 1), (1, .iload_n 2, 1), (2, .iconst 0, 1), (3, .invokevirtual 66, 3), (6, .istore 4, 2), (8, .aload_n 1, 1), (9, .iload_n 2, 1), (10, .iconst 1, 1), (11, .invokevirtual 66, 3), (14, .istore 5, 2), (16, .iload 4, 2), (18, .invokestatic 70, 3), (21, .ifCond .ne 14, 3), (24, .aload_n 0, 1), (25, .getfield 9, 3), (28, .iload 4, 2), (30, .iload 5, 2), (32, .iastore, 1), (33, .lconst 0, 1), (34, .lreturn, 1), (35, .aload_n 1, 1), (36, .iload_n 2, 1), (37, .iconst 3, 1), (38, .invokevirtual 66, 3), (41, .istore 6, 2), (43, .aload_n 0, 1), (44, .getfield 9, 3), (47, .iconst 0, 1), (48, .iload 5, 2), (50, .iastore, 1), (51, .aload_n 0, 1), (52, .getfield 9, 3), (55, .iconst 1, 1), (56, .iload 6, 2), (58, .iconst (-1), 1), (59, .if_icmp .ne 12, 3), (62, .aload_n 1, 1), (63, .iload_n 2, 1), (64, .iconst 2, 1), (65, .invokevirtual 66, 3), (68, .goto 13, 3), (71, .aload_n 1, 1), (72, .getfield 39, 3), (75, .iload 6, 2), (77, .laload, 1), (78, .invokestatic 74, 3), (81, .iastore, 1), (82, .aload_n 0, 1), (83, .getfield 9, 3), (86, .iconst 2, 1), (87, .iconst 0, 1), (88, .iastore, 1), (89, .aload_n 0, 1), (90, .getfield 9, 3), (93, .iconst 3, 1), (94, .iconst 0, 1), (95, .iastore, 1), (96, .aload_n 0, 1), (97, .aload_n 3, 1), (98, .getfield 78, 3), (101, .iload 4, 2), (103, .aaload, 1), (104, .invokevirtual 82, 3), (107, .lreturn, 1)]
set_option maxRecDepth 100000 in
theorem xD_37 : XDec 37 xI_37 := XDec.of (by decide +kernel)
/-- BranchGoals$Case.part(II)I -/
def xI_38 : List (Nat × Instr × Nat) := [(0, .aload_n 0, 1), (1, .getfield 9, 3), (4, .iload_n 1, 1), (5, .iconst 4, 1), (6, .imul, 1), (7, .iload_n 2, 1), (8, .iadd, 1), (9, .iaload, 1), (10, .ireturn, 1)]
set_option maxRecDepth 100000 in
theorem xD_38 : XDec 38 xI_38 := XDec.of (by decide +kernel)
/-- BranchGoals$Runner.valueOf(J)I -/
def xI_39 : List (Nat × Instr × Nat) := [(0, .lload_n 0, 1), (1, .lload_n 0, 1), (2, .l2i, 1), (3, .i2l, 1), (4, .lcmp, 1), (5, .ifCond .ne 8, 3), (8, .lload_n 0, 1), (9, .l2i, 1), (10, .goto 4, 3), (13, .iconst 0, 1), (14, .ireturn, 1)]
set_option maxRecDepth 100000 in
theorem xD_39 : XDec 39 xI_39 := XDec.of (by decide +kernel)
/-- BranchGoals$Runner.callMethod(LBranchGoals$Method;)J -/
def xI_40 : List (Nat × Instr × Nat) := [(0, .iconst 0, 1), (1, .istore_n 2, 1), (2, .iconst 0, 1), (3, .istore_n 3, 1), (4, .iload_n 3, 1), (5, .bipush 40, 2), (7, .if_icmp .ge 87, 3), (10, .iload_n 2, 1), (11, .aload_n 1, 1), (12, .getfield 86, 3), (15, .if_icmp .ge 79, 3), (18, .aload_n 1, 1), (19, .getfield 91, 3), (22, .iload_n 2, 1), (23, .iaload, 1), (24, .istore 4, 2), (26, .iload 4, 2), (28, .bipush 8, 2), (30, .if_icmp .ne 16, 3), (33, .aload_n 0, 1), (34, .getfield 9, 3), (37, .aload_n 1, 1), (38, .getfield 94, 3), (41, .iload_n 2, 1), (42, .iaload, 1), (43, .iaload, 1), (44, .i2l, 1), (45, .lreturn, 1), (46, .iload 4, 2), (48, .bipush 9, 2), (50, .if_icmp .ne 7, 3), (53, .ldc2_w 97, 3), (56, .lreturn, 1), (57, .iload 4, 2), (59, .iconst 4, 1), (60, .if_icmp .ne 21, 3), (63, .aload_n 0, 1), (64, .getfield 9, 3), (67, .aload_n 1, 1), (68, .getfield 99, 3), (71, .iload_n 2, 1), (72, .iaload, 1), (73, .iaload, 1), (74, .ifCond .ne 7, 3), (77, .ldc2_w 102, 3), (80, .lreturn, 1), (81, .aload_n 0, 1), (82, .aload_n 1, 1), (83, .iload_n 2, 1), (84, .invokevirtual 104, 3), (87, .istore_n 2, 1), (88, .iinc 3 1, 3), (91, .goto (-87), 3), (94, .iload_n 2, 1), (95, .aload_n 1, 1), (96, .getfield 86, 3), (99, .if_icmp .ge 9, 3), (102, .ldc2_w 48, 3), (105, .goto 4, 3), (108, .lconst 0, 1), (109, .lreturn, 1)]
set_option maxRecDepth 100000 in
theorem xD_40 : XDec 40 xI_40 := XDec.of (by decide +kernel)
/-- BranchGoals$Runner.doLine(LBranchGoals$Method;I)I -/
def xI_41 : List (Nat × Instr × Nat) := [(0, .aload_n 1, 1), (1, .getfield 91, 3), (4, .iload_n 2, 1), (5, .iaload, 1), (6, .istore_n 3, 1), (7, .iload_n 3, 1), (8, .ifCond .ne 23, 3), (11, .aload_n 0, 1), (12, .getfield 9, 3), (15, .aload_n 1, 1), (16, .getfield 94, 3), (19, .iload_n 2, 1), (20, .iaload, 1), (21, .aload_n 1, 1), (22, .getfield 99, 3), (25, .iload_n 2, 1), (26, .iaload, 1), (27, .iastore, 1), (28, .goto 53, 3), (31, .iload_n 3, 1), (32, .iconst 4, 1), (33, .if_icmp .gt 48, 3), (36, .aload_n 0, 1), (37, .getfield 9, 3), (40, .aload_n 1, 1), (41, .getfield 108, 3), (44, .iload_n 2, 1), (45, .iaload, 1), (46, .iaload, 1), (47, .istore 4, 2), (49, .aload_n 0, 1), (50, .getfield 9, 3), (53, .aload_n 1, 1), (54, .getfield 99, 3), (57, .iload_n 2, 1), (58, .iaload, 1), (59, .iaload, 1), (60, .istore 5, 2), (62, .aload_n 0, 1), (63, .getfield 9, 3), (66, .aload_n 1, 1), (67, .getfield 94, 3), (70, .iload_n 2, 1), (71, .iaload, 1), (72, .iload_n 3, 1), (73, .iload 4, 2), (75, .iload 5, 2), (77, .invokestatic 111, 3), (80, .iastore, 1), (81, .aload_n 1, 1), (82, .iload_n 2, 1), (83, .aload_n 1, 1), (84, .iload_n 2, 1), (85, .invokevirtual 115, 3), (88, .ifCond .eq 12, 3), (91, .aload_n 0, 1), (92, .aload_n 1, 1), (93, .iload_n 2, 1), (94, .invokevirtual 118, 3), (97, .goto 4, 3), (100, .iconst 0, 1), (101, .invokevirtual 121, 3), (104, .ireturn, 1)]
set_option maxRecDepth 100000 in
theorem xD_41 : XDec 41 xI_41 := XDec.of (by decide +kernel)
/-- BranchGoals$Runner.calculate(III)I -/
def xI_42 : List (Nat × Instr × Nat) := [(0, .iload_n 0, 1), (1, .tableswitch 39 1 3 #[27, 31, 35], 27), (28, .iload_n 1, 1), (29, .iload_n 2, 1), (30, .iadd, 1), (31, .ireturn, 1), (32, .iload_n 1, 1), (33, .iload_n 2, 1), (34, .isub, 1), (35, .ireturn, 1), (36, .iload_n 1, 1), (37, .iload_n 2, 1), (38, .imul, 1), (39, .ireturn, 1), (40, .iload_n 2, 1), (41, .ifCond .ne 7, 3), (44, .iconst 0, 1), (45, .goto 6, 3), (48, .iload_n 1, 1), (49, .iload_n 2, 1), (50, .idiv, 1), (51, .ireturn, 1)]
set_option maxRecDepth 100000 in
theorem xD_42 : XDec 42 xI_42 := XDec.of (by decide +kernel)
/-- BranchGoals$Runner.decide(LBranchGoals$Method;I)I -/
def xI_43 : List (Nat × Instr × Nat) := [(0, .aload_n 0, 1), (1, .getfield 9, 3), (4, .aload_n 1, 1), (5, .getfield 94, 3), (8, .iload_n 2, 1), (9, .iaload, 1), (10, .iaload, 1), (11, .i2l, 1), (12, .lstore_n 3, 1), (13, .aload_n 0, 1), (14, .getfield 9, 3), (17, .aload_n 1, 1), (18, .getfield 108, 3), (21, .iload_n 2, 1), (22, .iaload, 1), (23, .iaload, 1), (24, .i2l, 1), (25, .lstore 5, 2), (27, .aload_n 1, 1), (28, .getfield 91, 3), (31, .iload_n 2, 1), (32, .iaload, 1), (33, .iconst 5, 1), (34, .if_icmp .ne 29, 3), (37, .lload_n 3, 1), (38, .lload 5, 2), (40, .lcmp, 1), (41, .ifCond .ne 7, 3), (44, .lconst 1, 1), (45, .goto 4, 3), (48, .lconst 0, 1), (49, .lstore 7, 2), (51, .lload_n 3, 1), (52, .lload 5, 2), (54, .lsub, 1), (55, .invokestatic 124, 3), (58, .lstore 9, 2), (60, .goto 39, 3), (63, .lload_n 3, 1), (64, .lload 5, 2), (66, .lcmp, 1), (67, .ifCond .lt 7, 3), (70, .lconst 0, 1), (71, .goto 7, 3), (74, .lload 5, 2), (76, .lload_n 3, 1), (77, .lsub, 1), (78, .lstore 7, 2), (80, .lload_n 3, 1), (81, .lload 5, 2), (83, .lcmp, 1), (84, .ifCond .ge 7, 3), (87, .lconst 0, 1), (88, .goto 9, 3), (91, .lload_n 3, 1), (92, .lload 5, 2), (94, .lsub, 1), (95, .lconst 1, 1), (96, .ladd, 1), (97, .lstore 9, 2), (99, .aload_n 1, 1), (100, .getfield 130, 3), (103, .iload_n 2, 1), (104, .iaload, 1), (105, .istore 11, 2), (107, .iload 11, 2), (109, .iconst (-1), 1), (110, .if_icmp .eq 53, 3), (113, .aload_n 0, 1), (114, .getfield 15, 3), (117, .iconst 2, 1), (118, .iload 11, 2), (120, .imul, 1), (121, .aload_n 0, 1), (122, .getfield 15, 3), (125, .iconst 2, 1), (126, .iload 11, 2), (128, .imul, 1), (129, .laload, 1), (130, .lload 7, 2), (132, .invokestatic 133, 3), (135, .lastore, 1), (136, .aload_n 0, 1), (137, .getfield 15, 3), (140, .iconst 2, 1), (141, .iload 11, 2), (143, .imul, 1), (144, .iconst 1, 1), (145, .iadd, 1), (146, .aload_n 0, 1), (147, .getfield 15, 3), (150, .iconst 2, 1), (151, .iload 11, 2), (153, .imul, 1), (154, .iconst 1, 1), (155, .iadd, 1), (156, .laload, 1), (157, .lload 9, 2), (159, .invokestatic 133, 3), (162, .lastore, 1), (163, .lload 9, 2), (165, .lconst 0, 1), (166, .lcmp, 1), (167, .ifCond .ne 7, 3), (170, .iconst 1, 1), (171, .goto 4, 3), (174, .iconst 0, 1), (175, .ireturn, 1)]
set_option maxRecDepth 100000 in
theorem xD_43 : XDec 43 xI_43 := XDec.of (by decide +kernel)
/-- java/lang/Math.abs(J)J -/
def xI_44 : List (Nat × Instr × Nat) := [(0, .lload_n 0, 1), (1, .lconst 0, 1), (2, .lcmp, 1), (3, .ifCond .ge 8, 3), (6, .lload_n 0, 1), (7, .lneg, 1), (8, .goto 4, 3), (11, .lload_n 0, 1), (12, .lreturn, 1)]
set_option maxRecDepth 100000 in
theorem xD_44 : XDec 44 xI_44 := XDec.of (by decide +kernel)
/-- java/lang/Math.min(JJ)J -/
def xI_45 : List (Nat × Instr × Nat) := [(0, .lload_n 0, 1), (1, .lload_n 2, 1), (2, .lcmp, 1), (3, .ifCond .gt 7, 3), (6, .lload_n 0, 1), (7, .goto 4, 3), (10, .lload_n 2, 1), (11, .lreturn, 1)]
set_option maxRecDepth 100000 in
theorem xD_45 : XDec 45 xI_45 := XDec.of (by decide +kernel)
/-- BranchGoals$Program.goalCount()I -/
def xI_46 : List (Nat × Instr × Nat) := [(0, .iconst 2, 1), (1, .aload_n 0, 1), (2, .getfield 26, 3), (5, .imul, 1), (6, .ireturn, 1)]
set_option maxRecDepth 100000 in
theorem xD_46 : XDec 46 xI_46 := XDec.of (by decide +kernel)
/-- BranchGoals$Runner.fitnessFor(ILBranchGoals$Program;)J -/
def xI_47 : List (Nat × Instr × Nat) := [(0, .iconst 1, 1), (1, .iload_n 1, 1), (2, .ishl, 1), (3, .istore_n 3, 1), (4, .iconst 0, 1), (5, .istore 4, 2), (7, .iload 4, 2), (9, .bipush 12, 2), (11, .if_icmp .gt 50, 3), (14, .iload_n 3, 1), (15, .ifCond .eq 46, 3), (18, .aload_n 0, 1), (19, .iload_n 3, 1), (20, .aload_n 2, 1), (21, .invokevirtual 53, 3), (24, .invokevirtual 137, 3), (27, .lstore 5, 2), (29, .lload 5, 2), (31, .ldc2_w 29, 3), (34, .lcmp, 1), (35, .ifCond .eq 14, 3), (38, .iload 4, 2), (40, .i2l, 1), (41, .ldc2_w 29, 3), (44, .lmul, 1), (45, .lload 5, 2), (47, .ladd, 1), (48, .lreturn, 1), (49, .aload_n 2, 1), (50, .iload_n 3, 1), (51, .invokevirtual 141, 3), (54, .istore_n 3, 1), (55, .iinc 4 1, 3), (58, .goto (-51), 3), (61, .ldc2_w 145, 3), (64, .lreturn, 1)]
set_option maxRecDepth 100000 in
theorem xD_47 : XDec 47 xI_47 := XDec.of (by decide +kernel)
/-- BranchGoals$Runner.leastNearest(II)J -/
def xI_48 : List (Nat × Instr × Nat) := [(0, .ldc2_w 29, 3), (3, .lstore_n 3, 1), (4, .iconst 0, 1), (5, .istore 5, 2), (7, .iload 5, 2), (9, .iload_n 2, 1), (10, .if_icmp .ge 30, 3), (13, .iload_n 1, 1), (14, .iload 5, 2), (16, .invokestatic 147, 3), (19, .ifCond .eq 15, 3), (22, .lload_n 3, 1), (23, .aload_n 0, 1), (24, .getfield 15, 3), (27, .iload 5, 2), (29, .laload, 1), (30, .invokestatic 133, 3), (33, .lstore_n 3, 1), (34, .iinc 5 1, 3), (37, .goto (-30), 3), (40, .lload_n 3, 1), (41, .lreturn, 1)]
set_option maxRecDepth 100000 in
theorem xD_48 : XDec 48 xI_48 := XDec.of (by decide +kernel)
/-- BranchGoals.hasGoal(II)Z -/
def xI_49 : List (Nat × Instr × Nat) := [(0, .iload_n 0, 1), (1, .iload_n 1, 1), (2, .ishr, 1), (3, .iconst 1, 1), (4, .iand, 1), (5, .ifCond .eq 7, 3), (8, .iconst 1, 1), (9, .goto 4, 3), (12, .iconst 0, 1), (13, .ireturn, 1)]
set_option maxRecDepth 100000 in
theorem xD_49 : XDec 49 xI_49 := XDec.of (by decide +kernel)
/-- BranchGoals$Program.goalsNeededBy(I)I -/
def xI_50 : List (Nat × Instr × Nat) := [(0, .iconst 0, 1), (1, .istore_n 2, 1), (2, .iconst 0, 1), (3, .istore_n 3, 1), (4, .iload_n 3, 1), (5, .aload_n 0, 1), (6, .getfield 26, 3), (9, .if_icmp .ge 28, 3), (12, .iload_n 1, 1), (13, .iconst 2, 1), (14, .iload_n 3, 1), (15, .imul, 1), (16, .ishr, 1), (17, .iconst 3, 1), (18, .iand, 1), (19, .ifCond .eq 12, 3), (22, .iload_n 2, 1), (23, .aload_n 0, 1), (24, .getfield 18, 3), (27, .iload_n 3, 1), (28, .iaload, 1), (29, .ior, 1), (30, .istore_n 2, 1), (31, .iinc 3 1, 3), (34, .goto (-30), 3), (37, .iload_n 2, 1), (38, .ireturn, 1)]
set_option maxRecDepth 100000 in
theorem xD_50 : XDec 50 xI_50 := XDec.of (by decide +kernel)
/-- BranchGoals$Archive.admit(LBranchGoals$Case;)V -/
def xI_51 : List (Nat × Instr × Nat) := [(0, .iconst 0, 1), (1, .istore_n 2, 1), (2, .iload_n 2, 1), (3, .bipush 24, 2), (5, .if_icmp .ge 57, 3), (8, .aload_n 1, 1), (9, .getfield 23, 3), (12, .iload_n 2, 1), (13, .invokestatic 26, 3), (16, .ifCond .eq 40, 3), (19, .aload_n 0, 1), (20, .getfield 19, 3), (23, .iload_n 2, 1), (24, .invokestatic 26, 3), (27, .ifCond .eq 19, 3), (30, .aload_n 0, 1), (31, .getfield 13, 3), (34, .iload_n 2, 1), (35, .aaload, 1), (36, .getfield 30, 3), (39, .aload_n 1, 1), (40, .getfield 30, 3), (43, .if_icmp .le 13, 3), (46, .aload_n 0, 1), (47, .getfield 13, 3), (50, .iload_n 2, 1), (51, .aaload, 1), (52, .aload_n 1, 1), (53, .invokevirtual 33, 3), (56, .iinc 2 1, 3), (59, .goto (-57), 3), (62, .aload_n 0, 1), (63, .dup, 1), (64, .getfield 19, 3), (67, .aload_n 1, 1), (68, .getfield 23, 3), (71, .ior, 1), (72, .putfield 19, 3), (75, .return_, 1)]
set_option maxRecDepth 100000 in
theorem xD_51 : XDec 51 xI_51 := XDec.of (by decide +kernel)
/-- BranchGoals$Case.copy(LBranchGoals$Case;)V -/
def xI_52 : List (Nat × Instr × Nat) := [(0, .aload_n 0, 1), (1, .aload_n 1, 1), (2, .invokevirtual 35, 3), (5, .aload_n 1, 1), (6, .getfield 15, 3), (9, .iconst 0, 1), (10, .aload_n 0, 1), (11, .getfield 15, 3), (14, .iconst 0, 1), (15, .bipush 6, 2), (17, .invokestatic 39, 3), (20, .aload_n 1, 1), (21, .getfield 19, 3), (24, .iconst 0, 1), (25, .aload_n 0, 1), (26, .getfield 19, 3), (29, .iconst 0, 1), (30, .bipush 24, 2), (32, .invokestatic 39, 3), (35, .aload_n 0, 1), (36, .aload_n 1, 1), (37, .getfield 26, 3), (40, .putfield 26, 3), (43, .return_, 1)]
set_option maxRecDepth 100000 in
theorem xD_52 : XDec 52 xI_52 := XDec.of (by decide +kernel)
/-- BranchGoals$Case.copySteps(LBranchGoals$Case;)V -/
def xI_53 : List (Nat × Instr × Nat) := [(0, .aload_n 1, 1), (1, .getfield 9, 3), (4, .iconst 0, 1), (5, .aload_n 0, 1), (6, .getfield 9, 3), (9, .iconst 0, 1), (10, .bipush 24, 2), (12, .invokestatic 39, 3), (15, .aload_n 0, 1), (16, .aload_n 1, 1), (17, .getfield 22, 3), (20, .putfield 22, 3), (23, .return_, 1)]
set_option maxRecDepth 100000 in
theorem xD_53 : XDec 53 xI_53 := XDec.of (by decide +kernel)
/-- BranchGoals$Program.activeGoals(I)I -/
def xI_54 : List (Nat × Instr × Nat) := [(0, .iconst 0, 1), (1, .istore_n 2, 1), (2, .iconst 0, 1), (3, .istore_n 3, 1), (4, .iload_n 3, 1), (5, .aload_n 0, 1), (6, .getfield 26, 3), (9, .if_icmp .ge 37, 3), (12, .aload_n 0, 1), (13, .getfield 22, 3), (16, .iload_n 3, 1), (17, .baload, 1), (18, .ifCond .ne 14, 3), (21, .aload_n 0, 1), (22, .getfield 18, 3), (25, .iload_n 3, 1), (26, .iaload, 1), (27, .iload_n 1, 1), (28, .iand, 1), (29, .ifCond .eq 11, 3), (32, .iload_n 2, 1), (33, .iconst 3, 1), (34, .iconst 2, 1), (35, .iload_n 3, 1), (36, .imul, 1), (37, .ishl, 1), (38, .ior, 1), (39, .istore_n 2, 1), (40, .iinc 3 1, 3), (43, .goto (-39), 3), (46, .iload_n 2, 1), (47, .iload_n 1, 1), (48, .iconst (-1), 1), (49, .ixor, 1), (50, .iand, 1), (51, .ireturn, 1)]
set_option maxRecDepth 100000 in
theorem xD_54 : XDec 54 xI_54 := XDec.of (by decide +kernel)
/-- BranchGoals$Population.takeInChildren(I)V -/
def xI_55 : List (Nat × Instr × Nat) := [(0, .aload_n 0, 1), (1, .getfield 19, 3), (4, .iconst 2, 1), (5, .iadd, 1), (6, .istore_n 2, 1), (7, .aload_n 0, 1), (8, .iload_n 2, 1), (9, .iload_n 1, 1), (10, .invokevirtual 23, 3), (13, .iconst 0, 1), (14, .istore_n 3, 1), (15, .iload_n 3, 1), (16, .iload_n 2, 1), (17, .if_icmp .ge 30, 3), (20, .aload_n 0, 1), (21, .getfield 13, 3), (24, .iload_n 3, 1), (25, .aaload, 1), (26, .aload_n 0, 1), (27, .aload_n 0, 1), (28, .getfield 13, 3), (31, .iload_n 3, 1), (32, .aaload, 1), (33, .iload_n 2, 1), (34, .iload_n 1, 1), (35, .invokevirtual 27, 3), (38, .putfield 31, 3), (41, .iinc 3 1, 3), (44, .goto (-29), 3), (47, .aload_n 0, 1), (48, .iload_n 2, 1), (49, .invokevirtual 36, 3), (52, .aload_n 0, 1), (53, .iload_n 2, 1), (54, .iconst 5, 1), (55, .invokestatic 40, 3), (58, .putfield 19, 3), (61, .return_, 1)]
set_option maxRecDepth 100000 in
theorem xD_55 : XDec 55 xI_55 := XDec.of (by decide +kernel)
/-- BranchGoals$Population.placeFronts(II)V -/
def xI_56 : List (Nat × Instr × Nat) := [(0, .iconst 0, 1), (1, .istore_n 3, 1), (2, .iload_n 3, 1), (3, .iload_n 1, 1), (4, .if_icmp .ge 20, 3), (7, .aload_n 0, 1), (8, .getfield 13, 3), (11, .iload_n 3, 1), (12, .aaload, 1), (13, .bipush 8, 2), (15, .putfield 46, 3), (18, .iinc 3 1, 3), (21, .goto (-19), 3), (24, .iconst 0, 1), (25, .istore_n 3, 1), (26, .iload_n 3, 1), (27, .bipush 24, 2), (29, .if_icmp .ge 27, 3), (32, .iload_n 2, 1), (33, .iload_n 3, 1), (34, .invokestatic 49, 3), (37, .ifCond .eq 13, 3), (40, .aload_n 0, 1), (41, .iload_n 3, 1), (42, .iload_n 1, 1), (43, .invokevirtual 53, 3), (46, .iconst 0, 1), (47, .putfield 46, 3), (50, .iinc 3 1, 3), (53, .goto (-27), 3), (56, .iconst 1, 1), (57, .istore_n 3, 1), (58, .iload_n 3, 1), (59, .iload_n 1, 1), (60, .if_icmp .gt 67, 3), (63, .iconst 0, 1), (64, .istore 4, 2), (66, .iload 4, 2), (68, .iload_n 1, 1), (69, .if_icmp .ge 52, 3), (72, .aload_n 0, 1), (73, .getfield 13, 3), (76, .iload 4, 2), (78, .aaload, 1), (79, .getfield 46, 3), (82, .bipush 8, 2), (84, .if_icmp .ne 31, 3), (87, .aload_n 0, 1), (88, .aload_n 0, 1), (89, .getfield 13, 3), (92, .iload 4, 2), (94, .aaload, 1), (95, .iload_n 3, 1), (96, .iload_n 1, 1), (97, .iload_n 2, 1), (98, .invokevirtual 57, 3), (101, .ifCond .ne 14, 3), (104, .aload_n 0, 1), (105, .getfield 13, 3), (108, .iload 4, 2), (110, .aaload, 1), (111, .iload_n 3, 1), (112, .putfield 46, 3), (115, .iinc 4 1, 3), (118, .goto (-52), 3), (121, .iinc 3 1, 3), (124, .goto (-66), 3), (127, .return_, 1)]
set_option maxRecDepth 100000 in
theorem xD_56 : XDec 56 xI_56 := XDec.of (by decide +kernel)
/-- BranchGoals$Population.preferredFor(II)LBranchGoals$Case; -/
def xI_57 : List (Nat × Instr × Nat) := [(0, .aload_n 0, 1), (1, .getfield 13, 3), (4, .iconst 0, 1), (5, .aaload, 1), (6, .astore_n 3, 1), (7, .iconst 1, 1), (8, .istore 4, 2), (10, .iload 4, 2), (12, .iload_n 2, 1), (13, .if_icmp .ge 69, 3), (16, .aload_n 0, 1), (17, .getfield 13, 3), (20, .iload 4, 2), (22, .aaload, 1), (23, .getfield 61, 3), (26, .iload_n 1, 1), (27, .laload, 1), (28, .aload_n 3, 1), (29, .getfield 61, 3), (32, .iload_n 1, 1), (33, .laload, 1), (34, .lsub, 1), (35, .lstore 5, 2), (37, .lload 5, 2), (39, .lconst 0, 1), (40, .lcmp, 1), (41, .ifCond .lt 27, 3), (44, .lload 5, 2), (46, .lconst 0, 1), (47, .lcmp, 1), (48, .ifCond .ne 28, 3), (51, .aload_n 0, 1), (52, .getfield 13, 3), (55, .iload 4, 2), (57, .aaload, 1), (58, .getfield 65, 3), (61, .aload_n 3, 1), (62, .getfield 65, 3), (65, .if_icmp .ge 11, 3), (68, .aload_n 0, 1), (69, .getfield 13, 3), (72, .iload 4, 2), (74, .aaload, 1), (75, .astore_n 3, 1), (76, .iinc 4 1, 3), (79, .goto (-69), 3), (82, .aload_n 3, 1), (83, .areturn, 1)]
set_option maxRecDepth 100000 in
theorem xD_57 : XDec 57 xI_57 := XDec.of (by decide +kernel)
/-- BranchGoals$Population.isBeaten(LBranchGoals$Case;III)Z -/
def xI_58 : List (Nat × Instr × Nat) := [(0, .iconst 0, 1), (1, .istore 5, 2), (3, .iload 5, 2), (5, .iload_n 3, 1), (6, .if_icmp .ge 57, 3), (9, .aload_n 0, 1), (10, .getfield 13, 3), (13, .iload 5, 2), (15, .aaload, 1), (16, .getfield 46, 3), (19, .iload_n 2, 1), (20, .if_icmp .lt 37, 3), (23, .aload_n 0, 1), (24, .getfield 13, 3), (27, .iload 5, 2), (29, .aaload, 1), (30, .aload_n 1, 1), (31, .iload 4, 2), (33, .invokestatic 68, 3), (36, .ifCond .le 21, 3), (39, .aload_n 1, 1), (40, .aload_n 0, 1), (41, .getfield 13, 3), (44, .iload 5, 2), (46, .aaload, 1), (47, .iload 4, 2), (49, .invokestatic 68, 3), (52, .ifCond .ne 5, 3), (55, .iconst 1, 1), (56, .ireturn, 1), (57, .iinc 5 1, 3), (60, .goto (-57), 3), (63, .iconst 0, 1), (64, .ireturn, 1)]
set_option maxRecDepth 100000 in
theorem xD_58 : XDec 58 xI_58 := XDec.of (by decide +kernel)
/-- BranchGoals$Population.goalsNearer(LBranchGoals$Case;LBranchGoals$Case;I)I -/
def xI_59 : List (Nat × Instr × Nat) := [(0, .iconst 0, 1), (1, .istore_n 3, 1), (2, .iconst 0, 1), (3, .istore 4, 2), (5, .iload 4, 2), (7, .bipush 24, 2), (9, .if_icmp .ge 39, 3), (12, .iload_n 2, 1), (13, .iload 4, 2), (15, .invokestatic 49, 3), (18, .ifCond .eq 24, 3), (21, .aload_n 0, 1), (22, .getfield 61, 3), (25, .iload 4, 2), (27, .laload, 1), (28, .aload_n 1, 1), (29, .getfield 61, 3), (32, .iload 4, 2), (34, .laload, 1), (35, .lcmp, 1), (36, .ifCond .ge 6, 3), (39, .iinc 3 1, 3), (42, .iinc 4 1, 3), (45, .goto (-40), 3), (48, .iload_n 3, 1), (49, .ireturn, 1)]
set_option maxRecDepth 100000 in
theorem xD_59 : XDec 59 xI_59 := XDec.of (by decide +kernel)
/-- BranchGoals$Population.crowdOf(LBranchGoals$Case;II)I -/
def xI_60 : List (Nat × Instr × Nat) := [(0, .iconst 0, 1), (1, .istore 4, 2), (3, .iconst 0, 1), (4, .istore 5, 2), (6, .iload 5, 2), (8, .iload_n 2, 1), (9, .if_icmp .ge 45, 3), (12, .aload_n 0, 1), (13, .getfield 13, 3), (16, .iload 5, 2), (18, .aaload, 1), (19, .getfield 46, 3), (22, .aload_n 1, 1), (23, .getfield 46, 3), (26, .if_icmp .ne 22, 3), (29, .iload 4, 2), (31, .aload_n 0, 1), (32, .getfield 13, 3), (35, .iload 5, 2), (37, .aaload, 1), (38, .aload_n 1, 1), (39, .iload_n 3, 1), (40, .invokestatic 68, 3), (43, .invokestatic 72, 3), (46, .istore 4, 2), (48, .iinc 5 1, 3), (51, .goto (-45), 3), (54, .iload 4, 2), (56, .ireturn, 1)]
set_option maxRecDepth 100000 in
theorem xD_60 : XDec 60 xI_60 := XDec.of (by decide +kernel)
/-- java/lang/Math.max(II)I -/
def xI_61 : List (Nat × Instr × Nat) := [(0, .iload_n 0, 1), (1, .iload_n 1, 1), (2, .if_icmp .lt 7, 3), (5, .iload_n 0, 1), (6, .goto 4, 3), (9, .iload_n 1, 1), (10, .ireturn, 1)]
set_option maxRecDepth 100000 in
theorem xD_61 : XDec 61 xI_61 := XDec.of (by decide +kernel)
/-- BranchGoals$Population.sort(I)V -/
def xI_62 : List (Nat × Instr × Nat) := [(0, .iconst 1, 1), (1, .istore_n 2, 1), (2, .iload_n 2, 1), (3, .iload_n 1, 1), (4, .if_icmp .ge 70, 3), (7, .aload_n 0, 1), (8, .getfield 13, 3), (11, .iload_n 2, 1), (12, .aaload, 1), (13, .astore_n 3, 1), (14, .iload_n 2, 1), (15, .istore 4, 2), (17, .iload 4, 2), (19, .ifCond .le 41, 3), (22, .aload_n 3, 1), (23, .aload_n 0, 1), (24, .getfield 13, 3), (27, .iload 4, 2), (29, .iconst 1, 1), (30, .isub, 1), (31, .aaload, 1), (32, .invokestatic 75, 3), (35, .ifCond .eq 25, 3), (38, .aload_n 0, 1), (39, .getfield 13, 3), (42, .iload 4, 2), (44, .aload_n 0, 1), (45, .getfield 13, 3), (48, .iload 4, 2), (50, .iconst 1, 1), (51, .isub, 1), (52, .aaload, 1), (53, .aastore, 1), (54, .iinc 4 (-1), 3), (57, .goto (-40), 3), (60, .aload_n 0, 1), (61, .getfield 13, 3), (64, .iload 4, 2), (66, .aload_n 3, 1), (67, .aastore, 1), (68, .iinc 2 1, 3), (71, .goto (-69), 3), (74, .return_, 1)]
set_option maxRecDepth 100000 in
theorem xD_62 : XDec 62 xI_62 := XDec.of (by decide +kernel)
/-- BranchGoals$Population.goesBefore(LBranchGoals$Case;LBranchGoals$Case;)Z -/
def xI_63 : List (Nat × Instr × Nat) := [(0, .aload_n 0, 1), (1, .getfield 46, 3), (4, .aload_n 1, 1), (5, .getfield 46, 3), (8, .if_icmp .eq 20, 3), (11, .aload_n 0, 1), (12, .getfield 46, 3), (15, .aload_n 1, 1), (16, .getfield 46, 3), (19, .if_icmp .ge 7, 3), (22, .iconst 1, 1), (23, .goto 4, 3), (26, .iconst 0, 1), (27, .ireturn, 1), (28, .aload_n 0, 1), (29, .getfield 31, 3), (32, .aload_n 1, 1), (33, .getfield 31, 3), (36, .if_icmp .eq 20, 3), (39, .aload_n 0, 1), (40, .getfield 31, 3), (43, .aload_n 1, 1), (44, .getfield 31, 3), (47, .if_icmp .ge 7, 3), (50, .iconst 1, 1), (51, .goto 4, 3), (54, .iconst 0, 1), (55, .ireturn, 1), (56, .aload_n 0, 1), (57, .getfield 65, 3), (60, .aload_n 1, 1), (61, .getfield 65, 3), (64, .if_icmp .ge 7, 3), (67, .iconst 1, 1), (68, .goto 4, 3), (71, .iconst 0, 1), (72, .ireturn, 1)]
set_option maxRecDepth 100000 in
theorem xD_63 : XDec 63 xI_63 := XDec.of (by decide +kernel)
/-- BranchGoals.watched(I)Z -/
def xI_64 : List (Nat × Instr × Nat) := [(0, .aload_n 0, 1), (1, .getfield 63, 3), (4, .ifCond .eq 29, 3), (7, .iload_n 1, 1), (8, .invokestatic 67, 3), (11, .ifCond .eq 22, 3), (14, .aload_n 0, 1), (15, .getfield 12, 3), (18, .getfield 71, 3), (21, .iload_n 1, 1), (22, .aaload, 1), (23, .getfield 114, 3), (26, .ifCond .eq 7, 3), (29, .iconst 1, 1), (30, .goto 4, 3), (33, .iconst 0, 1), (34, .ireturn, 1)]
set_option maxRecDepth 100000 in
theorem xD_64 : XDec 64 xI_64 := XDec.of (by decide +kernel)
/-- BranchGoals.depends(II)Z -/
def xI_65 : List (Nat × Instr × Nat) := [(0, .aload_n 0, 1), (1, .iload_n 1, 1), (2, .invokevirtual 117, 3), (5, .ifCond .eq 33, 3), (8, .aload_n 0, 1), (9, .iload_n 2, 1), (10, .invokevirtual 117, 3), (13, .ifCond .eq 25, 3), (16, .aload_n 0, 1), (17, .getfield 12, 3), (20, .getfield 120, 3), (23, .iload_n 1, 1), (24, .iconst 2, 1), (25, .idiv, 1), (26, .iaload, 1), (27, .iload_n 2, 1), (28, .invokestatic 124, 3), (31, .ifCond .eq 7, 3), (34, .iconst 1, 1), (35, .goto 4, 3), (38, .iconst 0, 1), (39, .ireturn, 1)]
set_option maxRecDepth 100000 in
theorem xD_65 : XDec 65 xI_65 := XDec.of (by decide +kernel)
/-- BranchGoals.isGoal(I)Z -/
def xI_66 : List (Nat × Instr × Nat) := [(0, .aload_n 0, 1), (1, .getfield 63, 3), (4, .ifCond .eq 22, 3), (7, .iload_n 1, 1), (8, .ifCond .lt 18, 3), (11, .iload_n 1, 1), (12, .aload_n 0, 1), (13, .getfield 12, 3), (16, .invokevirtual 110, 3), (19, .if_icmp .ge 7, 3), (22, .iconst 1, 1), (23, .goto 4, 3), (26, .iconst 0, 1), (27, .ireturn, 1)]
set_option maxRecDepth 100000 in
theorem xD_66 : XDec 66 xI_66 := XDec.of (by decide +kernel)
/-- BranchGoals.put(IIII)Z -/
def xI_67 : List (Nat × Instr × Nat) := [(0, .aload_n 0, 1), (1, .getfield 56, 3), (4, .getfield 128, 3), (7, .istore 5, 2), (9, .iload 5, 2), (11, .bipush 6, 2), (13, .if_icmp .lt 5, 3), (16, .iconst 0, 1), (17, .ireturn, 1), (18, .iload_n 1, 1), (19, .invokestatic 131, 3), (22, .ifCond .eq 19, 3), (25, .aload_n 0, 1), (26, .getfield 56, 3), (29, .iload 5, 2), (31, .iload_n 1, 1), (32, .iload_n 2, 1), (33, .iconst 0, 1), (34, .iconst (-1), 1), (35, .invokevirtual 134, 3), (38, .goto 52, 3), (41, .iload_n 1, 1), (42, .invokestatic 67, 3), (45, .ifCond .eq 43, 3), (48, .iload 4, 2), (50, .iconst (-1), 1), (51, .if_icmp .lt 37, 3), (54, .iload 4, 2), (56, .iload 5, 2), (58, .if_icmp .ge 30, 3), (61, .aload_n 0, 1), (62, .getfield 56, 3), (65, .iload 5, 2), (67, .iload_n 1, 1), (68, .iload_n 2, 1), (69, .iload 4, 2), (71, .iconst (-1), 1), (72, .if_icmp .ne 7, 3), (75, .iload_n 3, 1), (76, .goto 4, 3), (79, .iconst 0, 1), (80, .iload 4, 2), (82, .invokevirtual 134, 3), (85, .goto 5, 3), (88, .iconst 0, 1), (89, .ireturn, 1), (90, .aload_n 0, 1), (91, .getfield 56, 3), (94, .dup, 1), (95, .getfield 128, 3), (98, .iconst 1, 1), (99, .iadd, 1), (100, .putfield 128, 3), (103, .iconst 1, 1), (104, .ireturn, 1)]
set_option maxRecDepth 100000 in
theorem xD_67 : XDec 67 xI_67 := XDec.of (by decide +kernel)
/-- BranchGoals.isField(I)Z -/
def xI_68 : List (Nat × Instr × Nat) := [(0, .iload_n 0, 1), (1, .iconst 4, 1), (2, .if_icmp .lt 13, 3), (5, .iload_n 0, 1), (6, .bipush 8, 2), (8, .if_icmp .ge 7, 3), (11, .iconst 1, 1), (12, .goto 4, 3), (15, .iconst 0, 1), (16, .ireturn, 1)]
set_option maxRecDepth 100000 in
theorem xD_68 : XDec 68 xI_68 := XDec.of (by decide +kernel)
/-- BranchGoals.run()I -/
def xI_69 : List (Nat × Instr × Nat) := [(0, .aload_n 0, 1), (1, .getfield 63, 3), (4, .ifCond .eq 13, 3), (7, .aload_n 0, 1), (8, .getfield 56, 3), (11, .getfield 128, 3), (14, .ifCond .ne 5, 3), (17, .iconst (-1), 1), (18, .ireturn, 1), (19, .aload_n 0, 1), (20, .aload_n 0, 1), (21, .getfield 56, 3), (24, .invokevirtual 96, 3), (27, .aload_n 0, 1), (28, .getfield 60, 3), (31, .aload_n 0, 1), (32, .getfield 56, 3), (35, .invokevirtual 138, 3), (38, .aload_n 0, 1), (39, .getfield 56, 3), (42, .iconst 0, 1), (43, .putfield 128, 3), (46, .aload_n 0, 1), (47, .getfield 60, 3), (50, .getfield 141, 3), (53, .ireturn, 1)]
set_option maxRecDepth 100000 in
theorem xD_69 : XDec 69 xI_69 := XDec.of (by decide +kernel)
/-- BranchGoals.evolve()I -/
def xI_70 : List (Nat × Instr × Nat) := [(0, .aload_n 0, 1), (1, .getfield 63, 3), (4, .ifCond .ne 5, 3), (7, .iconst (-1), 1), (8, .ireturn, 1), (9, .aload_n 0, 1), (10, .invokevirtual 142, 3), (13, .astore_n 1, 1), (14, .aload_n 0, 1), (15, .invokevirtual 142, 3), (18, .astore_n 2, 1), (19, .aload_n 0, 1), (20, .getfield 21, 3), (23, .aload_n 1, 1), (24, .getfield 128, 3), (27, .invokevirtual 146, 3), (30, .istore_n 3, 1), (31, .aload_n 0, 1), (32, .getfield 21, 3), (35, .aload_n 2, 1), (36, .getfield 128, 3), (39, .invokevirtual 146, 3), (42, .istore 4, 2), (44, .aload_n 0, 1), (45, .getfield 42, 3), (48, .iconst 0, 1), (49, .invokevirtual 88, 3), (52, .aload_n 1, 1), (53, .iload_n 3, 1), (54, .aload_n 2, 1), (55, .iload 4, 2), (57, .invokevirtual 149, 3), (60, .aload_n 0, 1), (61, .getfield 42, 3), (64, .iconst 1, 1), (65, .invokevirtual 88, 3), (68, .aload_n 2, 1), (69, .iload 4, 2), (71, .aload_n 1, 1), (72, .iload_n 3, 1), (73, .invokevirtual 149, 3), (76, .iconst 0, 1), (77, .istore 5, 2), (79, .iload 5, 2), (81, .iconst 2, 1), (82, .if_icmp .ge 38, 3), (85, .aload_n 0, 1), (86, .getfield 21, 3), (89, .aload_n 0, 1), (90, .getfield 42, 3), (93, .iload 5, 2), (95, .invokevirtual 88, 3), (98, .invokevirtual 153, 3), (101, .aload_n 0, 1), (102, .aload_n 0, 1), (103, .getfield 42, 3), (106, .iload 5, 2), (108, .invokevirtual 88, 3), (111, .invokevirtual 96, 3), (114, .iinc 5 1, 3), (117, .goto (-38), 3), (120, .aload_n 0, 1), (121, .getfield 42, 3), (124, .aload_n 0, 1), (125, .getfield 12, 3), (128, .aload_n 0, 1), (129, .getfield 35, 3), (132, .getfield 99, 3), (135, .invokevirtual 103, 3), (138, .invokevirtual 107, 3), (141, .aload_n 0, 1), (142, .getfield 35, 3), (145, .getfield 99, 3), (148, .invokestatic 156, 3), (151, .ireturn, 1)]
set_option maxRecDepth 100000 in
theorem xD_70 : XDec 70 xI_70 := XDec.of (by decide +kernel)
/-- BranchGoals.drawParent()LBranchGoals$Case; -/
def xI_71 : List (Nat × Instr × Nat) := [(0, .aload_n 0, 1), (1, .getfield 21, 3), (4, .aload_n 0, 1), (5, .getfield 42, 3), (8, .getfield 215, 3), (11, .invokevirtual 146, 3), (14, .istore_n 1, 1), (15, .aload_n 0, 1), (16, .getfield 21, 3), (19, .aload_n 0, 1), (20, .getfield 42, 3), (23, .getfield 215, 3), (26, .invokevirtual 146, 3), (29, .istore_n 2, 1), (30, .aload_n 0, 1), (31, .getfield 42, 3), (34, .getfield 216, 3), (37, .iload_n 1, 1), (38, .iload_n 2, 1), (39, .invokestatic 219, 3), (42, .aaload, 1), (43, .areturn, 1)]
set_option maxRecDepth 100000 in
theorem xD_71 : XDec 71 xI_71 := XDec.of (by decide +kernel)
/-- BranchGoals$Case.join(LBranchGoals$Case;ILBranchGoals$Case;I)V -/
def xI_72 : List (Nat × Instr × Nat) := [(0, .aload_n 1, 1), (1, .getfield 9, 3), (4, .iconst 0, 1), (5, .aload_n 0, 1), (6, .getfield 9, 3), (9, .iconst 0, 1), (10, .iload_n 2, 1), (11, .iconst 4, 1), (12, .imul, 1), (13, .invokestatic 39, 3), (16, .aload_n 0, 1), (17, .iload_n 2, 1), (18, .aload_n 3, 1), (19, .getfield 22, 3), (22, .iadd, 1), (23, .iload 4, 2), (25, .isub, 1), (26, .bipush 6, 2), (28, .invokestatic 45, 3), (31, .putfield 22, 3), (34, .aload_n 3, 1), (35, .getfield 9, 3), (38, .iload 4, 2), (40, .iconst 4, 1), (41, .imul, 1), (42, .aload_n 0, 1), (43, .getfield 9, 3), (46, .iload_n 2, 1), (47, .iconst 4, 1), (48, .imul, 1), (49, .aload_n 0, 1), (50, .getfield 22, 3), (53, .iload_n 2, 1), (54, .isub, 1), (55, .iconst 4, 1), (56, .imul, 1), (57, .invokestatic 39, 3), (60, .iload_n 2, 1), (61, .istore 5, 2), (63, .iload 5, 2), (65, .aload_n 0, 1), (66, .getfield 22, 3), (69, .if_icmp .ge 47, 3), (72, .aload_n 0, 1), (73, .iload 5, 2), (75, .iconst 3, 1), (76, .invokevirtual 51, 3), (79, .istore 6, 2), (81, .aload_n 0, 1), (82, .getfield 9, 3), (85, .iload 5, 2), (87, .iconst 4, 1), (88, .imul, 1), (89, .iconst 3, 1), (90, .iadd, 1), (91, .iload 6, 2), (93, .iload 4, 2), (95, .if_icmp .ge 7, 3), (98, .iconst (-1), 1), (99, .goto 10, 3), (102, .iload 6, 2), (104, .iload 4, 2), (106, .isub, 1), (107, .iload_n 2, 1), (108, .iadd, 1), (109, .iastore, 1), (110, .iinc 5 1, 3), (113, .goto (-50), 3), (116, .return_, 1)]
set_option maxRecDepth 100000 in
theorem xD_72 : XDec 72 xI_72 := XDec.of (by decide +kernel)
/-- BranchGoals$Draws.change(LBranchGoals$Case;)V -/
def xI_73 : List (Nat × Instr × Nat) := [(0, .aload_n 0, 1), (1, .iconst 3, 1), (2, .invokevirtual 46, 3), (5, .istore_n 2, 1), (6, .iload_n 2, 1), (7, .ifCond .ne 37, 3), (10, .aload_n 1, 1), (11, .getfield 60, 3), (14, .bipush 6, 2), (16, .if_icmp .ge 69, 3), (19, .aload_n 0, 1), (20, .aload_n 1, 1), (21, .getfield 60, 3), (24, .iconst 1, 1), (25, .iadd, 1), (26, .invokevirtual 46, 3), (29, .istore_n 3, 1), (30, .aload_n 1, 1), (31, .iload_n 3, 1), (32, .invokevirtual 67, 3), (35, .aload_n 0, 1), (36, .aload_n 1, 1), (37, .iload_n 3, 1), (38, .invokevirtual 63, 3), (41, .goto 44, 3), (44, .iload_n 2, 1), (45, .iconst 1, 1), (46, .if_icmp .ne 26, 3), (49, .aload_n 1, 1), (50, .getfield 60, 3), (53, .iconst 1, 1), (54, .if_icmp .le 31, 3), (57, .aload_n 1, 1), (58, .aload_n 0, 1), (59, .aload_n 1, 1), (60, .getfield 60, 3), (63, .invokevirtual 46, 3), (66, .invokevirtual 71, 3), (69, .goto 16, 3), (72, .aload_n 0, 1), (73, .aload_n 1, 1), (74, .aload_n 0, 1), (75, .aload_n 1, 1), (76, .getfield 60, 3), (79, .invokevirtual 46, 3), (82, .invokevirtual 74, 3), (85, .return_, 1)]
set_option maxRecDepth 100000 in
theorem xD_73 : XDec 73 xI_73 := XDec.of (by decide +kernel)
/-- BranchGoals$Case.makeRoom(I)V -/
def xI_74 : List (Nat × Instr × Nat) := [(0, .aload_n 0, 1), (1, .getfield 9, 3), (4, .iload_n 1, 1), (5, .iconst 4, 1), (6, .imul, 1), (7, .aload_n 0, 1), (8, .getfield 9, 3), (11, .iload_n 1, 1), (12, .iconst 1, 1), (13, .iadd, 1), (14, .iconst 4, 1), (15, .imul, 1), (16, .aload_n 0, 1), (17, .getfield 22, 3), (20, .iload_n 1, 1), (21, .isub, 1), (22, .iconst 4, 1), (23, .imul, 1), (24, .invokestatic 39, 3), (27, .aload_n 0, 1), (28, .dup, 1), (29, .getfield 22, 3), (32, .iconst 1, 1), (33, .iadd, 1), (34, .putfield 22, 3), (37, .iload_n 1, 1), (38, .iconst 1, 1), (39, .iadd, 1), (40, .istore_n 2, 1), (41, .iload_n 2, 1), (42, .aload_n 0, 1), (43, .getfield 22, 3), (46, .if_icmp .ge 33, 3), (49, .aload_n 0, 1), (50, .iload_n 2, 1), (51, .iconst 3, 1), (52, .invokevirtual 51, 3), (55, .iload_n 1, 1), (56, .if_icmp .lt 17, 3), (59, .aload_n 0, 1), (60, .getfield 9, 3), (63, .iload_n 2, 1), (64, .iconst 4, 1), (65, .imul, 1), (66, .iconst 3, 1), (67, .iadd, 1), (68, .dup2, 1), (69, .iaload, 1), (70, .iconst 1, 1), (71, .iadd, 1), (72, .iastore, 1), (73, .iinc 2 1, 3), (76, .goto (-35), 3), (79, .return_, 1)]
set_option maxRecDepth 100000 in
theorem xD_74 : XDec 74 xI_74 := XDec.of (by decide +kernel)
/-- BranchGoals$Case.takeOut(I)V -/
def xI_75 : List (Nat × Instr × Nat) := [(0, .aload_n 0, 1), (1, .dup, 1), (2, .getfield 22, 3), (5, .iconst 1, 1), (6, .isub, 1), (7, .putfield 22, 3), (10, .aload_n 0, 1), (11, .getfield 9, 3), (14, .iload_n 1, 1), (15, .iconst 1, 1), (16, .iadd, 1), (17, .iconst 4, 1), (18, .imul, 1), (19, .aload_n 0, 1), (20, .getfield 9, 3), (23, .iload_n 1, 1), (24, .iconst 4, 1), (25, .imul, 1), (26, .aload_n 0, 1), (27, .getfield 22, 3), (30, .iload_n 1, 1), (31, .isub, 1), (32, .iconst 4, 1), (33, .imul, 1), (34, .invokestatic 39, 3), (37, .iload_n 1, 1), (38, .istore_n 2, 1), (39, .iload_n 2, 1), (40, .aload_n 0, 1), (41, .getfield 22, 3), (44, .if_icmp .ge 53, 3), (47, .aload_n 0, 1), (48, .iload_n 2, 1), (49, .iconst 3, 1), (50, .invokevirtual 51, 3), (53, .istore_n 3, 1), (54, .iload_n 3, 1), (55, .iload_n 1, 1), (56, .if_icmp .ne 17, 3), (59, .aload_n 0, 1), (60, .getfield 9, 3), (63, .iload_n 2, 1), (64, .iconst 4, 1), (65, .imul, 1), (66, .iconst 3, 1), (67, .iadd, 1), (68, .iconst (-1), 1), (69, .iastore, 1), (70, .goto 21, 3), (73, .iload_n 3, 1), (74, .iload_n 1, 1), (75, .if_icmp .le 16, 3), (78, .aload_n 0, 1), (79, .getfield 9, 3), (82, .iload_n 2, 1), (83, .iconst 4, 1), (84, .imul, 1), (85, .iconst 3, 1), (86, .iadd, 1), (87, .iload_n 3, 1), (88, .iconst 1, 1), (89, .isub, 1), (90, .iastore, 1), (91, .iinc 2 1, 3), (94, .goto (-55), 3), (97, .return_, 1)]
set_option maxRecDepth 100000 in
theorem xD_75 : XDec 75 xI_75 := XDec.of (by decide +kernel)
/-- BranchGoals$Draws.changeStep(LBranchGoals$Case;I)V -/
def xI_76 : List (Nat × Instr × Nat) := [(0, .aload_n 0, 1), (1, .iconst 3, 1), (2, .invokevirtual 46, 3), (5, .istore_n 3, 1), (6, .iload_n 2, 1), (7, .iconst 4, 1), (8, .imul, 1), (9, .istore 4, 2), (11, .iload_n 3, 1), (12, .ifCond .ne 19, 3), (15, .aload_n 1, 1), (16, .getfield 77, 3), (19, .iload 4, 2), (21, .iconst 1, 1), (22, .iadd, 1), (23, .aload_n 0, 1), (24, .invokevirtual 50, 3), (27, .iastore, 1), (28, .goto 69, 3), (31, .iload_n 3, 1), (32, .iconst 1, 1), (33, .if_icmp .ne 26, 3), (36, .aload_n 1, 1), (37, .getfield 77, 3), (40, .iload 4, 2), (42, .iconst 1, 1), (43, .iadd, 1), (44, .dup2, 1), (45, .iaload, 1), (46, .aload_n 0, 1), (47, .bipush 9, 2), (49, .invokevirtual 46, 3), (52, .iconst 4, 1), (53, .isub, 1), (54, .iadd, 1), (55, .iastore, 1), (56, .goto 41, 3), (59, .aload_n 1, 1), (60, .getfield 77, 3), (63, .iload 4, 2), (65, .iconst 0, 1), (66, .iadd, 1), (67, .iaload, 1), (68, .invokestatic 80, 3), (71, .ifCond .eq 26, 3), (74, .aload_n 1, 1), (75, .getfield 77, 3), (78, .iload 4, 2), (80, .iconst 3, 1), (81, .iadd, 1), (82, .iconst (-1), 1), (83, .iastore, 1), (84, .aload_n 1, 1), (85, .getfield 77, 3), (88, .iload 4, 2), (90, .iconst 2, 1), (91, .iadd, 1), (92, .aload_n 0, 1), (93, .invokevirtual 50, 3), (96, .iastore, 1), (97, .return_, 1)]
set_option maxRecDepth 100000 in
theorem xD_76 : XDec 76 xI_76 := XDec.of (by decide +kernel)
/-- java/lang/Integer.bitCount(I)I -/
def xI_77 : List (Nat × Instr × Nat) := [(0, .iload_n 0, 1), (1, .iload_n 0, 1), (2, .iconst 1, 1), (3, .iushr, 1), (4, .ldc_w 265, 3), (7, .iand, 1), (8, .isub, 1), (9, .istore_n 0, 1), (10, .iload_n 0, 1), (11, .ldc_w 266, 3), (14, .iand, 1), (15, .iload_n 0, 1), (16, .iconst 2, 1), (17, .iushr, 1), (18, .ldc_w 266, 3), (21, .iand, 1), (22, .iadd, 1), (23, .istore_n 0, 1), (24, .iload_n 0, 1), (25, .iload_n 0, 1), (26, .iconst 4, 1), (27, .iushr, 1), (28, .iadd, 1), (29, .ldc_w 267, 3), (32, .iand, 1), (33, .istore_n 0, 1), (34, .iload_n 0, 1), (35, .iload_n 0, 1), (36, .bipush 8, 2), (38, .iushr, 1), (39, .iadd, 1), (40, .istore_n 0, 1), (41, .iload_n 0, 1), (42, .iload_n 0, 1), (43, .bipush 16, 2), (45, .iushr, 1), (46, .iadd, 1), (47, .istore_n 0, 1), (48, .iload_n 0, 1), (49, .bipush 63, 2), (51, .iand, 1), (52, .ireturn, 1)]
set_option maxRecDepth 100000 in
theorem xD_77 : XDec 77 xI_77 := XDec.of (by decide +kernel)
/-- BranchGoals.finish()I -/
def xI_78 : List (Nat × Instr × Nat) := [(0, .aload_n 0, 1), (1, .getfield 63, 3), (4, .ifCond .ne 5, 3), (7, .iconst (-1), 1), (8, .ireturn, 1), (9, .aload_n 0, 1), (10, .getfield 49, 3), (13, .invokevirtual 161, 3), (16, .iconst 0, 1), (17, .istore_n 1, 1), (18, .iload_n 1, 1), (19, .aload_n 0, 1), (20, .getfield 12, 3), (23, .invokevirtual 110, 3), (26, .if_icmp .ge 62, 3), (29, .aload_n 0, 1), (30, .getfield 35, 3), (33, .getfield 99, 3), (36, .iload_n 1, 1), (37, .invokestatic 124, 3), (40, .ifCond .eq 42, 3), (43, .aload_n 0, 1), (44, .getfield 49, 3), (47, .invokevirtual 164, 3), (50, .iload_n 1, 1), (51, .invokestatic 124, 3), (54, .ifCond .ne 28, 3), (57, .aload_n 0, 1), (58, .getfield 49, 3), (61, .aload_n 0, 1), (62, .getfield 35, 3), (65, .getfield 166, 3), (68, .iload_n 1, 1), (69, .aaload, 1), (70, .iload_n 1, 1), (71, .aload_n 0, 1), (72, .getfield 28, 3), (75, .aload_n 0, 1), (76, .getfield 12, 3), (79, .invokevirtual 170, 3), (82, .iinc 1 1, 3), (85, .goto (-67), 3), (88, .aload_n 0, 1), (89, .getfield 49, 3), (92, .invokevirtual 174, 3), (95, .aload_n 0, 1), (96, .getfield 49, 3), (99, .getfield 177, 3), (102, .ireturn, 1)]
set_option maxRecDepth 100000 in
theorem xD_78 : XDec 78 xI_78 := XDec.of (by decide +kernel)
/-- BranchGoals$Suite.clear()V -/
def xI_79 : List (Nat × Instr × Nat) := [(0, .aload_n 0, 1), (1, .iconst 0, 1), (2, .putfield 26, 3), (5, .return_, 1)]
set_option maxRecDepth 100000 in
theorem xD_79 : XDec 79 xI_79 := XDec.of (by decide +kernel)
/-- BranchGoals$Suite.goals()I -/
def xI_80 : List (Nat × Instr × Nat) := [(0, .aload_n 0, 1), (1, .iconst 0, 1), (2, .aload_n 0, 1), (3, .getfield 26, 3), (6, .invokevirtual 30, 3), (9, .ireturn, 1)]
set_option maxRecDepth 100000 in
theorem xD_80 : XDec 80 xI_80 := XDec.of (by decide +kernel)
/-- BranchGoals$Suite.goalsOf(II)I -/
def xI_81 : List (Nat × Instr × Nat) := [(0, .iconst 0, 1), (1, .istore_n 3, 1), (2, .iload_n 1, 1), (3, .istore 4, 2), (5, .iload 4, 2), (7, .iload_n 2, 1), (8, .if_icmp .ge 22, 3), (11, .iload_n 3, 1), (12, .aload_n 0, 1), (13, .getfield 13, 3), (16, .iload 4, 2), (18, .aaload, 1), (19, .getfield 34, 3), (22, .ior, 1), (23, .istore_n 3, 1), (24, .iinc 4 1, 3), (27, .goto (-22), 3), (30, .iload_n 3, 1), (31, .ireturn, 1)]
set_option maxRecDepth 100000 in
theorem xD_81 : XDec 81 xI_81 := XDec.of (by decide +kernel)
/-- BranchGoals$Suite.appendCut(LBranchGoals$Case;ILBranchGoals$Runner;LBranchGoals$Program;)V -/
def xI_82 : List (Nat × Instr × Nat) := [(0, .aload_n 0, 1), (1, .getfield 13, 3), (4, .aload_n 0, 1), (5, .getfield 26, 3), (8, .aaload, 1), (9, .astore 5, 2), (11, .aload 5, 2), (13, .aload_n 1, 1), (14, .invokevirtual 37, 3), (17, .aload_n 1, 1), (18, .getfield 41, 3), (21, .iconst 1, 1), (22, .isub, 1), (23, .istore 6, 2), (25, .iload 6, 2), (27, .ifCond .lt 79, 3), (30, .aload 5, 2), (32, .getfield 41, 3), (35, .iconst 1, 1), (36, .if_icmp .le 64, 3), (39, .aload 5, 2), (41, .iload 6, 2), (43, .invokevirtual 44, 3), (46, .ifCond .ne 54, 3), (49, .aload_n 0, 1), (50, .getfield 22, 3), (53, .aload 5, 2), (55, .invokevirtual 48, 3), (58, .aload_n 0, 1), (59, .getfield 22, 3), (62, .iload 6, 2), (64, .invokevirtual 51, 3), (67, .aload_n 3, 1), (68, .aload_n 0, 1), (69, .getfield 22, 3), (72, .aload 4, 2), (74, .invokevirtual 55, 3), (77, .aload_n 0, 1), (78, .getfield 22, 3), (81, .getfield 34, 3), (84, .iload_n 2, 1), (85, .invokestatic 61, 3), (88, .ifCond .eq 12, 3), (91, .aload 5, 2), (93, .aload_n 0, 1), (94, .getfield 22, 3), (97, .invokevirtual 37, 3), (100, .iinc 6 (-1), 3), (103, .goto (-78), 3), (106, .aload_n 0, 1), (107, .dup, 1), (108, .getfield 26, 3), (111, .iconst 1, 1), (112, .iadd, 1), (113, .putfield 26, 3), (116, .return_, 1)]
set_option maxRecDepth 100000 in
theorem xD_82 : XDec 82 xI_82 := XDec.of (by decide +kernel)
/-- BranchGoals$Case.isReferredTo(I)Z -/
def xI_83 : List (Nat × Instr × Nat) := [(0, .iload_n 1, 1), (1, .iconst 1, 1), (2, .iadd, 1), (3, .istore_n 2, 1), (4, .iload_n 2, 1), (5, .aload_n 0, 1), (6, .getfield 22, 3), (9, .if_icmp .ge 21, 3), (12, .aload_n 0, 1), (13, .iload_n 2, 1), (14, .iconst 3, 1), (15, .invokevirtual 51, 3), (18, .iload_n 1, 1), (19, .if_icmp .ne 5, 3), (22, .iconst 1, 1), (23, .ireturn, 1), (24, .iinc 2 1, 3), (27, .goto (-23), 3), (30, .iconst 0, 1), (31, .ireturn, 1)]
set_option maxRecDepth 100000 in
theorem xD_83 : XDec 83 xI_83 := XDec.of (by decide +kernel)
/-- BranchGoals$Suite.dropNeedless()V -/
def xI_84 : List (Nat × Instr × Nat) := [(0, .iconst 0, 1), (1, .istore_n 1, 1), (2, .iconst 0, 1), (3, .istore_n 2, 1), (4, .iload_n 2, 1), (5, .aload_n 0, 1), (6, .getfield 26, 3), (9, .if_icmp .ge 75, 3), (12, .aload_n 0, 1), (13, .iconst 0, 1), (14, .iload_n 1, 1), (15, .invokevirtual 30, 3), (18, .aload_n 0, 1), (19, .iload_n 2, 1), (20, .iconst 1, 1), (21, .iadd, 1), (22, .aload_n 0, 1), (23, .getfield 26, 3), (26, .invokevirtual 30, 3), (29, .ior, 1), (30, .istore_n 3, 1), (31, .aload_n 0, 1), (32, .getfield 13, 3), (35, .iload_n 2, 1), (36, .aaload, 1), (37, .getfield 34, 3), (40, .iload_n 3, 1), (41, .iconst (-1), 1), (42, .ixor, 1), (43, .iand, 1), (44, .ifCond .eq 34, 3), (47, .aload_n 0, 1), (48, .getfield 13, 3), (51, .iload_n 1, 1), (52, .aaload, 1), (53, .astore 4, 2), (55, .aload_n 0, 1), (56, .getfield 13, 3), (59, .iload_n 1, 1), (60, .aload_n 0, 1), (61, .getfield 13, 3), (64, .iload_n 2, 1), (65, .aaload, 1), (66, .aastore, 1), (67, .aload_n 0, 1), (68, .getfield 13, 3), (71, .iload_n 2, 1), (72, .aload 4, 2), (74, .aastore, 1), (75, .iinc 1 1, 3), (78, .iinc 2 1, 3), (81, .goto (-77), 3), (84, .aload_n 0, 1), (85, .iload_n 1, 1), (86, .putfield 26, 3), (89, .return_, 1)]
set_option maxRecDepth 100000 in
theorem xD_84 : XDec 84 xI_84 := XDec.of (by decide +kernel)
/-- BranchGoals.found()I -/
def xI_85 : List (Nat × Instr × Nat) := [(0, .aload_n 0, 1), (1, .getfield 35, 3), (4, .getfield 99, 3), (7, .ireturn, 1)]
set_option maxRecDepth 100000 in
theorem xD_85 : XDec 85 xI_85 := XDec.of (by decide +kernel)
/-- BranchGoals.active()I -/
def xI_86 : List (Nat × Instr × Nat) := [(0, .aload_n 0, 1), (1, .getfield 63, 3), (4, .ifCond .eq 20, 3), (7, .aload_n 0, 1), (8, .getfield 12, 3), (11, .aload_n 0, 1), (12, .getfield 35, 3), (15, .getfield 99, 3), (18, .invokevirtual 103, 3), (21, .goto 4, 3), (24, .iconst 0, 1), (25, .ireturn, 1)]
set_option maxRecDepth 100000 in
theorem xD_86 : XDec 86 xI_86 := XDec.of (by decide +kernel)
/-- BranchGoals.reported()I -/
def xI_87 : List (Nat × Instr × Nat) := [(0, .aload_n 0, 1), (1, .getfield 49, 3), (4, .invokevirtual 164, 3), (7, .ireturn, 1)]
set_option maxRecDepth 100000 in
theorem xD_87 : XDec 87 xI_87 := XDec.of (by decide +kernel)
/-- BranchGoals.length(I)I -/
def xI_88 : List (Nat × Instr × Nat) := [(0, .aload_n 0, 1), (1, .iload_n 1, 1), (2, .invokevirtual 180, 3), (5, .astore_n 2, 1), (6, .aload_n 2, 1), (7, .ifnonnull 7, 3), (10, .iconst 0, 1), (11, .goto 7, 3), (14, .aload_n 2, 1), (15, .getfield 128, 3), (18, .ireturn, 1)]
set_option maxRecDepth 100000 in
theorem xD_88 : XDec 88 xI_88 := XDec.of (by decide +kernel)
/-- BranchGoals.caseNamed(I)LBranchGoals$Case; -/
def xI_89 : List (Nat × Instr × Nat) := [(0, .iload_n 1, 1), (1, .iconst (-1), 1), (2, .if_icmp .ne 22, 3), (5, .aload_n 0, 1), (6, .getfield 60, 3), (9, .getfield 128, 3), (12, .ifCond .ne 7, 3), (15, .aconst_null, 1), (16, .goto 7, 3), (19, .aload_n 0, 1), (20, .getfield 60, 3), (23, .areturn, 1), (24, .iload_n 1, 1), (25, .ifCond .lt 24, 3), (28, .iload_n 1, 1), (29, .aload_n 0, 1), (30, .getfield 42, 3), (33, .getfield 215, 3), (36, .if_icmp .ge 13, 3), (39, .aload_n 0, 1), (40, .getfield 42, 3), (43, .getfield 216, 3), (46, .iload_n 1, 1), (47, .aaload, 1), (48, .areturn, 1), (49, .iload_n 1, 1), (50, .bipush 100, 2), (52, .if_icmp .lt 42, 3), (55, .iload_n 1, 1), (56, .bipush 124, 2), (58, .if_icmp .ge 36, 3), (61, .iload_n 1, 1), (62, .bipush 100, 2), (64, .isub, 1), (65, .istore_n 2, 1), (66, .aload_n 0, 1), (67, .getfield 35, 3), (70, .getfield 99, 3), (73, .iload_n 2, 1), (74, .invokestatic 124, 3), (77, .ifCond .eq 15, 3), (80, .aload_n 0, 1), (81, .getfield 35, 3), (84, .getfield 166, 3), (87, .iload_n 2, 1), (88, .aaload, 1), (89, .goto 4, 3), (92, .aconst_null, 1), (93, .areturn, 1), (94, .iload_n 1, 1), (95, .sipush 200, 3), (98, .if_icmp .lt 32, 3), (101, .iload_n 1, 1), (102, .sipush 200, 3), (105, .aload_n 0, 1), (106, .getfield 49, 3), (109, .getfield 177, 3), (112, .iadd, 1), (113, .if_icmp .ge 17, 3), (116, .aload_n 0, 1), (117, .getfield 49, 3), (120, .getfield 224, 3), (123, .iload_n 1, 1), (124, .sipush 200, 3), (127, .isub, 1), (128, .aaload, 1), (129, .areturn, 1), (130, .aconst_null, 1), (131, .areturn, 1)]
set_option maxRecDepth 100000 in
theorem xD_89 : XDec 89 xI_89 := XDec.of (by decide +kernel)
/-- BranchGoals.step(III)I -/
def xI_90 : List (Nat × Instr × Nat) := [(0, .aload_n 0, 1), (1, .iload_n 1, 1), (2, .invokevirtual 180, 3), (5, .astore 4, 2), (7, .aload 4, 2), (9, .ifnull 21, 3), (12, .aload 4, 2), (14, .iload_n 2, 1), (15, .invokevirtual 183, 3), (18, .ifCond .eq 12, 3), (21, .iload_n 3, 1), (22, .ifCond .lt 8, 3), (25, .iload_n 3, 1), (26, .iconst 4, 1), (27, .if_icmp .lt 5, 3), (30, .iconst 0, 1), (31, .ireturn, 1), (32, .aload 4, 2), (34, .iload_n 2, 1), (35, .iload_n 3, 1), (36, .invokevirtual 186, 3), (39, .ireturn, 1)]
set_option maxRecDepth 100000 in
theorem xD_90 : XDec 90 xI_90 := XDec.of (by decide +kernel)
/-- BranchGoals$Case.hasStep(I)Z -/
def xI_91 : List (Nat × Instr × Nat) := [(0, .iload_n 1, 1), (1, .ifCond .lt 15, 3), (4, .iload_n 1, 1), (5, .aload_n 0, 1), (6, .getfield 22, 3), (9, .if_icmp .ge 7, 3), (12, .iconst 1, 1), (13, .goto 4, 3), (16, .iconst 0, 1), (17, .ireturn, 1)]
set_option maxRecDepth 100000 in
theorem xD_91 : XDec 91 xI_91 := XDec.of (by decide +kernel)
/-- BranchGoals.covers(I)I -/
def xI_92 : List (Nat × Instr × Nat) := [(0, .aload_n 0, 1), (1, .iload_n 1, 1), (2, .invokevirtual 180, 3), (5, .astore_n 2, 1), (6, .aload_n 2, 1), (7, .ifnonnull 7, 3), (10, .iconst 0, 1), (11, .goto 7, 3), (14, .aload_n 2, 1), (15, .getfield 141, 3), (18, .ireturn, 1)]
set_option maxRecDepth 100000 in
theorem xD_92 : XDec 92 xI_92 := XDec.of (by decide +kernel)
/-- BranchGoals.fitness(II)J -/
def xI_93 : List (Nat × Instr × Nat) := [(0, .aload_n 0, 1), (1, .iload_n 1, 1), (2, .invokevirtual 180, 3), (5, .astore_n 3, 1), (6, .aload_n 3, 1), (7, .ifnull 11, 3), (10, .aload_n 0, 1), (11, .iload_n 2, 1), (12, .invokevirtual 117, 3), (15, .ifCond .ne 9, 3), (18, .ldc2_w 190, 3), (21, .goto 9, 3), (24, .aload_n 3, 1), (25, .getfield 192, 3), (28, .iload_n 2, 1), (29, .laload, 1), (30, .lreturn, 1)]
set_option maxRecDepth 100000 in
theorem xD_93 : XDec 93 xI_93 := XDec.of (by decide +kernel)
/-- BranchGoals.result(II)J -/
def xI_94 : List (Nat × Instr × Nat) := [(0, .aload_n 0, 1), (1, .iload_n 1, 1), (2, .invokevirtual 180, 3), (5, .astore_n 3, 1), (6, .aload_n 3, 1), (7, .ifnull 11, 3), (10, .aload_n 3, 1), (11, .iload_n 2, 1), (12, .invokevirtual 183, 3), (15, .ifCond .ne 9, 3), (18, .ldc2_w 196, 3), (21, .goto 9, 3), (24, .aload_n 3, 1), (25, .getfield 198, 3), (28, .iload_n 2, 1), (29, .laload, 1), (30, .lreturn, 1)]
set_option maxRecDepth 100000 in
theorem xD_94 : XDec 94 xI_94 := XDec.of (by decide +kernel)
/-- BranchGoals.runs()I -/
def xI_95 : List (Nat × Instr × Nat) := [(0, .aload_n 0, 1), (1, .getfield 28, 3), (4, .getfield 201, 3), (7, .ireturn, 1)]
set_option maxRecDepth 100000 in
theorem xD_95 : XDec 95 xI_95 := XDec.of (by decide +kernel)
/-- BranchGoals.state()J -/
def xI_96 : List (Nat × Instr × Nat) := [(0, .aload_n 0, 1), (1, .getfield 21, 3), (4, .getfield 204, 3), (7, .lreturn, 1)]
set_option maxRecDepth 100000 in
theorem xD_96 : XDec 96 xI_96 := XDec.of (by decide +kernel)
/-- BranchGoalsLaw.cell([II)I -/
def xI_97 : List (Nat × Instr × Nat) := [(0, .iload_n 1, 1), (1, .aload_n 0, 1), (2, .arraylength, 1), (3, .if_icmp .ge 9, 3), (6, .aload_n 0, 1), (7, .iload_n 1, 1), (8, .iaload, 1), (9, .goto 4, 3), (12, .iconst 0, 1), (13, .ireturn, 1)]
set_option maxRecDepth 100000 in
theorem xD_97 : XDec 97 xI_97 := XDec.of (by decide +kernel)
/-- BranchGoalsModel.<init>(I)V -/
def xI_98 : List (Nat × Instr × Nat) := [(0, .aload_n 0, 1), (1, .invokespecial 1, 3), (4, .aload_n 0, 1), (5, .sipush 1608, 3), (8, .newarray .int, 2), (10, .putfield 7, 3), (13, .aload_n 0, 1), (14, .bipush 67, 2), (16, .newarray .int, 2), (18, .putfield 13, 3), (21, .aload_n 0, 1), (22, .bipush 80, 2), (24, .newarray .int, 2), (26, .putfield 16, 3), (29, .aload_n 0, 1), (30, .iconst 2, 1), (31, .newarray .int, 2), (33, .putfield 19, 3), (36, .aload_n 0, 1), (37, .iconst 2, 1), (38, .newarray .boolean, 2), (40, .putfield 22, 3), (43, .aload_n 0, 1), (44, .bipush 12, 2), (46, .newarray .int, 2), (48, .putfield 26, 3), (51, .aload_n 0, 1), (52, .bipush 12, 2), (54, .newarray .int, 2), (56, .putfield 29, 3), (59, .aload_n 0, 1), (60, .bipush 12, 2), (62, .newarray .int, 2), (64, .putfield 32, 3), (67, .aload_n 0, 1), (68, .bipush 12, 2), (70, .newarray .boolean, 2), (72, .putfield 35, 3), (75, .aload_n 0, 1), (76, .bipush 8, 2), (78, .newarray .int, 2), (80, .putfield 38, 3), (83, .aload_n 0, 1), (84, .bipush 6, 2), (86, .newarray .long, 2), (88, .putfield 41, 3), (91, .aload_n 0, 1), (92, .bipush 24, 2), (94, .newarray .long, 2), (96, .putfield 45, 3), (99, .aload_n 0, 1), (100, .sipush 168, 3), (103, .newarray .long, 2), (105, .putfield 48, 3), (108, .aload_n 0, 1), (109, .bipush 7, 2), (111, .newarray .int, 2), (113, .putfield 51, 3), (116, .aload_n 0, 1), (117, .bipush 7, 2), (119, .newarray .int, 2), (121, .putfield 54, 3), (124, .aload_n 0, 1), (125, .bipush 24, 2), (127, .newarray .int, 2), (129, .putfield 57, 3), (132, .aload_n 0, 1), (133, .iload_n 1, 1), (134, .i2l, 1), (135, .ldc2_w 60, 3), (138, .lxor, 1), (139, .ldc2_w 62, 3), (142, .land, 1), (143, .putfield 64, 3), (146, .return_, 1)]
set_option maxRecDepth 100000 in
theorem xD_98 : XDec 98 xI_98 := XDec.of (by decide +kernel)
/-- BranchGoalsModel.line(IIIII)Z -/
def xI_99 : List (Nat × Instr × Nat) := [(0, .aload_n 0, 1), (1, .getfield 71, 3), (4, .ifCond .ne 33, 3), (7, .iload_n 1, 1), (8, .iconst 0, 1), (9, .iconst 1, 1), (10, .invokestatic 75, 3), (13, .ifCond .eq 24, 3), (16, .iload_n 2, 1), (17, .iconst 0, 1), (18, .bipush 9, 2), (20, .invokestatic 75, 3), (23, .ifCond .eq 14, 3), (26, .aload_n 0, 1), (27, .getfield 19, 3), (30, .iload_n 1, 1), (31, .iaload, 1), (32, .bipush 10, 2), (34, .if_icmp .ne 5, 3), (37, .iconst 0, 1), (38, .ireturn, 1), (39, .iload_n 2, 1), (40, .bipush 6, 2), (42, .if_icmp .le 9, 3), (45, .iload_n 2, 1), (46, .bipush 8, 2), (48, .if_icmp .ne 7, 3), (51, .iconst 1, 1), (52, .goto 4, 3), (55, .iconst 0, 1), (56, .istore 6, 2), (58, .iload_n 2, 1), (59, .iconst 1, 1), (60, .if_icmp .lt 13, 3), (63, .iload_n 2, 1), (64, .bipush 6, 2), (66, .if_icmp .gt 7, 3), (69, .iconst 1, 1), (70, .goto 4, 3), (73, .iconst 0, 1), (74, .istore 7, 2), (76, .iload_n 2, 1), (77, .iconst 1, 1), (78, .if_icmp .lt 12, 3), (81, .iload_n 2, 1), (82, .iconst 4, 1), (83, .if_icmp .gt 7, 3), (86, .iconst 1, 1), (87, .goto 4, 3), (90, .iconst 0, 1), (91, .istore 8, 2), (93, .iload_n 2, 1), (94, .iconst 5, 1), (95, .if_icmp .lt 13, 3), (98, .iload_n 2, 1), (99, .bipush 7, 2), (101, .if_icmp .gt 7, 3), (104, .iconst 1, 1), (105, .goto 4, 3), (108, .iconst 0, 1), (109, .istore 9, 2), (111, .iload 6, 2), (113, .ifCond .eq 13, 3), (116, .iload_n 3, 1), (117, .iconst 0, 1), (118, .bipush 7, 2), (120, .invokestatic 75, 3), (123, .ifCond .eq 51, 3), (126, .iload 7, 2), (128, .ifCond .eq 14, 3), (131, .iload 4, 2), (133, .iconst 0, 1), (134, .bipush 7, 2), (136, .invokestatic 75, 3), (139, .ifCond .eq 35, 3), (142, .iload 8, 2), (144, .ifCond .eq 14, 3), (147, .iload 5, 2), (149, .iconst 0, 1), (150, .bipush 7, 2), (152, .invokestatic 75, 3), (155, .ifCond .eq 19, 3), (158, .iload 9, 2), (160, .ifCond .eq 16, 3), (163, .iload 5, 2), (165, .iconst 0, 1), (166, .bipush 10, 2), (168, .invokestatic 75, 3), (171, .ifCond .ne 5, 3), (174, .iconst 0, 1), (175, .ireturn, 1), (176, .iload_n 1, 1), (177, .bipush 40, 2), (179, .imul, 1), (180, .aload_n 0, 1), (181, .getfield 19, 3), (184, .iload_n 1, 1), (185, .iaload, 1), (186, .iconst 4, 1), (187, .imul, 1), (188, .iadd, 1), (189, .istore 10, 2), (191, .aload_n 0, 1), (192, .getfield 16, 3), (195, .iload 10, 2), (197, .iload_n 2, 1), (198, .iastore, 1), (199, .aload_n 0, 1), (200, .getfield 16, 3), (203, .iload 10, 2), (205, .iconst 1, 1), (206, .iadd, 1), (207, .iload_n 3, 1), (208, .iastore, 1), (209, .aload_n 0, 1), (210, .getfield 16, 3), (213, .iload 10, 2), (215, .iconst 2, 1), (216, .iadd, 1), (217, .iload 4, 2), (219, .iastore, 1), (220, .aload_n 0, 1), (221, .getfield 16, 3), (224, .iload 10, 2), (226, .iconst 3, 1), (227, .iadd, 1), (228, .iload 5, 2), (230, .iastore, 1), (231, .aload_n 0, 1), (232, .getfield 19, 3), (235, .iload_n 1, 1), (236, .dup2, 1), (237, .iaload, 1), (238, .iconst 1, 1), (239, .iadd, 1), (240, .iastore, 1), (241, .iconst 1, 1), (242, .ireturn, 1)]
set_option maxRecDepth 100000 in
theorem xD_99 : XDec 99 xI_99 := XDec.of (by decide +kernel)
/-- BranchGoalsModel.within(III)Z -/
def xI_100 : List (Nat × Instr × Nat) := [(0, .iload_n 0, 1), (1, .iload_n 1, 1), (2, .if_icmp .lt 12, 3), (5, .iload_n 0, 1), (6, .iload_n 2, 1), (7, .if_icmp .gt 7, 3), (10, .iconst 1, 1), (11, .goto 4, 3), (14, .iconst 0, 1), (15, .ireturn, 1)]
set_option maxRecDepth 100000 in
theorem xD_100 : XDec 100 xI_100 := XDec.of (by decide +kernel)
/-- BranchGoalsModel.watched(I)Z -/
def xI_101 : List (Nat × Instr × Nat) := [(0, .aload_n 0, 1), (1, .getfield 71, 3), (4, .ifCond .eq 25, 3), (7, .iload_n 1, 1), (8, .iconst 0, 1), (9, .iconst 1, 1), (10, .invokestatic 75, 3), (13, .ifCond .eq 16, 3), (16, .aload_n 0, 1), (17, .getfield 22, 3), (20, .iload_n 1, 1), (21, .baload, 1), (22, .ifCond .eq 7, 3), (25, .iconst 1, 1), (26, .goto 4, 3), (29, .iconst 0, 1), (30, .ireturn, 1)]
set_option maxRecDepth 100000 in
theorem xD_101 : XDec 101 xI_101 := XDec.of (by decide +kernel)
/-- BranchGoalsModel.depends(II)Z -/
def xI_102 : List (Nat × Instr × Nat) := [(0, .aload_n 0, 1), (1, .iload_n 1, 1), (2, .invokevirtual 96, 3), (5, .ifCond .eq 31, 3), (8, .aload_n 0, 1), (9, .iload_n 2, 1), (10, .invokevirtual 96, 3), (13, .ifCond .eq 23, 3), (16, .aload_n 0, 1), (17, .getfield 32, 3), (20, .iload_n 1, 1), (21, .iconst 2, 1), (22, .idiv, 1), (23, .iaload, 1), (24, .iload_n 2, 1), (25, .ishr, 1), (26, .iconst 1, 1), (27, .iand, 1), (28, .iconst 1, 1), (29, .if_icmp .ne 7, 3), (32, .iconst 1, 1), (33, .goto 4, 3), (36, .iconst 0, 1), (37, .ireturn, 1)]
set_option maxRecDepth 100000 in
theorem xD_102 : XDec 102 xI_102 := XDec.of (by decide +kernel)
/-- BranchGoalsModel.goal(I)Z -/
def xI_103 : List (Nat × Instr × Nat) := [(0, .aload_n 0, 1), (1, .getfield 71, 3), (4, .ifCond .eq 21, 3), (7, .iload_n 1, 1), (8, .ifCond .lt 17, 3), (11, .iload_n 1, 1), (12, .iconst 2, 1), (13, .aload_n 0, 1), (14, .getfield 89, 3), (17, .imul, 1), (18, .if_icmp .ge 7, 3), (21, .iconst 1, 1), (22, .goto 4, 3), (25, .iconst 0, 1), (26, .ireturn, 1)]
set_option maxRecDepth 100000 in
theorem xD_103 : XDec 103 xI_103 := XDec.of (by decide +kernel)
/-- BranchGoalsModel.put(IIII)Z -/
def xI_104 : List (Nat × Instr × Nat) := [(0, .aload_n 0, 1), (1, .getfield 13, 3), (4, .bipush 8, 2), (6, .iaload, 1), (7, .istore 5, 2), (9, .iload_n 1, 1), (10, .ifCond .eq 8, 3), (13, .iload_n 1, 1), (14, .iconst 1, 1), (15, .if_icmp .ne 7, 3), (18, .iconst 1, 1), (19, .goto 4, 3), (22, .iconst 0, 1), (23, .istore 6, 2), (25, .iload 5, 2), (27, .bipush 6, 2), (29, .if_icmp .eq 36, 3), (32, .iload 6, 2), (34, .ifCond .ne 13, 3), (37, .iload_n 1, 1), (38, .iconst 4, 1), (39, .bipush 7, 2), (41, .invokestatic 75, 3), (44, .ifCond .eq 21, 3), (47, .iload 6, 2), (49, .ifCond .eq 18, 3), (52, .iload 4, 2), (54, .iconst (-1), 1), (55, .iload 5, 2), (57, .iconst 1, 1), (58, .isub, 1), (59, .invokestatic 75, 3), (62, .ifCond .ne 5, 3), (65, .iconst 0, 1), (66, .ireturn, 1), (67, .aload_n 0, 1), (68, .bipush 8, 2), (70, .iload 5, 2), (72, .iload_n 1, 1), (73, .iload_n 2, 1), (74, .invokevirtual 137, 3), (77, .iload 6, 2), (79, .ifCond .eq 14, 3), (82, .aload_n 0, 1), (83, .bipush 8, 2), (85, .iload 5, 2), (87, .iload_n 3, 1), (88, .iload 4, 2), (90, .invokevirtual 140, 3), (93, .aload_n 0, 1), (94, .getfield 13, 3), (97, .bipush 8, 2), (99, .dup2, 1), (100, .iaload, 1), (101, .iconst 1, 1), (102, .iadd, 1), (103, .iastore, 1), (104, .iconst 1, 1), (105, .ireturn, 1)]
set_option maxRecDepth 100000 in
theorem xD_104 : XDec 104 xI_104 := XDec.of (by decide +kernel)
/-- BranchGoalsModel.write(IIII)V -/
def xI_105 : List (Nat × Instr × Nat) := [(0, .iload_n 1, 1), (1, .bipush 24, 2), (3, .imul, 1), (4, .iload_n 2, 1), (5, .iconst 4, 1), (6, .imul, 1), (7, .iadd, 1), (8, .istore 5, 2), (10, .aload_n 0, 1), (11, .getfield 7, 3), (14, .iload 5, 2), (16, .iload_n 3, 1), (17, .iastore, 1), (18, .aload_n 0, 1), (19, .getfield 7, 3), (22, .iload 5, 2), (24, .iconst 1, 1), (25, .iadd, 1), (26, .iload 4, 2), (28, .iastore, 1), (29, .aload_n 0, 1), (30, .getfield 7, 3), (33, .iload 5, 2), (35, .iconst 2, 1), (36, .iadd, 1), (37, .iconst 0, 1), (38, .iastore, 1), (39, .aload_n 0, 1), (40, .getfield 7, 3), (43, .iload 5, 2), (45, .iconst 3, 1), (46, .iadd, 1), (47, .iconst (-1), 1), (48, .iastore, 1), (49, .return_, 1)]
set_option maxRecDepth 100000 in
theorem xD_105 : XDec 105 xI_105 := XDec.of (by decide +kernel)
/-- BranchGoalsModel.second(IIII)V -/
def xI_106 : List (Nat × Instr × Nat) := [(0, .aload_n 0, 1), (1, .getfield 7, 3), (4, .iload_n 1, 1), (5, .bipush 24, 2), (7, .imul, 1), (8, .iload_n 2, 1), (9, .iconst 4, 1), (10, .imul, 1), (11, .iadd, 1), (12, .iconst 2, 1), (13, .iadd, 1), (14, .iload 4, 2), (16, .ifCond .ge 7, 3), (19, .iload_n 3, 1), (20, .goto 4, 3), (23, .iconst 0, 1), (24, .iastore, 1), (25, .aload_n 0, 1), (26, .getfield 7, 3), (29, .iload_n 1, 1), (30, .bipush 24, 2), (32, .imul, 1), (33, .iload_n 2, 1), (34, .iconst 4, 1), (35, .imul, 1), (36, .iadd, 1), (37, .iconst 3, 1), (38, .iadd, 1), (39, .iload 4, 2), (41, .iastore, 1), (42, .return_, 1)]
set_option maxRecDepth 100000 in
theorem xD_106 : XDec 106 xI_106 := XDec.of (by decide +kernel)
/-- BranchGoalsModel.found()I -/
def xI_107 : List (Nat × Instr × Nat) := [(0, .iconst 0, 1), (1, .istore_n 1, 1), (2, .iconst 0, 1), (3, .istore_n 2, 1), (4, .iload_n 2, 1), (5, .iconst 2, 1), (6, .aload_n 0, 1), (7, .getfield 89, 3), (10, .imul, 1), (11, .if_icmp .ge 31, 3), (14, .aload_n 0, 1), (15, .getfield 13, 3), (18, .bipush 9, 2), (20, .iload_n 2, 1), (21, .iadd, 1), (22, .iaload, 1), (23, .ifCond .le 11, 3), (26, .iload_n 1, 1), (27, .iconst 1, 1), (28, .iload_n 2, 1), (29, .ishl, 1), (30, .ior, 1), (31, .goto 4, 3), (34, .iload_n 1, 1), (35, .istore_n 1, 1), (36, .iinc 2 1, 3), (39, .goto (-35), 3), (42, .iload_n 1, 1), (43, .ireturn, 1)]
set_option maxRecDepth 100000 in
theorem xD_107 : XDec 107 xI_107 := XDec.of (by decide +kernel)
/-- BranchGoalsModel.active()I -/
def xI_108 : List (Nat × Instr × Nat) := [(0, .aload_n 0, 1), (1, .invokevirtual 174, 3), (4, .istore_n 1, 1), (5, .iconst 0, 1), (6, .istore_n 2, 1), (7, .iconst 0, 1), (8, .istore_n 3, 1), (9, .iload_n 3, 1), (10, .iconst 2, 1), (11, .aload_n 0, 1), (12, .getfield 89, 3), (15, .imul, 1), (16, .if_icmp .ge 74, 3), (19, .aload_n 0, 1), (20, .getfield 32, 3), (23, .iload_n 3, 1), (24, .iconst 2, 1), (25, .idiv, 1), (26, .iaload, 1), (27, .ifCond .eq 27, 3), (30, .aload_n 0, 1), (31, .getfield 35, 3), (34, .iload_n 3, 1), (35, .iconst 2, 1), (36, .idiv, 1), (37, .baload, 1), (38, .ifCond .ne 16, 3), (41, .aload_n 0, 1), (42, .getfield 32, 3), (45, .iload_n 3, 1), (46, .iconst 2, 1), (47, .idiv, 1), (48, .iaload, 1), (49, .iload_n 1, 1), (50, .iand, 1), (51, .ifCond .eq 7, 3), (54, .iconst 1, 1), (55, .goto 4, 3), (58, .iconst 0, 1), (59, .istore 4, 2), (61, .iload 4, 2), (63, .ifCond .eq 19, 3), (66, .iload_n 1, 1), (67, .iload_n 3, 1), (68, .ishr, 1), (69, .iconst 1, 1), (70, .iand, 1), (71, .ifCond .ne 11, 3), (74, .iload_n 2, 1), (75, .iconst 1, 1), (76, .iload_n 3, 1), (77, .ishl, 1), (78, .ior, 1), (79, .goto 4, 3), (82, .iload_n 2, 1), (83, .istore_n 2, 1), (84, .iinc 3 1, 3), (87, .goto (-78), 3), (90, .iload_n 2, 1), (91, .ireturn, 1)]
set_option maxRecDepth 100000 in
theorem xD_108 : XDec 108 xI_108 := XDec.of (by decide +kernel)
/-- BranchGoalsModel.start()I -/
def xI_109 : List (Nat × Instr × Nat) := [(0, .aload_n 0, 1), (1, .getfield 71, 3), (4, .ifCond .eq 5, 3), (7, .iconst (-1), 1), (8, .ireturn, 1), (9, .aload_n 0, 1), (10, .iconst 1, 1), (11, .putfield 71, 3), (14, .aload_n 0, 1), (15, .iconst 0, 1), (16, .invokevirtual 204, 3), (19, .aload_n 0, 1), (20, .iconst 1, 1), (21, .invokevirtual 204, 3), (24, .iconst 0, 1), (25, .istore_n 1, 1), (26, .iload_n 1, 1), (27, .aload_n 0, 1), (28, .getfield 89, 3), (31, .if_icmp .ge 14, 3), (34, .aload_n 0, 1), (35, .iload_n 1, 1), (36, .invokevirtual 207, 3), (39, .iinc 1 1, 3), (42, .goto (-16), 3), (45, .aload_n 0, 1), (46, .iconst 0, 1), (47, .invokevirtual 210, 3), (50, .aload_n 0, 1), (51, .iconst 1, 1), (52, .invokevirtual 210, 3), (55, .aload_n 0, 1), (56, .iconst 2, 1), (57, .invokevirtual 213, 3), (60, .iconst 2, 1), (61, .aload_n 0, 1), (62, .getfield 89, 3), (65, .imul, 1), (66, .ireturn, 1)]
set_option maxRecDepth 100000 in
theorem xD_109 : XDec 109 xI_109 := XDec.of (by decide +kernel)
/-- BranchGoalsModel.number(I)V -/
def xI_110 : List (Nat × Instr × Nat) := [(0, .iconst 0, 1), (1, .istore_n 2, 1), (2, .iconst 0, 1), (3, .istore_n 3, 1), (4, .iload_n 3, 1), (5, .aload_n 0, 1), (6, .getfield 19, 3), (9, .iload_n 1, 1), (10, .iaload, 1), (11, .if_icmp .ge 26, 3), (14, .aload_n 0, 1), (15, .iload_n 1, 1), (16, .iload_n 3, 1), (17, .invokevirtual 79, 3), (20, .ifCond .eq 9, 3), (23, .iload_n 2, 1), (24, .iconst 1, 1), (25, .iadd, 1), (26, .goto 4, 3), (29, .iload_n 2, 1), (30, .istore_n 2, 1), (31, .iinc 3 1, 3), (34, .goto (-30), 3), (37, .aload_n 0, 1), (38, .getfield 22, 3), (41, .iload_n 1, 1), (42, .aload_n 0, 1), (43, .getfield 19, 3), (46, .iload_n 1, 1), (47, .iaload, 1), (48, .iconst 2, 1), (49, .iload_n 2, 1), (50, .imul, 1), (51, .iadd, 1), (52, .bipush 20, 2), (54, .if_icmp .gt 7, 3), (57, .iconst 1, 1), (58, .goto 4, 3), (61, .iconst 0, 1), (62, .bastore, 1), (63, .iconst 0, 1), (64, .istore_n 3, 1), (65, .iload_n 3, 1), (66, .aload_n 0, 1), (67, .getfield 19, 3), (70, .iload_n 1, 1), (71, .iaload, 1), (72, .if_icmp .ge 57, 3), (75, .aload_n 0, 1), (76, .getfield 22, 3), (79, .iload_n 1, 1), (80, .baload, 1), (81, .ifCond .eq 48, 3), (84, .aload_n 0, 1), (85, .iload_n 1, 1), (86, .iload_n 3, 1), (87, .invokevirtual 79, 3), (90, .ifCond .eq 33, 3), (93, .aload_n 0, 1), (94, .getfield 26, 3), (97, .aload_n 0, 1), (98, .getfield 89, 3), (101, .iload_n 1, 1), (102, .iastore, 1), (103, .aload_n 0, 1), (104, .getfield 29, 3), (107, .aload_n 0, 1), (108, .getfield 89, 3), (111, .iload_n 3, 1), (112, .iastore, 1), (113, .aload_n 0, 1), (114, .dup, 1), (115, .getfield 89, 3), (118, .iconst 1, 1), (119, .iadd, 1), (120, .putfield 89, 3), (123, .iinc 3 1, 3), (126, .goto (-61), 3), (129, .return_, 1)]
set_option maxRecDepth 100000 in
theorem xD_110 : XDec 110 xI_110 := XDec.of (by decide +kernel)
/-- BranchGoalsModel.branchAt(II)Z -/
def xI_111 : List (Nat × Instr × Nat) := [(0, .aload_n 0, 1), (1, .iload_n 1, 1), (2, .iload_n 2, 1), (3, .iconst 0, 1), (4, .invokevirtual 68, 3), (7, .iconst 5, 1), (8, .if_icmp .eq 15, 3), (11, .aload_n 0, 1), (12, .iload_n 1, 1), (13, .iload_n 2, 1), (14, .iconst 0, 1), (15, .invokevirtual 68, 3), (18, .bipush 6, 2), (20, .if_icmp .ne 7, 3), (23, .iconst 1, 1), (24, .goto 4, 3), (27, .iconst 0, 1), (28, .ireturn, 1)]
set_option maxRecDepth 100000 in
theorem xD_111 : XDec 111 xI_111 := XDec.of (by decide +kernel)
/-- BranchGoalsModel.code(III)I -/
def xI_112 : List (Nat × Instr × Nat) := [(0, .aload_n 0, 1), (1, .getfield 16, 3), (4, .iload_n 1, 1), (5, .bipush 40, 2), (7, .imul, 1), (8, .iload_n 2, 1), (9, .iconst 4, 1), (10, .imul, 1), (11, .iadd, 1), (12, .iload_n 3, 1), (13, .iadd, 1), (14, .iaload, 1), (15, .ireturn, 1)]
set_option maxRecDepth 100000 in
theorem xD_112 : XDec 112 xI_112 := XDec.of (by decide +kernel)
/-- BranchGoalsModel.relate(I)V -/
def xI_113 : List (Nat × Instr × Nat) := [(0, .aload_n 0, 1), (1, .getfield 26, 3), (4, .iload_n 1, 1), (5, .iaload, 1), (6, .istore_n 2, 1), (7, .aload_n 0, 1), (8, .getfield 35, 3), (11, .iload_n 1, 1), (12, .aload_n 0, 1), (13, .iload_n 2, 1), (14, .aload_n 0, 1), (15, .getfield 29, 3), (18, .iload_n 1, 1), (19, .iaload, 1), (20, .iconst 0, 1), (21, .invokevirtual 93, 3), (24, .bastore, 1), (25, .iconst 0, 1), (26, .istore_n 3, 1), (27, .iload_n 3, 1), (28, .iconst 2, 1), (29, .aload_n 0, 1), (30, .getfield 89, 3), (33, .imul, 1), (34, .if_icmp .ge 97, 3), (37, .iload_n 3, 1), (38, .iconst 2, 1), (39, .idiv, 1), (40, .istore 4, 2), (42, .aload_n 0, 1), (43, .getfield 26, 3), (46, .iload 4, 2), (48, .iaload, 1), (49, .iload_n 2, 1), (50, .if_icmp .ne 75, 3), (53, .aload_n 0, 1), (54, .iload_n 2, 1), (55, .aload_n 0, 1), (56, .getfield 29, 3), (59, .iload_n 1, 1), (60, .iaload, 1), (61, .aload_n 0, 1), (62, .iload_n 2, 1), (63, .aload_n 0, 1), (64, .getfield 29, 3), (67, .iload 4, 2), (69, .iaload, 1), (70, .iload_n 3, 1), (71, .iconst 2, 1), (72, .irem, 1), (73, .invokevirtual 83, 3), (76, .invokevirtual 93, 3), (79, .ifCond .eq 46, 3), (82, .iload_n 1, 1), (83, .iload 4, 2), (85, .if_icmp .eq 24, 3), (88, .aload_n 0, 1), (89, .iload_n 2, 1), (90, .aload_n 0, 1), (91, .getfield 29, 3), (94, .iload_n 1, 1), (95, .iaload, 1), (96, .aload_n 0, 1), (97, .getfield 29, 3), (100, .iload 4, 2), (102, .iaload, 1), (103, .invokevirtual 93, 3), (106, .ifCond .ne 19, 3), (109, .aload_n 0, 1), (110, .getfield 32, 3), (113, .iload_n 1, 1), (114, .aload_n 0, 1), (115, .getfield 32, 3), (118, .iload_n 1, 1), (119, .iaload, 1), (120, .iconst 1, 1), (121, .iload_n 3, 1), (122, .ishl, 1), (123, .ior, 1), (124, .iastore, 1), (125, .iinc 3 1, 3), (128, .goto (-101), 3), (131, .return_, 1)]
set_option maxRecDepth 100000 in
theorem xD_113 : XDec 113 xI_113 := XDec.of (by decide +kernel)
/-- BranchGoalsModel.must(III)Z -/
def xI_114 : List (Nat × Instr × Nat) := [(0, .aload_n 0, 1), (1, .iload_n 1, 1), (2, .iload_n 3, 1), (3, .iconst (-1), 1), (4, .invokevirtual 86, 3), (7, .ifCond .eq 17, 3), (10, .aload_n 0, 1), (11, .iload_n 1, 1), (12, .iload_n 3, 1), (13, .iload_n 2, 1), (14, .invokevirtual 86, 3), (17, .ifCond .ne 7, 3), (20, .iconst 1, 1), (21, .goto 4, 3), (24, .iconst 0, 1), (25, .ireturn, 1)]
set_option maxRecDepth 100000 in
theorem xD_114 : XDec 114 xI_114 := XDec.of (by decide +kernel)
/-- BranchGoalsModel.way(III)Z -/
def xI_115 : List (Nat × Instr × Nat) := [(0, .aload_n 0, 1), (1, .getfield 19, 3), (4, .iload_n 1, 1), (5, .iaload, 1), (6, .istore 4, 2), (8, .iload_n 2, 1), (9, .iload_n 3, 1), (10, .if_icmp .ne 7, 3), (13, .iconst 0, 1), (14, .goto 6, 3), (17, .iconst 1, 1), (18, .iload_n 2, 1), (19, .ishl, 1), (20, .istore 5, 2), (22, .iconst 0, 1), (23, .istore 6, 2), (25, .iload 6, 2), (27, .iload 4, 2), (29, .if_icmp .gt 96, 3), (32, .iconst 0, 1), (33, .istore 7, 2), (35, .iload 7, 2), (37, .iload 4, 2), (39, .if_icmp .ge 80, 3), (42, .iload 5, 2), (44, .iload 7, 2), (46, .ishr, 1), (47, .iconst 1, 1), (48, .iand, 1), (49, .iconst 1, 1), (50, .if_icmp .ne 63, 3), (53, .aload_n 0, 1), (54, .iload_n 1, 1), (55, .iload 7, 2), (57, .iconst 0, 1), (58, .invokevirtual 83, 3), (61, .istore 8, 2), (63, .aload_n 0, 1), (64, .iload_n 1, 1), (65, .iload 7, 2), (67, .iconst 1, 1), (68, .invokevirtual 83, 3), (71, .istore 9, 2), (73, .iload 8, 2), (75, .iload_n 3, 1), (76, .if_icmp .ne 8, 3), (79, .iload 5, 2), (81, .goto 10, 3), (84, .iload 5, 2), (86, .iconst 1, 1), (87, .iload 8, 2), (89, .ishl, 1), (90, .ior, 1), (91, .istore 5, 2), (93, .iload 9, 2), (95, .iload_n 3, 1), (96, .if_icmp .ne 8, 3), (99, .iload 5, 2), (101, .goto 10, 3), (104, .iload 5, 2), (106, .iconst 1, 1), (107, .iload 9, 2), (109, .ishl, 1), (110, .ior, 1), (111, .istore 5, 2), (113, .iinc 7 1, 3), (116, .goto (-81), 3), (119, .iinc 6 1, 3), (122, .goto (-97), 3), (125, .iload 5, 2), (127, .iload 4, 2), (129, .ishr, 1), (130, .iconst 1, 1), (131, .iand, 1), (132, .iconst 1, 1), (133, .if_icmp .ne 7, 3), (136, .iconst 1, 1), (137, .goto 4, 3), (140, .iconst 0, 1), (141, .ireturn, 1)]
set_option maxRecDepth 100000 in
theorem xD_115 : XDec 115 xI_115 := XDec.of (by decide +kernel)
/-- BranchGoalsModel.lead(III)I -/
def xI_116 : List (Nat × Instr × Nat) := [(0, .aload_n 0, 1), (1, .iload_n 1, 1), (2, .iload_n 2, 1), (3, .iconst 0, 1), (4, .invokevirtual 68, 3), (7, .istore 4, 2), (9, .iload 4, 2), (11, .bipush 7, 2), (13, .if_icmp .eq 17, 3), (16, .aload_n 0, 1), (17, .iload_n 1, 1), (18, .iload_n 2, 1), (19, .invokevirtual 79, 3), (22, .ifCond .eq 18, 3), (25, .iload_n 3, 1), (26, .iconst 1, 1), (27, .if_icmp .ne 13, 3), (30, .aload_n 0, 1), (31, .iload_n 1, 1), (32, .iload_n 2, 1), (33, .iconst 3, 1), (34, .invokevirtual 68, 3), (37, .goto 18, 3), (40, .iload 4, 2), (42, .bipush 8, 2), (44, .if_icmp .lt 8, 3), (47, .bipush 10, 2), (49, .goto 6, 3), (52, .iload_n 2, 1), (53, .iconst 1, 1), (54, .iadd, 1), (55, .istore 5, 2), (57, .iload 5, 2), (59, .aload_n 0, 1), (60, .getfield 19, 3), (63, .iload_n 1, 1), (64, .iaload, 1), (65, .if_icmp .le 12, 3), (68, .aload_n 0, 1), (69, .getfield 19, 3), (72, .iload_n 1, 1), (73, .iaload, 1), (74, .goto 5, 3), (77, .iload 5, 2), (79, .ireturn, 1)]
set_option maxRecDepth 100000 in
theorem xD_116 : XDec 116 xI_116 := XDec.of (by decide +kernel)
/-- BranchGoalsModel.drawCase(I)V -/
def xI_117 : List (Nat × Instr × Nat) := [(0, .aload_n 0, 1), (1, .getfield 13, 3), (4, .iload_n 1, 1), (5, .iconst 1, 1), (6, .aload_n 0, 1), (7, .iconst 2, 1), (8, .invokevirtual 145, 3), (11, .iadd, 1), (12, .iastore, 1), (13, .iconst 0, 1), (14, .istore_n 2, 1), (15, .iload_n 2, 1), (16, .aload_n 0, 1), (17, .getfield 13, 3), (20, .iload_n 1, 1), (21, .iaload, 1), (22, .if_icmp .ge 15, 3), (25, .aload_n 0, 1), (26, .iload_n 1, 1), (27, .iload_n 2, 1), (28, .invokevirtual 159, 3), (31, .iinc 2 1, 3), (34, .goto (-19), 3), (37, .aload_n 0, 1), (38, .iload_n 1, 1), (39, .invokevirtual 201, 3), (42, .return_, 1)]
set_option maxRecDepth 100000 in
theorem xD_117 : XDec 117 xI_117 := XDec.of (by decide +kernel)
/-- BranchGoalsModel.draw(I)I -/
def xI_118 : List (Nat × Instr × Nat) := [(0, .aload_n 0, 1), (1, .aload_n 0, 1), (2, .getfield 64, 3), (5, .ldc2_w 60, 3), (8, .lmul, 1), (9, .ldc2_w 143, 3), (12, .ladd, 1), (13, .ldc2_w 62, 3), (16, .land, 1), (17, .putfield 64, 3), (20, .aload_n 0, 1), (21, .getfield 64, 3), (24, .bipush 17, 2), (26, .lushr, 1), (27, .iload_n 1, 1), (28, .i2l, 1), (29, .lrem, 1), (30, .l2i, 1), (31, .ireturn, 1)]
set_option maxRecDepth 100000 in
theorem xD_118 : XDec 118 xI_118 := XDec.of (by decide +kernel)
/-- BranchGoalsModel.drawStep(II)V -/
def xI_119 : List (Nat × Instr × Nat) := [(0, .aload_n 0, 1), (1, .iconst 5, 1), (2, .invokevirtual 145, 3), (5, .istore_n 3, 1), (6, .iload_n 3, 1), (7, .iconst 4, 1), (8, .if_icmp .ne 29, 3), (11, .iconst 4, 1), (12, .aload_n 0, 1), (13, .iconst 4, 1), (14, .invokevirtual 145, 3), (17, .iadd, 1), (18, .istore 4, 2), (20, .aload_n 0, 1), (21, .invokevirtual 151, 3), (24, .istore 5, 2), (26, .aload_n 0, 1), (27, .iload_n 1, 1), (28, .iload_n 2, 1), (29, .iload 4, 2), (31, .iload 5, 2), (33, .invokevirtual 137, 3), (36, .return_, 1), (37, .aload_n 0, 1), (38, .invokevirtual 151, 3), (41, .istore 4, 2), (43, .aload_n 0, 1), (44, .iload_n 2, 1), (45, .iconst 2, 1), (46, .iadd, 1), (47, .invokevirtual 145, 3), (50, .istore 5, 2), (52, .iload 5, 2), (54, .iload_n 2, 1), (55, .if_icmp .ge 7, 3), (58, .iconst 0, 1), (59, .goto 7, 3), (62, .aload_n 0, 1), (63, .invokevirtual 151, 3), (66, .istore 6, 2), (68, .aload_n 0, 1), (69, .iload_n 1, 1), (70, .iload_n 2, 1), (71, .iload_n 3, 1), (72, .iconst 2, 1), (73, .idiv, 1), (74, .iload 4, 2), (76, .invokevirtual 137, 3), (79, .aload_n 0, 1), (80, .iload_n 1, 1), (81, .iload_n 2, 1), (82, .iload 6, 2), (84, .iload 5, 2), (86, .iload_n 2, 1), (87, .if_icmp .ge 8, 3), (90, .iload 5, 2), (92, .goto 4, 3), (95, .iconst (-1), 1), (96, .invokevirtual 140, 3), (99, .return_, 1)]
set_option maxRecDepth 100000 in
theorem xD_119 : XDec 119 xI_119 := XDec.of (by decide +kernel)
/-- BranchGoalsModel.drawNumber()I -/
def xI_120 : List (Nat × Instr × Nat) := [(0, .aload_n 0, 1), (1, .iconst 4, 1), (2, .invokevirtual 145, 3), (5, .istore_n 1, 1), (6, .iconst 0, 1), (7, .istore_n 2, 1), (8, .iconst 0, 1), (9, .istore_n 3, 1), (10, .iload_n 3, 1), (11, .bipush 20, 2), (13, .if_icmp .ge 25, 3), (16, .aload_n 0, 1), (17, .iload_n 3, 1), (18, .invokevirtual 148, 3), (21, .ifCond .eq 9, 3), (24, .iload_n 2, 1), (25, .iconst 1, 1), (26, .iadd, 1), (27, .goto 4, 3), (30, .iload_n 2, 1), (31, .istore_n 2, 1), (32, .iinc 3 1, 3), (35, .goto (-25), 3), (38, .iload_n 1, 1), (39, .ifCond .eq 7, 3), (42, .iload_n 2, 1), (43, .ifCond .ne 13, 3), (46, .aload_n 0, 1), (47, .bipush 21, 2), (49, .invokevirtual 145, 3), (52, .bipush 10, 2), (54, .isub, 1), (55, .ireturn, 1), (56, .aload_n 0, 1), (57, .iload_n 2, 1), (58, .invokevirtual 145, 3), (61, .istore_n 3, 1), (62, .iconst 0, 1), (63, .istore 4, 2), (65, .iload_n 3, 1), (66, .ifCond .gt 12, 3), (69, .aload_n 0, 1), (70, .iload 4, 2), (72, .invokevirtual 148, 3), (75, .ifCond .ne 26, 3), (78, .aload_n 0, 1), (79, .iload 4, 2), (81, .invokevirtual 148, 3), (84, .ifCond .eq 9, 3), (87, .iload_n 3, 1), (88, .iconst 1, 1), (89, .isub, 1), (90, .goto 4, 3), (93, .iload_n 3, 1), (94, .istore_n 3, 1), (95, .iinc 4 1, 3), (98, .goto (-33), 3), (101, .aload_n 0, 1), (102, .iload 4, 2), (104, .bipush 10, 2), (106, .idiv, 1), (107, .iload 4, 2), (109, .bipush 10, 2), (111, .irem, 1), (112, .iconst 3, 1), (113, .invokevirtual 68, 3), (116, .iload_n 1, 1), (117, .iadd, 1), (118, .iconst 2, 1), (119, .isub, 1), (120, .ireturn, 1)]
set_option maxRecDepth 100000 in
theorem xD_120 : XDec 120 xI_120 := XDec.of (by decide +kernel)
/-- BranchGoalsModel.setLine(I)Z -/
def xI_121 : List (Nat × Instr × Nat) := [(0, .iload_n 1, 1), (1, .bipush 20, 2), (3, .if_icmp .ge 39, 3), (6, .iload_n 1, 1), (7, .bipush 10, 2), (9, .irem, 1), (10, .aload_n 0, 1), (11, .getfield 19, 3), (14, .iload_n 1, 1), (15, .bipush 10, 2), (17, .idiv, 1), (18, .iaload, 1), (19, .if_icmp .ge 23, 3), (22, .aload_n 0, 1), (23, .iload_n 1, 1), (24, .bipush 10, 2), (26, .idiv, 1), (27, .iload_n 1, 1), (28, .bipush 10, 2), (30, .irem, 1), (31, .iconst 0, 1), (32, .invokevirtual 68, 3), (35, .ifCond .ne 7, 3), (38, .iconst 1, 1), (39, .goto 4, 3), (42, .iconst 0, 1), (43, .ireturn, 1)]
set_option maxRecDepth 100000 in
theorem xD_121 : XDec 121 xI_121 := XDec.of (by decide +kernel)
/-- BranchGoalsModel.archive(I)V -/
def xI_122 : List (Nat × Instr × Nat) := [(0, .aload_n 0, 1), (1, .iload_n 1, 1), (2, .invokevirtual 165, 3), (5, .istore_n 2, 1), (6, .aload_n 0, 1), (7, .dup, 1), (8, .getfield 168, 3), (11, .iconst 1, 1), (12, .iadd, 1), (13, .putfield 168, 3), (16, .iconst 0, 1), (17, .istore_n 3, 1), (18, .iload_n 3, 1), (19, .iconst 2, 1), (20, .aload_n 0, 1), (21, .getfield 89, 3), (24, .imul, 1), (25, .if_icmp .ge 54, 3), (28, .aload_n 0, 1), (29, .getfield 13, 3), (32, .bipush 9, 2), (34, .iload_n 3, 1), (35, .iadd, 1), (36, .iaload, 1), (37, .istore 4, 2), (39, .iload_n 2, 1), (40, .iload_n 3, 1), (41, .ishr, 1), (42, .iconst 1, 1), (43, .iand, 1), (44, .iconst 1, 1), (45, .if_icmp .ne 28, 3), (48, .iload 4, 2), (50, .ifCond .eq 14, 3), (53, .iload 4, 2), (55, .aload_n 0, 1), (56, .getfield 13, 3), (59, .iload_n 1, 1), (60, .iaload, 1), (61, .if_icmp .le 12, 3), (64, .aload_n 0, 1), (65, .iload_n 1, 1), (66, .bipush 9, 2), (68, .iload_n 3, 1), (69, .iadd, 1), (70, .invokevirtual 171, 3), (73, .iinc 3 1, 3), (76, .goto (-58), 3), (79, .return_, 1)]
set_option maxRecDepth 100000 in
theorem xD_122 : XDec 122 xI_122 := XDec.of (by decide +kernel)
/-- BranchGoalsModel.reached(I)I -/
def xI_123 : List (Nat × Instr × Nat) := [(0, .aload_n 0, 1), (1, .iload_n 1, 1), (2, .invokevirtual 129, 3), (5, .iconst 0, 1), (6, .istore_n 2, 1), (7, .iconst 0, 1), (8, .istore_n 3, 1), (9, .iload_n 3, 1), (10, .iconst 2, 1), (11, .aload_n 0, 1), (12, .getfield 89, 3), (15, .imul, 1), (16, .if_icmp .ge 30, 3), (19, .aload_n 0, 1), (20, .getfield 45, 3), (23, .iload_n 3, 1), (24, .laload, 1), (25, .lconst 0, 1), (26, .lcmp, 1), (27, .ifCond .ne 11, 3), (30, .iload_n 2, 1), (31, .iconst 1, 1), (32, .iload_n 3, 1), (33, .ishl, 1), (34, .ior, 1), (35, .goto 4, 3), (38, .iload_n 2, 1), (39, .istore_n 2, 1), (40, .iinc 3 1, 3), (43, .goto (-34), 3), (46, .iload_n 2, 1), (47, .ireturn, 1)]
set_option maxRecDepth 100000 in
theorem xD_123 : XDec 123 xI_123 := XDec.of (by decide +kernel)
/-- BranchGoalsModel.perform(I)V -/
def xI_124 : List (Nat × Instr × Nat) := [(0, .iconst 4, 1), (1, .istore_n 2, 1), (2, .iload_n 2, 1), (3, .bipush 8, 2), (5, .if_icmp .ge 16, 3), (8, .aload_n 0, 1), (9, .getfield 38, 3), (12, .iload_n 2, 1), (13, .iconst 0, 1), (14, .iastore, 1), (15, .iinc 2 1, 3), (18, .goto (-16), 3), (21, .iconst 0, 1), (22, .istore_n 2, 1), (23, .iload_n 2, 1), (24, .bipush 24, 2), (26, .if_icmp .ge 18, 3), (29, .aload_n 0, 1), (30, .getfield 45, 3), (33, .iload_n 2, 1), (34, .ldc2_w 116, 3), (37, .lastore, 1), (38, .iinc 2 1, 3), (41, .goto (-18), 3), (44, .iconst 0, 1), (45, .istore_n 2, 1), (46, .iconst 0, 1), (47, .istore_n 3, 1), (48, .iload_n 3, 1), (49, .aload_n 0, 1), (50, .getfield 13, 3), (53, .iload_n 1, 1), (54, .iaload, 1), (55, .if_icmp .ge 160, 3), (58, .aload_n 0, 1), (59, .iload_n 1, 1), (60, .iload_n 3, 1), (61, .iconst 0, 1), (62, .invokevirtual 118, 3), (65, .istore 4, 2), (67, .aload_n 0, 1), (68, .getfield 41, 3), (71, .iload_n 3, 1), (72, .iload_n 2, 1), (73, .ifCond .eq 9, 3), (76, .ldc2_w 114, 3), (79, .goto 4, 3), (82, .lconst 0, 1), (83, .lastore, 1), (84, .iload_n 2, 1), (85, .ifCond .ne 26, 3), (88, .iload 4, 2), (90, .iconst 4, 1), (91, .if_icmp .lt 20, 3), (94, .aload_n 0, 1), (95, .getfield 38, 3), (98, .iload 4, 2), (100, .aload_n 0, 1), (101, .iload_n 1, 1), (102, .iload_n 3, 1), (103, .iconst 1, 1), (104, .invokevirtual 118, 3), (107, .iastore, 1), (108, .goto 101, 3), (111, .iload_n 2, 1), (112, .ifCond .ne 97, 3), (115, .aload_n 0, 1), (116, .iload_n 1, 1), (117, .iload_n 3, 1), (118, .iconst 3, 1), (119, .invokevirtual 118, 3), (122, .istore 5, 2), (124, .aload_n 0, 1), (125, .getfield 38, 3), (128, .iconst 0, 1), (129, .aload_n 0, 1), (130, .iload_n 1, 1), (131, .iload_n 3, 1), (132, .iconst 1, 1), (133, .invokevirtual 118, 3), (136, .iastore, 1), (137, .aload_n 0, 1), (138, .getfield 38, 3), (141, .iconst 1, 1), (142, .iload 5, 2), (144, .ifCond .ge 13, 3), (147, .aload_n 0, 1), (148, .iload_n 1, 1), (149, .iload_n 3, 1), (150, .iconst 2, 1), (151, .invokevirtual 118, 3), (154, .goto 9, 3), (157, .aload_n 0, 1), (158, .iload 5, 2), (160, .invokevirtual 121, 3), (163, .iastore, 1), (164, .aload_n 0, 1), (165, .getfield 38, 3), (168, .iconst 2, 1), (169, .iconst 0, 1), (170, .iastore, 1), (171, .aload_n 0, 1), (172, .getfield 38, 3), (175, .iconst 3, 1), (176, .iconst 0, 1), (177, .iastore, 1), (178, .aload_n 0, 1), (179, .getfield 41, 3), (182, .iload_n 3, 1), (183, .aload_n 0, 1), (184, .iload 4, 2), (186, .invokevirtual 125, 3), (189, .lastore, 1), (190, .aload_n 0, 1), (191, .getfield 41, 3), (194, .iload_n 3, 1), (195, .laload, 1), (196, .ldc2_w 112, 3), (199, .lcmp, 1), (200, .ifCond .ne 7, 3), (203, .iconst 1, 1), (204, .goto 4, 3), (207, .iconst 0, 1), (208, .istore_n 2, 1), (209, .iinc 3 1, 3), (212, .goto (-164), 3), (215, .return_, 1)]
set_option maxRecDepth 100000 in
theorem xD_124 : XDec 124 xI_124 := XDec.of (by decide +kernel)
/-- BranchGoalsModel.part(III)I -/
def xI_125 : List (Nat × Instr × Nat) := [(0, .aload_n 0, 1), (1, .getfield 7, 3), (4, .iload_n 1, 1), (5, .bipush 24, 2), (7, .imul, 1), (8, .iload_n 2, 1), (9, .iconst 4, 1), (10, .imul, 1), (11, .iadd, 1), (12, .iload_n 3, 1), (13, .iadd, 1), (14, .iaload, 1), (15, .ireturn, 1)]
set_option maxRecDepth 100000 in
theorem xD_125 : XDec 125 xI_125 := XDec.of (by decide +kernel)
/-- BranchGoalsModel.value(I)I -/
def xI_126 : List (Nat × Instr × Nat) := [(0, .aload_n 0, 1), (1, .getfield 41, 3), (4, .iload_n 1, 1), (5, .laload, 1), (6, .ldc2_w 114, 3), (9, .lcmp, 1), (10, .ifCond .lt 7, 3), (13, .iconst 0, 1), (14, .goto 10, 3), (17, .aload_n 0, 1), (18, .getfield 41, 3), (21, .iload_n 1, 1), (22, .laload, 1), (23, .l2i, 1), (24, .ireturn, 1)]
set_option maxRecDepth 100000 in
theorem xD_126 : XDec 126 xI_126 := XDec.of (by decide +kernel)
/-- BranchGoalsModel.call(I)J -/
def xI_127 : List (Nat × Instr × Nat) := [(0, .iconst 0, 1), (1, .istore_n 2, 1), (2, .iconst 0, 1), (3, .istore_n 3, 1), (4, .iload_n 3, 1), (5, .bipush 40, 2), (7, .if_icmp .ge 92, 3), (10, .iload_n 2, 1), (11, .aload_n 0, 1), (12, .getfield 19, 3), (15, .iload_n 1, 1), (16, .iaload, 1), (17, .if_icmp .ge 82, 3), (20, .aload_n 0, 1), (21, .iload_n 1, 1), (22, .iload_n 2, 1), (23, .iconst 0, 1), (24, .invokevirtual 68, 3), (27, .istore 4, 2), (29, .iload 4, 2), (31, .bipush 8, 2), (33, .if_icmp .ne 17, 3), (36, .aload_n 0, 1), (37, .getfield 38, 3), (40, .aload_n 0, 1), (41, .iload_n 1, 1), (42, .iload_n 2, 1), (43, .iconst 1, 1), (44, .invokevirtual 68, 3), (47, .iaload, 1), (48, .i2l, 1), (49, .lreturn, 1), (50, .iload 4, 2), (52, .bipush 9, 2), (54, .if_icmp .ne 7, 3), (57, .ldc2_w 104, 3), (60, .lreturn, 1), (61, .iload 4, 2), (63, .iconst 4, 1), (64, .if_icmp .ne 22, 3), (67, .aload_n 0, 1), (68, .getfield 38, 3), (71, .aload_n 0, 1), (72, .iload_n 1, 1), (73, .iload_n 2, 1), (74, .iconst 3, 1), (75, .invokevirtual 68, 3), (78, .iaload, 1), (79, .ifCond .ne 7, 3), (82, .ldc2_w 106, 3), (85, .lreturn, 1), (86, .aload_n 0, 1), (87, .iload_n 1, 1), (88, .iload_n 2, 1), (89, .invokevirtual 108, 3), (92, .istore_n 2, 1), (93, .iinc 3 1, 3), (96, .goto (-92), 3), (99, .iload_n 2, 1), (100, .aload_n 0, 1), (101, .getfield 19, 3), (104, .iload_n 1, 1), (105, .iaload, 1), (106, .if_icmp .ge 9, 3), (109, .ldc2_w 112, 3), (112, .goto 4, 3), (115, .lconst 0, 1), (116, .lreturn, 1)]
set_option maxRecDepth 100000 in
theorem xD_127 : XDec 127 xI_127 := XDec.of (by decide +kernel)
/-- BranchGoalsModel.go(II)I -/
def xI_128 : List (Nat × Instr × Nat) := [(0, .aload_n 0, 1), (1, .iload_n 1, 1), (2, .iload_n 2, 1), (3, .iconst 0, 1), (4, .invokevirtual 68, 3), (7, .istore_n 3, 1), (8, .aload_n 0, 1), (9, .iload_n 1, 1), (10, .iload_n 2, 1), (11, .iconst 1, 1), (12, .invokevirtual 68, 3), (15, .istore 4, 2), (17, .aload_n 0, 1), (18, .iload_n 1, 1), (19, .iload_n 2, 1), (20, .iconst 2, 1), (21, .invokevirtual 68, 3), (24, .istore 5, 2), (26, .aload_n 0, 1), (27, .iload_n 1, 1), (28, .iload_n 2, 1), (29, .iconst 3, 1), (30, .invokevirtual 68, 3), (33, .istore 6, 2), (35, .iload_n 3, 1), (36, .ifCond .ne 15, 3), (39, .aload_n 0, 1), (40, .getfield 38, 3), (43, .iload 4, 2), (45, .iload 6, 2), (47, .iastore, 1), (48, .goto 167, 3), (51, .iload_n 3, 1), (52, .iconst 4, 1), (53, .if_icmp .gt 75, 3), (56, .aload_n 0, 1), (57, .getfield 38, 3), (60, .iload 5, 2), (62, .iaload, 1), (63, .istore 7, 2), (65, .aload_n 0, 1), (66, .getfield 38, 3), (69, .iload 6, 2), (71, .iaload, 1), (72, .istore 8, 2), (74, .aload_n 0, 1), (75, .getfield 38, 3), (78, .iload 4, 2), (80, .iload_n 3, 1), (81, .iconst 1, 1), (82, .if_icmp .ne 11, 3), (85, .iload 7, 2), (87, .iload 8, 2), (89, .iadd, 1), (90, .goto 34, 3), (93, .iload_n 3, 1), (94, .iconst 2, 1), (95, .if_icmp .ne 11, 3), (98, .iload 7, 2), (100, .iload 8, 2), (102, .isub, 1), (103, .goto 21, 3), (106, .iload_n 3, 1), (107, .iconst 3, 1), (108, .if_icmp .ne 11, 3), (111, .iload 7, 2), (113, .iload 8, 2), (115, .imul, 1), (116, .goto 8, 3), (119, .iload 7, 2), (121, .iload 8, 2), (123, .idiv, 1), (124, .iastore, 1), (125, .goto 90, 3), (128, .iload_n 3, 1), (129, .bipush 6, 2), (131, .if_icmp .gt 84, 3), (134, .aload_n 0, 1), (135, .iload_n 1, 1), (136, .iload_n 2, 1), (137, .iload 4, 2), (139, .iload 5, 2), (141, .invokevirtual 100, 3), (144, .iload_n 3, 1), (145, .iconst 5, 1), (146, .if_icmp .ne 28, 3), (149, .aload_n 0, 1), (150, .getfield 38, 3), (153, .iload 4, 2), (155, .iaload, 1), (156, .aload_n 0, 1), (157, .getfield 38, 3), (160, .iload 5, 2), (162, .iaload, 1), (163, .if_icmp .ne 7, 3), (166, .iconst 1, 1), (167, .goto 29, 3), (170, .iconst 0, 1), (171, .goto 25, 3), (174, .aload_n 0, 1), (175, .getfield 38, 3), (178, .iload 4, 2), (180, .iaload, 1), (181, .aload_n 0, 1), (182, .getfield 38, 3), (185, .iload 5, 2), (187, .iaload, 1), (188, .if_icmp .ge 7, 3), (191, .iconst 1, 1), (192, .goto 4, 3), (195, .iconst 0, 1), (196, .istore 7, 2), (198, .aload_n 0, 1), (199, .iload_n 1, 1), (200, .iload_n 2, 1), (201, .iload 7, 2), (203, .ifCond .eq 7, 3), (206, .iconst 1, 1), (207, .goto 4, 3), (210, .iconst 0, 1), (211, .invokevirtual 83, 3), (214, .ireturn, 1), (215, .aload_n 0, 1), (216, .iload_n 1, 1), (217, .iload_n 2, 1), (218, .iconst 0, 1), (219, .invokevirtual 83, 3), (222, .ireturn, 1)]
set_option maxRecDepth 100000 in
theorem xD_128 : XDec 128 xI_128 := XDec.of (by decide +kernel)
/-- BranchGoalsModel.note(IIII)V -/
def xI_129 : List (Nat × Instr × Nat) := [(0, .iconst 0, 1), (1, .istore 5, 2), (3, .iload 5, 2), (5, .aload_n 0, 1), (6, .getfield 89, 3), (9, .if_icmp .ge 31, 3), (12, .aload_n 0, 1), (13, .getfield 26, 3), (16, .iload 5, 2), (18, .iaload, 1), (19, .iload_n 1, 1), (20, .if_icmp .ne 14, 3), (23, .aload_n 0, 1), (24, .getfield 29, 3), (27, .iload 5, 2), (29, .iaload, 1), (30, .iload_n 2, 1), (31, .if_icmp .eq 9, 3), (34, .iinc 5 1, 3), (37, .goto (-34), 3), (40, .iload 5, 2), (42, .aload_n 0, 1), (43, .getfield 89, 3), (46, .if_icmp .ne 4, 3), (49, .return_, 1), (50, .aload_n 0, 1), (51, .getfield 38, 3), (54, .iload_n 3, 1), (55, .iaload, 1), (56, .i2l, 1), (57, .lstore 6, 2), (59, .aload_n 0, 1), (60, .getfield 38, 3), (63, .iload 4, 2), (65, .iaload, 1), (66, .i2l, 1), (67, .lstore 8, 2), (69, .aload_n 0, 1), (70, .iload_n 1, 1), (71, .iload_n 2, 1), (72, .iconst 0, 1), (73, .invokevirtual 68, 3), (76, .iconst 5, 1), (77, .if_icmp .ne 7, 3), (80, .iconst 1, 1), (81, .goto 4, 3), (84, .iconst 0, 1), (85, .istore 10, 2), (87, .iload 10, 2), (89, .ifCond .eq 27, 3), (92, .lload 6, 2), (94, .lload 8, 2), (96, .lcmp, 1), (97, .ifCond .le 11, 3), (100, .lload 6, 2), (102, .lload 8, 2), (104, .lsub, 1), (105, .goto 30, 3), (108, .lload 8, 2), (110, .lload 6, 2), (112, .lsub, 1), (113, .goto 22, 3), (116, .lload 6, 2), (118, .lload 8, 2), (120, .lcmp, 1), (121, .ifCond .ge 7, 3), (124, .lconst 0, 1), (125, .goto 10, 3), (128, .lload 6, 2), (130, .lload 8, 2), (132, .lsub, 1), (133, .lconst 1, 1), (134, .ladd, 1), (135, .lstore 11, 2), (137, .iload 10, 2), (139, .ifCond .eq 19, 3), (142, .lload 6, 2), (144, .lload 8, 2), (146, .lcmp, 1), (147, .ifCond .ne 7, 3), (150, .lconst 1, 1), (151, .goto 24, 3), (154, .lconst 0, 1), (155, .goto 20, 3), (158, .lload 6, 2), (160, .lload 8, 2), (162, .lcmp, 1), (163, .ifCond .ge 11, 3), (166, .lload 8, 2), (168, .lload 6, 2), (170, .lsub, 1), (171, .goto 4, 3), (174, .lconst 0, 1), (175, .lstore 13, 2), (177, .aload_n 0, 1), (178, .getfield 45, 3), (181, .iconst 2, 1), (182, .iload 5, 2), (184, .imul, 1), (185, .aload_n 0, 1), (186, .getfield 45, 3), (189, .iconst 2, 1), (190, .iload 5, 2), (192, .imul, 1), (193, .laload, 1), (194, .lconst 0, 1), (195, .lcmp, 1), (196, .ifCond .lt 18, 3), (199, .lload 13, 2), (201, .aload_n 0, 1), (202, .getfield 45, 3), (205, .iconst 2, 1), (206, .iload 5, 2), (208, .imul, 1), (209, .laload, 1), (210, .lcmp, 1), (211, .ifCond .ge 8, 3), (214, .lload 13, 2), (216, .goto 12, 3), (219, .aload_n 0, 1), (220, .getfield 45, 3), (223, .iconst 2, 1), (224, .iload 5, 2), (226, .imul, 1), (227, .laload, 1), (228, .lastore, 1), (229, .aload_n 0, 1), (230, .getfield 45, 3), (233, .iconst 2, 1), (234, .iload 5, 2), (236, .imul, 1), (237, .iconst 1, 1), (238, .iadd, 1), (239, .aload_n 0, 1), (240, .getfield 45, 3), (243, .iconst 2, 1), (244, .iload 5, 2), (246, .imul, 1), (247, .iconst 1, 1), (248, .iadd, 1), (249, .laload, 1), (250, .lconst 0, 1), (251, .lcmp, 1), (252, .ifCond .lt 20, 3), (255, .lload 11, 2), (257, .aload_n 0, 1), (258, .getfield 45, 3), (261, .iconst 2, 1), (262, .iload 5, 2), (264, .imul, 1), (265, .iconst 1, 1), (266, .iadd, 1), (267, .laload, 1), (268, .lcmp, 1), (269, .ifCond .ge 8, 3), (272, .lload 11, 2), (274, .goto 14, 3), (277, .aload_n 0, 1), (278, .getfield 45, 3), (281, .iconst 2, 1), (282, .iload 5, 2), (284, .imul, 1), (285, .iconst 1, 1), (286, .iadd, 1), (287, .laload, 1), (288, .lastore, 1), (289, .return_, 1)]
set_option maxRecDepth 100000 in
theorem xD_129 : XDec 129 xI_129 := XDec.of (by decide +kernel)
/-- BranchGoalsModel.copy(II)V -/
def xI_130 : List (Nat × Instr × Nat) := [(0, .iconst 0, 1), (1, .istore_n 3, 1), (2, .iload_n 3, 1), (3, .bipush 24, 2), (5, .if_icmp .ge 31, 3), (8, .aload_n 0, 1), (9, .getfield 7, 3), (12, .iload_n 2, 1), (13, .bipush 24, 2), (15, .imul, 1), (16, .iload_n 3, 1), (17, .iadd, 1), (18, .aload_n 0, 1), (19, .getfield 7, 3), (22, .iload_n 1, 1), (23, .bipush 24, 2), (25, .imul, 1), (26, .iload_n 3, 1), (27, .iadd, 1), (28, .iaload, 1), (29, .iastore, 1), (30, .iinc 3 1, 3), (33, .goto (-31), 3), (36, .aload_n 0, 1), (37, .getfield 13, 3), (40, .iload_n 2, 1), (41, .aload_n 0, 1), (42, .getfield 13, 3), (45, .iload_n 1, 1), (46, .iaload, 1), (47, .iastore, 1), (48, .return_, 1)]
set_option maxRecDepth 100000 in
theorem xD_130 : XDec 130 xI_130 := XDec.of (by decide +kernel)
/-- BranchGoalsModel.putInOrder(I)V -/
def xI_131 : List (Nat × Instr × Nat) := [(0, .aload_n 0, 1), (1, .invokevirtual 180, 3), (4, .istore_n 2, 1), (5, .iconst 0, 1), (6, .istore_n 3, 1), (7, .iload_n 3, 1), (8, .iload_n 1, 1), (9, .if_icmp .ge 60, 3), (12, .aload_n 0, 1), (13, .getfield 51, 3), (16, .iload_n 3, 1), (17, .bipush 30, 2), (19, .iastore, 1), (20, .aload_n 0, 1), (21, .iload_n 3, 1), (22, .invokevirtual 129, 3), (25, .iconst 0, 1), (26, .istore 4, 2), (28, .iload 4, 2), (30, .iconst 2, 1), (31, .aload_n 0, 1), (32, .getfield 89, 3), (35, .imul, 1), (36, .if_icmp .ge 27, 3), (39, .aload_n 0, 1), (40, .getfield 48, 3), (43, .iload_n 3, 1), (44, .bipush 24, 2), (46, .imul, 1), (47, .iload 4, 2), (49, .iadd, 1), (50, .aload_n 0, 1), (51, .iload 4, 2), (53, .invokevirtual 183, 3), (56, .lastore, 1), (57, .iinc 4 1, 3), (60, .goto (-32), 3), (63, .iinc 3 1, 3), (66, .goto (-59), 3), (69, .iconst 0, 1), (70, .istore_n 3, 1), (71, .iload_n 3, 1), (72, .bipush 24, 2), (74, .if_icmp .ge 24, 3), (77, .iload_n 2, 1), (78, .iload_n 3, 1), (79, .ishr, 1), (80, .iconst 1, 1), (81, .iand, 1), (82, .iconst 1, 1), (83, .if_icmp .ne 9, 3), (86, .aload_n 0, 1), (87, .iload_n 1, 1), (88, .iload_n 3, 1), (89, .invokevirtual 186, 3), (92, .iinc 3 1, 3), (95, .goto (-24), 3), (98, .aload_n 0, 1), (99, .iload_n 1, 1), (100, .iload_n 2, 1), (101, .invokevirtual 189, 3), (104, .iconst 0, 1), (105, .istore_n 3, 1), (106, .iload_n 3, 1), (107, .iload_n 1, 1), (108, .if_icmp .ge 98, 3), (111, .aload_n 0, 1), (112, .getfield 54, 3), (115, .iload_n 3, 1), (116, .iconst 0, 1), (117, .iastore, 1), (118, .iconst 0, 1), (119, .istore 4, 2), (121, .iload 4, 2), (123, .iload_n 1, 1), (124, .if_icmp .ge 67, 3), (127, .aload_n 0, 1), (128, .getfield 51, 3), (131, .iload 4, 2), (133, .iaload, 1), (134, .aload_n 0, 1), (135, .getfield 51, 3), (138, .iload_n 3, 1), (139, .iaload, 1), (140, .if_icmp .ne 14, 3), (143, .aload_n 0, 1), (144, .iload 4, 2), (146, .iload_n 3, 1), (147, .iload_n 2, 1), (148, .invokevirtual 177, 3), (151, .goto 4, 3), (154, .iconst 0, 1), (155, .istore 5, 2), (157, .aload_n 0, 1), (158, .getfield 54, 3), (161, .iload_n 3, 1), (162, .iload 5, 2), (164, .aload_n 0, 1), (165, .getfield 54, 3), (168, .iload_n 3, 1), (169, .iaload, 1), (170, .if_icmp .le 8, 3), (173, .iload 5, 2), (175, .goto 9, 3), (178, .aload_n 0, 1), (179, .getfield 54, 3), (182, .iload_n 3, 1), (183, .iaload, 1), (184, .iastore, 1), (185, .iinc 4 1, 3), (188, .goto (-67), 3), (191, .aload_n 0, 1), (192, .iload_n 3, 1), (193, .bipush 60, 2), (195, .iload_n 3, 1), (196, .iadd, 1), (197, .invokevirtual 171, 3), (200, .iinc 3 1, 3), (203, .goto (-97), 3), (206, .aload_n 0, 1), (207, .iload_n 1, 1), (208, .invokevirtual 192, 3), (211, .return_, 1)]
set_option maxRecDepth 100000 in
theorem xD_131 : XDec 131 xI_131 := XDec.of (by decide +kernel)
/-- BranchGoalsModel.level(I)J -/
def xI_132 : List (Nat × Instr × Nat) := [(0, .aload_n 0, 1), (1, .getfield 45, 3), (4, .iload_n 1, 1), (5, .laload, 1), (6, .lconst 0, 1), (7, .lcmp, 1), (8, .ifCond .lt 10, 3), (11, .aload_n 0, 1), (12, .getfield 45, 3), (15, .iload_n 1, 1), (16, .laload, 1), (17, .lreturn, 1), (18, .aload_n 0, 1), (19, .getfield 32, 3), (22, .iload_n 1, 1), (23, .iconst 2, 1), (24, .idiv, 1), (25, .iaload, 1), (26, .istore_n 2, 1), (27, .iconst 1, 1), (28, .istore_n 3, 1), (29, .iload_n 3, 1), (30, .bipush 24, 2), (32, .if_icmp .gt 127, 3), (35, .ldc2_w 116, 3), (38, .lstore 4, 2), (40, .iconst 0, 1), (41, .istore 6, 2), (43, .iconst 0, 1), (44, .istore 7, 2), (46, .iload 7, 2), (48, .iconst 2, 1), (49, .aload_n 0, 1), (50, .getfield 89, 3), (53, .imul, 1), (54, .if_icmp .ge 79, 3), (57, .iload_n 2, 1), (58, .iload 7, 2), (60, .ishr, 1), (61, .iconst 1, 1), (62, .iand, 1), (63, .iconst 1, 1), (64, .if_icmp .ne 63, 3), (67, .aload_n 0, 1), (68, .getfield 45, 3), (71, .iload 7, 2), (73, .laload, 1), (74, .lconst 0, 1), (75, .lcmp, 1), (76, .ifCond .lt 33, 3), (79, .lload 4, 2), (81, .lconst 0, 1), (82, .lcmp, 1), (83, .ifCond .lt 16, 3), (86, .aload_n 0, 1), (87, .getfield 45, 3), (90, .iload 7, 2), (92, .laload, 1), (93, .lload 4, 2), (95, .lcmp, 1), (96, .ifCond .ge 13, 3), (99, .aload_n 0, 1), (100, .getfield 45, 3), (103, .iload 7, 2), (105, .laload, 1), (106, .goto 5, 3), (109, .lload 4, 2), (111, .lstore 4, 2), (113, .iload 6, 2), (115, .aload_n 0, 1), (116, .getfield 32, 3), (119, .iload 7, 2), (121, .iconst 2, 1), (122, .idiv, 1), (123, .iaload, 1), (124, .ior, 1), (125, .istore 6, 2), (127, .iinc 7 1, 3), (130, .goto (-84), 3), (133, .lload 4, 2), (135, .lconst 0, 1), (136, .lcmp, 1), (137, .ifCond .lt 13, 3), (140, .iload_n 3, 1), (141, .i2l, 1), (142, .ldc2_w 133, 3), (145, .lmul, 1), (146, .lload 4, 2), (148, .ladd, 1), (149, .lreturn, 1), (150, .iload 6, 2), (152, .istore_n 2, 1), (153, .iinc 3 1, 3), (156, .goto (-127), 3), (159, .ldc2_w 135, 3), (162, .lreturn, 1)]
set_option maxRecDepth 100000 in
theorem xD_132 : XDec 132 xI_132 := XDec.of (by decide +kernel)
/-- BranchGoalsModel.prefer(II)V -/
def xI_133 : List (Nat × Instr × Nat) := [(0, .iconst 0, 1), (1, .istore_n 3, 1), (2, .iconst 1, 1), (3, .istore 4, 2), (5, .iload 4, 2), (7, .iload_n 1, 1), (8, .if_icmp .ge 75, 3), (11, .aload_n 0, 1), (12, .getfield 48, 3), (15, .iload 4, 2), (17, .bipush 24, 2), (19, .imul, 1), (20, .iload_n 2, 1), (21, .iadd, 1), (22, .laload, 1), (23, .lstore 5, 2), (25, .aload_n 0, 1), (26, .getfield 48, 3), (29, .iload_n 3, 1), (30, .bipush 24, 2), (32, .imul, 1), (33, .iload_n 2, 1), (34, .iadd, 1), (35, .laload, 1), (36, .lstore 7, 2), (38, .lload 5, 2), (40, .lload 7, 2), (42, .lcmp, 1), (43, .ifCond .lt 27, 3), (46, .lload 5, 2), (48, .lload 7, 2), (50, .lcmp, 1), (51, .ifCond .ne 24, 3), (54, .aload_n 0, 1), (55, .getfield 13, 3), (58, .iload 4, 2), (60, .iaload, 1), (61, .aload_n 0, 1), (62, .getfield 13, 3), (65, .iload_n 3, 1), (66, .iaload, 1), (67, .if_icmp .ge 8, 3), (70, .iload 4, 2), (72, .goto 4, 3), (75, .iload_n 3, 1), (76, .istore_n 3, 1), (77, .iinc 4 1, 3), (80, .goto (-75), 3), (83, .aload_n 0, 1), (84, .getfield 51, 3), (87, .iload_n 3, 1), (88, .iconst 0, 1), (89, .iastore, 1), (90, .return_, 1)]
set_option maxRecDepth 100000 in
theorem xD_133 : XDec 133 xI_133 := XDec.of (by decide +kernel)
/-- BranchGoalsModel.fronts(II)V -/
def xI_134 : List (Nat × Instr × Nat) := [(0, .iconst 1, 1), (1, .istore_n 3, 1), (2, .iload_n 3, 1), (3, .iload_n 1, 1), (4, .if_icmp .gt 179, 3), (7, .iconst 0, 1), (8, .istore 4, 2), (10, .iload 4, 2), (12, .iload_n 1, 1), (13, .if_icmp .ge 117, 3), (16, .aload_n 0, 1), (17, .getfield 51, 3), (20, .iload 4, 2), (22, .iaload, 1), (23, .bipush 30, 2), (25, .if_icmp .ne 7, 3), (28, .iconst 1, 1), (29, .goto 4, 3), (32, .iconst 0, 1), (33, .istore 5, 2), (35, .iconst 0, 1), (36, .istore 6, 2), (38, .iload 6, 2), (40, .iload_n 1, 1), (41, .if_icmp .ge 57, 3), (44, .iload 5, 2), (46, .ifCond .eq 52, 3), (49, .aload_n 0, 1), (50, .getfield 51, 3), (53, .iload 6, 2), (55, .iaload, 1), (56, .bipush 10, 2), (58, .if_icmp .lt 27, 3), (61, .aload_n 0, 1), (62, .iload 6, 2), (64, .iload 4, 2), (66, .iload_n 2, 1), (67, .invokevirtual 177, 3), (70, .ifCond .eq 15, 3), (73, .aload_n 0, 1), (74, .iload 4, 2), (76, .iload 6, 2), (78, .iload_n 2, 1), (79, .invokevirtual 177, 3), (82, .ifCond .le 7, 3), (85, .iconst 1, 1), (86, .goto 4, 3), (89, .iconst 0, 1), (90, .istore 5, 2), (92, .iinc 6 1, 3), (95, .goto (-57), 3), (98, .aload_n 0, 1), (99, .getfield 51, 3), (102, .iload 4, 2), (104, .iload 5, 2), (106, .ifCond .eq 10, 3), (109, .bipush 10, 2), (111, .iload_n 3, 1), (112, .iadd, 1), (113, .goto 10, 3), (116, .aload_n 0, 1), (117, .getfield 51, 3), (120, .iload 4, 2), (122, .iaload, 1), (123, .iastore, 1), (124, .iinc 4 1, 3), (127, .goto (-117), 3), (130, .iconst 0, 1), (131, .istore 4, 2), (133, .iload 4, 2), (135, .iload_n 1, 1), (136, .if_icmp .ge 41, 3), (139, .aload_n 0, 1), (140, .getfield 51, 3), (143, .iload 4, 2), (145, .aload_n 0, 1), (146, .getfield 51, 3), (149, .iload 4, 2), (151, .iaload, 1), (152, .bipush 10, 2), (154, .iload_n 3, 1), (155, .iadd, 1), (156, .if_icmp .ne 7, 3), (159, .iload_n 3, 1), (160, .goto 10, 3), (163, .aload_n 0, 1), (164, .getfield 51, 3), (167, .iload 4, 2), (169, .iaload, 1), (170, .iastore, 1), (171, .iinc 4 1, 3), (174, .goto (-41), 3), (177, .iinc 3 1, 3), (180, .goto (-178), 3), (183, .return_, 1)]
set_option maxRecDepth 100000 in
theorem xD_134 : XDec 134 xI_134 := XDec.of (by decide +kernel)
/-- BranchGoalsModel.better(III)I -/
def xI_135 : List (Nat × Instr × Nat) := [(0, .iconst 0, 1), (1, .istore 4, 2), (3, .iconst 0, 1), (4, .istore 5, 2), (6, .iload 5, 2), (8, .bipush 24, 2), (10, .if_icmp .ge 58, 3), (13, .iload_n 3, 1), (14, .iload 5, 2), (16, .ishr, 1), (17, .iconst 1, 1), (18, .iand, 1), (19, .iconst 1, 1), (20, .if_icmp .ne 38, 3), (23, .aload_n 0, 1), (24, .getfield 48, 3), (27, .iload_n 1, 1), (28, .bipush 24, 2), (30, .imul, 1), (31, .iload 5, 2), (33, .iadd, 1), (34, .laload, 1), (35, .aload_n 0, 1), (36, .getfield 48, 3), (39, .iload_n 2, 1), (40, .bipush 24, 2), (42, .imul, 1), (43, .iload 5, 2), (45, .iadd, 1), (46, .laload, 1), (47, .lcmp, 1), (48, .ifCond .ge 10, 3), (51, .iload 4, 2), (53, .iconst 1, 1), (54, .iadd, 1), (55, .goto 5, 3), (58, .iload 4, 2), (60, .istore 4, 2), (62, .iinc 5 1, 3), (65, .goto (-59), 3), (68, .iload 4, 2), (70, .ireturn, 1)]
set_option maxRecDepth 100000 in
theorem xD_135 : XDec 135 xI_135 := XDec.of (by decide +kernel)
/-- BranchGoalsModel.rearrange(I)V -/
def xI_136 : List (Nat × Instr × Nat) := [(0, .iconst 0, 1), (1, .istore_n 2, 1), (2, .iload_n 2, 1), (3, .iload_n 1, 1), (4, .if_icmp .ge 51, 3), (7, .iconst 0, 1), (8, .istore_n 3, 1), (9, .iconst 0, 1), (10, .istore 4, 2), (12, .iload 4, 2), (14, .iload_n 1, 1), (15, .if_icmp .ge 27, 3), (18, .aload_n 0, 1), (19, .iload 4, 2), (21, .iload_n 2, 1), (22, .invokevirtual 195, 3), (25, .ifCond .eq 9, 3), (28, .iload_n 3, 1), (29, .iconst 1, 1), (30, .iadd, 1), (31, .goto 4, 3), (34, .iload_n 3, 1), (35, .istore_n 3, 1), (36, .iinc 4 1, 3), (39, .goto (-27), 3), (42, .aload_n 0, 1), (43, .getfield 57, 3), (46, .iload_n 2, 1), (47, .iload_n 3, 1), (48, .iastore, 1), (49, .iinc 2 1, 3), (52, .goto (-50), 3), (55, .iconst 0, 1), (56, .istore_n 2, 1), (57, .iload_n 2, 1), (58, .iload_n 1, 1), (59, .if_icmp .ge 23, 3), (62, .aload_n 0, 1), (63, .bipush 60, 2), (65, .iload_n 2, 1), (66, .iadd, 1), (67, .aload_n 0, 1), (68, .getfield 57, 3), (71, .iload_n 2, 1), (72, .iaload, 1), (73, .invokevirtual 171, 3), (76, .iinc 2 1, 3), (79, .goto (-22), 3), (82, .aload_n 0, 1), (83, .iload_n 1, 1), (84, .iconst 5, 1), (85, .if_icmp .le 7, 3), (88, .iconst 5, 1), (89, .goto 4, 3), (92, .iload_n 1, 1), (93, .putfield 198, 3), (96, .return_, 1)]
set_option maxRecDepth 100000 in
theorem xD_136 : XDec 136 xI_136 := XDec.of (by decide +kernel)
/-- BranchGoalsModel.before(II)Z -/
def xI_137 : List (Nat × Instr × Nat) := [(0, .aload_n 0, 1), (1, .getfield 51, 3), (4, .iload_n 1, 1), (5, .iaload, 1), (6, .aload_n 0, 1), (7, .getfield 51, 3), (10, .iload_n 2, 1), (11, .iaload, 1), (12, .if_icmp .eq 24, 3), (15, .aload_n 0, 1), (16, .getfield 51, 3), (19, .iload_n 1, 1), (20, .iaload, 1), (21, .aload_n 0, 1), (22, .getfield 51, 3), (25, .iload_n 2, 1), (26, .iaload, 1), (27, .if_icmp .ge 7, 3), (30, .iconst 1, 1), (31, .goto 4, 3), (34, .iconst 0, 1), (35, .ireturn, 1), (36, .aload_n 0, 1), (37, .getfield 54, 3), (40, .iload_n 1, 1), (41, .iaload, 1), (42, .aload_n 0, 1), (43, .getfield 54, 3), (46, .iload_n 2, 1), (47, .iaload, 1), (48, .if_icmp .eq 24, 3), (51, .aload_n 0, 1), (52, .getfield 54, 3), (55, .iload_n 1, 1), (56, .iaload, 1), (57, .aload_n 0, 1), (58, .getfield 54, 3), (61, .iload_n 2, 1), (62, .iaload, 1), (63, .if_icmp .ge 7, 3), (66, .iconst 1, 1), (67, .goto 4, 3), (70, .iconst 0, 1), (71, .ireturn, 1), (72, .aload_n 0, 1), (73, .getfield 13, 3), (76, .iload_n 1, 1), (77, .iaload, 1), (78, .aload_n 0, 1), (79, .getfield 13, 3), (82, .iload_n 2, 1), (83, .iaload, 1), (84, .if_icmp .eq 26, 3), (87, .aload_n 0, 1), (88, .getfield 13, 3), (91, .iload_n 1, 1), (92, .iaload, 1), (93, .aload_n 0, 1), (94, .getfield 13, 3), (97, .iload_n 2, 1), (98, .iaload, 1), (99, .if_icmp .ge 7, 3), (102, .iconst 1, 1), (103, .goto 17, 3), (106, .iconst 0, 1), (107, .goto 13, 3), (110, .iload_n 1, 1), (111, .iload_n 2, 1), (112, .if_icmp .ge 7, 3), (115, .iconst 1, 1), (116, .goto 4, 3), (119, .iconst 0, 1), (120, .ireturn, 1)]
set_option maxRecDepth 100000 in
theorem xD_137 : XDec 137 xI_137 := XDec.of (by decide +kernel)
/-- BranchGoalsModel.run()I -/
def xI_138 : List (Nat × Instr × Nat) := [(0, .aload_n 0, 1), (1, .getfield 71, 3), (4, .ifCond .eq 13, 3), (7, .aload_n 0, 1), (8, .getfield 13, 3), (11, .bipush 8, 2), (13, .iaload, 1), (14, .ifCond .ne 5, 3), (17, .iconst (-1), 1), (18, .ireturn, 1), (19, .aload_n 0, 1), (20, .bipush 8, 2), (22, .bipush 7, 2), (24, .invokevirtual 171, 3), (27, .aload_n 0, 1), (28, .getfield 13, 3), (31, .bipush 8, 2), (33, .iconst 0, 1), (34, .iastore, 1), (35, .aload_n 0, 1), (36, .bipush 7, 2), (38, .invokevirtual 201, 3), (41, .aload_n 0, 1), (42, .bipush 7, 2), (44, .invokevirtual 165, 3), (47, .ireturn, 1)]
set_option maxRecDepth 100000 in
theorem xD_138 : XDec 138 xI_138 := XDec.of (by decide +kernel)
/-- BranchGoalsModel.evolve()I -/
def xI_139 : List (Nat × Instr × Nat) := [(0, .aload_n 0, 1), (1, .getfield 71, 3), (4, .ifCond .ne 5, 3), (7, .iconst (-1), 1), (8, .ireturn, 1), (9, .aload_n 0, 1), (10, .invokevirtual 220, 3), (13, .istore_n 1, 1), (14, .aload_n 0, 1), (15, .invokevirtual 220, 3), (18, .istore_n 2, 1), (19, .aload_n 0, 1), (20, .aload_n 0, 1), (21, .getfield 13, 3), (24, .iload_n 1, 1), (25, .iaload, 1), (26, .invokevirtual 145, 3), (29, .istore_n 3, 1), (30, .aload_n 0, 1), (31, .aload_n 0, 1), (32, .getfield 13, 3), (35, .iload_n 2, 1), (36, .iaload, 1), (37, .invokevirtual 145, 3), (40, .istore 4, 2), (42, .aload_n 0, 1), (43, .iconst 5, 1), (44, .iload_n 1, 1), (45, .iload_n 3, 1), (46, .iload_n 2, 1), (47, .iload 4, 2), (49, .invokevirtual 223, 3), (52, .aload_n 0, 1), (53, .bipush 6, 2), (55, .iload_n 2, 1), (56, .iload 4, 2), (58, .iload_n 1, 1), (59, .iload_n 3, 1), (60, .invokevirtual 223, 3), (63, .aload_n 0, 1), (64, .iconst 5, 1), (65, .invokevirtual 227, 3), (68, .aload_n 0, 1), (69, .iconst 5, 1), (70, .invokevirtual 201, 3), (73, .aload_n 0, 1), (74, .bipush 6, 2), (76, .invokevirtual 227, 3), (79, .aload_n 0, 1), (80, .bipush 6, 2), (82, .invokevirtual 201, 3), (85, .aload_n 0, 1), (86, .getfield 198, 3), (89, .iconst 5, 1), (90, .if_icmp .ge 24, 3), (93, .aload_n 0, 1), (94, .iconst 5, 1), (95, .aload_n 0, 1), (96, .getfield 198, 3), (99, .invokevirtual 171, 3), (102, .aload_n 0, 1), (103, .bipush 6, 2), (105, .aload_n 0, 1), (106, .getfield 198, 3), (109, .iconst 1, 1), (110, .iadd, 1), (111, .invokevirtual 171, 3), (114, .aload_n 0, 1), (115, .aload_n 0, 1), (116, .getfield 198, 3), (119, .iconst 2, 1), (120, .iadd, 1), (121, .invokevirtual 213, 3), (124, .aload_n 0, 1), (125, .invokevirtual 174, 3), (128, .invokestatic 230, 3), (131, .ireturn, 1)]
set_option maxRecDepth 100000 in
theorem xD_139 : XDec 139 xI_139 := XDec.of (by decide +kernel)
/-- BranchGoalsModel.lesser()I -/
def xI_140 : List (Nat × Instr × Nat) := [(0, .aload_n 0, 1), (1, .aload_n 0, 1), (2, .getfield 198, 3), (5, .invokevirtual 145, 3), (8, .istore_n 1, 1), (9, .aload_n 0, 1), (10, .aload_n 0, 1), (11, .getfield 198, 3), (14, .invokevirtual 145, 3), (17, .istore_n 2, 1), (18, .iload_n 1, 1), (19, .iload_n 2, 1), (20, .if_icmp .ge 7, 3), (23, .iload_n 1, 1), (24, .goto 4, 3), (27, .iload_n 2, 1), (28, .ireturn, 1)]
set_option maxRecDepth 100000 in
theorem xD_140 : XDec 140 xI_140 := XDec.of (by decide +kernel)
/-- BranchGoalsModel.join(IIIII)V -/
def xI_141 : List (Nat × Instr × Nat) := [(0, .iconst 0, 1), (1, .istore 6, 2), (3, .iload 6, 2), (5, .iload_n 3, 1), (6, .if_icmp .ge 21, 3), (9, .aload_n 0, 1), (10, .iload_n 2, 1), (11, .iload 6, 2), (13, .iload_n 1, 1), (14, .iload 6, 2), (16, .iconst 0, 1), (17, .iconst 0, 1), (18, .invokevirtual 216, 3), (21, .iinc 6 1, 3), (24, .goto (-21), 3), (27, .iload_n 3, 1), (28, .istore 6, 2), (30, .iload 5, 2), (32, .istore 7, 2), (34, .iload 7, 2), (36, .aload_n 0, 1), (37, .getfield 13, 3), (40, .iload 4, 2), (42, .iaload, 1), (43, .if_icmp .ge 36, 3), (46, .iload 6, 2), (48, .bipush 6, 2), (50, .if_icmp .ge 29, 3), (53, .aload_n 0, 1), (54, .iload 4, 2), (56, .iload 7, 2), (58, .iload_n 1, 1), (59, .iload 6, 2), (61, .iload 5, 2), (63, .iload_n 3, 1), (64, .iload 5, 2), (66, .isub, 1), (67, .invokevirtual 216, 3), (70, .iinc 6 1, 3), (73, .iinc 7 1, 3), (76, .goto (-42), 3), (79, .aload_n 0, 1), (80, .getfield 13, 3), (83, .iload_n 1, 1), (84, .iload 6, 2), (86, .iastore, 1), (87, .return_, 1)]
set_option maxRecDepth 100000 in
theorem xD_141 : XDec 141 xI_141 := XDec.of (by decide +kernel)
/-- BranchGoalsModel.move(IIIIII)V -/
def xI_142 : List (Nat × Instr × Nat) := [(0, .aload_n 0, 1), (1, .iload_n 1, 1), (2, .iload_n 2, 1), (3, .iconst 2, 1), (4, .invokevirtual 118, 3), (7, .istore 7, 2), (9, .aload_n 0, 1), (10, .iload_n 1, 1), (11, .iload_n 2, 1), (12, .iconst 3, 1), (13, .invokevirtual 118, 3), (16, .istore 8, 2), (18, .iload 8, 2), (20, .ifCond .lt 14, 3), (23, .iload 8, 2), (25, .iload 5, 2), (27, .if_icmp .ge 7, 3), (30, .iconst 1, 1), (31, .goto 4, 3), (34, .iconst 0, 1), (35, .istore 9, 2), (37, .aload_n 0, 1), (38, .iload_n 3, 1), (39, .iload 4, 2), (41, .aload_n 0, 1), (42, .iload_n 1, 1), (43, .iload_n 2, 1), (44, .iconst 0, 1), (45, .invokevirtual 118, 3), (48, .aload_n 0, 1), (49, .iload_n 1, 1), (50, .iload_n 2, 1), (51, .iconst 1, 1), (52, .invokevirtual 118, 3), (55, .invokevirtual 137, 3), (58, .aload_n 0, 1), (59, .iload_n 3, 1), (60, .iload 4, 2), (62, .iload 9, 2), (64, .ifCond .eq 7, 3), (67, .iconst 0, 1), (68, .goto 5, 3), (71, .iload 7, 2), (73, .iload 9, 2), (75, .ifCond .ne 8, 3), (78, .iload 8, 2), (80, .ifCond .ge 7, 3), (83, .iconst (-1), 1), (84, .goto 8, 3), (87, .iload 8, 2), (89, .iload 6, 2), (91, .iadd, 1), (92, .invokevirtual 140, 3), (95, .return_, 1)]
set_option maxRecDepth 100000 in
theorem xD_142 : XDec 142 xI_142 := XDec.of (by decide +kernel)
/-- BranchGoalsModel.change(I)V -/
def xI_143 : List (Nat × Instr × Nat) := [(0, .aload_n 0, 1), (1, .iconst 3, 1), (2, .invokevirtual 145, 3), (5, .istore_n 2, 1), (6, .aload_n 0, 1), (7, .getfield 13, 3), (10, .iload_n 1, 1), (11, .iaload, 1), (12, .istore_n 3, 1), (13, .iload_n 2, 1), (14, .ifCond .ne 35, 3), (17, .iload_n 3, 1), (18, .bipush 6, 2), (20, .if_icmp .ge 29, 3), (23, .aload_n 0, 1), (24, .iload_n 3, 1), (25, .iconst 1, 1), (26, .iadd, 1), (27, .invokevirtual 145, 3), (30, .istore 4, 2), (32, .aload_n 0, 1), (33, .iload_n 1, 1), (34, .iload 4, 2), (36, .invokevirtual 155, 3), (39, .aload_n 0, 1), (40, .iload_n 1, 1), (41, .iload 4, 2), (43, .invokevirtual 159, 3), (46, .goto 145, 3), (49, .iload_n 2, 1), (50, .iconst 1, 1), (51, .if_icmp .ne 25, 3), (54, .iload_n 3, 1), (55, .iconst 1, 1), (56, .if_icmp .le 20, 3), (59, .aload_n 0, 1), (60, .iload_n 3, 1), (61, .invokevirtual 145, 3), (64, .istore 4, 2), (66, .aload_n 0, 1), (67, .iload_n 1, 1), (68, .iload 4, 2), (70, .invokevirtual 162, 3), (73, .goto 118, 3), (76, .iload_n 2, 1), (77, .iconst 2, 1), (78, .if_icmp .ne 113, 3), (81, .aload_n 0, 1), (82, .iload_n 3, 1), (83, .invokevirtual 145, 3), (86, .istore 4, 2), (88, .aload_n 0, 1), (89, .iconst 3, 1), (90, .invokevirtual 145, 3), (93, .istore 5, 2), (95, .aload_n 0, 1), (96, .iload_n 1, 1), (97, .iload 4, 2), (99, .iconst 0, 1), (100, .invokevirtual 118, 3), (103, .istore 6, 2), (105, .iload 5, 2), (107, .ifCond .ne 26, 3), (110, .aload_n 0, 1), (111, .getfield 7, 3), (114, .iload_n 1, 1), (115, .bipush 24, 2), (117, .imul, 1), (118, .iload 4, 2), (120, .iconst 4, 1), (121, .imul, 1), (122, .iadd, 1), (123, .iconst 1, 1), (124, .iadd, 1), (125, .aload_n 0, 1), (126, .invokevirtual 151, 3), (129, .iastore, 1), (130, .goto 61, 3), (133, .iload 5, 2), (135, .iconst 1, 1), (136, .if_icmp .ne 33, 3), (139, .aload_n 0, 1), (140, .getfield 7, 3), (143, .iload_n 1, 1), (144, .bipush 24, 2), (146, .imul, 1), (147, .iload 4, 2), (149, .iconst 4, 1), (150, .imul, 1), (151, .iadd, 1), (152, .iconst 1, 1), (153, .iadd, 1), (154, .dup2, 1), (155, .iaload, 1), (156, .aload_n 0, 1), (157, .bipush 9, 2), (159, .invokevirtual 145, 3), (162, .iconst 4, 1), (163, .isub, 1), (164, .iadd, 1), (165, .iastore, 1), (166, .goto 25, 3), (169, .iload 6, 2), (171, .iconst 2, 1), (172, .if_icmp .ge 19, 3), (175, .aload_n 0, 1), (176, .invokevirtual 151, 3), (179, .istore 7, 2), (181, .aload_n 0, 1), (182, .iload_n 1, 1), (183, .iload 4, 2), (185, .iload 7, 2), (187, .iconst (-1), 1), (188, .invokevirtual 140, 3), (191, .return_, 1)]
set_option maxRecDepth 100000 in
theorem xD_143 : XDec 143 xI_143 := XDec.of (by decide +kernel)
/-- BranchGoalsModel.makeRoom(II)V -/
def xI_144 : List (Nat × Instr × Nat) := [(0, .aload_n 0, 1), (1, .getfield 13, 3), (4, .iload_n 1, 1), (5, .iaload, 1), (6, .iconst 1, 1), (7, .isub, 1), (8, .istore_n 3, 1), (9, .iload_n 3, 1), (10, .iload_n 2, 1), (11, .if_icmp .lt 74, 3), (14, .aload_n 0, 1), (15, .iload_n 1, 1), (16, .iload_n 3, 1), (17, .iconst 3, 1), (18, .invokevirtual 118, 3), (21, .istore 4, 2), (23, .aload_n 0, 1), (24, .iload_n 1, 1), (25, .iload_n 3, 1), (26, .iconst 2, 1), (27, .invokevirtual 118, 3), (30, .istore 5, 2), (32, .aload_n 0, 1), (33, .iload_n 1, 1), (34, .iload_n 3, 1), (35, .iconst 1, 1), (36, .iadd, 1), (37, .aload_n 0, 1), (38, .iload_n 1, 1), (39, .iload_n 3, 1), (40, .iconst 0, 1), (41, .invokevirtual 118, 3), (44, .aload_n 0, 1), (45, .iload_n 1, 1), (46, .iload_n 3, 1), (47, .iconst 1, 1), (48, .invokevirtual 118, 3), (51, .invokevirtual 137, 3), (54, .aload_n 0, 1), (55, .iload_n 1, 1), (56, .iload_n 3, 1), (57, .iconst 1, 1), (58, .iadd, 1), (59, .iload 5, 2), (61, .iload 4, 2), (63, .iload_n 2, 1), (64, .if_icmp .lt 10, 3), (67, .iload 4, 2), (69, .iconst 1, 1), (70, .iadd, 1), (71, .goto 5, 3), (74, .iload 4, 2), (76, .invokevirtual 140, 3), (79, .iinc 3 (-1), 3), (82, .goto (-73), 3), (85, .aload_n 0, 1), (86, .getfield 13, 3), (89, .iload_n 1, 1), (90, .dup2, 1), (91, .iaload, 1), (92, .iconst 1, 1), (93, .iadd, 1), (94, .iastore, 1), (95, .return_, 1)]
set_option maxRecDepth 100000 in
theorem xD_144 : XDec 144 xI_144 := XDec.of (by decide +kernel)
/-- BranchGoalsModel.takeOut(II)V -/
def xI_145 : List (Nat × Instr × Nat) := [(0, .iload_n 2, 1), (1, .iconst 1, 1), (2, .iadd, 1), (3, .istore_n 3, 1), (4, .iload_n 3, 1), (5, .aload_n 0, 1), (6, .getfield 13, 3), (9, .iload_n 1, 1), (10, .iaload, 1), (11, .if_icmp .ge 94, 3), (14, .aload_n 0, 1), (15, .iload_n 1, 1), (16, .iload_n 3, 1), (17, .iconst 3, 1), (18, .invokevirtual 118, 3), (21, .istore 4, 2), (23, .aload_n 0, 1), (24, .iload_n 1, 1), (25, .iload_n 3, 1), (26, .iconst 2, 1), (27, .invokevirtual 118, 3), (30, .istore 5, 2), (32, .aload_n 0, 1), (33, .iload_n 1, 1), (34, .iload_n 3, 1), (35, .iconst 1, 1), (36, .isub, 1), (37, .aload_n 0, 1), (38, .iload_n 1, 1), (39, .iload_n 3, 1), (40, .iconst 0, 1), (41, .invokevirtual 118, 3), (44, .aload_n 0, 1), (45, .iload_n 1, 1), (46, .iload_n 3, 1), (47, .iconst 1, 1), (48, .invokevirtual 118, 3), (51, .invokevirtual 137, 3), (54, .aload_n 0, 1), (55, .iload_n 1, 1), (56, .iload_n 3, 1), (57, .iconst 1, 1), (58, .isub, 1), (59, .iload 4, 2), (61, .iload_n 2, 1), (62, .if_icmp .ne 7, 3), (65, .iconst 0, 1), (66, .goto 5, 3), (69, .iload 5, 2), (71, .iload 4, 2), (73, .iload_n 2, 1), (74, .if_icmp .ne 7, 3), (77, .iconst (-1), 1), (78, .goto 18, 3), (81, .iload 4, 2), (83, .iload_n 2, 1), (84, .if_icmp .le 10, 3), (87, .iload 4, 2), (89, .iconst 1, 1), (90, .isub, 1), (91, .goto 5, 3), (94, .iload 4, 2), (96, .invokevirtual 140, 3), (99, .iinc 3 1, 3), (102, .goto (-98), 3), (105, .aload_n 0, 1), (106, .getfield 13, 3), (109, .iload_n 1, 1), (110, .dup2, 1), (111, .iaload, 1), (112, .iconst 1, 1), (113, .isub, 1), (114, .iastore, 1), (115, .return_, 1)]
set_option maxRecDepth 100000 in
theorem xD_145 : XDec 145 xI_145 := XDec.of (by decide +kernel)
/-- BranchGoalsModel.count(I)I -/
def xI_146 : List (Nat × Instr × Nat) := [(0, .iconst 0, 1), (1, .istore_n 1, 1), (2, .iconst 0, 1), (3, .istore_n 2, 1), (4, .iload_n 2, 1), (5, .bipush 24, 2), (7, .if_icmp .ge 17, 3), (10, .iload_n 1, 1), (11, .iload_n 0, 1), (12, .iload_n 2, 1), (13, .ishr, 1), (14, .iconst 1, 1), (15, .iand, 1), (16, .iadd, 1), (17, .istore_n 1, 1), (18, .iinc 2 1, 3), (21, .goto (-17), 3), (24, .iload_n 1, 1), (25, .ireturn, 1)]
set_option maxRecDepth 100000 in
theorem xD_146 : XDec 146 xI_146 := XDec.of (by decide +kernel)
/-- BranchGoalsModel.finish()I -/
def xI_147 : List (Nat × Instr × Nat) := [(0, .aload_n 0, 1), (1, .getfield 71, 3), (4, .ifCond .ne 5, 3), (7, .iconst (-1), 1), (8, .ireturn, 1), (9, .aload_n 0, 1), (10, .iconst 0, 1), (11, .putfield 236, 3), (14, .iconst 0, 1), (15, .istore_n 1, 1), (16, .iload_n 1, 1), (17, .iconst 2, 1), (18, .aload_n 0, 1), (19, .getfield 89, 3), (22, .imul, 1), (23, .if_icmp .ge 75, 3), (26, .aload_n 0, 1), (27, .iconst (-1), 1), (28, .invokevirtual 239, 3), (31, .istore_n 2, 1), (32, .aload_n 0, 1), (33, .getfield 13, 3), (36, .bipush 9, 2), (38, .iload_n 1, 1), (39, .iadd, 1), (40, .iaload, 1), (41, .ifCond .le 51, 3), (44, .iload_n 2, 1), (45, .iload_n 1, 1), (46, .ishr, 1), (47, .iconst 1, 1), (48, .iand, 1), (49, .ifCond .ne 43, 3), (52, .aload_n 0, 1), (53, .bipush 9, 2), (55, .iload_n 1, 1), (56, .iadd, 1), (57, .bipush 57, 2), (59, .invokevirtual 171, 3), (62, .aload_n 0, 1), (63, .bipush 57, 2), (65, .iload_n 1, 1), (66, .invokevirtual 242, 3), (69, .aload_n 0, 1), (70, .bipush 57, 2), (72, .bipush 33, 2), (74, .aload_n 0, 1), (75, .getfield 236, 3), (78, .iadd, 1), (79, .invokevirtual 171, 3), (82, .aload_n 0, 1), (83, .dup, 1), (84, .getfield 236, 3), (87, .iconst 1, 1), (88, .iadd, 1), (89, .putfield 236, 3), (92, .iinc 1 1, 3), (95, .goto (-79), 3), (98, .iconst 0, 1), (99, .istore_n 1, 1), (100, .iload_n 1, 1), (101, .aload_n 0, 1), (102, .getfield 236, 3), (105, .if_icmp .ge 80, 3), (108, .aload_n 0, 1), (109, .bipush 33, 2), (111, .iload_n 1, 1), (112, .iadd, 1), (113, .invokevirtual 165, 3), (116, .istore_n 2, 1), (117, .aload_n 0, 1), (118, .iload_n 1, 1), (119, .invokevirtual 239, 3), (122, .istore_n 3, 1), (123, .iload_n 2, 1), (124, .iload_n 3, 1), (125, .iand, 1), (126, .iload_n 2, 1), (127, .if_icmp .ne 52, 3), (130, .iload_n 1, 1), (131, .iconst 1, 1), (132, .iadd, 1), (133, .istore 4, 2), (135, .iload 4, 2), (137, .aload_n 0, 1), (138, .getfield 236, 3), (141, .if_icmp .ge 25, 3), (144, .aload_n 0, 1), (145, .bipush 33, 2), (147, .iload 4, 2), (149, .iadd, 1), (150, .bipush 33, 2), (152, .iload 4, 2), (154, .iadd, 1), (155, .iconst 1, 1), (156, .isub, 1), (157, .invokevirtual 171, 3), (160, .iinc 4 1, 3), (163, .goto (-28), 3), (166, .aload_n 0, 1), (167, .dup, 1), (168, .getfield 236, 3), (171, .iconst 1, 1), (172, .isub, 1), (173, .putfield 236, 3), (176, .goto 6, 3), (179, .iinc 1 1, 3), (182, .goto (-82), 3), (185, .aload_n 0, 1), (186, .getfield 236, 3), (189, .ireturn, 1)]
set_option maxRecDepth 100000 in
theorem xD_147 : XDec 147 xI_147 := XDec.of (by decide +kernel)
/-- BranchGoalsModel.others(I)I -/
def xI_148 : List (Nat × Instr × Nat) := [(0, .iconst 0, 1), (1, .istore_n 2, 1), (2, .iconst 0, 1), (3, .istore_n 3, 1), (4, .iload_n 3, 1), (5, .aload_n 0, 1), (6, .getfield 236, 3), (9, .if_icmp .ge 29, 3), (12, .iload_n 3, 1), (13, .iload_n 1, 1), (14, .if_icmp .ne 7, 3), (17, .iload_n 2, 1), (18, .goto 13, 3), (21, .iload_n 2, 1), (22, .aload_n 0, 1), (23, .bipush 33, 2), (25, .iload_n 3, 1), (26, .iadd, 1), (27, .invokevirtual 165, 3), (30, .ior, 1), (31, .istore_n 2, 1), (32, .iinc 3 1, 3), (35, .goto (-31), 3), (38, .iload_n 2, 1), (39, .ireturn, 1)]
set_option maxRecDepth 100000 in
theorem xD_148 : XDec 148 xI_148 := XDec.of (by decide +kernel)
/-- BranchGoalsModel.cut(II)V -/
def xI_149 : List (Nat × Instr × Nat) := [(0, .aload_n 0, 1), (1, .getfield 13, 3), (4, .iload_n 1, 1), (5, .iaload, 1), (6, .iconst 1, 1), (7, .isub, 1), (8, .istore_n 3, 1), (9, .iload_n 3, 1), (10, .ifCond .lt 76, 3), (13, .aload_n 0, 1), (14, .getfield 13, 3), (17, .iload_n 1, 1), (18, .iaload, 1), (19, .iconst 1, 1), (20, .if_icmp .le 60, 3), (23, .aload_n 0, 1), (24, .iload_n 1, 1), (25, .iload_n 3, 1), (26, .invokevirtual 233, 3), (29, .ifCond .ne 51, 3), (32, .aload_n 0, 1), (33, .iload_n 1, 1), (34, .bipush 58, 2), (36, .invokevirtual 171, 3), (39, .aload_n 0, 1), (40, .bipush 58, 2), (42, .iload_n 3, 1), (43, .invokevirtual 162, 3), (46, .aload_n 0, 1), (47, .bipush 58, 2), (49, .invokevirtual 129, 3), (52, .aload_n 0, 1), (53, .dup, 1), (54, .getfield 168, 3), (57, .iconst 1, 1), (58, .iadd, 1), (59, .putfield 168, 3), (62, .aload_n 0, 1), (63, .getfield 45, 3), (66, .iload_n 2, 1), (67, .laload, 1), (68, .lconst 0, 1), (69, .lcmp, 1), (70, .ifCond .ne 10, 3), (73, .aload_n 0, 1), (74, .bipush 58, 2), (76, .iload_n 1, 1), (77, .invokevirtual 171, 3), (80, .iinc 3 (-1), 3), (83, .goto (-74), 3), (86, .return_, 1)]
set_option maxRecDepth 100000 in
theorem xD_149 : XDec 149 xI_149 := XDec.of (by decide +kernel)
/-- BranchGoalsModel.referred(II)Z -/
def xI_150 : List (Nat × Instr × Nat) := [(0, .iconst 0, 1), (1, .istore_n 3, 1), (2, .iconst 0, 1), (3, .istore 4, 2), (5, .iload 4, 2), (7, .aload_n 0, 1), (8, .getfield 13, 3), (11, .iload_n 1, 1), (12, .iaload, 1), (13, .if_icmp .ge 31, 3), (16, .iload_n 3, 1), (17, .ifCond .ne 15, 3), (20, .aload_n 0, 1), (21, .iload_n 1, 1), (22, .iload 4, 2), (24, .iconst 3, 1), (25, .invokevirtual 118, 3), (28, .iload_n 2, 1), (29, .if_icmp .ne 7, 3), (32, .iconst 1, 1), (33, .goto 4, 3), (36, .iconst 0, 1), (37, .istore_n 3, 1), (38, .iinc 4 1, 3), (41, .goto (-36), 3), (44, .iload_n 3, 1), (45, .ireturn, 1)]
set_option maxRecDepth 100000 in
theorem xD_150 : XDec 150 xI_150 := XDec.of (by decide +kernel)
/-- BranchGoalsModel.reported()I -/
def xI_151 : List (Nat × Instr × Nat) := [(0, .aload_n 0, 1), (1, .iconst (-1), 1), (2, .invokevirtual 239, 3), (5, .ireturn, 1)]
set_option maxRecDepth 100000 in
theorem xD_151 : XDec 151 xI_151 := XDec.of (by decide +kernel)
/-- BranchGoalsModel.length(I)I -/
def xI_152 : List (Nat × Instr × Nat) := [(0, .aload_n 0, 1), (1, .iload_n 1, 1), (2, .invokevirtual 245, 3), (5, .istore_n 2, 1), (6, .iload_n 2, 1), (7, .ifCond .ge 7, 3), (10, .iconst 0, 1), (11, .goto 9, 3), (14, .aload_n 0, 1), (15, .getfield 13, 3), (18, .iload_n 2, 1), (19, .iaload, 1), (20, .ireturn, 1)]
set_option maxRecDepth 100000 in
theorem xD_152 : XDec 152 xI_152 := XDec.of (by decide +kernel)
/-- BranchGoalsModel.slot(I)I -/
def xI_153 : List (Nat × Instr × Nat) := [(0, .iload_n 1, 1), (1, .iconst 0, 1), (2, .aload_n 0, 1), (3, .getfield 198, 3), (6, .iconst 1, 1), (7, .isub, 1), (8, .invokestatic 75, 3), (11, .ifCond .eq 5, 3), (14, .iload_n 1, 1), (15, .ireturn, 1), (16, .iload_n 1, 1), (17, .iconst (-1), 1), (18, .if_icmp .ne 16, 3), (21, .aload_n 0, 1), (22, .getfield 13, 3), (25, .bipush 7, 2), (27, .iaload, 1), (28, .ifCond .le 6, 3), (31, .bipush 7, 2), (33, .ireturn, 1), (34, .iload_n 1, 1), (35, .bipush 100, 2), (37, .if_icmp .lt 39, 3), (40, .iload_n 1, 1), (41, .bipush 100, 2), (43, .iconst 2, 1), (44, .aload_n 0, 1), (45, .getfield 89, 3), (48, .imul, 1), (49, .iadd, 1), (50, .if_icmp .ge 26, 3), (53, .aload_n 0, 1), (54, .getfield 13, 3), (57, .bipush 9, 2), (59, .iload_n 1, 1), (60, .iadd, 1), (61, .bipush 100, 2), (63, .isub, 1), (64, .iaload, 1), (65, .ifCond .le 11, 3), (68, .bipush 9, 2), (70, .iload_n 1, 1), (71, .iadd, 1), (72, .bipush 100, 2), (74, .isub, 1), (75, .ireturn, 1), (76, .iload_n 1, 1), (77, .sipush 200, 3), (80, .sipush 199, 3), (83, .aload_n 0, 1), (84, .getfield 236, 3), (87, .iadd, 1), (88, .invokestatic 75, 3), (91, .ifCond .eq 14, 3), (94, .bipush 33, 2), (96, .iload_n 1, 1), (97, .iadd, 1), (98, .sipush 200, 3), (101, .isub, 1), (102, .goto 4, 3), (105, .iconst (-1), 1), (106, .ireturn, 1)]
set_option maxRecDepth 100000 in
theorem xD_153 : XDec 153 xI_153 := XDec.of (by decide +kernel)
/-- BranchGoalsModel.step(III)I -/
def xI_154 : List (Nat × Instr × Nat) := [(0, .aload_n 0, 1), (1, .iload_n 1, 1), (2, .invokevirtual 245, 3), (5, .istore 4, 2), (7, .iload 4, 2), (9, .ifCond .lt 29, 3), (12, .iload_n 2, 1), (13, .iconst 0, 1), (14, .aload_n 0, 1), (15, .getfield 13, 3), (18, .iload 4, 2), (20, .iaload, 1), (21, .iconst 1, 1), (22, .isub, 1), (23, .invokestatic 75, 3), (26, .ifCond .eq 12, 3), (29, .iload_n 3, 1), (30, .iconst 0, 1), (31, .iconst 3, 1), (32, .invokestatic 75, 3), (35, .ifCond .ne 7, 3), (38, .iconst 0, 1), (39, .goto 11, 3), (42, .aload_n 0, 1), (43, .iload 4, 2), (45, .iload_n 2, 1), (46, .iload_n 3, 1), (47, .invokevirtual 118, 3), (50, .ireturn, 1)]
set_option maxRecDepth 100000 in
theorem xD_154 : XDec 154 xI_154 := XDec.of (by decide +kernel)
/-- BranchGoalsModel.covers(I)I -/
def xI_155 : List (Nat × Instr × Nat) := [(0, .aload_n 0, 1), (1, .iload_n 1, 1), (2, .invokevirtual 245, 3), (5, .istore_n 2, 1), (6, .iload_n 2, 1), (7, .ifCond .ge 7, 3), (10, .iconst 0, 1), (11, .goto 8, 3), (14, .aload_n 0, 1), (15, .iload_n 2, 1), (16, .invokevirtual 165, 3), (19, .ireturn, 1)]
set_option maxRecDepth 100000 in
theorem xD_155 : XDec 155 xI_155 := XDec.of (by decide +kernel)
/-- BranchGoalsModel.fitness(II)J -/
def xI_156 : List (Nat × Instr × Nat) := [(0, .aload_n 0, 1), (1, .iload_n 1, 1), (2, .invokevirtual 245, 3), (5, .istore_n 3, 1), (6, .iload_n 3, 1), (7, .ifCond .lt 11, 3), (10, .aload_n 0, 1), (11, .iload_n 2, 1), (12, .invokevirtual 96, 3), (15, .ifCond .ne 7, 3), (18, .ldc2_w 116, 3), (21, .lreturn, 1), (22, .aload_n 0, 1), (23, .iload_n 3, 1), (24, .invokevirtual 129, 3), (27, .aload_n 0, 1), (28, .iload_n 2, 1), (29, .invokevirtual 183, 3), (32, .lreturn, 1)]
set_option maxRecDepth 100000 in
theorem xD_156 : XDec 156 xI_156 := XDec.of (by decide +kernel)
/-- BranchGoalsModel.result(II)J -/
def xI_157 : List (Nat × Instr × Nat) := [(0, .aload_n 0, 1), (1, .iload_n 1, 1), (2, .invokevirtual 245, 3), (5, .istore_n 3, 1), (6, .iload_n 3, 1), (7, .ifCond .lt 19, 3), (10, .iload_n 2, 1), (11, .iconst 0, 1), (12, .aload_n 0, 1), (13, .getfield 13, 3), (16, .iload_n 3, 1), (17, .iaload, 1), (18, .iconst 1, 1), (19, .isub, 1), (20, .invokestatic 75, 3), (23, .ifCond .ne 7, 3), (26, .ldc2_w 248, 3), (29, .lreturn, 1), (30, .aload_n 0, 1), (31, .iload_n 3, 1), (32, .invokevirtual 129, 3), (35, .aload_n 0, 1), (36, .getfield 41, 3), (39, .iload_n 2, 1), (40, .laload, 1), (41, .lreturn, 1)]
set_option maxRecDepth 100000 in
theorem xD_157 : XDec 157 xI_157 := XDec.of (by decide +kernel)
/-- BranchGoalsModel.runs()I -/
def xI_158 : List (Nat × Instr × Nat) := [(0, .aload_n 0, 1), (1, .getfield 168, 3), (4, .ireturn, 1)]
set_option maxRecDepth 100000 in
theorem xD_158 : XDec 158 xI_158 := XDec.of (by decide +kernel)
/-- BranchGoalsModel.state()J -/
def xI_159 : List (Nat × Instr × Nat) := [(0, .aload_n 0, 1), (1, .getfield 64, 3), (4, .lreturn, 1)]
set_option maxRecDepth 100000 in
theorem xD_159 : XDec 159 xI_159 := XDec.of (by decide +kernel)
/-- BranchGoalsLaw.law([I)Z -/
def xI_160 : List (Nat × Instr × Nat) := [(0, .new 7, 3), (3, .dup, 1), (4, .aload_n 0, 1), (5, .iconst 0, 1), (6, .invokestatic 9, 3), (9, .invokespecial 15, 3), (12, .astore_n 1, 1), (13, .new 18, 3), (16, .dup, 1), (17, .aload_n 0, 1), (18, .iconst 0, 1), (19, .invokestatic 9, 3), (22, .invokespecial 20, 3), (25, .astore_n 2, 1), (26, .iconst 1, 1), (27, .istore_n 3, 1), (28, .iload_n 3, 1), (29, .aload_n 0, 1), (30, .arraylength, 1), (31, .bipush 6, 2), (33, .isub, 1), (34, .if_icmp .gt 547, 3), (37, .aload_n 0, 1), (38, .iload_n 3, 1), (39, .iaload, 1), (40, .bipush 31, 2), (42, .iand, 1), (43, .tableswitch 532 0 17 #[85, 148, 161, 184, 217, 270, 283, 296, 309, 322, 335, 348, 371, 414, 437, 471, 505, 518], 85), (128, .aload_n 1, 1), (129, .aload_n 0, 1), (130, .iload_n 3, 1), (131, .iconst 1, 1), (132, .iadd, 1), (133, .iaload, 1), (134, .aload_n 0, 1), (135, .iload_n 3, 1), (136, .iconst 2, 1), (137, .iadd, 1), (138, .iaload, 1), (139, .aload_n 0, 1), (140, .iload_n 3, 1), (141, .iconst 3, 1), (142, .iadd, 1), (143, .iaload, 1), (144, .aload_n 0, 1), (145, .iload_n 3, 1), (146, .iconst 4, 1), (147, .iadd, 1), (148, .iaload, 1), (149, .aload_n 0, 1), (150, .iload_n 3, 1), (151, .iconst 5, 1), (152, .iadd, 1), (153, .iaload, 1), (154, .invokevirtual 21, 3), (157, .aload_n 2, 1), (158, .aload_n 0, 1), (159, .iload_n 3, 1), (160, .iconst 1, 1), (161, .iadd, 1), (162, .iaload, 1), (163, .aload_n 0, 1), (164, .iload_n 3, 1), (165, .iconst 2, 1), (166, .iadd, 1), (167, .iaload, 1), (168, .aload_n 0, 1), (169, .iload_n 3, 1), (170, .iconst 3, 1), (171, .iadd, 1), (172, .iaload, 1), (173, .aload_n 0, 1), (174, .iload_n 3, 1), (175, .iconst 4, 1), (176, .iadd, 1), (177, .iaload, 1), (178, .aload_n 0, 1), (179, .iload_n 3, 1), (180, .iconst 5, 1), (181, .iadd, 1), (182, .iaload, 1), (183, .invokevirtual 25, 3), (186, .if_icmp .eq 389, 3), (189, .iconst 0, 1), (190, .ireturn, 1), (191, .aload_n 1, 1), (192, .invokevirtual 26, 3), (195, .aload_n 2, 1), (196, .invokevirtual 30, 3), (199, .if_icmp .eq 376, 3), (202, .iconst 0, 1), (203, .ireturn, 1), (204, .aload_n 1, 1), (205, .aload_n 0, 1), (206, .iload_n 3, 1), (207, .iconst 1, 1), (208, .iadd, 1), (209, .iaload, 1), (210, .invokevirtual 31, 3), (213, .aload_n 2, 1), (214, .aload_n 0, 1), (215, .iload_n 3, 1), (216, .iconst 1, 1), (217, .iadd, 1), (218, .iaload, 1), (219, .invokevirtual 35, 3), (222, .if_icmp .eq 353, 3), (225, .iconst 0, 1), (226, .ireturn, 1), (227, .aload_n 1, 1), (228, .aload_n 0, 1), (229, .iload_n 3, 1), (230, .iconst 1, 1), (231, .iadd, 1), (232, .iaload, 1), (233, .aload_n 0, 1), (234, .iload_n 3, 1), (235, .iconst 2, 1), (236, .iadd, 1), (237, .iaload, 1), (238, .invokevirtual 36, 3), (241, .aload_n 2, 1), (242, .aload_n 0, 1), (243, .iload_n 3, 1), (244, .iconst 1, 1), (245, .iadd, 1), (246, .iaload, 1), (247, .aload_n 0, 1), (248, .iload_n 3, 1), (249, .iconst 2, 1), (250, .iadd, 1), (251, .iaload, 1), (252, .invokevirtual 40, 3), (255, .if_icmp .eq 320, 3), (258, .iconst 0, 1), (259, .ireturn, 1), (260, .aload_n 1, 1), (261, .aload_n 0, 1), (262, .iload_n 3, 1), (263, .iconst 1, 1), (264, .iadd, 1), (265, .iaload, 1), (266, .aload_n 0, 1), (267, .iload_n 3, 1), (268, .iconst 2, 1), (269, .iadd, 1), (270, .iaload, 1), (271, .aload_n 0, 1), (272, .iload_n 3, 1), (273, .iconst 3, 1), (274, .iadd, 1), (275, .iaload, 1), (276, .aload_n 0, 1), (277, .iload_n 3, 1), (278, .iconst 4, 1), (279, .iadd, 1), (280, .iaload, 1), (281, .invokevirtual 41, 3), (284, .aload_n 2, 1), (285, .aload_n 0, 1), (286, .iload_n 3, 1), (287, .iconst 1, 1), (288, .iadd, 1), (289, .iaload, 1), (290, .aload_n 0, 1), (291, .iload_n 3, 1), (292, .iconst 2, 1), (293, .iadd, 1), (294, .iaload, 1), (295, .aload_n 0, 1), (296, .iload_n 3, 1), (297, .iconst 3, 1), (298, .iadd, 1), (299, .iaload, 1), (300, .aload_n 0, 1), (301, .iload_n 3, 1), (302, .iconst 4, 1), (303, .iadd, 1), (304, .iaload, 1), (305, .invokevirtual 45, 3), (308, .if_icmp .eq 267, 3), (311, .iconst 0, 1), (312, .ireturn, 1), (313, .aload_n 1, 1), (314, .invokevirtual 46, 3), (317, .aload_n 2, 1), (318, .invokevirtual 49, 3), (321, .if_icmp .eq 254, 3), (324, .iconst 0, 1), (325, .ireturn, 1), (326, .aload_n 1, 1), (327, .invokevirtual 50, 3), (330, .aload_n 2, 1), (331, .invokevirtual 53, 3), (334, .if_icmp .eq 241, 3), (337, .iconst 0, 1), (338, .ireturn, 1), (339, .aload_n 1, 1), (340, .invokevirtual 54, 3), (343, .aload_n 2, 1), (344, .invokevirtual 57, 3), (347, .if_icmp .eq 228, 3), (350, .iconst 0, 1), (351, .ireturn, 1), (352, .aload_n 1, 1), (353, .invokevirtual 58, 3), (356, .aload_n 2, 1), (357, .invokevirtual 61, 3), (360, .if_icmp .eq 215, 3), (363, .iconst 0, 1), (364, .ireturn, 1), (365, .aload_n 1, 1), (366, .invokevirtual 62, 3), (369, .aload_n 2, 1), (370, .invokevirtual 65, 3), (373, .if_icmp .eq 202, 3), (376, .iconst 0, 1), (377, .ireturn, 1), (378, .aload_n 1, 1), (379, .invokevirtual 66, 3), (382, .aload_n 2, 1), (383, .invokevirtual 69, 3), (386, .if_icmp .eq 189, 3), (389, .iconst 0, 1), (390, .ireturn, 1), (391, .aload_n 1, 1), (392, .aload_n 0, 1), (393, .iload_n 3, 1), (394, .iconst 1, 1), (395, .iadd, 1), (396, .iaload, 1), (397, .invokevirtual 70, 3), (400, .aload_n 2, 1), (401, .aload_n 0, 1), (402, .iload_n 3, 1), (403, .iconst 1, 1), (404, .iadd, 1), (405, .iaload, 1), (406, .invokevirtual 74, 3), (409, .if_icmp .eq 166, 3), (412, .iconst 0, 1), (413, .ireturn, 1), (414, .aload_n 1, 1), (415, .aload_n 0, 1), (416, .iload_n 3, 1), (417, .iconst 1, 1), (418, .iadd, 1), (419, .iaload, 1), (420, .aload_n 0, 1), (421, .iload_n 3, 1), (422, .iconst 2, 1), (423, .iadd, 1), (424, .iaload, 1), (425, .aload_n 0, 1), (426, .iload_n 3, 1), (427, .iconst 3, 1), (428, .iadd, 1), (429, .iaload, 1), (430, .invokevirtual 75, 3), (433, .aload_n 2, 1), (434, .aload_n 0, 1), (435, .iload_n 3, 1), (436, .iconst 1, 1), (437, .iadd, 1), (438, .iaload, 1), (439, .aload_n 0, 1), (440, .iload_n 3, 1), (441, .iconst 2, 1), (442, .iadd, 1), (443, .iaload, 1), (444, .aload_n 0, 1), (445, .iload_n 3, 1), (446, .iconst 3, 1), (447, .iadd, 1), (448, .iaload, 1), (449, .invokevirtual 79, 3), (452, .if_icmp .eq 123, 3), (455, .iconst 0, 1), (456, .ireturn, 1), (457, .aload_n 1, 1), (458, .aload_n 0, 1), (459, .iload_n 3, 1), (460, .iconst 1, 1), (461, .iadd, 1), (462, .iaload, 1), (463, .invokevirtual 80, 3), (466, .aload_n 2, 1), (467, .aload_n 0, 1), (468, .iload_n 3, 1), (469, .iconst 1, 1), (470, .iadd, 1), (471, .iaload, 1), (472, .invokevirtual 83, 3), (475, .if_icmp .eq 100, 3), (478, .iconst 0, 1), (479, .ireturn, 1), (480, .aload_n 1, 1), (481, .aload_n 0, 1), (482, .iload_n 3, 1), (483, .iconst 1, 1), (484, .iadd, 1), (485, .iaload, 1), (486, .aload_n 0, 1), (487, .iload_n 3, 1), (488, .iconst 2, 1), (489, .iadd, 1), (490, .iaload, 1), (491, .invokevirtual 84, 3), (494, .aload_n 2, 1), (495, .aload_n 0, 1), (496, .iload_n 3, 1), (497, .iconst 1, 1), (498, .iadd, 1), (499, .iaload, 1), (500, .aload_n 0, 1), (501, .iload_n 3, 1), (502, .iconst 2, 1), (503, .iadd, 1), (504, .iaload, 1), (505, .invokevirtual 88, 3), (508, .lcmp, 1), (509, .ifCond .eq 66, 3), (512, .iconst 0, 1), (513, .ireturn, 1), (514, .aload_n 1, 1), (515, .aload_n 0, 1), (516, .iload_n 3, 1), (517, .iconst 1, 1), (518, .iadd, 1), (519, .iaload, 1), (520, .aload_n 0, 1), (521, .iload_n 3, 1), (522, .iconst 2, 1), (523, .iadd, 1), (524, .iaload, 1), (525, .invokevirtual 89, 3), (528, .aload_n 2, 1), (529, .aload_n 0, 1), (530, .iload_n 3, 1), (531, .iconst 1, 1), (532, .iadd, 1), (533, .iaload, 1), (534, .aload_n 0, 1), (535, .iload_n 3, 1), (536, .iconst 2, 1), (537, .iadd, 1), (538, .iaload, 1), (539, .invokevirtual 92, 3), (542, .lcmp, 1), (543, .ifCond .eq 32, 3), (546, .iconst 0, 1), (547, .ireturn, 1), (548, .aload_n 1, 1), (549, .invokevirtual 93, 3), (552, .aload_n 2, 1), (553, .invokevirtual 96, 3), (556, .if_icmp .eq 19, 3), (559, .iconst 0, 1), (560, .ireturn, 1), (561, .aload_n 1, 1), (562, .invokevirtual 97, 3), (565, .aload_n 2, 1), (566, .invokevirtual 101, 3), (569, .lcmp, 1), (570, .ifCond .eq 5, 3), (573, .iconst 0, 1), (574, .ireturn, 1), (575, .iinc 3 6, 3), (578, .goto (-550), 3), (581, .iconst 1, 1), (582, .ireturn, 1)]
set_option maxRecDepth 100000 in
theorem xD_160 : XDec 160 xI_160 := XDec.of (by decide +kernel)
end
section
/-! The memory behind the constructors: its shape (written by wip/gen/mk32.py), and rows for walks over it. -/
def kTl : List (Nat × Nat) := [(999, 0), (8, 9), (5, 4), (104, 2), (3, 7), (100, 10), (100, 10), (100, 10), (100, 10), (100, 10), (3, 7), (100, 10), (100, 10), (100, 10), (100, 10), (100, 10), (100, 12), (102, 12), (2, 3), (100, 20), (6, 3), (100, 8), (101, 24), (0, 2), (103, 24), (1, 7), (100, 24), (101, 6), (101, 24), (1, 7), (100, 24), (101, 6), (101, 24), (1, 7), (100, 24), (101, 6), (101, 24), (1, 7), (100, 24), (101, 6), (101, 24), (1, 7), (100, 24), (101, 6), (101, 24), (1, 7), (100, 24), (101, 6), (101, 24), (1, 7), (100, 24), (101, 6), (101, 24), (1, 7), (100, 24), (101, 6), (101, 24), (1, 7), (100, 24), (101, 6), (101, 24), (1, 7), (100, 24), (101, 6), (101, 24), (1, 7), (100, 24), (101, 6), (101, 24), (1, 7), (100, 24), (101, 6), (101, 24), (1, 7), (100, 24), (101, 6), (101, 24), (1, 7), (100, 24), (101, 6), (101, 24), (1, 7), (100, 24), (101, 6), (101, 24), (1, 7), (100, 24), (101, 6), (101, 24), (1, 7), (100, 24), (101, 6), (101, 24), (1, 7), (100, 24), (101, 6), (101, 24), (1, 7), (100, 24), (101, 6), (101, 24), (1, 7), (100, 24), (101, 6), (101, 24), (1, 7), (100, 24), (101, 6), (101, 24), (1, 7), (100, 24), (101, 6), (101, 24), (1, 7), (100, 24), (101, 6), (101, 24), (1, 7), (100, 24), (101, 6), (101, 24), (4, 2), (103, 7), (1, 7), (100, 24), (101, 6), (101, 24), (1, 7), (100, 24), (101, 6), (101, 24), (1, 7), (100, 24), (101, 6), (101, 24), (1, 7), (100, 24), (101, 6), (101, 24), (1, 7), (100, 24), (101, 6), (101, 24), (1, 7), (100, 24), (101, 6), (101, 24), (1, 7), (100, 24), (101, 6), (101, 24), (7, 3), (103, 24), (1, 7), (100, 24), (101, 6), (101, 24), (1, 7), (100, 24), (101, 6), (101, 24), (1, 7), (100, 24), (101, 6), (101, 24), (1, 7), (100, 24), (101, 6), (101, 24), (1, 7), (100, 24), (101, 6), (101, 24), (1, 7), (100, 24), (101, 6), (101, 24), (1, 7), (100, 24), (101, 6), (101, 24), (1, 7), (100, 24), (101, 6), (101, 24), (1, 7), (100, 24), (101, 6), (101, 24), (1, 7), (100, 24), (101, 6), (101, 24), (1, 7), (100, 24), (101, 6), (101, 24), (1, 7), (100, 24), (101, 6), (101, 24), (1, 7), (100, 24), (101, 6), (101, 24), (1, 7), (100, 24), (101, 6), (101, 24), (1, 7), (100, 24), (101, 6), (101, 24), (1, 7), (100, 24), (101, 6), (101, 24), (1, 7), (100, 24), (101, 6), (101, 24), (1, 7), (100, 24), (101, 6), (101, 24), (1, 7), (100, 24), (101, 6), (101, 24), (1, 7), (100, 24), (101, 6), (101, 24), (1, 7), (100, 24), (101, 6), (101, 24), (1, 7), (100, 24), (101, 6), (101, 24), (1, 7), (100, 24), (101, 6), (101, 24), (1, 7), (100, 24), (101, 6), (101, 24), (1, 7), (100, 24), (101, 6), (101, 24), (1, 7), (100, 24), (101, 6), (101, 24), (1, 7), (100, 24), (101, 6), (101, 24), (9, 22), (100, 1608), (100, 67), (100, 80), (100, 2), (102, 2), (100, 12), (100, 12), (100, 12), (102, 12), (100, 8), (101, 6), (101, 24), (101, 168), (100, 7), (100, 7), (100, 24)]
def kT (a : Nat) : Nat × Nat := kTl.getD a (999, 0)
def hh (I : Nat → Nat → Int32) (J : Nat → Nat → Int64) (R : Nat → Nat → Option Nat) : XH := (278, 5884, kT, I, J, R)
def kq (a : Nat) : Nat × Nat := if 1 ≤ a ∧ a < 278 then kT a else (999, 0)
def rfT : List (Nat × Nat × Nat) := [(1, 0, 2), (2, 0, 3), (4, 0, 5), (4, 1, 6), (4, 2, 7), (4, 3, 8), (4, 4, 9), (3, 0, 4), (10, 0, 11), (10, 1, 12), (10, 2, 13), (10, 3, 14), (10, 4, 15), (3, 1, 10), (2, 1, 16), (2, 2, 17), (1, 1, 18), (18, 0, 19), (1, 2, 20), (20, 0, 21), (20, 1, 22), (1, 3, 23), (23, 0, 24), (24, 0, 25), (24, 1, 29), (24, 2, 33), (24, 3, 37), (24, 4, 41), (24, 5, 45), (24, 6, 49), (24, 7, 53), (24, 8, 57), (24, 9, 61), (24, 10, 65), (24, 11, 69), (24, 12, 73), (24, 13, 77), (24, 14, 81), (24, 15, 85), (24, 16, 89), (24, 17, 93), (24, 18, 97), (24, 19, 101), (24, 20, 105), (24, 21, 109), (24, 22, 113), (24, 23, 117), (1, 4, 121), (121, 0, 122), (1, 5, 151), (151, 0, 152), (151, 1, 249), (1, 6, 253), (1, 7, 257), (261, 0, 262), (261, 1, 263), (261, 2, 264), (261, 3, 265), (261, 4, 266), (261, 5, 267), (261, 6, 268), (261, 7, 269), (261, 8, 270), (261, 15, 271), (261, 16, 272), (261, 17, 273), (261, 18, 274), (261, 19, 275), (261, 20, 276), (261, 21, 277)]
def rfF (a j : Nat) : Option Nat := (rfT.find? (fun q => q.1 == a && q.2.1 == j)).map (fun q => q.2.2)
def isCase (a : Nat) : Prop := (25 ≤ a ∧ a < 121 ∧ a % 4 = 1) ∨ (123 ≤ a ∧ a < 151 ∧ a % 4 = 3) ∨ (153 ≤ a ∧ a < 261 ∧ a % 4 = 1)
def isCaseB (a : Nat) : Bool := (decide (25 ≤ a) && decide (a < 121) && decide (a % 4 = 1)) || (decide (123 ≤ a) && decide (a < 151) && decide (a % 4 = 3)) || (decide (153 ≤ a) && decide (a < 261) && decide (a % 4 = 1))
theorem isCase_b {a : Nat} (h : isCase a) : isCaseB a = true := by
  unfold isCase at h
  unfold isCaseB
  rcases h with ⟨h1, h2, h3⟩ | ⟨h1, h2, h3⟩ | ⟨h1, h2, h3⟩ <;> simp [h1, h2, h3]
set_option maxRecDepth 100000 in
theorem kCaseB : (List.range 278).all (fun a => !isCaseB a || (decide (kq a = (1, 7)) && decide (kq (a + 1) = (100, 24)) && decide (kq (a + 2) = (101, 6)) && decide (kq (a + 3) = (101, 24)))) = true := by decide +kernel
theorem kCase {a : Nat} (h : isCase a) : kq a = (1, 7) ∧ kq (a + 1) = (100, 24) ∧ kq (a + 2) = (101, 6) ∧ kq (a + 3) = (101, 24) := by
  have hlt : a < 278 := by unfold isCase at h; omega
  have h1 := xall_r kCaseB hlt
  simp only [isCase_b h, Bool.not_true, Bool.false_or, Bool.and_eq_true, decide_eq_true_eq] at h1
  exact ⟨h1.1.1.1, h1.1.1.2, h1.1.2, h1.2⟩
/-- the references that stay: the fixed ones, and those of every case -/
def RF (R : Nat → Nat → Option Nat) : Prop := (∀ a j t, rfF a j = some t → R a j = some t) ∧ ∀ a, isCase a → R a 0 = some (a + 1) ∧ R a 1 = some (a + 2) ∧ R a 2 = some (a + 3)
section YR
variable {S : XS} {d k pc pc' len y a j ci n : Nat} {L L1 : XL} {st st' r as : List Value} {I : Nat → Nat → Int32} {J : Nat → Nat → Int64} {R : Nat → Nat → Option Nat} {h : XH} {Q Q' : Option Value → XH → Prop} {i : Instr} {v : Option Value} {T : List (Nat × Instr × Nat)} {x z : Int32} {w u : Int64}
theorem y_op (hD : XDec k T) (hd : xat T pc = some (i, len)) (hl : len = xlen i) (ho : xop i st = some st') (hp : pc + len = pc') (K : XP S d k pc' L st' h Q) : XP S d k pc L st h Q := x_op rfl (hD.at hd) hl ho hp K
theorem y_loc (hD : XDec k T) (hd : xat T pc = some (i, len)) (hl : len = xlen i) (ho : xloc i L st = some (L1, st')) (hp : pc + len = pc') (K : XP S d k pc' L1 st' h Q) : XP S d k pc L st h Q := x_loc rfl (hD.at hd) hl ho hp K
theorem y_ldc (hD : XDec k T) (hd : xat T pc = some (i, len)) (hl : len = xlen i) (ho : xmem S k i st h = some (st', h)) (hp : pc + len = pc') (K : XP S d k pc' L st' h Q) : XP S d k pc L st h Q := x_mem rfl (hD.at hd) hl ho hp K
theorem y_goto {off : Int} (hD : XDec k T) (hd : xat T pc = some (.goto off, 3)) (ht : xtg pc off = some pc') (K : XP S d k pc' L st h Q) : XP S d k pc L st h Q := x_goto rfl (hD.at hd) ht K
theorem y_if {cd : ClassFile.Cond} {off : Int} (hD : XDec k T) (hd : xat T pc = some (.ifCond cd off, 3)) (ht : xtg pc off = some pc') (kt : xcnd cd x 0 = true → XP S d k pc' L r h Q) (kf : xcnd cd x 0 = false → XP S d k (pc + 3) L r h Q) : XP S d k pc L (.int x :: r) h Q := x_if rfl (hD.at hd) ht kt kf
theorem y_icmp {cd : ClassFile.Cond} {off : Int} (hD : XDec k T) (hd : xat T pc = some (.if_icmp cd off, 3)) (ht : xtg pc off = some pc') (kt : xcnd cd x z = true → XP S d k pc' L r h Q) (kf : xcnd cd x z = false → XP S d k (pc + 3) L r h Q) : XP S d k pc L (.int z :: .int x :: r) h Q := x_icmp rfl (hD.at hd) ht kt kf
theorem y_jmp (hD : XDec k T) (hd : xat T pc = some (i, len)) (ho : xjmp i len pc st = some (pc', st')) (K : XP S d k pc' L st' h Q) : XP S d k pc L st h Q := x_jmp rfl (hD.at hd) ho K
theorem y_ret (hD : XDec k T) (hd : xat T pc = some (i, len)) (hr : xret k i len st = some v) (hq : Q v h) : XP S d k pc L st h Q := x_ret rfl (hD.at hd) hr hq
theorem y_call (hD : XDec k T) (hd : xat T pc = some (i, len)) (ho : xcall k i len st h = some (y, as, r)) (hcal : XP S d y 0 (xent as (xml y)) [] h Q') (kk : ∀ v h', Q' v h' → XP S (d + 1) k (pc + 3) L (v.toList ++ r) h' Q) : XP S (d + 1) k pc L st h Q := x_call rfl (hD.at hd) ho hcal kk
theorem xkd_hh : xkd (hh I J R) a = kq a := rfl
-- fields
theorem m_get {idx : Nat} {q : Value} (hD : XDec k T) (hd : xat T pc = some (.getfield idx, 3)) (hf : xfld (xkc k) idx = some (ci, j)) (hk : kq a = (ci, xnf ci)) (hv : xfv (xft ci j) (I a) (J a) (R a) j = q) (hp : pc + 3 = pc') (K : XP S d k pc' L (q :: r) (hh I J R) Q) : XP S d k pc L (.ref a :: r) (hh I J R) Q := by
  refine y_ldc hD hd rfl ?_ hp K
  show xgetf k idx (hh I J R) (.ref a :: r) = _
  unfold xgetf
  simp only [hf, xkd_hh, hk]
  rw [if_pos trivial]
  subst hv
  rfl
theorem m_getR {idx t : Nat} (hD : XDec k T) (hd : xat T pc = some (.getfield idx, 3)) (hf : xfld (xkc k) idx = some (ci, j)) (hk : kq a = (ci, xnf ci)) (hv : xfv (xft ci j) (I a) (J a) (R a) j = va_rf (R a j)) (hr : R a j = some t) (hp : pc + 3 = pc') (K : XP S d k pc' L (.ref t :: r) (hh I J R) Q) : XP S d k pc L (.ref a :: r) (hh I J R) Q := by
  refine m_get hD hd hf hk hv hp ?_
  rw [hr]
  exact K
theorem m_put {idx : Nat} {q : Value} {I' : Nat → Nat → Int32} {J' : Nat → Nat → Int64} (hD : XDec k T) (hd : xat T pc = some (.putfield idx, 3)) (hf : xfld (xkc k) idx = some (ci, j)) (hk : kq a = (ci, xnf ci)) (hpo : xpok k ci j = true) (hv : xfp (xft ci j) (hh I J R) a j q = some (hh I' J' R)) (hp : pc + 3 = pc') (K : XP S d k pc' L r (hh I' J' R) Q) : XP S d k pc L (q :: .ref a :: r) (hh I J R) Q := by
  refine x_mem rfl (hD.at hd) rfl ?_ hp K
  show xputf k idx (hh I J R) (q :: .ref a :: r) = _
  unfold xputf
  simp only [hf, xkd_hh, hk, hpo, and_self, if_true, hv]
  rfl
theorem m_putI {idx : Nat} (hD : XDec k T) (hd : xat T pc = some (.putfield idx, 3)) (hf : xfld (xkc k) idx = some (ci, j)) (hk : kq a = (ci, xnf ci)) (hpo : xpok k ci j = true) (hv : xft ci j = .int) (hp : pc + 3 = pc') (K : XP S d k pc' L r (hh (xu I a j x) J R) Q) : XP S d k pc L (.int x :: .ref a :: r) (hh I J R) Q := m_put hD hd hf hk hpo (by rw [hv]; rfl) hp K
theorem m_putZ {idx : Nat} (hx : x = 0 ∨ x = 1) (hD : XDec k T) (hd : xat T pc = some (.putfield idx, 3)) (hf : xfld (xkc k) idx = some (ci, j)) (hk : kq a = (ci, xnf ci)) (hpo : xpok k ci j = true) (hv : xft ci j = .boolean) (hp : pc + 3 = pc') (K : XP S d k pc' L r (hh (xu I a j x) J R) Q) : XP S d k pc L (.int x :: .ref a :: r) (hh I J R) Q := m_put hD hd hf hk hpo (by rw [hv]; show (if x = 0 ∨ x = 1 then _ else _) = _; rw [if_pos hx]; rfl) hp K
theorem m_putJ {idx : Nat} (hD : XDec k T) (hd : xat T pc = some (.putfield idx, 3)) (hf : xfld (xkc k) idx = some (ci, j)) (hk : kq a = (ci, xnf ci)) (hpo : xpok k ci j = true) (hv : xft ci j = .long) (hp : pc + 3 = pc') (K : XP S d k pc' L r (hh I (xu J a j w) R) Q) : XP S d k pc L (.long w :: .ref a :: r) (hh I J R) Q := m_put hD hd hf hk hpo (by rw [hv]; rfl) hp K
-- arrays: the index is nI j
theorem xinb_nI {j n : Nat} (h : j < n) (hn : n < 2000) : xinb (nI j) n = true := by
  unfold xinb
  exact decide_eq_true (nI_in h (by omega))
theorem nI_cl {j : Nat} (h : j < 2000) : (nI j).toNatClampNeg = j := nI_clamp (by omega)
theorem m_iald (j : Nat) (hD : XDec k T) (hd : xat T pc = some (.iaload, 1)) (hk : kq a = (100, n)) (hj : j < n) (hn : n < 2000) (ha : a ≠ 0) (hx : x = nI j) (hp : pc + 1 = pc') (K : XP S d k pc' L (.int (I a j) :: r) (hh I J R) Q) : XP S d k pc L (.int x :: .ref a :: r) (hh I J R) Q := by
  subst hx
  refine y_ldc hD hd rfl ?_ hp K
  show xiald S (hh I J R) (.int (nI j) :: .ref a :: r) = _
  unfold xiald
  simp only [if_neg ha, xkd_hh, hk, xinb_nI hj hn, nI_cl (Nat.lt_trans hj hn)]
  rfl
theorem m_zald (j : Nat) (hD : XDec k T) (hd : xat T pc = some (.baload, 1)) (hk : kq a = (102, n)) (hj : j < n) (hn : n < 2000) (hx : x = nI j) (hp : pc + 1 = pc') (K : XP S d k pc' L (.int (I a j) :: r) (hh I J R) Q) : XP S d k pc L (.int x :: .ref a :: r) (hh I J R) Q := by
  subst hx
  refine y_ldc hD hd rfl ?_ hp K
  show xzald (hh I J R) (.int (nI j) :: .ref a :: r) = _
  unfold xzald
  simp only [xkd_hh, hk, xinb_nI hj hn, nI_cl (Nat.lt_trans hj hn)]
  rfl
theorem m_jald (j : Nat) (hD : XDec k T) (hd : xat T pc = some (.laload, 1)) (hk : kq a = (101, n)) (hj : j < n) (hn : n < 2000) (hx : x = nI j) (hp : pc + 1 = pc') (K : XP S d k pc' L (.long (J a j) :: r) (hh I J R) Q) : XP S d k pc L (.int x :: .ref a :: r) (hh I J R) Q := by
  subst hx
  refine y_ldc hD hd rfl ?_ hp K
  show xjald (hh I J R) (.int (nI j) :: .ref a :: r) = _
  unfold xjald
  simp only [xkd_hh, hk, xinb_nI hj hn, nI_cl (Nat.lt_trans hj hn)]
  rfl
theorem m_aald (j : Nat) {q t : Nat} (hD : XDec k T) (hd : xat T pc = some (.aaload, 1)) (hk : kq a = (103 + q, n)) (hq : q < 2) (hj : j < n) (hn : n < 2000) (hx : x = nI j) (hr : R a j = some t) (hp : pc + 1 = pc') (K : XP S d k pc' L (.ref t :: r) (hh I J R) Q) : XP S d k pc L (.int x :: .ref a :: r) (hh I J R) Q := by
  subst hx
  refine y_ldc hD hd rfl ?_ hp K
  show xaald (hh I J R) (.int (nI j) :: .ref a :: r) = _
  unfold xaald
  simp only [xkd_hh, hk, xinb_nI hj hn, nI_cl (Nat.lt_trans hj hn)]
  rw [if_pos ⟨by omega, by unfold xnq; omega, trivial⟩]
  show some (va_rf (R a j) :: r, hh I J R) = _
  rw [hr]
  rfl
theorem m_iast (j : Nat) (hD : XDec k T) (hd : xat T pc = some (.iastore, 1)) (hk : kq a = (100, n)) (hj : j < n) (hn : n < 2000) (hx : x = nI j) (hp : pc + 1 = pc') (K : XP S d k pc' L r (hh (xu I a j z) J R) Q) : XP S d k pc L (.int z :: .int x :: .ref a :: r) (hh I J R) Q := by
  subst hx
  refine x_mem rfl (hD.at hd) rfl ?_ hp K
  show xiast (hh I J R) (.int z :: .int (nI j) :: .ref a :: r) = _
  unfold xiast
  simp only [xkd_hh, hk, xinb_nI hj hn, nI_cl (Nat.lt_trans hj hn)]
  rfl
theorem m_zast (j : Nat) (hz : z = 0 ∨ z = 1) (hD : XDec k T) (hd : xat T pc = some (.bastore, 1)) (hk : kq a = (102, n)) (hj : j < n) (hn : n < 2000) (hx : x = nI j) (hp : pc + 1 = pc') (K : XP S d k pc' L r (hh (xu I a j z) J R) Q) : XP S d k pc L (.int z :: .int x :: .ref a :: r) (hh I J R) Q := by
  subst hx
  refine x_mem rfl (hD.at hd) rfl ?_ hp K
  show xzast (hh I J R) (.int z :: .int (nI j) :: .ref a :: r) = _
  unfold xzast
  simp only [xkd_hh, hk, xinb_nI hj hn, nI_cl (Nat.lt_trans hj hn)]
  rw [if_pos ⟨trivial, trivial, hz⟩]
  rfl
theorem m_jast (j : Nat) (hD : XDec k T) (hd : xat T pc = some (.lastore, 1)) (hk : kq a = (101, n)) (hj : j < n) (hn : n < 2000) (hx : x = nI j) (hp : pc + 1 = pc') (K : XP S d k pc' L r (hh I (xu J a j w) R) Q) : XP S d k pc L (.long w :: .int x :: .ref a :: r) (hh I J R) Q := by
  subst hx
  refine x_mem rfl (hD.at hd) rfl ?_ hp K
  show xjast (hh I J R) (.long w :: .int (nI j) :: .ref a :: r) = _
  unfold xjast
  simp only [xkd_hh, hk, xinb_nI hj hn, nI_cl (Nat.lt_trans hj hn)]
  rfl
theorem m_aast (j : Nat) {q t : Nat} (hD : XDec k T) (hd : xat T pc = some (.aastore, 1)) (hk : kq a = (103 + q, n)) (hq : q < 2) (hj : j < n) (hn : n < 2000) (hx : x = nI j) (ht : kq t = (xqc q, xnf (xqc q))) (hp : pc + 1 = pc') (K : XP S d k pc' L r (hh I J (xu R a j (some t))) Q) : XP S d k pc L (.ref t :: .int x :: .ref a :: r) (hh I J R) Q := by
  subst hx
  refine x_mem rfl (hD.at hd) rfl ?_ hp K
  show xaast (hh I J R) (.ref t :: .int (nI j) :: .ref a :: r) = _
  unfold xaast
  simp only [xkd_hh, hk, xinb_nI hj hn, nI_cl (Nat.lt_trans hj hn)]
  rw [if_pos ⟨by omega, by unfold xnq; omega, trivial, by rw [show 103 + q - 103 = q by omega]; exact ht⟩]
  rfl
-- conditions
theorem c_eq {x z : Int32} : xcnd .eq x z = true ↔ x = z := by simp [xcnd]
theorem c_ne {x z : Int32} : xcnd .ne x z = true ↔ ¬ x = z := by simp [xcnd]
theorem c_lt {x z : Int32} : xcnd .lt x z = true ↔ x < z := by simp [xcnd]
theorem c_ge {x z : Int32} : xcnd .ge x z = true ↔ z ≤ x := by simp [xcnd]
theorem c_gt {x z : Int32} : xcnd .gt x z = true ↔ z < x := by simp [xcnd]
theorem c_le {x z : Int32} : xcnd .le x z = true ↔ x ≤ z := by simp [xcnd]
theorem cf_eq {x z : Int32} : xcnd .eq x z = false ↔ ¬ x = z := by simp [xcnd]
theorem cf_ne {x z : Int32} : xcnd .ne x z = false ↔ x = z := by simp [xcnd]
theorem cf_lt {x z : Int32} : xcnd .lt x z = false ↔ ¬ x < z := by simp [xcnd]
theorem cf_ge {x z : Int32} : xcnd .ge x z = false ↔ ¬ z ≤ x := by simp [xcnd]
theorem cf_gt {x z : Int32} : xcnd .gt x z = false ↔ ¬ z < x := by simp [xcnd]
theorem cf_le {x z : Int32} : xcnd .le x z = false ↔ ¬ x ≤ z := by simp [xcnd]
end YR
section YB
variable {S : XS} {d k pc pt pf : Nat} {L : XL} {r : List Value} {h : XH} {Q : Option Value → XH → Prop} {T : List (Nat × Instr × Nat)} {x z : Int32} {off : Int}
theorem y_ifeq (hD : XDec k T) (hd : xat T pc = some (.ifCond .eq off, 3)) (ht : xtg pc off = some pt) (hp : pc + 3 = pf) (kt : x = 0 → XP S d k pt L r h Q) (kf : ¬ x = 0 → XP S d k pf L r h Q) : XP S d k pc L (.int x :: r) h Q := by
  subst hp
  exact y_if hD hd ht (fun q => kt (c_eq.mp q)) (fun q => kf (cf_eq.mp q))
theorem y_iceq (hD : XDec k T) (hd : xat T pc = some (.if_icmp .eq off, 3)) (ht : xtg pc off = some pt) (hp : pc + 3 = pf) (kt : x = z → XP S d k pt L r h Q) (kf : ¬ x = z → XP S d k pf L r h Q) : XP S d k pc L (.int z :: .int x :: r) h Q := by
  subst hp
  exact y_icmp hD hd ht (fun q => kt (c_eq.mp q)) (fun q => kf (cf_eq.mp q))
theorem y_ifne (hD : XDec k T) (hd : xat T pc = some (.ifCond .ne off, 3)) (ht : xtg pc off = some pt) (hp : pc + 3 = pf) (kt : ¬ x = 0 → XP S d k pt L r h Q) (kf : x = 0 → XP S d k pf L r h Q) : XP S d k pc L (.int x :: r) h Q := by
  subst hp
  exact y_if hD hd ht (fun q => kt (c_ne.mp q)) (fun q => kf (cf_ne.mp q))
theorem y_icne (hD : XDec k T) (hd : xat T pc = some (.if_icmp .ne off, 3)) (ht : xtg pc off = some pt) (hp : pc + 3 = pf) (kt : ¬ x = z → XP S d k pt L r h Q) (kf : x = z → XP S d k pf L r h Q) : XP S d k pc L (.int z :: .int x :: r) h Q := by
  subst hp
  exact y_icmp hD hd ht (fun q => kt (c_ne.mp q)) (fun q => kf (cf_ne.mp q))
theorem y_iflt (hD : XDec k T) (hd : xat T pc = some (.ifCond .lt off, 3)) (ht : xtg pc off = some pt) (hp : pc + 3 = pf) (kt : x < 0 → XP S d k pt L r h Q) (kf : ¬ x < 0 → XP S d k pf L r h Q) : XP S d k pc L (.int x :: r) h Q := by
  subst hp
  exact y_if hD hd ht (fun q => kt (c_lt.mp q)) (fun q => kf (cf_lt.mp q))
theorem y_iclt (hD : XDec k T) (hd : xat T pc = some (.if_icmp .lt off, 3)) (ht : xtg pc off = some pt) (hp : pc + 3 = pf) (kt : x < z → XP S d k pt L r h Q) (kf : ¬ x < z → XP S d k pf L r h Q) : XP S d k pc L (.int z :: .int x :: r) h Q := by
  subst hp
  exact y_icmp hD hd ht (fun q => kt (c_lt.mp q)) (fun q => kf (cf_lt.mp q))
theorem y_ifge (hD : XDec k T) (hd : xat T pc = some (.ifCond .ge off, 3)) (ht : xtg pc off = some pt) (hp : pc + 3 = pf) (kt : 0 ≤ x → XP S d k pt L r h Q) (kf : ¬ 0 ≤ x → XP S d k pf L r h Q) : XP S d k pc L (.int x :: r) h Q := by
  subst hp
  exact y_if hD hd ht (fun q => kt (c_ge.mp q)) (fun q => kf (cf_ge.mp q))
theorem y_icge (hD : XDec k T) (hd : xat T pc = some (.if_icmp .ge off, 3)) (ht : xtg pc off = some pt) (hp : pc + 3 = pf) (kt : z ≤ x → XP S d k pt L r h Q) (kf : ¬ z ≤ x → XP S d k pf L r h Q) : XP S d k pc L (.int z :: .int x :: r) h Q := by
  subst hp
  exact y_icmp hD hd ht (fun q => kt (c_ge.mp q)) (fun q => kf (cf_ge.mp q))
theorem y_ifgt (hD : XDec k T) (hd : xat T pc = some (.ifCond .gt off, 3)) (ht : xtg pc off = some pt) (hp : pc + 3 = pf) (kt : 0 < x → XP S d k pt L r h Q) (kf : ¬ 0 < x → XP S d k pf L r h Q) : XP S d k pc L (.int x :: r) h Q := by
  subst hp
  exact y_if hD hd ht (fun q => kt (c_gt.mp q)) (fun q => kf (cf_gt.mp q))
theorem y_icgt (hD : XDec k T) (hd : xat T pc = some (.if_icmp .gt off, 3)) (ht : xtg pc off = some pt) (hp : pc + 3 = pf) (kt : z < x → XP S d k pt L r h Q) (kf : ¬ z < x → XP S d k pf L r h Q) : XP S d k pc L (.int z :: .int x :: r) h Q := by
  subst hp
  exact y_icmp hD hd ht (fun q => kt (c_gt.mp q)) (fun q => kf (cf_gt.mp q))
theorem y_ifle (hD : XDec k T) (hd : xat T pc = some (.ifCond .le off, 3)) (ht : xtg pc off = some pt) (hp : pc + 3 = pf) (kt : x ≤ 0 → XP S d k pt L r h Q) (kf : ¬ x ≤ 0 → XP S d k pf L r h Q) : XP S d k pc L (.int x :: r) h Q := by
  subst hp
  exact y_if hD hd ht (fun q => kt (c_le.mp q)) (fun q => kf (cf_le.mp q))
theorem y_icle (hD : XDec k T) (hd : xat T pc = some (.if_icmp .le off, 3)) (ht : xtg pc off = some pt) (hp : pc + 3 = pf) (kt : x ≤ z → XP S d k pt L r h Q) (kf : ¬ x ≤ z → XP S d k pf L r h Q) : XP S d k pc L (.int z :: .int x :: r) h Q := by
  subst hp
  exact y_icmp hD hd ht (fun q => kt (c_le.mp q)) (fun q => kf (cf_le.mp q))
end YB
section YT
variable {S : XS} {d k pc : Nat} {L : XL} {h : XH} {Q : Option Value → XH → Prop} {T : List (Nat × Instr × Nat)} {x : Int32} {w : Int64} {a : Nat}
theorem y_retI (hD : XDec k T) (hd : xat T pc = some (.ireturn, 1)) (hr : xrty k = some .int) (hq : Q (some (.int x)) h) : XP S d k pc L [.int x] h Q := y_ret hD hd (by unfold xret; simp [hr]) hq
theorem y_retZ (hD : XDec k T) (hd : xat T pc = some (.ireturn, 1)) (hr : xrty k = some .boolean) (hx : x = 0 ∨ x = 1) (hq : Q (some (.int x)) h) : XP S d k pc L [.int x] h Q := y_ret hD hd (by unfold xret; simp [hr, hx]) hq
theorem y_retJ (hD : XDec k T) (hd : xat T pc = some (.lreturn, 1)) (hr : xrty k = some .long) (hq : Q (some (.long w)) h) : XP S d k pc L [.long w] h Q := y_ret hD hd (by unfold xret; simp [hr]) hq
theorem y_retV (hD : XDec k T) (hd : xat T pc = some (.return_, 1)) (hr : xrty k = none) (hq : Q none h) : XP S d k pc L [] h Q := y_ret hD hd (by unfold xret; simp [hr]) hq
theorem y_retA (hD : XDec k T) (hd : xat T pc = some (.areturn, 1)) (hr : xrob k = true) (hq : Q (some (.ref a)) h) : XP S d k pc L [.ref a] h Q := y_ret hD hd (by unfold xret; simp [hr]) hq
theorem y_retN (hD : XDec k T) (hd : xat T pc = some (.areturn, 1)) (hr : xrob k = true) (hq : Q (some .null) h) : XP S d k pc L [.null] h Q := y_ret hD hd (by unfold xret; simp [hr]) hq
end YT
section YC
variable {S : XS} {d k pc y a n idx : Nat} {L : XL} {st r as : List Value} {I : Nat → Nat → Int32} {J : Nat → Nat → Int64} {R : Nat → Nat → Option Nat} {h : XH} {Q Q' : Option Value → XH → Prop} {T : List (Nat × Instr × Nat)}
theorem y_callV (hD : XDec k T) (hd : xat T pc = some (.invokevirtual idx, 3)) (hx : xcal (xkc k) idx = some (y, n)) (hm : xmk y = 1) (hdr : st.drop n = .ref a :: r) (hk : kq a = (xkc y, xnf (xkc y))) (hn : Nat.ble n st.length = true) (hw : Nat.ble (xwid r) 8 = true) (has : (.ref a :: (st.take n).reverse) = as) (hw2 : Nat.ble (xwid as) (xml y) = true) (hcal : XP S d y 0 (xent as (xml y)) [] (hh I J R) Q') (kk : ∀ v h', Q' v h' → XP S (d + 1) k (pc + 3) L (v.toList ++ r) h' Q) : XP S (d + 1) k pc L st (hh I J R) Q := by
  subst has
  refine y_call hD hd ?_ hcal kk
  unfold xcall
  simp only [hx, hdr, hm, xkd_hh, hk, Nat.le_of_ble_eq_true hn, Nat.le_of_ble_eq_true hw, Nat.le_of_ble_eq_true hw2, and_self, if_true]
theorem y_callS (hD : XDec k T) (hd : xat T pc = some (.invokestatic idx, 3)) (hx : xcal (xkc k) idx = some (y, n)) (hm : xmk y = 0) (hdr : st.drop n = r) (hn : Nat.ble n st.length = true) (hw : Nat.ble (xwid r) 8 = true) (has : (st.take n).reverse = as) (hw2 : Nat.ble (xwid as) (xml y) = true) (hcal : XP S d y 0 (xent as (xml y)) [] h Q') (kk : ∀ v h', Q' v h' → XP S (d + 1) k (pc + 3) L (v.toList ++ r) h' Q) : XP S (d + 1) k pc L st h Q := by
  subst has; subst hdr
  refine y_call hD hd ?_ hcal kk
  unfold xcall
  simp only [hx, hm, Nat.le_of_ble_eq_true hn, Nat.le_of_ble_eq_true hw, Nat.le_of_ble_eq_true hw2, and_self, if_true]
theorem y_callI (hD : XDec k T) (hd : xat T pc = some (.invokespecial idx, 3)) (hx : xcal (xkc k) idx = some (y, n)) (hm : xmk y = 2) (hdr : st.drop n = .ref a :: r) (hn : Nat.ble n st.length = true) (hw : Nat.ble (xwid r) 8 = true) (has : (.ref a :: (st.take n).reverse) = as) (hw2 : Nat.ble (xwid as) (xml y) = true) (hcal : XP S d y 0 (xent as (xml y)) [] h Q') (kk : ∀ v h', Q' v h' → XP S (d + 1) k (pc + 3) L (v.toList ++ r) h' Q) : XP S (d + 1) k pc L st h Q := by
  subst has
  refine y_call hD hd ?_ hcal kk
  unfold xcall
  simp only [hx, hdr, hm, Nat.le_of_ble_eq_true hn, Nat.le_of_ble_eq_true hw, Nat.le_of_ble_eq_true hw2, and_self, if_true]
end YC
def rI (x : Int32) (h : XH) : Option Value → XH → Prop := fun v h' => v = some (.int x) ∧ h' = h
def rJ (x : Int64) (h : XH) : Option Value → XH → Prop := fun v h' => v = some (.long x) ∧ h' = h
def rV (h : XH) : Option Value → XH → Prop := fun v h' => v = none ∧ h' = h
def rA (a : Nat) (h : XH) : Option Value → XH → Prop := fun v h' => v = some (.ref a) ∧ h' = h
def zB (b : Bool) : Int32 := if b then 1 else 0
theorem zB_or (b : Bool) : zB b = 0 ∨ zB b = 1 := by cases b <;> simp [zB]
theorem rI_t {P : Prop} [Decidable P] {h : XH} (hp : P) : rI (zB (decide P)) h (some (.int 1)) h := ⟨by simp [zB, hp], rfl⟩
theorem rI_f {P : Prop} [Decidable P] {h : XH} (hp : ¬ P) : rI (zB (decide P)) h (some (.int 0)) h := ⟨by simp [zB, hp], rfl⟩
section YN
variable {S : XS} {d k pc pc' a a0 idx : Nat} {L : XL} {st st' r : List Value} {I : Nat → Nat → Int32} {J : Nat → Nat → Int64} {R : Nat → Nat → Option Nat} {h h' : XH} {Q : Option Value → XH → Prop} {T : List (Nat × Instr × Nat)}
theorem y_nat (hD : XDec k T) (hd : xat T pc = some (.invokestatic idx, 3)) (hcl : xcal (xkc k) idx = none) (ho : xnatv d k (.invokestatic idx) st h = some (st', h')) (hp : pc + 3 = pc') (K : XP S d k pc' L st' h' Q) : XP S d k pc L st h Q := by
  refine XP.one rfl (hD.at hd) (by unfold xret; rfl) (by unfold xcall; simp only [hcl]; rfl) (fun L' hL => ⟨L', ?_, hL⟩) K
  subst hp
  show x1 S d k (.invokestatic idx) 3 pc L' st h = _
  unfold x1
  simp only [xjmp, xop, xloc, xmem, ho]
  rfl
theorem m_cpyI {n0 n1 : Nat} (sp dp n : Nat) {xs xd xn : Int32} (hD : XDec k T) (hd : xat T pc = some (.invokestatic idx, 3)) (hcl : xcal (xkc k) idx = none) (hna : xnat (xkc k) idx = some 7) (hp : pc + 3 = pc') (h0 : kq a0 = (100, n0)) (h1 : kq a = (100, n1)) (hs : sp + n ≤ n0) (hdd : dp + n ≤ n1) (hb0 : n0 < 2000) (hb1 : n1 < 2000) (e1 : xs = nI sp) (e2 : xd = nI dp) (e3 : xn = nI n) (hw : Nat.ble (xwid r) 8 = true)
    (K : XP S (d + 1) k pc' L r (hh (xrow I a (va_cpy (I a0) (I a) sp dp n)) J R) Q) : XP S (d + 1) k pc L (.int xn :: .int xd :: .ref a :: .int xs :: .ref a0 :: r) (hh I J R) Q := by
  subst e1; subst e2; subst e3
  refine y_nat hD hd hcl ?_ hp K
  unfold xnatv
  simp only [hna, Option.bind_some, xnatS]
  unfold xcpy
  simp only [xkd_hh, h0, h1, nI_cl (show sp < 2000 by omega), nI_cl (show dp < 2000 by omega), nI_cl (show n < 2000 by omega)]
  rw [if_neg (by omega), if_pos trivial, if_pos ⟨Nat.le_of_ble_eq_true hw, nI_pos (by omega), nI_pos (by omega), nI_pos (by omega), hs, hdd⟩, if_pos ⟨trivial, trivial⟩]
  rfl
theorem m_cpyJ {n0 n1 : Nat} (sp dp n : Nat) {xs xd xn : Int32} (hD : XDec k T) (hd : xat T pc = some (.invokestatic idx, 3)) (hcl : xcal (xkc k) idx = none) (hna : xnat (xkc k) idx = some 7) (hp : pc + 3 = pc') (h0 : kq a0 = (101, n0)) (h1 : kq a = (101, n1)) (hs : sp + n ≤ n0) (hdd : dp + n ≤ n1) (hb0 : n0 < 2000) (hb1 : n1 < 2000) (e1 : xs = nI sp) (e2 : xd = nI dp) (e3 : xn = nI n) (hw : Nat.ble (xwid r) 8 = true)
    (K : XP S (d + 1) k pc' L r (hh I (xrow J a (va_cpy (J a0) (J a) sp dp n)) R) Q) : XP S (d + 1) k pc L (.int xn :: .int xd :: .ref a :: .int xs :: .ref a0 :: r) (hh I J R) Q := by
  subst e1; subst e2; subst e3
  refine y_nat hD hd hcl ?_ hp K
  unfold xnatv
  simp only [hna, Option.bind_some, xnatS]
  unfold xcpy
  simp only [xkd_hh, h0, h1, nI_cl (show sp < 2000 by omega), nI_cl (show dp < 2000 by omega), nI_cl (show n < 2000 by omega)]
  rw [if_neg (by omega), if_pos trivial, if_pos ⟨Nat.le_of_ble_eq_true hw, nI_pos (by omega), nI_pos (by omega), nI_pos (by omega), hs, hdd⟩, if_neg (by omega), if_pos ⟨trivial, trivial⟩]
  rfl
end YN
section YK
variable {S : XS} {d k pc pc' len : Nat} {L : XL} {st : List Value} {h : XH} {Q : Option Value → XH → Prop} {i : Instr} {T : List (Nat × Instr × Nat)}
theorem y_ci (v : Int32) (hD : XDec k T) (hd : xat T pc = some (i, len)) (hl : len = xlen i) (ho : xop i st = some (.int v :: st)) (hp : pc + len = pc') (K : XP S d k pc' L (.int v :: st) h Q) : XP S d k pc L st h Q := y_op hD hd hl ho hp K
theorem y_cj (v : Int64) (hD : XDec k T) (hd : xat T pc = some (i, len)) (hl : len = xlen i) (ho : xop i st = some (.long v :: st)) (hp : pc + len = pc') (K : XP S d k pc' L (.long v :: st) h Q) : XP S d k pc L st h Q := y_op hD hd hl ho hp K
theorem y_inc {x : Int32} {i0 : Nat} {n : Int} {L1 : XL} (v : Int32) (hD : XDec k T) (hd : xat T pc = some (.iinc i0 n, 3)) (hx : xld L i0 = some (.int x)) (hi : Nat.blt i0 L.length = true) (hv : x + Int32.ofInt n = v) (hL : xst1 L i0 (.int v) = L1) (hp : pc + 3 = pc') (K : XP S d k pc' L1 st h Q) : XP S d k pc L st h Q := by
  refine y_loc hD hd rfl ?_ hp K
  show xinc L i0 n st = _
  unfold xinc
  simp only [hx]
  rw [if_pos (show i0 < L.length from Nat.le_of_ble_eq_true hi), hv, hL]
end YK
theorem rI_e {x y : Int32} {h : XH} (e : x = y) : rI y h (some (.int x)) h := ⟨by rw [e], rfl⟩
theorem rJ_e {x y : Int64} {h : XH} (e : x = y) : rJ y h (some (.long x)) h := ⟨by rw [e], rfl⟩
theorem zB_0 {P : Prop} [Decidable P] : zB (decide P) = 0 ↔ ¬ P := by
  by_cases h : P <;> simp [zB, h]
theorem zB_n0 {P : Prop} [Decidable P] : ¬ zB (decide P) = 0 ↔ P := by
  by_cases h : P <;> simp [zB, h]
end
section
/-! The document's words as functions: what both sides are held to. -/
/-- what a line's numbers must be: cd p q is number q of line p (0 the op) -/
def VL (cd : Nat → Nat → Int32) (p : Nat) : Prop := (∃ t, t < 10 ∧ cd p 0 = nI t) ∧ ((cd p 0 = 5 ∨ cd p 0 = 6 ∨ cd p 0 = 7) → ∃ t, t ≤ 10 ∧ cd p 3 = nI t) ∧ ((cd p 0 ≤ 6 ∨ cd p 0 = 8) → ∃ t, t < 8 ∧ cd p 1 = nI t) ∧ ((1 ≤ cd p 0 ∧ cd p 0 ≤ 6) → ∃ t, t < 8 ∧ cd p 2 = nI t) ∧ ((1 ≤ cd p 0 ∧ cd p 0 ≤ 4) → ∃ t, t < 8 ∧ cd p 3 = nI t)
def VC (cd : Nat → Nat → Int32) (n : Nat) : Prop := ∀ p, p < n → VL cd p
/-- where line p leads -/
def q_to (cd : Nat → Nat → Int32) (p : Nat) (o : Bool) : Nat := if cd p 0 = 7 ∨ ((cd p 0 = 5 ∨ cd p 0 = 6) ∧ o = true) then (cd p 3).toNatClampNeg else if 8 ≤ cd p 0 then 10 else p + 1
def q_lead (cd : Nat → Nat → Int32) (n p : Nat) (o : Bool) : Nat := if n < q_to cd p o then n else q_to cd p o
theorem q_lead_le {cd : Nat → Nat → Int32} {n p : Nat} {o : Bool} : q_lead cd n p o ≤ n := by
  unfold q_lead
  split <;> omega
/-- the lines as the class holds them (method object A), as the model does (method m) -/
def cdC (I : Nat → Nat → Int32) (A : Nat) : Nat → Nat → Int32 := fun p q => I (A + 1 + q % 4) p
def cdM (I : Nat → Nat → Int32) (m : Nat) : Nat → Nat → Int32 := fun p q => I 264 (40 * m + 4 * p + q)
theorem nI10 {t : Nat} (h : t < 10) : t = 0 ∨ t = 1 ∨ t = 2 ∨ t = 3 ∨ t = 4 ∨ t = 5 ∨ t = 6 ∨ t = 7 ∨ t = 8 ∨ t = 9 := by omega
theorem q_to_lt {cd : Nat → Nat → Int32} {p t : Nat} {o : Bool} (h : cd p 0 = nI t) (ht : t < 5) : q_to cd p o = p + 1 := by
  unfold q_to
  rw [h]
  rcases (show t = 0 ∨ t = 1 ∨ t = 2 ∨ t = 3 ∨ t = 4 by omega) with rfl | rfl | rfl | rfl | rfl <;> rfl
theorem q_to_br {cd : Nat → Nat → Int32} {p t w : Nat} {o : Bool} (h : cd p 0 = nI t) (ht : t = 5 ∨ t = 6) (hc : cd p 3 = nI w) (hw : w ≤ 10) : q_to cd p o = if o = true then w else p + 1 := by
  unfold q_to
  rw [h, hc, nI_cl (by omega)]
  rcases ht with rfl | rfl <;> cases o <;> rfl
theorem q_to_go {cd : Nat → Nat → Int32} {p w : Nat} {o : Bool} (h : cd p 0 = nI 7) (hc : cd p 3 = nI w) (hw : w ≤ 10) : q_to cd p o = w := by
  unfold q_to
  rw [h, hc, nI_cl (by omega)]
  rfl
theorem q_to_end {cd : Nat → Nat → Int32} {p t : Nat} {o : Bool} (h : cd p 0 = nI t) (ht : t = 8 ∨ t = 9) : q_to cd p o = 10 := by
  unfold q_to
  rw [h]
  rcases ht with rfl | rfl <;> rfl
theorem q_to_next {cd : Nat → Nat → Int32} {p : Nat} {o : Bool} (h7 : ¬ cd p 0 = 7) (hb : ¬ ((cd p 0 = 5 ∨ cd p 0 = 6) ∧ o = true)) (h8 : ¬ 8 ≤ cd p 0) : q_to cd p o = p + 1 := by
  unfold q_to
  rw [if_neg (fun q => q.elim h7 hb), if_neg h8]
theorem q_to_10 {cd : Nat → Nat → Int32} {p : Nat} {o : Bool} (h7 : ¬ cd p 0 = 7) (hb : ¬ ((cd p 0 = 5 ∨ cd p 0 = 6) ∧ o = true)) (h8 : 8 ≤ cd p 0) : q_to cd p o = 10 := by
  unfold q_to
  rw [if_neg (fun q => q.elim h7 hb), if_pos h8]
/-- the distances to the outcomes 0 and 1 of a branch (e: IFEQ) -/
def q_no (e : Bool) (x y : Int64) : Int64 := if e = true then (if x = y then 1 else 0) else (if x < y then y - x else 0)
def q_yes (e : Bool) (x y : Int64) : Int64 := if e = true then (if y < x then x - y else y - x) else (if x < y then 0 else x - y + 1)
/-- noting distances: the class's way (a least), the model's (-1: none yet) -/
def UC (k : Nat) (no yes : Int64) (N : Nat → Int64) : Nat → Int64 := fun j => if j = 2 * k + 1 then (if N (2 * k + 1) ≤ yes then N (2 * k + 1) else yes) else if j = 2 * k then (if N (2 * k) ≤ no then N (2 * k) else no) else N j
def UM (k : Nat) (no yes : Int64) (N : Nat → Int64) : Nat → Int64 := fun j => if j = 2 * k + 1 then (if N (2 * k + 1) < 0 ∨ yes < N (2 * k + 1) then yes else N (2 * k + 1)) else if j = 2 * k then (if N (2 * k) < 0 ∨ no < N (2 * k) then no else N (2 * k)) else N j
def q_u (U : Nat → Int64 → Int64 → (Nat → Int64) → Nat → Int64) (b : Option Nat) (no yes : Int64) (N : Nat → Int64) : Nat → Int64 := match b with
  | none => N
  | some k => U k no yes N
def q_calc (o x z : Int32) : Int32 := if o = 1 then x + z else if o = 2 then x - z else if o = 3 then x * z else if z = 0 then 0 else x / z
/-- a line that does not end the call: where it goes on, the variables, the distances -/
def q_line (U : Nat → Int64 → Int64 → (Nat → Int64) → Nat → Int64) (cd : Nat → Nat → Int32) (bn : Nat → Option Nat) (n p : Nat) (v : Nat → Int32) (N : Nat → Int64) : Nat × (Nat → Int32) × (Nat → Int64) :=
  if cd p 0 = 0 then (q_lead cd n p false, upd v (cd p 1).toNatClampNeg (cd p 3), N)
  else if cd p 0 ≤ 4 then (q_lead cd n p false, upd v (cd p 1).toNatClampNeg (q_calc (cd p 0) (v (cd p 2).toNatClampNeg) (v (cd p 3).toNatClampNeg)), N)
  else if cd p 0 ≤ 6 then (q_lead cd n p (decide (q_yes (decide (cd p 0 = 5)) (v (cd p 1).toNatClampNeg).toInt64 (v (cd p 2).toNatClampNeg).toInt64 = 0)), v, q_u U (bn p) (q_no (decide (cd p 0 = 5)) (v (cd p 1).toNatClampNeg).toInt64 (v (cd p 2).toNatClampNeg).toInt64) (q_yes (decide (cd p 0 = 5)) (v (cd p 1).toNatClampNeg).toInt64 (v (cd p 2).toNatClampNeg).toInt64) N)
  else (q_lead cd n p false, v, N)
/-- a call from line p on, with so many lines left -/
def q_call (U : Nat → Int64 → Int64 → (Nat → Int64) → Nat → Int64) (cd : Nat → Nat → Int32) (bn : Nat → Option Nat) (n : Nat) : Nat → Nat → (Nat → Int32) → (Nat → Int64) → Int64 × (Nat → Int32) × (Nat → Int64)
  | 0, p, v, N => (if p < n then 4294967299 else 0, v, N)
  | f + 1, p, v, N => if p < n then (if cd p 0 = 8 then ((v (cd p 1).toNatClampNeg).toInt64, v, N) else if cd p 0 = 9 then (4294967298, v, N) else if cd p 0 = 4 ∧ v (cd p 3).toNatClampNeg = 0 then (4294967297, v, N) else q_call U cd bn n f (q_line U cd bn n p v N).1 (q_line U cd bn n p v N).2.1 (q_line U cd bn n p v N).2.2) else (0, v, N)
theorem toI64_sub (x y : Int32) : (x.toInt64 - y.toInt64).toInt = x.toInt - y.toInt := by
  have h1 := x.toInt_lt
  have h2 := x.le_toInt
  have h3 := y.toInt_lt
  have h4 := y.le_toInt
  rw [Int64.toInt_sub, Int32.toInt_toInt64, Int32.toInt_toInt64]
  simp only [Int.bmod]
  omega
theorem q_abs (x y : Int32) : (if 0 ≤ x.toInt64 - y.toInt64 then x.toInt64 - y.toInt64 else -(x.toInt64 - y.toInt64)) = q_yes true x.toInt64 y.toInt64 := by
  unfold q_yes
  rw [if_pos rfl]
  have h := toI64_sub x y
  have h' := toI64_sub y x
  by_cases hc : y.toInt64 < x.toInt64
  · rw [if_pos hc, if_pos]
    rw [Int64.le_iff_toInt_le, h]
    rw [Int64.lt_iff_toInt_lt, Int32.toInt_toInt64, Int32.toInt_toInt64] at hc
    show (0 : Int) ≤ _
    omega
  · rw [if_neg hc]
    rw [Int64.lt_iff_toInt_lt, Int32.toInt_toInt64, Int32.toInt_toInt64] at hc
    by_cases h0 : 0 ≤ x.toInt64 - y.toInt64
    · rw [if_pos h0]
      rw [Int64.le_iff_toInt_le, h] at h0
      have h0 : (0 : Int) ≤ x.toInt - y.toInt := h0
      apply Int64.toInt_inj.mp
      rw [h, h']
      omega
    · rw [if_neg h0]
      simp [Int64.neg_sub]
theorem qn1 {o : Int32} {x y : Int64} (h : o = 5) (e : x = y) : q_no (decide (o = 5)) x y = 1 := by simp [q_no, h, e]
theorem qn0 {o : Int32} {x y : Int64} (h : o = 5) (e : ¬ x = y) : q_no (decide (o = 5)) x y = 0 := by simp [q_no, h, e]
theorem qnl {o : Int32} {x y : Int64} (h : ¬ o = 5) (e : x < y) : q_no (decide (o = 5)) x y = y - x := by simp [q_no, h, e]
theorem qng {o : Int32} {x y : Int64} (h : ¬ o = 5) (e : ¬ x < y) : q_no (decide (o = 5)) x y = 0 := by simp only [q_no, h]; rw [if_neg (by decide), if_neg e]
theorem qyeq {o x y : Int32} (h : o = 5) : q_yes (decide (o = 5)) x.toInt64 y.toInt64 = if 0 ≤ x.toInt64 - y.toInt64 then x.toInt64 - y.toInt64 else -(x.toInt64 - y.toInt64) := by rw [q_abs]; simp [h]
theorem qyl {o : Int32} {x y : Int64} (h : ¬ o = 5) (e : x < y) : q_yes (decide (o = 5)) x y = 0 := by simp [q_yes, h, e]
theorem qyg {o : Int32} {x y : Int64} (h : ¬ o = 5) (e : ¬ x < y) : q_yes (decide (o = 5)) x y = x - y + 1 := by simp only [q_yes, h]; rw [if_neg (by decide), if_neg e]
theorem zB_1 {P : Prop} [Decidable P] : zB (decide P) = 1 ↔ P := by
  by_cases h : P <;> simp [zB, h]
section QC
variable {U : Nat → Int64 → Int64 → (Nat → Int64) → Nat → Int64} {cd : Nat → Nat → Int32} {bn : Nat → Option Nat} {n f p : Nat} {v : Nat → Int32} {N : Nat → Int64}
theorem q_call_end (hp : ¬ p < n) : q_call U cd bn n f p v N = (0, v, N) := by
  cases f <;> simp only [q_call, if_neg hp]
theorem q_call_0 (hp : p < n) : q_call U cd bn n 0 p v N = (4294967299, v, N) := by simp only [q_call, if_pos hp]
theorem q_call_8 (hp : p < n) (h : cd p 0 = 8) : q_call U cd bn n (f + 1) p v N = ((v (cd p 1).toNatClampNeg).toInt64, v, N) := by simp only [q_call, if_pos hp, if_pos h]
theorem q_call_9 (hp : p < n) (h : cd p 0 = 9) : q_call U cd bn n (f + 1) p v N = (4294967298, v, N) := by
  simp only [q_call, if_pos hp, if_pos h]
  rw [if_neg (by rw [h]; decide)]
theorem q_call_4 (hp : p < n) (h : cd p 0 = 4) (hz : v (cd p 3).toNatClampNeg = 0) : q_call U cd bn n (f + 1) p v N = (4294967297, v, N) := by
  simp only [q_call, if_pos hp]
  rw [if_neg (by rw [h]; decide), if_neg (by rw [h]; decide), if_pos ⟨h, hz⟩]
theorem q_call_n (hp : p < n) (h8 : ¬ cd p 0 = 8) (h9 : ¬ cd p 0 = 9) (h4 : ¬ (cd p 0 = 4 ∧ v (cd p 3).toNatClampNeg = 0)) : q_call U cd bn n (f + 1) p v N = q_call U cd bn n f (q_line U cd bn n p v N).1 (q_line U cd bn n p v N).2.1 (q_line U cd bn n p v N).2.2 := by
  simp only [q_call, if_pos hp, if_neg h8, if_neg h9, if_neg h4]
theorem q_line_le : (q_line U cd bn n p v N).1 ≤ n := by
  unfold q_line
  split
  · exact q_lead_le
  · split
    · exact q_lead_le
    · split <;> exact q_lead_le
end QC
theorem qy1 {o : Int32} {x y : Int64} (h : o = 5) (e : y < x) : q_yes (decide (o = 5)) x y = x - y := by simp only [q_yes, h]; rw [if_pos (by decide), if_pos e]
theorem qy2 {o : Int32} {x y : Int64} (h : o = 5) (e : ¬ y < x) : q_yes (decide (o = 5)) x y = y - x := by simp only [q_yes, h]; rw [if_pos (by decide), if_neg e]
theorem i64_inj {x y : Int32} (h : x.toInt64 = y.toInt64) : x = y := by
  have := congrArg Int64.toInt h
  rw [Int32.toInt_toInt64, Int32.toInt_toInt64] at this
  exact Int32.toInt_inj.mp this
theorem i64_lt {x y : Int32} : x.toInt64 < y.toInt64 ↔ x < y := by
  rw [Int64.lt_iff_toInt_lt, Int32.toInt_toInt64, Int32.toInt_toInt64, Int32.lt_iff_toInt_lt]
theorem i64_sub0 {x y : Int32} (h : x.toInt64 - y.toInt64 = 0) : x = y := by
  have h1 := toI64_sub x y
  rw [h] at h1
  have h2 : (0 : Int) = x.toInt - y.toInt := h1
  exact Int32.toInt_inj.mp (by omega)
theorem qz_eq {o x y : Int32} (h : o = 5) (e : x = y) : q_yes (decide (o = 5)) x.toInt64 y.toInt64 = 0 := by
  subst e
  rw [qy2 h (Int64.lt_irrefl)]
  simp
theorem qz_eq' {o x y : Int32} (h : o = 5) (e : q_yes (decide (o = 5)) x.toInt64 y.toInt64 = 0) : x = y := by
  by_cases hc : y.toInt64 < x.toInt64
  · rw [qy1 h hc] at e; exact i64_sub0 e
  · rw [qy2 h hc] at e; exact (i64_sub0 e).symm
theorem qz_lt {o x y : Int32} (h : ¬ o = 5) (e : x < y) : q_yes (decide (o = 5)) x.toInt64 y.toInt64 = 0 := qyl h (i64_lt.mpr e)
theorem qz_lt' {o x y : Int32} (h : ¬ o = 5) (e : q_yes (decide (o = 5)) x.toInt64 y.toInt64 = 0) : x < y := by
  by_cases hc : x.toInt64 < y.toInt64
  · exact i64_lt.mp hc
  · exfalso
    rw [qyg h hc] at e
    rw [i64_lt, Int32.lt_iff_toInt_lt] at hc
    have h1 := congrArg Int64.toInt e
    have h2 := x.toInt_lt
    have h3 := x.le_toInt
    have h4 := y.toInt_lt
    have h5 := y.le_toInt
    rw [Int64.toInt_add, toI64_sub] at h1
    have h6 : (1 : Int64).toInt = 1 := rfl
    have h7 : (0 : Int64).toInt = 0 := rfl
    rw [h6, h7] at h1
    simp only [Int.bmod] at h1
    omega
end
section
/-! Leaves of the class. -/
theorem kMeth {A : Nat} (h : A = 4 ∨ A = 10) : kq A = (3, 7) ∧ kq (A + 1) = (100, 10) ∧ kq (A + 2) = (100, 10) ∧ kq (A + 3) = (100, 10) ∧ kq (A + 4) = (100, 10) ∧ kq (A + 5) = (100, 10) := by
  rcases h with rfl | rfl <;> exact ⟨rfl, rfl, rfl, rfl, rfl, rfl⟩
theorem rMeth {A : Nat} {R : Nat → Nat → Option Nat} (hR : RF R) (h : A = 4 ∨ A = 10) : R A 0 = some (A + 1) ∧ R A 1 = some (A + 2) ∧ R A 2 = some (A + 3) ∧ R A 3 = some (A + 4) ∧ R A 4 = some (A + 5) := by
  rcases h with rfl | rfl <;> exact ⟨hR.1 _ _ _ rfl, hR.1 _ _ _ rfl, hR.1 _ _ _ rfl, hR.1 _ _ _ rfl, hR.1 _ _ _ rfl⟩
theorem lg_gt {x y : Int64} : 0 < lg_cmp x y ↔ y < x := by
  unfold lg_cmp
  by_cases h1 : x > y
  · simp [h1]
  · by_cases h2 : x = y
    · simp [h2]
    · simp [h1, h2]
theorem lg_eq {x y : Int64} : lg_cmp x y = 0 ↔ x = y := by
  unfold lg_cmp
  by_cases h1 : x > y
  · simp [h1]
    intro e
    subst e
    exact Int64.lt_irrefl h1
  · by_cases h2 : x = y
    · simp [h2]
    · simp [h1, h2]
theorem lg_lt {x y : Int64} : lg_cmp x y < 0 ↔ x < y := by
  rw [← Int32.not_le, lg_cmp_ge, Int64.not_le]
theorem nI_m1 {k : Nat} (hk : k < 2000) : ¬ nI k = -1 := fun e => by
  have h := nI_pos (n := k) (by omega)
  rw [e] at h
  exact h (by decide)
section LF
variable {S : XS} {d a A : Nat} {I : Nat → Nat → Int32} {J : Nat → Nat → Int64} {R : Nat → Nat → Option Nat} {h : XH}
/-- Case.part -/
theorem s_part (hR : RF R) (hc : isCase a) (j p : Nat) (hj : j < 6) (hp : p < 4) {x z : Int32} (hx : x = nI j) (hz : z = nI p) : XP S d 38 0 (xent [.ref a, .int x, .int z] 3) [] (hh I J R) (rI (I (a + 1) (4 * j + p)) (hh I J R)) := by
  have hk0 := (kCase hc).1
  have hk1 := (kCase hc).2.1
  have hr0 := (hR.2 a hc).1
  refine y_loc (pc' := 1) xD_38 rfl rfl rfl rfl ?_
  first | refine m_getR (pc' := 4) xD_38 rfl rfl rfl rfl (hR.1 _ _ _ rfl) rfl ?_ | refine m_getR (pc' := 4) xD_38 rfl rfl (by first | rfl | assumption) rfl (by assumption) rfl ?_
  refine y_loc (pc' := 5) xD_38 rfl rfl rfl rfl ?_
  refine y_ci (pc' := 6) (4) xD_38 rfl rfl rfl rfl ?_
  refine y_op (pc' := 7) xD_38 rfl rfl rfl rfl ?_
  refine y_loc (pc' := 8) xD_38 rfl rfl rfl rfl ?_
  refine y_op (pc' := 9) xD_38 rfl rfl rfl rfl ?_
  refine m_iald (pc' := 10) (4 * j + p) xD_38 rfl (by first | rfl | assumption) (by first | assumption | omega) (by decide) (by first | decide | omega) (by rw [hx, hz]; show nI j * nI 4 + nI p = _; rw [pk_mul, nI_add, Nat.mul_comm]) rfl ?_
  skip
  refine y_retI xD_38 rfl rfl ?_
  exact ⟨rfl, rfl⟩
/-- Case.hasStep -/
theorem s_hasStep (hc : isCase a) {x : Int32} : XP S d 91 0 (xent [.ref a, .int x] 2) [] (hh I J R) (rI (zB (decide (0 ≤ x ∧ x < I a 3))) (hh I J R)) := by
  have hk0 := (kCase hc).1
  refine y_loc (pc' := 1) xD_91 rfl rfl rfl rfl ?_
  refine y_iflt (pt := 16) (pf := 4) xD_91 rfl rfl rfl (fun h1 => ?_) (fun h1 => ?_)
  · skip
    refine y_ci (pc' := 17) (0) xD_91 rfl rfl rfl rfl ?_
    refine y_retZ xD_91 rfl rfl (by first | decide | assumption) ?_
    exact rI_f (fun q => absurd h1 (Int32.not_lt.mpr q.1))
  · skip
    refine y_loc (pc' := 5) xD_91 rfl rfl rfl rfl ?_
    refine y_loc (pc' := 6) xD_91 rfl rfl rfl rfl ?_
    refine m_get (pc' := 9) xD_91 rfl rfl (by first | rfl | assumption) rfl rfl ?_
    refine y_icge (pt := 16) (pf := 12) xD_91 rfl rfl rfl (fun h2 => ?_) (fun h2 => ?_)
    · skip
      refine y_ci (pc' := 17) (0) xD_91 rfl rfl rfl rfl ?_
      refine y_retZ xD_91 rfl rfl (by first | decide | assumption) ?_
      exact rI_f (fun q => absurd q.2 (Int32.not_lt.mpr h2))
    · skip
      refine y_ci (pc' := 13) (1) xD_91 rfl rfl rfl rfl ?_
      refine y_goto (pc' := 17) xD_91 rfl rfl ?_
      refine y_retZ xD_91 rfl rfl (by first | decide | assumption) ?_
      exact rI_t ⟨Int32.not_lt.mp h1, Int32.not_le.mp h2⟩
/-- BranchGoals.isMethod -/
theorem s_isMethod {x : Int32} : XP S d 11 0 (xent [.int x] 1) [] h (rI (zB (decide (0 ≤ x ∧ x < 2))) h) := by
  refine y_loc (pc' := 1) xD_11 rfl rfl rfl rfl ?_
  refine y_iflt (pt := 13) (pf := 4) xD_11 rfl rfl rfl (fun h1 => ?_) (fun h1 => ?_)
  · skip
    refine y_ci (pc' := 14) (0) xD_11 rfl rfl rfl rfl ?_
    refine y_retZ xD_11 rfl rfl (by first | decide | assumption) ?_
    exact rI_f (fun q => absurd h1 (Int32.not_lt.mpr q.1))
  · skip
    refine y_loc (pc' := 5) xD_11 rfl rfl rfl rfl ?_
    refine y_ci (pc' := 6) (2) xD_11 rfl rfl rfl rfl ?_
    refine y_icge (pt := 13) (pf := 9) xD_11 rfl rfl rfl (fun h2 => ?_) (fun h2 => ?_)
    · skip
      refine y_ci (pc' := 14) (0) xD_11 rfl rfl rfl rfl ?_
      refine y_retZ xD_11 rfl rfl (by first | decide | assumption) ?_
      exact rI_f (fun q => absurd q.2 (Int32.not_lt.mpr h2))
    · skip
      refine y_ci (pc' := 10) (1) xD_11 rfl rfl rfl rfl ?_
      refine y_goto (pc' := 14) xD_11 rfl rfl ?_
      refine y_retZ xD_11 rfl rfl (by first | decide | assumption) ?_
      exact rI_t ⟨Int32.not_lt.mp h1, Int32.not_le.mp h2⟩
theorem s_isVariable {x : Int32} : XP S d 14 0 (xent [.int x] 1) [] h (rI (zB (decide (0 ≤ x ∧ x < 8))) h) := by
  refine y_loc (pc' := 1) xD_14 rfl rfl rfl rfl ?_
  refine y_iflt (pt := 14) (pf := 4) xD_14 rfl rfl rfl (fun h1 => ?_) (fun h1 => ?_)
  · skip
    refine y_ci (pc' := 15) (0) xD_14 rfl rfl rfl rfl ?_
    refine y_retZ xD_14 rfl rfl (by first | decide | assumption) ?_
    exact rI_f (fun q => absurd h1 (Int32.not_lt.mpr q.1))
  · skip
    refine y_loc (pc' := 5) xD_14 rfl rfl rfl rfl ?_
    refine y_ci (pc' := 7) (8) xD_14 rfl rfl rfl rfl ?_
    refine y_icge (pt := 14) (pf := 10) xD_14 rfl rfl rfl (fun h2 => ?_) (fun h2 => ?_)
    · skip
      refine y_ci (pc' := 15) (0) xD_14 rfl rfl rfl rfl ?_
      refine y_retZ xD_14 rfl rfl (by first | decide | assumption) ?_
      exact rI_f (fun q => absurd q.2 (Int32.not_lt.mpr h2))
    · skip
      refine y_ci (pc' := 11) (1) xD_14 rfl rfl rfl rfl ?_
      refine y_goto (pc' := 15) xD_14 rfl rfl ?_
      refine y_retZ xD_14 rfl rfl (by first | decide | assumption) ?_
      exact rI_t ⟨Int32.not_lt.mp h1, Int32.not_le.mp h2⟩
theorem s_isTarget {x : Int32} : XP S d 15 0 (xent [.int x] 1) [] h (rI (zB (decide (0 ≤ x ∧ x ≤ 10))) h) := by
  refine y_loc (pc' := 1) xD_15 rfl rfl rfl rfl ?_
  refine y_iflt (pt := 14) (pf := 4) xD_15 rfl rfl rfl (fun h1 => ?_) (fun h1 => ?_)
  · skip
    refine y_ci (pc' := 15) (0) xD_15 rfl rfl rfl rfl ?_
    refine y_retZ xD_15 rfl rfl (by first | decide | assumption) ?_
    exact rI_f (fun q => absurd h1 (Int32.not_lt.mpr q.1))
  · skip
    refine y_loc (pc' := 5) xD_15 rfl rfl rfl rfl ?_
    refine y_ci (pc' := 7) (10) xD_15 rfl rfl rfl rfl ?_
    refine y_icgt (pt := 14) (pf := 10) xD_15 rfl rfl rfl (fun h2 => ?_) (fun h2 => ?_)
    · skip
      refine y_ci (pc' := 15) (0) xD_15 rfl rfl rfl rfl ?_
      refine y_retZ xD_15 rfl rfl (by first | decide | assumption) ?_
      exact rI_f (fun q => absurd q.2 (Int32.not_le.mpr h2))
    · skip
      refine y_ci (pc' := 11) (1) xD_15 rfl rfl rfl rfl ?_
      refine y_goto (pc' := 15) xD_15 rfl rfl ?_
      refine y_retZ xD_15 rfl rfl (by first | decide | assumption) ?_
      exact rI_t ⟨Int32.not_lt.mp h1, Int32.not_lt.mp h2⟩
theorem s_isField {x : Int32} : XP S d 68 0 (xent [.int x] 1) [] h (rI (zB (decide (4 ≤ x ∧ x < 8))) h) := by
  refine y_loc (pc' := 1) xD_68 rfl rfl rfl rfl ?_
  refine y_ci (pc' := 2) (4) xD_68 rfl rfl rfl rfl ?_
  refine y_iclt (pt := 15) (pf := 5) xD_68 rfl rfl rfl (fun h1 => ?_) (fun h1 => ?_)
  · skip
    refine y_ci (pc' := 16) (0) xD_68 rfl rfl rfl rfl ?_
    refine y_retZ xD_68 rfl rfl (by first | decide | assumption) ?_
    exact rI_f (fun q => absurd h1 (Int32.not_lt.mpr q.1))
  · skip
    refine y_loc (pc' := 6) xD_68 rfl rfl rfl rfl ?_
    refine y_ci (pc' := 8) (8) xD_68 rfl rfl rfl rfl ?_
    refine y_icge (pt := 15) (pf := 11) xD_68 rfl rfl rfl (fun h2 => ?_) (fun h2 => ?_)
    · skip
      refine y_ci (pc' := 16) (0) xD_68 rfl rfl rfl rfl ?_
      refine y_retZ xD_68 rfl rfl (by first | decide | assumption) ?_
      exact rI_f (fun q => absurd q.2 (Int32.not_lt.mpr h2))
    · skip
      refine y_ci (pc' := 12) (1) xD_68 rfl rfl rfl rfl ?_
      refine y_goto (pc' := 16) xD_68 rfl rfl ?_
      refine y_retZ xD_68 rfl rfl (by first | decide | assumption) ?_
      exact rI_t ⟨Int32.not_lt.mp h1, Int32.not_le.mp h2⟩
/-- bit g of a set of goals -/
def bitI (x g : Int32) : Int32 := (x >>> (g &&& 31)) &&& 1
theorem s_hasGoal {x g : Int32} : XP S d 49 0 (xent [.int x, .int g] 2) [] h (rI (zB (decide (¬ bitI x g = 0))) h) := by
  refine y_loc (pc' := 1) xD_49 rfl rfl rfl rfl ?_
  refine y_loc (pc' := 2) xD_49 rfl rfl rfl rfl ?_
  refine y_op (pc' := 3) xD_49 rfl rfl rfl rfl ?_
  refine y_ci (pc' := 4) (1) xD_49 rfl rfl rfl rfl ?_
  refine y_op (pc' := 5) xD_49 rfl rfl rfl rfl ?_
  refine y_ifeq (pt := 12) (pf := 8) xD_49 rfl rfl rfl (fun h1 => ?_) (fun h1 => ?_)
  · skip
    refine y_ci (pc' := 13) (0) xD_49 rfl rfl rfl rfl ?_
    refine y_retZ xD_49 rfl rfl (by first | decide | assumption) ?_
    exact rI_f (fun q => q h1)
  · skip
    refine y_ci (pc' := 9) (1) xD_49 rfl rfl rfl rfl ?_
    refine y_goto (pc' := 13) xD_49 rfl rfl ?_
    refine y_retZ xD_49 rfl rfl (by first | decide | assumption) ?_
    exact rI_t h1
theorem s_min {x z : Int32} : XP S d 24 0 (xent [.int x, .int z] 2) [] h (rI (if x ≤ z then x else z) h) := by
  refine y_loc (pc' := 1) xD_24 rfl rfl rfl rfl ?_
  refine y_loc (pc' := 2) xD_24 rfl rfl rfl rfl ?_
  refine y_icgt (pt := 9) (pf := 5) xD_24 rfl rfl rfl (fun h1 => ?_) (fun h1 => ?_)
  · skip
    refine y_loc (pc' := 10) xD_24 rfl rfl rfl rfl ?_
    refine y_retI xD_24 rfl rfl ?_
    exact ⟨by rw [if_neg (Int32.not_le.mpr h1)], rfl⟩
  · skip
    refine y_loc (pc' := 6) xD_24 rfl rfl rfl rfl ?_
    refine y_goto (pc' := 10) xD_24 rfl rfl ?_
    refine y_retI xD_24 rfl rfl ?_
    exact ⟨by rw [if_pos (Int32.not_lt.mp h1)], rfl⟩
theorem s_max {x z : Int32} : XP S d 61 0 (xent [.int x, .int z] 2) [] h (rI (if z ≤ x then x else z) h) := by
  refine y_loc (pc' := 1) xD_61 rfl rfl rfl rfl ?_
  refine y_loc (pc' := 2) xD_61 rfl rfl rfl rfl ?_
  refine y_iclt (pt := 9) (pf := 5) xD_61 rfl rfl rfl (fun h1 => ?_) (fun h1 => ?_)
  · skip
    refine y_loc (pc' := 10) xD_61 rfl rfl rfl rfl ?_
    refine y_retI xD_61 rfl rfl ?_
    exact ⟨by rw [if_neg (Int32.not_le.mpr h1)], rfl⟩
  · skip
    refine y_loc (pc' := 6) xD_61 rfl rfl rfl rfl ?_
    refine y_goto (pc' := 10) xD_61 rfl rfl ?_
    refine y_retI xD_61 rfl rfl ?_
    exact ⟨by rw [if_pos (Int32.not_lt.mp h1)], rfl⟩
/-- Method.isBranch -/
theorem s_isBranch (hR : RF R) (hA : A = 4 ∨ A = 10) (i : Nat) (hi : i < 10) {x : Int32} (hx : x = nI i) : XP S d 19 0 (xent [.ref A, .int x] 2) [] (hh I J R) (rI (zB (decide (I (A + 1) i = 5 ∨ I (A + 1) i = 6))) (hh I J R)) := by
  obtain ⟨hk0, hk1, -⟩ := kMeth hA
  have hr0 := (rMeth hR hA).1
  refine y_loc (pc' := 1) xD_19 rfl rfl rfl rfl ?_
  first | refine m_getR (pc' := 4) xD_19 rfl rfl rfl rfl (hR.1 _ _ _ rfl) rfl ?_ | refine m_getR (pc' := 4) xD_19 rfl rfl (by first | rfl | assumption) rfl (by assumption) rfl ?_
  refine y_loc (pc' := 5) xD_19 rfl rfl rfl rfl ?_
  refine m_iald (pc' := 6) (i) xD_19 rfl (by first | rfl | assumption) (by first | assumption | omega) (by decide) (by first | decide | omega) (by first | rfl | assumption) rfl ?_
  refine y_ci (pc' := 7) (5) xD_19 rfl rfl rfl rfl ?_
  refine y_iceq (pt := 21) (pf := 10) xD_19 rfl rfl rfl (fun h1 => ?_) (fun h1 => ?_)
  · skip
    refine y_ci (pc' := 22) (1) xD_19 rfl rfl rfl rfl ?_
    refine y_goto (pc' := 26) xD_19 rfl rfl ?_
    refine y_retZ xD_19 rfl rfl (by first | decide | assumption) ?_
    exact rI_t (Or.inl h1)
  · skip
    refine y_loc (pc' := 11) xD_19 rfl rfl rfl rfl ?_
    first | refine m_getR (pc' := 14) xD_19 rfl rfl rfl rfl (hR.1 _ _ _ rfl) rfl ?_ | refine m_getR (pc' := 14) xD_19 rfl rfl (by first | rfl | assumption) rfl (by assumption) rfl ?_
    refine y_loc (pc' := 15) xD_19 rfl rfl rfl rfl ?_
    refine m_iald (pc' := 16) (i) xD_19 rfl (by first | rfl | assumption) (by first | assumption | omega) (by decide) (by first | decide | omega) (by first | rfl | assumption) rfl ?_
    refine y_ci (pc' := 18) (6) xD_19 rfl rfl rfl rfl ?_
    refine y_icne (pt := 25) (pf := 21) xD_19 rfl rfl rfl (fun h2 => ?_) (fun h2 => ?_)
    · skip
      refine y_ci (pc' := 26) (0) xD_19 rfl rfl rfl rfl ?_
      refine y_retZ xD_19 rfl rfl (by first | decide | assumption) ?_
      exact rI_f (fun q => q.elim h1 h2)
    · skip
      refine y_ci (pc' := 22) (1) xD_19 rfl rfl rfl rfl ?_
      refine y_goto (pc' := 26) xD_19 rfl rfl ?_
      refine y_retZ xD_19 rfl rfl (by first | decide | assumption) ?_
      exact rI_t (Or.inr h2)
theorem s_goalCount : XP S d 46 0 (xent [.ref 2] 1) [] (hh I J R) (rI (2 * I 2 3) (hh I J R)) := by
  refine y_ci (pc' := 1) (2) xD_46 rfl rfl rfl rfl ?_
  refine y_loc (pc' := 2) xD_46 rfl rfl rfl rfl ?_
  refine m_get (pc' := 5) xD_46 rfl rfl (by first | rfl | assumption) rfl rfl ?_
  refine y_op (pc' := 6) xD_46 rfl rfl rfl rfl ?_
  refine y_retI xD_46 rfl rfl ?_
  exact ⟨rfl, rfl⟩
theorem s_calculate {o x z : Int32} (t : Nat) (ht : t < 5) (h0 : 0 < t) (ho : o = nI t) : XP S d 42 0 (xent [.int o, .int x, .int z] 3) [] h (rI (if o = 1 then x + z else if o = 2 then x - z else if o = 3 then x * z else if z = 0 then 0 else x / z) h) := by
  subst ho
  rcases (show t = 1 ∨ t = 2 ∨ t = 3 ∨ t = 4 by omega) with rfl | rfl | rfl | rfl
  · skip
    refine y_loc (pc' := 1) xD_42 rfl rfl rfl rfl ?_
    refine y_jmp (pc' := 28) xD_42 rfl (by rfl) ?_
    refine y_loc (pc' := 29) xD_42 rfl rfl rfl rfl ?_
    refine y_loc (pc' := 30) xD_42 rfl rfl rfl rfl ?_
    refine y_op (pc' := 31) xD_42 rfl rfl rfl rfl ?_
    refine y_retI xD_42 rfl rfl ?_
    exact rI_e rfl
  · skip
    refine y_loc (pc' := 1) xD_42 rfl rfl rfl rfl ?_
    refine y_jmp (pc' := 32) xD_42 rfl (by rfl) ?_
    refine y_loc (pc' := 33) xD_42 rfl rfl rfl rfl ?_
    refine y_loc (pc' := 34) xD_42 rfl rfl rfl rfl ?_
    refine y_op (pc' := 35) xD_42 rfl rfl rfl rfl ?_
    refine y_retI xD_42 rfl rfl ?_
    exact rI_e rfl
  · skip
    refine y_loc (pc' := 1) xD_42 rfl rfl rfl rfl ?_
    refine y_jmp (pc' := 36) xD_42 rfl (by rfl) ?_
    refine y_loc (pc' := 37) xD_42 rfl rfl rfl rfl ?_
    refine y_loc (pc' := 38) xD_42 rfl rfl rfl rfl ?_
    refine y_op (pc' := 39) xD_42 rfl rfl rfl rfl ?_
    refine y_retI xD_42 rfl rfl ?_
    exact rI_e rfl
  · skip
    refine y_loc (pc' := 1) xD_42 rfl rfl rfl rfl ?_
    refine y_jmp (pc' := 40) xD_42 rfl (by rfl) ?_
    refine y_loc (pc' := 41) xD_42 rfl rfl rfl rfl ?_
    refine y_ifne (pt := 48) (pf := 44) xD_42 rfl rfl rfl (fun h41 => ?_) (fun h41 => ?_)
    · skip
      refine y_loc (pc' := 49) xD_42 rfl rfl rfl rfl ?_
      refine y_loc (pc' := 50) xD_42 rfl rfl rfl rfl ?_
      refine y_op (pc' := 51) xD_42 rfl rfl (show (if z = 0 then none else some [Value.int (x / z)]) = some [Value.int (x / z)] from if_neg h41) rfl ?_
      refine y_retI xD_42 rfl rfl ?_
      refine rI_e ?_
      simp [h41]; try rfl
    · skip
      refine y_ci (pc' := 45) (0) xD_42 rfl rfl rfl rfl ?_
      refine y_goto (pc' := 51) xD_42 rfl rfl ?_
      refine y_retI xD_42 rfl rfl ?_
      refine rI_e ?_
      simp [h41]; try rfl
/-- Math.abs and Math.min of longs -/
theorem s_absJ {w : Int64} : XP S d 44 0 (xent [.long w] 2) [] h (rJ (if 0 ≤ w then w else -w) h) := by
  refine y_loc (pc' := 1) xD_44 rfl rfl rfl rfl ?_
  refine y_cj (pc' := 2) (0) xD_44 rfl rfl rfl rfl ?_
  refine y_op (pc' := 3) xD_44 rfl rfl rfl rfl ?_
  refine y_ifge (pt := 11) (pf := 6) xD_44 rfl rfl rfl (fun h3 => ?_) (fun h3 => ?_)
  · skip
    refine y_loc (pc' := 12) xD_44 rfl rfl rfl rfl ?_
    refine y_retJ xD_44 rfl rfl ?_
    refine rJ_e ?_
    first | rw [if_pos ((lg_cmp_ge w 0).mp h3)] | rw [if_neg (fun q => h3 ((lg_cmp_ge w 0).mpr q))]
  · skip
    refine y_loc (pc' := 7) xD_44 rfl rfl rfl rfl ?_
    refine y_op (pc' := 8) xD_44 rfl rfl rfl rfl ?_
    refine y_goto (pc' := 12) xD_44 rfl rfl ?_
    refine y_retJ xD_44 rfl rfl ?_
    refine rJ_e ?_
    first | rw [if_pos ((lg_cmp_ge w 0).mp h3)] | rw [if_neg (fun q => h3 ((lg_cmp_ge w 0).mpr q))]
theorem s_minJ {w u : Int64} : XP S d 45 0 (xent [.long w, .long u] 4) [] h (rJ (if w ≤ u then w else u) h) := by
  refine y_loc (pc' := 1) xD_45 rfl rfl rfl rfl ?_
  refine y_loc (pc' := 2) xD_45 rfl rfl rfl rfl ?_
  refine y_op (pc' := 3) xD_45 rfl rfl rfl rfl ?_
  refine y_ifgt (pt := 10) (pf := 6) xD_45 rfl rfl rfl (fun h3 => ?_) (fun h3 => ?_)
  · skip
    refine y_loc (pc' := 11) xD_45 rfl rfl rfl rfl ?_
    refine y_retJ xD_45 rfl rfl ?_
    refine rJ_e ?_
    first | rw [if_neg (fun q => absurd (lg_gt.mp h3) (Int64.not_lt.mpr q))] | rw [if_pos (Int64.not_lt.mp (fun q => h3 (lg_gt.mpr q)))]
  · skip
    refine y_loc (pc' := 7) xD_45 rfl rfl rfl rfl ?_
    refine y_goto (pc' := 11) xD_45 rfl rfl ?_
    refine y_retJ xD_45 rfl rfl ?_
    refine rJ_e ?_
    first | rw [if_neg (fun q => absurd (lg_gt.mp h3) (Int64.not_lt.mpr q))] | rw [if_pos (Int64.not_lt.mp (fun q => h3 (lg_gt.mpr q)))]
end LF
end
section
/-! Where a line leads: both sides. -/
theorem nI_min {t n : Nat} (ht : t ≤ 10) (hn : n ≤ 10) : (if nI t ≤ nI n then nI t else nI n) = nI (if n < t then n else t) := by
  by_cases hc : t ≤ n
  · rw [if_pos (nI_le hc (by omega)), if_neg (by omega)]
  · rw [if_neg (nI_ge (by omega) (by omega)), if_pos (by omega)]
section LD
variable {S : XS} {d a A m : Nat} {I : Nat → Nat → Int32} {J : Nat → Nat → Int64} {R : Nat → Nat → Option Nat} {h : XH}
/-- Method.placeAfter -/
theorem s_placeAfter (hR : RF R) (hA : A = 4 ∨ A = 10) {n : Nat} (hn : I A 5 = nI n) (hn2 : n ≤ 10) (i : Nat) (hi : i < n) (hV : VL (cdC I A) i) {x o : Int32} (hx : x = nI i) : XP S (d + 1) 23 0 (xent [.ref A, .int x, .int o] 3) [] (hh I J R) (rI (nI (q_lead (cdC I A) n i (decide (o = 1)))) (hh I J R)) := by
  obtain ⟨hk0, hk1, hk2, hk3, hk4, hk5⟩ := kMeth hA
  obtain ⟨hr0, hr1, hr2, hr3, hr4⟩ := rMeth hR hA
  obtain ⟨⟨t, ht, hop⟩, hV3, -⟩ := hV
  have hop2 : I (A + 1) i = nI t := hop
  have hi10 : i < 10 := by omega
  have hx1 : x + Int32.ofInt 1 = nI (i + 1) := by rw [hx]; exact nI_1 i
  have pl : ∀ (b : Bool) (w : Nat), q_to (cdC I A) i b = w → w ≤ n → nI w = nI (q_lead (cdC I A) n i b) := by
    intro b w hw hwn
    unfold q_lead
    rw [hw, if_neg (by omega)]
  have pm : ∀ (b : Bool) (w : Nat), q_to (cdC I A) i b = w → w ≤ 10 → (if nI w ≤ I A 5 then nI w else I A 5) = nI (q_lead (cdC I A) n i b) := by
    intro b w hw hwn
    rw [hn, nI_min hwn hn2]
    unfold q_lead
    rw [hw]
  refine y_loc (pc' := 1) xD_23 rfl rfl rfl rfl ?_
  first | refine m_getR (pc' := 4) xD_23 rfl rfl rfl rfl (hR.1 _ _ _ rfl) rfl ?_ | refine m_getR (pc' := 4) xD_23 rfl rfl (by first | rfl | assumption) rfl (by assumption) rfl ?_
  refine y_loc (pc' := 5) xD_23 rfl rfl rfl rfl ?_
  refine m_iald (pc' := 6) (i) xD_23 rfl (by first | rfl | assumption) (by first | assumption | omega) (by decide) (by first | decide | omega) (by first | rfl | assumption) rfl ?_
  rcases (show t < 5 ∨ (t = 5 ∨ t = 6) ∨ t = 7 ∨ (t = 8 ∨ t = 9) by omega) with h5 | h56 | h7 | h89
  · skip
    refine y_jmp (pc' := 84) xD_23 rfl (by rw [hop2]; rcases (show t = 0 ∨ t = 1 ∨ t = 2 ∨ t = 3 ∨ t = 4 by omega) with rfl | rfl | rfl | rfl | rfl <;> rfl) ?_
    refine y_loc (pc' := 85) xD_23 rfl rfl rfl rfl ?_
    refine y_ci (pc' := 86) (1) xD_23 rfl rfl rfl rfl ?_
    refine y_op (pc' := 87) xD_23 rfl rfl rfl rfl ?_
    refine y_retI xD_23 rfl rfl ?_
    exact rI_e (hx1.trans (pl _ _ (q_to_lt hop h5) (by omega)))
  · skip
    obtain ⟨w, hw, hcw⟩ := hV3 (by rcases h56 with rfl | rfl <;> first | exact Or.inl hop | exact Or.inr (Or.inl hop))
    have hcw2 : I (A + 4) i = nI w := hcw
    refine y_jmp (pc' := 40) xD_23 rfl (by rw [hop2]; rcases h56 with rfl | rfl <;> rfl) ?_
    refine y_loc (pc' := 41) xD_23 rfl rfl rfl rfl ?_
    refine y_ci (pc' := 42) (1) xD_23 rfl rfl rfl rfl ?_
    refine y_icne (pt := 61) (pf := 45) xD_23 rfl rfl rfl (fun h1 => ?_) (fun h1 => ?_)
    · skip
      have h1 : ¬ o = 1 := h1
      refine y_loc (pc' := 62) xD_23 rfl rfl rfl rfl ?_
      refine y_ci (pc' := 63) (1) xD_23 rfl rfl rfl rfl ?_
      refine y_op (pc' := 64) xD_23 rfl rfl rfl rfl ?_
      refine y_retI xD_23 rfl rfl ?_
      exact rI_e (hx1.trans (pl _ _ (by rw [q_to_br hop h56 hcw hw]; simp [h1]) (by omega)))
    · skip
      have h1 : o = 1 := h1
      refine y_loc (pc' := 46) xD_23 rfl rfl rfl rfl ?_
      first | refine m_getR (pc' := 49) xD_23 rfl rfl rfl rfl (hR.1 _ _ _ rfl) rfl ?_ | refine m_getR (pc' := 49) xD_23 rfl rfl (by first | rfl | assumption) rfl (by assumption) rfl ?_
      refine y_loc (pc' := 50) xD_23 rfl rfl rfl rfl ?_
      refine m_iald (pc' := 51) (i) xD_23 rfl (by first | rfl | assumption) (by first | assumption | omega) (by decide) (by first | decide | omega) (by first | rfl | assumption) rfl ?_
      refine y_loc (pc' := 52) xD_23 rfl rfl rfl rfl ?_
      refine m_get (pc' := 55) xD_23 rfl rfl (by first | rfl | assumption) rfl rfl ?_
      refine y_callS xD_23 rfl rfl rfl rfl rfl rfl rfl rfl (s_min) (fun v h' hq => ?_)
      obtain ⟨rfl, rfl⟩ := hq
      refine y_goto (pc' := 64) xD_23 rfl rfl ?_
      refine y_retI xD_23 rfl rfl ?_
      rw [hcw2]
      exact rI_e (pm _ w (by rw [q_to_br hop h56 hcw hw]; simp [h1]) hw)
  · skip
    subst h7
    obtain ⟨w, hw, hcw⟩ := hV3 (Or.inr (Or.inr hop))
    have hcw2 : I (A + 4) i = nI w := hcw
    refine y_jmp (pc' := 65) xD_23 rfl (by rw [hop2]; rfl) ?_
    refine y_loc (pc' := 66) xD_23 rfl rfl rfl rfl ?_
    first | refine m_getR (pc' := 69) xD_23 rfl rfl rfl rfl (hR.1 _ _ _ rfl) rfl ?_ | refine m_getR (pc' := 69) xD_23 rfl rfl (by first | rfl | assumption) rfl (by assumption) rfl ?_
    refine y_loc (pc' := 70) xD_23 rfl rfl rfl rfl ?_
    refine m_iald (pc' := 71) (i) xD_23 rfl (by first | rfl | assumption) (by first | assumption | omega) (by decide) (by first | decide | omega) (by first | rfl | assumption) rfl ?_
    refine y_loc (pc' := 72) xD_23 rfl rfl rfl rfl ?_
    refine m_get (pc' := 75) xD_23 rfl rfl (by first | rfl | assumption) rfl rfl ?_
    refine y_callS xD_23 rfl rfl rfl rfl rfl rfl rfl rfl (s_min) (fun v h' hq => ?_)
    obtain ⟨rfl, rfl⟩ := hq
    skip
    refine y_retI xD_23 rfl rfl ?_
    rw [hcw2]
    exact rI_e (pm _ w (q_to_go hop hcw hw) hw)
  · skip
    refine y_jmp (pc' := 79) xD_23 rfl (by rw [hop2]; rcases h89 with rfl | rfl <;> rfl) ?_
    refine y_loc (pc' := 80) xD_23 rfl rfl rfl rfl ?_
    refine m_get (pc' := 83) xD_23 rfl rfl (by first | rfl | assumption) rfl rfl ?_
    refine y_retI xD_23 rfl rfl ?_
    refine rI_e ?_
    rw [hn]
    unfold q_lead
    rw [q_to_end hop h89]
    split <;> congr 1
    omega
theorem kMod : kq 261 = (9, 22) ∧ kq 262 = (100, 1608) ∧ kq 263 = (100, 67) ∧ kq 264 = (100, 80) ∧ kq 265 = (100, 2) := ⟨rfl, rfl, rfl, rfl, rfl⟩
/-- code(m, p, part) -/
theorem s_code (hR : RF R) (hm : m < 2) (p q : Nat) (hp : p < 10) (hq : q < 4) {xm xp xq : Int32} (e1 : xm = nI m) (e2 : xp = nI p) (e3 : xq = nI q) : XP S d 112 0 (xent [.ref 261, .int xm, .int xp, .int xq] 4) [] (hh I J R) (rI (cdM I m p q) (hh I J R)) := by
  refine y_loc (pc' := 1) xD_112 rfl rfl rfl rfl ?_
  first | refine m_getR (pc' := 4) xD_112 rfl rfl rfl rfl (hR.1 _ _ _ rfl) rfl ?_ | refine m_getR (pc' := 4) xD_112 rfl rfl (by first | rfl | assumption) rfl (by assumption) rfl ?_
  refine y_loc (pc' := 5) xD_112 rfl rfl rfl rfl ?_
  refine y_ci (pc' := 7) (40) xD_112 rfl rfl rfl rfl ?_
  refine y_op (pc' := 8) xD_112 rfl rfl rfl rfl ?_
  refine y_loc (pc' := 9) xD_112 rfl rfl rfl rfl ?_
  refine y_ci (pc' := 10) (4) xD_112 rfl rfl rfl rfl ?_
  refine y_op (pc' := 11) xD_112 rfl rfl rfl rfl ?_
  refine y_op (pc' := 12) xD_112 rfl rfl rfl rfl ?_
  refine y_loc (pc' := 13) xD_112 rfl rfl rfl rfl ?_
  refine y_op (pc' := 14) xD_112 rfl rfl rfl rfl ?_
  refine m_iald (pc' := 15) (40 * m + 4 * p + q) xD_112 rfl (by first | rfl | assumption) (by first | assumption | omega) (by decide) (by first | decide | omega) (by rw [e1, e2, e3]; show nI m * nI 40 + nI p * nI 4 + nI q = _; rw [pk_mul, pk_mul, nI_add, nI_add, Nat.mul_comm m, Nat.mul_comm p]) rfl ?_
  skip
  refine y_retI xD_112 rfl rfl ?_
  exact ⟨rfl, rfl⟩
theorem s_branchAt (hR : RF R) (hm : m < 2) (p : Nat) (hp : p < 10) {xm xp : Int32} (e1 : xm = nI m) (e2 : xp = nI p) : XP S (d + 1) 111 0 (xent [.ref 261, .int xm, .int xp] 3) [] (hh I J R) (rI (zB (decide (cdM I m p 0 = 5 ∨ cdM I m p 0 = 6))) (hh I J R)) := by
  refine y_loc (pc' := 1) xD_111 rfl rfl rfl rfl ?_
  refine y_loc (pc' := 2) xD_111 rfl rfl rfl rfl ?_
  refine y_loc (pc' := 3) xD_111 rfl rfl rfl rfl ?_
  refine y_ci (pc' := 4) (0) xD_111 rfl rfl rfl rfl ?_
  refine y_callV xD_111 rfl rfl rfl rfl (by first | rfl | assumption) rfl rfl rfl rfl (s_code hR hm p 0 hp (by decide) e1 e2 rfl) (fun v h' hq => ?_)
  obtain ⟨rfl, rfl⟩ := hq
  refine y_ci (pc' := 8) (5) xD_111 rfl rfl rfl rfl ?_
  refine y_iceq (pt := 23) (pf := 11) xD_111 rfl rfl rfl (fun h8 => ?_) (fun h8 => ?_)
  · skip
    refine y_ci (pc' := 24) (1) xD_111 rfl rfl rfl rfl ?_
    refine y_goto (pc' := 28) xD_111 rfl rfl ?_
    refine y_retZ xD_111 rfl rfl (by first | decide | assumption) ?_
    first | exact rI_t (by simp_all) | exact rI_f (by simp_all)
  · skip
    refine y_loc (pc' := 12) xD_111 rfl rfl rfl rfl ?_
    refine y_loc (pc' := 13) xD_111 rfl rfl rfl rfl ?_
    refine y_loc (pc' := 14) xD_111 rfl rfl rfl rfl ?_
    refine y_ci (pc' := 15) (0) xD_111 rfl rfl rfl rfl ?_
    refine y_callV xD_111 rfl rfl rfl rfl (by first | rfl | assumption) rfl rfl rfl rfl (s_code hR hm p 0 hp (by decide) e1 e2 rfl) (fun v h' hq => ?_)
    obtain ⟨rfl, rfl⟩ := hq
    refine y_ci (pc' := 20) (6) xD_111 rfl rfl rfl rfl ?_
    refine y_icne (pt := 27) (pf := 23) xD_111 rfl rfl rfl (fun h20 => ?_) (fun h20 => ?_)
    · skip
      refine y_ci (pc' := 28) (0) xD_111 rfl rfl rfl rfl ?_
      refine y_retZ xD_111 rfl rfl (by first | decide | assumption) ?_
      first | exact rI_t (by simp_all) | exact rI_f (by simp_all)
    · skip
      refine y_ci (pc' := 24) (1) xD_111 rfl rfl rfl rfl ?_
      refine y_goto (pc' := 28) xD_111 rfl rfl ?_
      refine y_retZ xD_111 rfl rfl (by first | decide | assumption) ?_
      first | exact rI_t (by simp_all) | exact rI_f (by simp_all)
/-- lead(m, p, outcome): the target at place 55 on -/
theorem s_lead_end (hR : RF R) (hm : m < 2) {n : Nat} (hn : I 265 m = nI n) (hn2 : n ≤ 10) (w : Nat) (hw : w ≤ 10) {xm xp xo xw : Int32} {xp' : Int32} (e1 : xm = nI m) (ew : xw = nI w) {q5 : Option Value} : XP S d 116 55 [some (.ref 261), some (.int xm), some (.int xp), some (.int xo), some (.int xp'), q5] [.int xw] (hh I J R) (rI (nI (if n < w then n else w)) (hh I J R)) := by
  refine y_loc (pc' := 57) xD_116 rfl rfl rfl rfl ?_
  refine y_loc (pc' := 59) xD_116 rfl rfl rfl rfl ?_
  refine y_loc (pc' := 60) xD_116 rfl rfl rfl rfl ?_
  first | refine m_getR (pc' := 63) xD_116 rfl rfl rfl rfl (hR.1 _ _ _ rfl) rfl ?_ | refine m_getR (pc' := 63) xD_116 rfl rfl (by first | rfl | assumption) rfl (by assumption) rfl ?_
  refine y_loc (pc' := 64) xD_116 rfl rfl rfl rfl ?_
  refine m_iald (pc' := 65) (m) xD_116 rfl (by first | rfl | assumption) (by first | assumption | omega) (by decide) (by first | decide | omega) (by first | rfl | assumption) rfl ?_
  skip
  refine y_icle (pt := 77) (pf := 68) xD_116 rfl rfl rfl (fun h1 => ?_) (fun h1 => ?_)
  · skip
    refine y_loc (pc' := 79) xD_116 rfl rfl rfl rfl ?_
    refine y_retI xD_116 rfl rfl ?_
    refine rI_e ?_
    rw [ew, hn] at h1
    rw [ew, if_neg (fun q => absurd (nI_ge q (by omega)) (fun z => z h1))]
  · skip
    refine y_loc (pc' := 69) xD_116 rfl rfl rfl rfl ?_
    first | refine m_getR (pc' := 72) xD_116 rfl rfl rfl rfl (hR.1 _ _ _ rfl) rfl ?_ | refine m_getR (pc' := 72) xD_116 rfl rfl (by first | rfl | assumption) rfl (by assumption) rfl ?_
    refine y_loc (pc' := 73) xD_116 rfl rfl rfl rfl ?_
    refine m_iald (pc' := 74) (m) xD_116 rfl (by first | rfl | assumption) (by first | assumption | omega) (by decide) (by first | decide | omega) (by first | rfl | assumption) rfl ?_
    refine y_goto (pc' := 79) xD_116 rfl rfl ?_
    refine y_retI xD_116 rfl rfl ?_
    refine rI_e ?_
    rw [ew, hn] at h1
    rw [hn, if_pos (Nat.lt_of_not_le (fun q => h1 (nI_le q (by omega))))]
/-- lead(m, p, outcome) -/
theorem s_lead (hR : RF R) (hm : m < 2) {n : Nat} (hn : I 265 m = nI n) (hn2 : n ≤ 10) (p : Nat) (hp : p < n) (hV : VL (cdM I m) p) {xm xp xo : Int32} (e1 : xm = nI m) (e2 : xp = nI p) : XP S (d + 2) 116 0 (xent [.ref 261, .int xm, .int xp, .int xo] 6) [] (hh I J R) (rI (nI (q_lead (cdM I m) n p (decide (xo = 1)))) (hh I J R)) := by
  obtain ⟨⟨t, ht, hop⟩, hV3, -⟩ := hV
  have e3 : xp + 1 = nI (p + 1) := by rw [e2]; exact nI_1 p
  have fin : ∀ (w : Nat) (xw : Int32), q_to (cdM I m) p (decide (xo = 1)) = w → w ≤ 10 → xw = nI w → XP S (d + 2) 116 55 [some (.ref 261), some (.int xm), some (.int xp), some (.int xo), some (.int (cdM I m p 0)), none] [.int xw] (hh I J R) (rI (nI (q_lead (cdM I m) n p (decide (xo = 1)))) (hh I J R)) := by
    intro w xw hq hw ew
    have := s_lead_end (S := S) (d := d + 2) (J := J) (q5 := none) (xp := xp) (xo := xo) (xp' := cdM I m p 0) hR hm hn hn2 w hw e1 ew
    rw [show (if n < w then n else w) = q_lead (cdM I m) n p (decide (xo = 1)) by unfold q_lead; rw [hq]] at this
    exact this
  have hbr : (cdM I m p 0 = 5 ∨ cdM I m p 0 = 6) → t = 5 ∨ t = 6 := by
    intro q
    rw [hop] at q
    rcases q with q | q
    · exact Or.inl ((nI_eq (b := 5) (by omega) (by omega)).mp q)
    · exact Or.inr ((nI_eq (b := 6) (by omega) (by omega)).mp q)
  refine y_loc (pc' := 1) xD_116 rfl rfl rfl rfl ?_
  refine y_loc (pc' := 2) xD_116 rfl rfl rfl rfl ?_
  refine y_loc (pc' := 3) xD_116 rfl rfl rfl rfl ?_
  refine y_ci (pc' := 4) (0) xD_116 rfl rfl rfl rfl ?_
  refine y_callV xD_116 rfl rfl rfl rfl (by first | rfl | assumption) rfl rfl rfl rfl (s_code hR hm p 0 (by omega) (by decide) e1 e2 rfl) (fun v h' hq => ?_)
  obtain ⟨rfl, rfl⟩ := hq
  refine y_loc (pc' := 9) xD_116 rfl rfl rfl rfl ?_
  refine y_loc (pc' := 11) xD_116 rfl rfl rfl rfl ?_
  refine y_ci (pc' := 13) (7) xD_116 rfl rfl rfl rfl ?_
  refine y_iceq (pt := 30) (pf := 16) xD_116 rfl rfl rfl (fun h13 => ?_) (fun h13 => ?_)
  · skip
    refine y_loc (pc' := 31) xD_116 rfl rfl rfl rfl ?_
    refine y_loc (pc' := 32) xD_116 rfl rfl rfl rfl ?_
    refine y_loc (pc' := 33) xD_116 rfl rfl rfl rfl ?_
    refine y_ci (pc' := 34) (3) xD_116 rfl rfl rfl rfl ?_
    refine y_callV xD_116 rfl rfl rfl rfl (by first | rfl | assumption) rfl rfl rfl rfl (s_code hR hm p 3 (by omega) (by decide) e1 e2 rfl) (fun v h' hq => ?_)
    obtain ⟨rfl, rfl⟩ := hq
    refine y_goto (pc' := 55) xD_116 rfl rfl ?_
    first
    | (obtain ⟨w, hw, hcw⟩ := hV3 (Or.inr (Or.inr h13)); exact fin w _ (q_to_go h13 hcw hw) hw hcw)
    | (obtain ⟨w, hw, hcw⟩ := hV3 ((zB_n0.mp h22).elim Or.inl (fun q => Or.inr (Or.inl q))); exact fin w _ (by rw [q_to_br hop (hbr (zB_n0.mp h22)) hcw hw]; simp [h27]) hw hcw)
    | exact fin (p + 1) _ (q_to_next h13 (fun q => zB_0.mp h22 q.1) (Int32.not_le.mpr h44)) (by omega) e3
    | exact fin (p + 1) _ (q_to_next h13 (fun q => h27 (of_decide_eq_true q.2)) (Int32.not_le.mpr h44)) (by omega) e3
    | exact fin 10 _ (q_to_10 h13 (fun q => zB_0.mp h22 q.1) (Int32.not_lt.mp h44)) (by omega) rfl
    | exact fin 10 _ (q_to_10 h13 (fun q => h27 (of_decide_eq_true q.2)) (Int32.not_lt.mp h44)) (by omega) rfl
  · skip
    refine y_loc (pc' := 17) xD_116 rfl rfl rfl rfl ?_
    refine y_loc (pc' := 18) xD_116 rfl rfl rfl rfl ?_
    refine y_loc (pc' := 19) xD_116 rfl rfl rfl rfl ?_
    refine y_callV xD_116 rfl rfl rfl rfl (by first | rfl | assumption) rfl rfl rfl rfl (s_branchAt hR hm p (by omega) e1 e2) (fun v h' hq => ?_)
    obtain ⟨rfl, rfl⟩ := hq
    refine y_ifeq (pt := 40) (pf := 25) xD_116 rfl rfl rfl (fun h22 => ?_) (fun h22 => ?_)
    · skip
      refine y_loc (pc' := 42) xD_116 rfl rfl rfl rfl ?_
      refine y_ci (pc' := 44) (8) xD_116 rfl rfl rfl rfl ?_
      refine y_iclt (pt := 52) (pf := 47) xD_116 rfl rfl rfl (fun h44 => ?_) (fun h44 => ?_)
      · skip
        refine y_loc (pc' := 53) xD_116 rfl rfl rfl rfl ?_
        refine y_ci (pc' := 54) (1) xD_116 rfl rfl rfl rfl ?_
        refine y_op (pc' := 55) xD_116 rfl rfl rfl rfl ?_
        first
        | (obtain ⟨w, hw, hcw⟩ := hV3 (Or.inr (Or.inr h13)); exact fin w _ (q_to_go h13 hcw hw) hw hcw)
        | (obtain ⟨w, hw, hcw⟩ := hV3 ((zB_n0.mp h22).elim Or.inl (fun q => Or.inr (Or.inl q))); exact fin w _ (by rw [q_to_br hop (hbr (zB_n0.mp h22)) hcw hw]; simp [h27]) hw hcw)
        | exact fin (p + 1) _ (q_to_next h13 (fun q => zB_0.mp h22 q.1) (Int32.not_le.mpr h44)) (by omega) e3
        | exact fin (p + 1) _ (q_to_next h13 (fun q => h27 (of_decide_eq_true q.2)) (Int32.not_le.mpr h44)) (by omega) e3
        | exact fin 10 _ (q_to_10 h13 (fun q => zB_0.mp h22 q.1) (Int32.not_lt.mp h44)) (by omega) rfl
        | exact fin 10 _ (q_to_10 h13 (fun q => h27 (of_decide_eq_true q.2)) (Int32.not_lt.mp h44)) (by omega) rfl
      · skip
        refine y_ci (pc' := 49) (10) xD_116 rfl rfl rfl rfl ?_
        refine y_goto (pc' := 55) xD_116 rfl rfl ?_
        first
        | (obtain ⟨w, hw, hcw⟩ := hV3 (Or.inr (Or.inr h13)); exact fin w _ (q_to_go h13 hcw hw) hw hcw)
        | (obtain ⟨w, hw, hcw⟩ := hV3 ((zB_n0.mp h22).elim Or.inl (fun q => Or.inr (Or.inl q))); exact fin w _ (by rw [q_to_br hop (hbr (zB_n0.mp h22)) hcw hw]; simp [h27]) hw hcw)
        | exact fin (p + 1) _ (q_to_next h13 (fun q => zB_0.mp h22 q.1) (Int32.not_le.mpr h44)) (by omega) e3
        | exact fin (p + 1) _ (q_to_next h13 (fun q => h27 (of_decide_eq_true q.2)) (Int32.not_le.mpr h44)) (by omega) e3
        | exact fin 10 _ (q_to_10 h13 (fun q => zB_0.mp h22 q.1) (Int32.not_lt.mp h44)) (by omega) rfl
        | exact fin 10 _ (q_to_10 h13 (fun q => h27 (of_decide_eq_true q.2)) (Int32.not_lt.mp h44)) (by omega) rfl
    · skip
      refine y_loc (pc' := 26) xD_116 rfl rfl rfl rfl ?_
      refine y_ci (pc' := 27) (1) xD_116 rfl rfl rfl rfl ?_
      refine y_icne (pt := 40) (pf := 30) xD_116 rfl rfl rfl (fun h27 => ?_) (fun h27 => ?_)
      · skip
        refine y_loc (pc' := 42) xD_116 rfl rfl rfl rfl ?_
        refine y_ci (pc' := 44) (8) xD_116 rfl rfl rfl rfl ?_
        refine y_iclt (pt := 52) (pf := 47) xD_116 rfl rfl rfl (fun h44 => ?_) (fun h44 => ?_)
        · skip
          refine y_loc (pc' := 53) xD_116 rfl rfl rfl rfl ?_
          refine y_ci (pc' := 54) (1) xD_116 rfl rfl rfl rfl ?_
          refine y_op (pc' := 55) xD_116 rfl rfl rfl rfl ?_
          first
          | (obtain ⟨w, hw, hcw⟩ := hV3 (Or.inr (Or.inr h13)); exact fin w _ (q_to_go h13 hcw hw) hw hcw)
          | (obtain ⟨w, hw, hcw⟩ := hV3 ((zB_n0.mp h22).elim Or.inl (fun q => Or.inr (Or.inl q))); exact fin w _ (by rw [q_to_br hop (hbr (zB_n0.mp h22)) hcw hw]; simp [h27]) hw hcw)
          | exact fin (p + 1) _ (q_to_next h13 (fun q => zB_0.mp h22 q.1) (Int32.not_le.mpr h44)) (by omega) e3
          | exact fin (p + 1) _ (q_to_next h13 (fun q => h27 (of_decide_eq_true q.2)) (Int32.not_le.mpr h44)) (by omega) e3
          | exact fin 10 _ (q_to_10 h13 (fun q => zB_0.mp h22 q.1) (Int32.not_lt.mp h44)) (by omega) rfl
          | exact fin 10 _ (q_to_10 h13 (fun q => h27 (of_decide_eq_true q.2)) (Int32.not_lt.mp h44)) (by omega) rfl
        · skip
          refine y_ci (pc' := 49) (10) xD_116 rfl rfl rfl rfl ?_
          refine y_goto (pc' := 55) xD_116 rfl rfl ?_
          first
          | (obtain ⟨w, hw, hcw⟩ := hV3 (Or.inr (Or.inr h13)); exact fin w _ (q_to_go h13 hcw hw) hw hcw)
          | (obtain ⟨w, hw, hcw⟩ := hV3 ((zB_n0.mp h22).elim Or.inl (fun q => Or.inr (Or.inl q))); exact fin w _ (by rw [q_to_br hop (hbr (zB_n0.mp h22)) hcw hw]; simp [h27]) hw hcw)
          | exact fin (p + 1) _ (q_to_next h13 (fun q => zB_0.mp h22 q.1) (Int32.not_le.mpr h44)) (by omega) e3
          | exact fin (p + 1) _ (q_to_next h13 (fun q => h27 (of_decide_eq_true q.2)) (Int32.not_le.mpr h44)) (by omega) e3
          | exact fin 10 _ (q_to_10 h13 (fun q => zB_0.mp h22 q.1) (Int32.not_lt.mp h44)) (by omega) rfl
          | exact fin 10 _ (q_to_10 h13 (fun q => h27 (of_decide_eq_true q.2)) (Int32.not_lt.mp h44)) (by omega) rfl
      · skip
        refine y_loc (pc' := 31) xD_116 rfl rfl rfl rfl ?_
        refine y_loc (pc' := 32) xD_116 rfl rfl rfl rfl ?_
        refine y_loc (pc' := 33) xD_116 rfl rfl rfl rfl ?_
        refine y_ci (pc' := 34) (3) xD_116 rfl rfl rfl rfl ?_
        refine y_callV xD_116 rfl rfl rfl rfl (by first | rfl | assumption) rfl rfl rfl rfl (s_code hR hm p 3 (by omega) (by decide) e1 e2 rfl) (fun v h' hq => ?_)
        obtain ⟨rfl, rfl⟩ := hq
        refine y_goto (pc' := 55) xD_116 rfl rfl ?_
        first
        | (obtain ⟨w, hw, hcw⟩ := hV3 (Or.inr (Or.inr h13)); exact fin w _ (q_to_go h13 hcw hw) hw hcw)
        | (obtain ⟨w, hw, hcw⟩ := hV3 ((zB_n0.mp h22).elim Or.inl (fun q => Or.inr (Or.inl q))); exact fin w _ (by rw [q_to_br hop (hbr (zB_n0.mp h22)) hcw hw]; simp [h27]) hw hcw)
        | exact fin (p + 1) _ (q_to_next h13 (fun q => zB_0.mp h22 q.1) (Int32.not_le.mpr h44)) (by omega) e3
        | exact fin (p + 1) _ (q_to_next h13 (fun q => h27 (of_decide_eq_true q.2)) (Int32.not_le.mpr h44)) (by omega) e3
        | exact fin 10 _ (q_to_10 h13 (fun q => zB_0.mp h22 q.1) (Int32.not_lt.mp h44)) (by omega) rfl
        | exact fin 10 _ (q_to_10 h13 (fun q => h27 (of_decide_eq_true q.2)) (Int32.not_lt.mp h44)) (by omega) rfl
end LD
end
section
/-! The class's Runner: a branch, a line, a call. -/
theorem xu_row {α : Type} {f : Nat → Nat → α} {a i : Nat} {v : α} : xu f a i v = xrow f a (fun j => if j = i then v else f a j) := by
  funext x y
  unfold xu xrow
  by_cases hx : x = a
  · subst hx
    by_cases hy : y = i <;> simp [hy]
  · simp [hx]
theorem xrow_row {α : Type} {f : Nat → Nat → α} {a : Nat} {g k : Nat → α} : xrow (xrow f a g) a k = xrow f a k := by
  funext x y
  unfold xrow
  split <;> rfl
theorem xrow_id {α : Type} {f : Nat → Nat → α} {a : Nat} : xrow f a (f a) = f := by
  funext x y
  unfold xrow
  split
  · rename_i h; rw [h]
  · rfl
def bnC (I : Nat → Nat → Int32) (A : Nat) : Nat → Option Nat := fun p => if I (A + 5) p = -1 then none else some (I (A + 5) p).toNatClampNeg
section RN
variable {S : XS} {d A : Nat} {I : Nat → Nat → Int32} {J : Nat → Nat → Int64} {R : Nat → Nat → Option Nat}
/-- Runner.decide -/
theorem s_decide (hR : RF R) (hA : A = 4 ∨ A = 10) (i : Nat) (hi : i < 10) {t a b : Nat} (ht : t = 5 ∨ t = 6) (hop : cdC I A i 0 = nI t) (ha : a < 8) (hb : b < 8) (ea : cdC I A i 1 = nI a) (eb : cdC I A i 2 = nI b) (hbr : I (A + 5) i = -1 ∨ ∃ k, k < 12 ∧ I (A + 5) i = nI k) {x : Int32} (hx : x = nI i) :
    XP S (d + 1) 43 0 (xent [.ref 20, .ref A, .int x] 12) [] (hh I J R) (rI (zB (decide (q_yes (decide (cdC I A i 0 = 5)) (I 21 a).toInt64 (I 21 b).toInt64 = 0))) (hh I (xrow J 22 (q_u UC (bnC I A i) (q_no (decide (cdC I A i 0 = 5)) (I 21 a).toInt64 (I 21 b).toInt64) (q_yes (decide (cdC I A i 0 = 5)) (I 21 a).toInt64 (I 21 b).toInt64) (J 22))) R)) := by
  obtain ⟨hk0, hk1, hk2, hk3, hk4, hk5⟩ := kMeth hA
  obtain ⟨hr0, hr1, hr2, hr3, hr4⟩ := rMeth hR hA
  have hop2 : I (A + 1) i = nI t := hop
  have ea2 : I (A + 2) i = nI a := ea
  have eb2 : I (A + 3) i = nI b := eb
  have fin : ∀ (no yes : Int64) (w u : Int64) (q : Option Value), q_no (decide (cdC I A i 0 = 5)) (I 21 a).toInt64 (I 21 b).toInt64 = no → q_yes (decide (cdC I A i 0 = 5)) (I 21 a).toInt64 (I 21 b).toInt64 = yes → XP S (d + 1) 43 99 [some (.ref 20), some (.ref A), some (.int x), some (.long w), none, some (.long u), none, some (.long no), none, some (.long yes), none, q] [] (hh I J R) (rI (zB (decide (q_yes (decide (cdC I A i 0 = 5)) (I 21 a).toInt64 (I 21 b).toInt64 = 0))) (hh I (xrow J 22 (q_u UC (bnC I A i) (q_no (decide (cdC I A i 0 = 5)) (I 21 a).toInt64 (I 21 b).toInt64) (q_yes (decide (cdC I A i 0 = 5)) (I 21 a).toInt64 (I 21 b).toInt64) (J 22))) R)) := by
    intro no yes w u q hno hyes
    rw [hno, hyes]
    have last : ∀ (J' : Nat → Nat → Int64) (z : Int32), J' = xrow J 22 (q_u UC (bnC I A i) no yes (J 22)) → XP S (d + 1) 43 163 [some (.ref 20), some (.ref A), some (.int x), some (.long w), none, some (.long u), none, some (.long no), none, some (.long yes), none, some (.int z)] [] (hh I J' R) (rI (zB (decide (yes = 0))) (hh I (xrow J 22 (q_u UC (bnC I A i) no yes (J 22))) R)) := by
      intro J' z hJ
      subst hJ
      refine y_loc (pc' := 165) xD_43 rfl rfl rfl rfl ?_
      refine y_cj (pc' := 166) (0) xD_43 rfl rfl rfl rfl ?_
      refine y_op (pc' := 167) xD_43 rfl rfl rfl rfl ?_
      refine y_ifne (pt := 174) (pf := 170) xD_43 rfl rfl rfl (fun h167 => ?_) (fun h167 => ?_)
      · skip
        refine y_ci (pc' := 175) (0) xD_43 rfl rfl rfl rfl ?_
        refine y_retI xD_43 rfl rfl ?_
        first | exact rI_t (lg_eq.mp h167) | exact rI_f (fun q => h167 (lg_eq.mpr q))
      · skip
        refine y_ci (pc' := 171) (1) xD_43 rfl rfl rfl rfl ?_
        refine y_goto (pc' := 175) xD_43 rfl rfl ?_
        refine y_retI xD_43 rfl rfl ?_
        first | exact rI_t (lg_eq.mp h167) | exact rI_f (fun q => h167 (lg_eq.mpr q))
    refine y_loc (pc' := 100) xD_43 rfl rfl rfl rfl ?_
    first | refine m_getR (pc' := 103) xD_43 rfl rfl rfl rfl (hR.1 _ _ _ rfl) rfl ?_ | refine m_getR (pc' := 103) xD_43 rfl rfl (by first | rfl | assumption) rfl (by assumption) rfl ?_
    refine y_loc (pc' := 104) xD_43 rfl rfl rfl rfl ?_
    refine m_iald (pc' := 105) (i) xD_43 rfl (by first | rfl | assumption) (by first | assumption | omega) (by decide) (by first | decide | omega) (by first | rfl | assumption) rfl ?_
    refine y_loc (pc' := 107) xD_43 rfl rfl rfl rfl ?_
    refine y_loc (pc' := 109) xD_43 rfl rfl rfl rfl ?_
    refine y_ci (pc' := 110) (-1) xD_43 rfl rfl rfl rfl ?_
    rcases hbr with hb1 | ⟨k, hk, hbk⟩
    · refine y_jmp (pc' := 163) xD_43 rfl (by rw [hb1]; rfl) ?_
      exact last _ _ (by unfold bnC; rw [if_pos hb1]; exact xrow_id.symm)
    · skip
      refine y_iceq (pt := 163) (pf := 113) xD_43 rfl rfl rfl (fun h110 => ?_) (fun h110 => ?_)
      · exfalso
        rw [hbk] at h110
        exact nI_m1 (by omega) h110
      · skip
        have e2 : (2 : Int32) * I (A + 5) i = nI (2 * k) := by rw [hbk]; exact pk_mul 2 k
        have e3 : (2 : Int32) * I (A + 5) i + 1 = nI (2 * k + 1) := by rw [e2]; exact nI_1 _
        refine y_loc (pc' := 114) xD_43 rfl rfl rfl rfl ?_
        first | refine m_getR (pc' := 117) xD_43 rfl rfl rfl rfl (hR.1 _ _ _ rfl) rfl ?_ | refine m_getR (pc' := 117) xD_43 rfl rfl (by first | rfl | assumption) rfl (by assumption) rfl ?_
        refine y_ci (pc' := 118) (2) xD_43 rfl rfl rfl rfl ?_
        refine y_loc (pc' := 120) xD_43 rfl rfl rfl rfl ?_
        refine y_op (pc' := 121) xD_43 rfl rfl rfl rfl ?_
        refine y_loc (pc' := 122) xD_43 rfl rfl rfl rfl ?_
        first | refine m_getR (pc' := 125) xD_43 rfl rfl rfl rfl (hR.1 _ _ _ rfl) rfl ?_ | refine m_getR (pc' := 125) xD_43 rfl rfl (by first | rfl | assumption) rfl (by assumption) rfl ?_
        refine y_ci (pc' := 126) (2) xD_43 rfl rfl rfl rfl ?_
        refine y_loc (pc' := 128) xD_43 rfl rfl rfl rfl ?_
        refine y_op (pc' := 129) xD_43 rfl rfl rfl rfl ?_
        refine m_jald (pc' := 130) (2 * k) xD_43 rfl (by first | rfl | assumption) (by first | assumption | omega) (by decide) (by first | rfl | assumption) rfl ?_
        refine y_loc (pc' := 132) xD_43 rfl rfl rfl rfl ?_
        refine y_callS xD_43 rfl rfl rfl rfl rfl rfl rfl rfl (s_minJ) (fun v h' hq => ?_)
        obtain ⟨rfl, rfl⟩ := hq
        skip
        refine m_jast (pc' := 136) (2 * k) xD_43 rfl (by first | rfl | assumption) (by first | assumption | omega) (by decide) (by first | rfl | assumption) rfl ?_
        refine y_loc (pc' := 137) xD_43 rfl rfl rfl rfl ?_
        first | refine m_getR (pc' := 140) xD_43 rfl rfl rfl rfl (hR.1 _ _ _ rfl) rfl ?_ | refine m_getR (pc' := 140) xD_43 rfl rfl (by first | rfl | assumption) rfl (by assumption) rfl ?_
        refine y_ci (pc' := 141) (2) xD_43 rfl rfl rfl rfl ?_
        refine y_loc (pc' := 143) xD_43 rfl rfl rfl rfl ?_
        refine y_op (pc' := 144) xD_43 rfl rfl rfl rfl ?_
        refine y_ci (pc' := 145) (1) xD_43 rfl rfl rfl rfl ?_
        refine y_op (pc' := 146) xD_43 rfl rfl rfl rfl ?_
        refine y_loc (pc' := 147) xD_43 rfl rfl rfl rfl ?_
        first | refine m_getR (pc' := 150) xD_43 rfl rfl rfl rfl (hR.1 _ _ _ rfl) rfl ?_ | refine m_getR (pc' := 150) xD_43 rfl rfl (by first | rfl | assumption) rfl (by assumption) rfl ?_
        refine y_ci (pc' := 151) (2) xD_43 rfl rfl rfl rfl ?_
        refine y_loc (pc' := 153) xD_43 rfl rfl rfl rfl ?_
        refine y_op (pc' := 154) xD_43 rfl rfl rfl rfl ?_
        refine y_ci (pc' := 155) (1) xD_43 rfl rfl rfl rfl ?_
        refine y_op (pc' := 156) xD_43 rfl rfl rfl rfl ?_
        refine m_jald (pc' := 157) (2 * k + 1) xD_43 rfl (by first | rfl | assumption) (by first | assumption | omega) (by decide) (by first | rfl | assumption) rfl ?_
        refine y_loc (pc' := 159) xD_43 rfl rfl rfl rfl ?_
        refine y_callS xD_43 rfl rfl rfl rfl rfl rfl rfl rfl (s_minJ) (fun v h' hq => ?_)
        obtain ⟨rfl, rfl⟩ := hq
        skip
        refine m_jast (pc' := 163) (2 * k + 1) xD_43 rfl (by first | rfl | assumption) (by first | assumption | omega) (by decide) (by first | rfl | assumption) rfl ?_
        refine last _ _ ?_
        unfold bnC
        rw [if_neg h110, hbk, nI_cl (by omega)]
        rw [xu_row, xu_row, xrow_row]
        congr 1
        funext j
        simp only [q_u, UC, xrow_at]
        by_cases hj1 : j = 2 * k + 1
        · simp [hj1]
        · by_cases hj2 : j = 2 * k
          · simp [hj2]
          · simp [hj1, hj2]
  have ex : x = nI i := hx
  refine y_loc (pc' := 1) xD_43 rfl rfl rfl rfl ?_
  first | refine m_getR (pc' := 4) xD_43 rfl rfl rfl rfl (hR.1 _ _ _ rfl) rfl ?_ | refine m_getR (pc' := 4) xD_43 rfl rfl (by first | rfl | assumption) rfl (by assumption) rfl ?_
  refine y_loc (pc' := 5) xD_43 rfl rfl rfl rfl ?_
  first | refine m_getR (pc' := 8) xD_43 rfl rfl rfl rfl (hR.1 _ _ _ rfl) rfl ?_ | refine m_getR (pc' := 8) xD_43 rfl rfl (by first | rfl | assumption) rfl (by assumption) rfl ?_
  refine y_loc (pc' := 9) xD_43 rfl rfl rfl rfl ?_
  refine m_iald (pc' := 10) (i) xD_43 rfl (by first | rfl | assumption) (by first | assumption | omega) (by decide) (by first | decide | omega) (by first | rfl | assumption) rfl ?_
  skip
  refine m_iald (pc' := 11) (a) xD_43 rfl (by first | rfl | assumption) (by first | assumption | omega) (by decide) (by first | decide | omega) (by first | rfl | assumption) rfl ?_
  refine y_op (pc' := 12) xD_43 rfl rfl rfl rfl ?_
  refine y_loc (pc' := 13) xD_43 rfl rfl rfl rfl ?_
  refine y_loc (pc' := 14) xD_43 rfl rfl rfl rfl ?_
  first | refine m_getR (pc' := 17) xD_43 rfl rfl rfl rfl (hR.1 _ _ _ rfl) rfl ?_ | refine m_getR (pc' := 17) xD_43 rfl rfl (by first | rfl | assumption) rfl (by assumption) rfl ?_
  refine y_loc (pc' := 18) xD_43 rfl rfl rfl rfl ?_
  first | refine m_getR (pc' := 21) xD_43 rfl rfl rfl rfl (hR.1 _ _ _ rfl) rfl ?_ | refine m_getR (pc' := 21) xD_43 rfl rfl (by first | rfl | assumption) rfl (by assumption) rfl ?_
  refine y_loc (pc' := 22) xD_43 rfl rfl rfl rfl ?_
  refine m_iald (pc' := 23) (i) xD_43 rfl (by first | rfl | assumption) (by first | assumption | omega) (by decide) (by first | decide | omega) (by first | rfl | assumption) rfl ?_
  skip
  refine m_iald (pc' := 24) (b) xD_43 rfl (by first | rfl | assumption) (by first | assumption | omega) (by decide) (by first | decide | omega) (by first | rfl | assumption) rfl ?_
  refine y_op (pc' := 25) xD_43 rfl rfl rfl rfl ?_
  refine y_loc (pc' := 27) xD_43 rfl rfl rfl rfl ?_
  refine y_loc (pc' := 28) xD_43 rfl rfl rfl rfl ?_
  first | refine m_getR (pc' := 31) xD_43 rfl rfl rfl rfl (hR.1 _ _ _ rfl) rfl ?_ | refine m_getR (pc' := 31) xD_43 rfl rfl (by first | rfl | assumption) rfl (by assumption) rfl ?_
  refine y_loc (pc' := 32) xD_43 rfl rfl rfl rfl ?_
  refine m_iald (pc' := 33) (i) xD_43 rfl (by first | rfl | assumption) (by first | assumption | omega) (by decide) (by first | decide | omega) (by first | rfl | assumption) rfl ?_
  refine y_ci (pc' := 34) (5) xD_43 rfl rfl rfl rfl ?_
  refine y_icne (pt := 63) (pf := 37) xD_43 rfl rfl rfl (fun h34 => ?_) (fun h34 => ?_)
  · skip
    refine y_loc (pc' := 64) xD_43 rfl rfl rfl rfl ?_
    refine y_loc (pc' := 66) xD_43 rfl rfl rfl rfl ?_
    refine y_op (pc' := 67) xD_43 rfl rfl rfl rfl ?_
    refine y_iflt (pt := 74) (pf := 70) xD_43 rfl rfl rfl (fun h67 => ?_) (fun h67 => ?_)
    · skip
      refine y_loc (pc' := 76) xD_43 rfl rfl rfl rfl ?_
      refine y_loc (pc' := 77) xD_43 rfl rfl rfl rfl ?_
      refine y_op (pc' := 78) xD_43 rfl rfl rfl rfl ?_
      refine y_loc (pc' := 80) xD_43 rfl rfl rfl rfl ?_
      refine y_loc (pc' := 81) xD_43 rfl rfl rfl rfl ?_
      refine y_loc (pc' := 83) xD_43 rfl rfl rfl rfl ?_
      refine y_op (pc' := 84) xD_43 rfl rfl rfl rfl ?_
      refine y_ifge (pt := 91) (pf := 87) xD_43 rfl rfl rfl (fun h84 => ?_) (fun h84 => ?_)
      · skip
        refine y_loc (pc' := 92) xD_43 rfl rfl rfl rfl ?_
        refine y_loc (pc' := 94) xD_43 rfl rfl rfl rfl ?_
        refine y_op (pc' := 95) xD_43 rfl rfl rfl rfl ?_
        refine y_cj (pc' := 96) (1) xD_43 rfl rfl rfl rfl ?_
        refine y_op (pc' := 97) xD_43 rfl rfl rfl rfl ?_
        refine y_loc (pc' := 99) xD_43 rfl rfl rfl rfl ?_
        first
        | exact fin _ _ _ _ _ (qn1 h34 (lg_eq.mp h41)) (qyeq h34)
        | exact fin _ _ _ _ _ (qn0 h34 (fun q => h41 (lg_eq.mpr q))) (qyeq h34)
        | exact fin _ _ _ _ _ (qnl h34 (lg_lt.mp h67)) (qyg h34 (Int64.not_lt.mpr ((lg_cmp_ge _ _).mp h84)))
        | exact fin _ _ _ _ _ (qnl h34 (lg_lt.mp h67)) (qyl h34 (Int64.not_le.mp (fun q => h84 ((lg_cmp_ge _ _).mpr q))))
        | exact fin _ _ _ _ _ (qng h34 (fun q => h67 (lg_lt.mpr q))) (qyg h34 (Int64.not_lt.mpr ((lg_cmp_ge _ _).mp h84)))
        | exact fin _ _ _ _ _ (qng h34 (fun q => h67 (lg_lt.mpr q))) (qyl h34 (Int64.not_le.mp (fun q => h84 ((lg_cmp_ge _ _).mpr q))))
      · skip
        refine y_cj (pc' := 88) (0) xD_43 rfl rfl rfl rfl ?_
        refine y_goto (pc' := 97) xD_43 rfl rfl ?_
        refine y_loc (pc' := 99) xD_43 rfl rfl rfl rfl ?_
        first
        | exact fin _ _ _ _ _ (qn1 h34 (lg_eq.mp h41)) (qyeq h34)
        | exact fin _ _ _ _ _ (qn0 h34 (fun q => h41 (lg_eq.mpr q))) (qyeq h34)
        | exact fin _ _ _ _ _ (qnl h34 (lg_lt.mp h67)) (qyg h34 (Int64.not_lt.mpr ((lg_cmp_ge _ _).mp h84)))
        | exact fin _ _ _ _ _ (qnl h34 (lg_lt.mp h67)) (qyl h34 (Int64.not_le.mp (fun q => h84 ((lg_cmp_ge _ _).mpr q))))
        | exact fin _ _ _ _ _ (qng h34 (fun q => h67 (lg_lt.mpr q))) (qyg h34 (Int64.not_lt.mpr ((lg_cmp_ge _ _).mp h84)))
        | exact fin _ _ _ _ _ (qng h34 (fun q => h67 (lg_lt.mpr q))) (qyl h34 (Int64.not_le.mp (fun q => h84 ((lg_cmp_ge _ _).mpr q))))
    · skip
      refine y_cj (pc' := 71) (0) xD_43 rfl rfl rfl rfl ?_
      refine y_goto (pc' := 78) xD_43 rfl rfl ?_
      refine y_loc (pc' := 80) xD_43 rfl rfl rfl rfl ?_
      refine y_loc (pc' := 81) xD_43 rfl rfl rfl rfl ?_
      refine y_loc (pc' := 83) xD_43 rfl rfl rfl rfl ?_
      refine y_op (pc' := 84) xD_43 rfl rfl rfl rfl ?_
      refine y_ifge (pt := 91) (pf := 87) xD_43 rfl rfl rfl (fun h84 => ?_) (fun h84 => ?_)
      · skip
        refine y_loc (pc' := 92) xD_43 rfl rfl rfl rfl ?_
        refine y_loc (pc' := 94) xD_43 rfl rfl rfl rfl ?_
        refine y_op (pc' := 95) xD_43 rfl rfl rfl rfl ?_
        refine y_cj (pc' := 96) (1) xD_43 rfl rfl rfl rfl ?_
        refine y_op (pc' := 97) xD_43 rfl rfl rfl rfl ?_
        refine y_loc (pc' := 99) xD_43 rfl rfl rfl rfl ?_
        first
        | exact fin _ _ _ _ _ (qn1 h34 (lg_eq.mp h41)) (qyeq h34)
        | exact fin _ _ _ _ _ (qn0 h34 (fun q => h41 (lg_eq.mpr q))) (qyeq h34)
        | exact fin _ _ _ _ _ (qnl h34 (lg_lt.mp h67)) (qyg h34 (Int64.not_lt.mpr ((lg_cmp_ge _ _).mp h84)))
        | exact fin _ _ _ _ _ (qnl h34 (lg_lt.mp h67)) (qyl h34 (Int64.not_le.mp (fun q => h84 ((lg_cmp_ge _ _).mpr q))))
        | exact fin _ _ _ _ _ (qng h34 (fun q => h67 (lg_lt.mpr q))) (qyg h34 (Int64.not_lt.mpr ((lg_cmp_ge _ _).mp h84)))
        | exact fin _ _ _ _ _ (qng h34 (fun q => h67 (lg_lt.mpr q))) (qyl h34 (Int64.not_le.mp (fun q => h84 ((lg_cmp_ge _ _).mpr q))))
      · skip
        refine y_cj (pc' := 88) (0) xD_43 rfl rfl rfl rfl ?_
        refine y_goto (pc' := 97) xD_43 rfl rfl ?_
        refine y_loc (pc' := 99) xD_43 rfl rfl rfl rfl ?_
        first
        | exact fin _ _ _ _ _ (qn1 h34 (lg_eq.mp h41)) (qyeq h34)
        | exact fin _ _ _ _ _ (qn0 h34 (fun q => h41 (lg_eq.mpr q))) (qyeq h34)
        | exact fin _ _ _ _ _ (qnl h34 (lg_lt.mp h67)) (qyg h34 (Int64.not_lt.mpr ((lg_cmp_ge _ _).mp h84)))
        | exact fin _ _ _ _ _ (qnl h34 (lg_lt.mp h67)) (qyl h34 (Int64.not_le.mp (fun q => h84 ((lg_cmp_ge _ _).mpr q))))
        | exact fin _ _ _ _ _ (qng h34 (fun q => h67 (lg_lt.mpr q))) (qyg h34 (Int64.not_lt.mpr ((lg_cmp_ge _ _).mp h84)))
        | exact fin _ _ _ _ _ (qng h34 (fun q => h67 (lg_lt.mpr q))) (qyl h34 (Int64.not_le.mp (fun q => h84 ((lg_cmp_ge _ _).mpr q))))
  · skip
    refine y_loc (pc' := 38) xD_43 rfl rfl rfl rfl ?_
    refine y_loc (pc' := 40) xD_43 rfl rfl rfl rfl ?_
    refine y_op (pc' := 41) xD_43 rfl rfl rfl rfl ?_
    refine y_ifne (pt := 48) (pf := 44) xD_43 rfl rfl rfl (fun h41 => ?_) (fun h41 => ?_)
    · skip
      refine y_cj (pc' := 49) (0) xD_43 rfl rfl rfl rfl ?_
      refine y_loc (pc' := 51) xD_43 rfl rfl rfl rfl ?_
      refine y_loc (pc' := 52) xD_43 rfl rfl rfl rfl ?_
      refine y_loc (pc' := 54) xD_43 rfl rfl rfl rfl ?_
      refine y_op (pc' := 55) xD_43 rfl rfl rfl rfl ?_
      refine y_callS xD_43 rfl rfl rfl rfl rfl rfl rfl rfl (s_absJ) (fun v h' hq => ?_)
      obtain ⟨rfl, rfl⟩ := hq
      refine y_loc (pc' := 60) xD_43 rfl rfl rfl rfl ?_
      refine y_goto (pc' := 99) xD_43 rfl rfl ?_
      first
      | exact fin _ _ _ _ _ (qn1 h34 (lg_eq.mp h41)) (qyeq h34)
      | exact fin _ _ _ _ _ (qn0 h34 (fun q => h41 (lg_eq.mpr q))) (qyeq h34)
      | exact fin _ _ _ _ _ (qnl h34 (lg_lt.mp h67)) (qyg h34 (Int64.not_lt.mpr ((lg_cmp_ge _ _).mp h84)))
      | exact fin _ _ _ _ _ (qnl h34 (lg_lt.mp h67)) (qyl h34 (Int64.not_le.mp (fun q => h84 ((lg_cmp_ge _ _).mpr q))))
      | exact fin _ _ _ _ _ (qng h34 (fun q => h67 (lg_lt.mpr q))) (qyg h34 (Int64.not_lt.mpr ((lg_cmp_ge _ _).mp h84)))
      | exact fin _ _ _ _ _ (qng h34 (fun q => h67 (lg_lt.mpr q))) (qyl h34 (Int64.not_le.mp (fun q => h84 ((lg_cmp_ge _ _).mpr q))))
    · skip
      refine y_cj (pc' := 45) (1) xD_43 rfl rfl rfl rfl ?_
      refine y_goto (pc' := 49) xD_43 rfl rfl ?_
      refine y_loc (pc' := 51) xD_43 rfl rfl rfl rfl ?_
      refine y_loc (pc' := 52) xD_43 rfl rfl rfl rfl ?_
      refine y_loc (pc' := 54) xD_43 rfl rfl rfl rfl ?_
      refine y_op (pc' := 55) xD_43 rfl rfl rfl rfl ?_
      refine y_callS xD_43 rfl rfl rfl rfl rfl rfl rfl rfl (s_absJ) (fun v h' hq => ?_)
      obtain ⟨rfl, rfl⟩ := hq
      refine y_loc (pc' := 60) xD_43 rfl rfl rfl rfl ?_
      refine y_goto (pc' := 99) xD_43 rfl rfl ?_
      first
      | exact fin _ _ _ _ _ (qn1 h34 (lg_eq.mp h41)) (qyeq h34)
      | exact fin _ _ _ _ _ (qn0 h34 (fun q => h41 (lg_eq.mpr q))) (qyeq h34)
      | exact fin _ _ _ _ _ (qnl h34 (lg_lt.mp h67)) (qyg h34 (Int64.not_lt.mpr ((lg_cmp_ge _ _).mp h84)))
      | exact fin _ _ _ _ _ (qnl h34 (lg_lt.mp h67)) (qyl h34 (Int64.not_le.mp (fun q => h84 ((lg_cmp_ge _ _).mpr q))))
      | exact fin _ _ _ _ _ (qng h34 (fun q => h67 (lg_lt.mpr q))) (qyg h34 (Int64.not_lt.mpr ((lg_cmp_ge _ _).mp h84)))
      | exact fin _ _ _ _ _ (qng h34 (fun q => h67 (lg_lt.mpr q))) (qyl h34 (Int64.not_le.mp (fun q => h84 ((lg_cmp_ge _ _).mpr q))))
end RN
end
section
/-! The class's Runner: a line, a call. -/
theorem cdC_eq {I I' : Nat → Nat → Int32} {A : Nat} (hA : A = 4 ∨ A = 10) (h : ∀ x, x < 16 → I' x = I x) : cdC I' A = cdC I A := by
  funext p q
  unfold cdC
  rw [h _ (by omega)]
theorem bnC_eq {I I' : Nat → Nat → Int32} {A : Nat} (hA : A = 4 ∨ A = 10) (h : ∀ x, x < 16 → I' x = I x) : bnC I' A = bnC I A := by
  funext p
  unfold bnC
  rw [h _ (by omega)]
theorem xu_rowI {I : Nat → Nat → Int32} {a i : Nat} {x : Int32} : xu I a i x = xrow I a (upd (I a) i x) := by
  rw [xu_row]
  rfl
theorem nI_5 {t : Nat} (h : t < 10) : (nI t = 5 ↔ t = 5) ∧ (nI t = 6 ↔ t = 6) ∧ (nI t = 0 ↔ t = 0) ∧ (nI t ≤ 4 ↔ t ≤ 4) ∧ (nI t ≤ 6 ↔ t ≤ 6) ∧ (nI t = 8 ↔ t = 8) ∧ (nI t = 9 ↔ t = 9) ∧ (nI t = 4 ↔ t = 4) :=
  ⟨nI_eq (b := 5) (by omega) (by omega), nI_eq (b := 6) (by omega) (by omega), nI_eq (b := 0) (by omega) (by omega), nI_leI (b := 4) (by omega) (by omega), nI_leI (b := 6) (by omega) (by omega), nI_eq (b := 8) (by omega) (by omega), nI_eq (b := 9) (by omega) (by omega), nI_eq (b := 4) (by omega) (by omega)⟩
section DL
variable {S : XS} {d A : Nat} {I : Nat → Nat → Int32} {J : Nat → Nat → Int64} {R : Nat → Nat → Option Nat}
/-- Runner.doLine -/
theorem s_doLine (hR : RF R) (hA : A = 4 ∨ A = 10) {n : Nat} (hn : I A 5 = nI n) (hn2 : n ≤ 10) (i : Nat) (hi : i < n) (hV : VL (cdC I A) i) (hbr : I (A + 5) i = -1 ∨ ∃ k, k < 12 ∧ I (A + 5) i = nI k) {x : Int32} (hx : x = nI i) :
    XP S (d + 2) 41 0 (xent [.ref 20, .ref A, .int x] 6) [] (hh I J R) (rI (nI (q_line UC (cdC I A) (bnC I A) n i (I 21) (J 22)).1) (hh (xrow I 21 (q_line UC (cdC I A) (bnC I A) n i (I 21) (J 22)).2.1) (xrow J 22 (q_line UC (cdC I A) (bnC I A) n i (I 21) (J 22)).2.2) R)) := by
  have hV0 := hV
  obtain ⟨hk0, hk1, hk2, hk3, hk4, hk5⟩ := kMeth hA
  obtain ⟨hr0, hr1, hr2, hr3, hr4⟩ := rMeth hR hA
  obtain ⟨⟨t, ht, hop⟩, hV3, hVa, hVb, hVc⟩ := hV
  have hop2 : I (A + 1) i = nI t := hop
  obtain ⟨n5, n6, n0, n4, n66, -⟩ := nI_5 ht
  have hi10 : i < 10 := by omega
  have a0 : A ≠ 21 := by rcases hA with rfl | rfl <;> decide
  have a1 : A + 1 ≠ 21 := by rcases hA with rfl | rfl <;> decide
  -- the tail of a line that is no branch
  have tail : ∀ (I' : Nat → Nat → Int32) (op : Value) (q4 q5 : Option Value), (∀ y, y ≠ 21 → I' y = I y) → ¬ t = 5 → ¬ t = 6 → XP S (d + 2) 41 81 [some (.ref 20), some (.ref A), some (.int x), some op, q4, q5] [] (hh I' J R) (rI (nI (q_lead (cdC I A) n i false)) (hh I' J R)) := by
    intro I' op q4 q5 hI h5 h6
    have hcd : cdC I' A = cdC I A := cdC_eq hA (fun y hy => hI y (by omega))
    have hnb : ¬ (I' (A + 1) i = 5 ∨ I' (A + 1) i = 6) := by
      rw [hI (A + 1) a1, hop2, n5, n6]
      omega
    refine y_loc (pc' := 82) xD_41 rfl rfl rfl rfl ?_
    refine y_loc (pc' := 83) xD_41 rfl rfl rfl rfl ?_
    refine y_loc (pc' := 84) xD_41 rfl rfl rfl rfl ?_
    refine y_loc (pc' := 85) xD_41 rfl rfl rfl rfl ?_
    refine y_callV xD_41 rfl rfl rfl rfl (by first | rfl | assumption) rfl rfl rfl rfl (s_isBranch hR hA i hi10 hx) (fun v h' hq => ?_)
    obtain ⟨rfl, rfl⟩ := hq
    refine y_ifeq (pt := 100) (pf := 91) xD_41 rfl rfl rfl (fun h88 => ?_) (fun h88 => ?_)
    · skip
      refine y_ci (pc' := 101) (0) xD_41 rfl rfl rfl rfl ?_
      refine y_callV xD_41 rfl rfl rfl rfl (by first | rfl | assumption) rfl rfl rfl rfl (s_placeAfter hR hA (by rw [hI A a0]; exact hn) hn2 i hi (by rw [hcd]; exact hV0) hx) (fun v h' hq => ?_)
      obtain ⟨rfl, rfl⟩ := hq
      refine y_retI xD_41 rfl rfl ?_
      exact rI_e (by rw [hcd]; rfl)
    · skip
      refine y_loc (pc' := 92) xD_41 rfl rfl rfl rfl ?_
      refine y_loc (pc' := 93) xD_41 rfl rfl rfl rfl ?_
      refine y_loc (pc' := 94) xD_41 rfl rfl rfl rfl ?_
      exact absurd (zB_n0.mp h88) hnb
  have hia : (cdC I A i 0 ≤ 6 ∨ cdC I A i 0 = 8) → ∃ a, a < 8 ∧ I (A + 2) i = nI a ∧ (cdC I A i 1).toNatClampNeg = a := fun q => by
    obtain ⟨a, ha, ea⟩ := hVa q
    exact ⟨a, ha, ea, by rw [ea, nI_cl (by omega)]⟩
  rcases (show t = 0 ∨ (1 ≤ t ∧ t ≤ 4) ∨ (t = 5 ∨ t = 6) ∨ 7 ≤ t by omega) with h0 | h14 | h56 | h7
  · obtain ⟨a, ha, ea, ca⟩ := hia (Or.inl (by rw [hop, n66]; omega))
    have hq : q_line UC (cdC I A) (bnC I A) n i (I 21) (J 22) = (q_lead (cdC I A) n i false, upd (I 21) a (I (A + 4) i), J 22) := by
      unfold q_line
      rw [if_pos (by rw [hop, n0]; exact h0), ca]
      rfl
    rw [hq, xrow_id]
    refine y_loc (pc' := 1) xD_41 rfl rfl rfl rfl ?_
    first | refine m_getR (pc' := 4) xD_41 rfl rfl rfl rfl (hR.1 _ _ _ rfl) rfl ?_ | refine m_getR (pc' := 4) xD_41 rfl rfl (by first | rfl | assumption) rfl (by assumption) rfl ?_
    refine y_loc (pc' := 5) xD_41 rfl rfl rfl rfl ?_
    refine m_iald (pc' := 6) (i) xD_41 rfl (by first | rfl | assumption) (by first | assumption | omega) (by decide) (by first | decide | omega) (by first | rfl | assumption) rfl ?_
    refine y_loc (pc' := 7) xD_41 rfl rfl rfl rfl ?_
    refine y_loc (pc' := 8) xD_41 rfl rfl rfl rfl ?_
    refine y_ifne (pt := 31) (pf := 11) xD_41 rfl rfl rfl (fun h8 => ?_) (fun h8 => ?_)
    · exact absurd h0 (fun q => h8 (by rw [hop2, n0]; exact q))
    · skip
      refine y_loc (pc' := 12) xD_41 rfl rfl rfl rfl ?_
      first | refine m_getR (pc' := 15) xD_41 rfl rfl rfl rfl (hR.1 _ _ _ rfl) rfl ?_ | refine m_getR (pc' := 15) xD_41 rfl rfl (by first | rfl | assumption) rfl (by assumption) rfl ?_
      refine y_loc (pc' := 16) xD_41 rfl rfl rfl rfl ?_
      first | refine m_getR (pc' := 19) xD_41 rfl rfl rfl rfl (hR.1 _ _ _ rfl) rfl ?_ | refine m_getR (pc' := 19) xD_41 rfl rfl (by first | rfl | assumption) rfl (by assumption) rfl ?_
      refine y_loc (pc' := 20) xD_41 rfl rfl rfl rfl ?_
      refine m_iald (pc' := 21) (i) xD_41 rfl (by first | rfl | assumption) (by first | assumption | omega) (by decide) (by first | decide | omega) (by first | rfl | assumption) rfl ?_
      refine y_loc (pc' := 22) xD_41 rfl rfl rfl rfl ?_
      first | refine m_getR (pc' := 25) xD_41 rfl rfl rfl rfl (hR.1 _ _ _ rfl) rfl ?_ | refine m_getR (pc' := 25) xD_41 rfl rfl (by first | rfl | assumption) rfl (by assumption) rfl ?_
      refine y_loc (pc' := 26) xD_41 rfl rfl rfl rfl ?_
      refine m_iald (pc' := 27) (i) xD_41 rfl (by first | rfl | assumption) (by first | assumption | omega) (by decide) (by first | decide | omega) (by first | rfl | assumption) rfl ?_
      skip
      refine m_iast (pc' := 28) (a) xD_41 rfl (by first | rfl | assumption) (by first | assumption | omega) (by decide) (by first | rfl | assumption) rfl ?_
      refine y_goto (pc' := 81) xD_41 rfl rfl ?_
      rw [xu_rowI]
      exact tail _ _ _ _ (fun y hy => xrow_ne hy) (by omega) (by omega)
  · obtain ⟨a, ha, ea, ca⟩ := hia (Or.inl (by rw [hop, n66]; omega))
    have h1 : 1 ≤ cdC I A i 0 := by rw [hop]; exact (nI_leI (a := 1) (by omega) (by omega)).mpr h14.1
    obtain ⟨b, hb, eb⟩ := hVb ⟨h1, by rw [hop, n66]; omega⟩
    obtain ⟨c, hc, ec⟩ := hVc ⟨h1, by rw [hop, n4]; omega⟩
    have eb2 : I (A + 3) i = nI b := eb
    have ec2 : I (A + 4) i = nI c := ec
    have hq : q_line UC (cdC I A) (bnC I A) n i (I 21) (J 22) = (q_lead (cdC I A) n i false, upd (I 21) a (q_calc (I (A + 1) i) (I 21 b) (I 21 c)), J 22) := by
      unfold q_line
      rw [if_neg (by rw [hop, n0]; omega), if_pos (by rw [hop, n4]; omega), ca, eb, ec, nI_cl (by omega), nI_cl (by omega)]
      rfl
    rw [hq, xrow_id]
    refine y_loc (pc' := 1) xD_41 rfl rfl rfl rfl ?_
    first | refine m_getR (pc' := 4) xD_41 rfl rfl rfl rfl (hR.1 _ _ _ rfl) rfl ?_ | refine m_getR (pc' := 4) xD_41 rfl rfl (by first | rfl | assumption) rfl (by assumption) rfl ?_
    refine y_loc (pc' := 5) xD_41 rfl rfl rfl rfl ?_
    refine m_iald (pc' := 6) (i) xD_41 rfl (by first | rfl | assumption) (by first | assumption | omega) (by decide) (by first | decide | omega) (by first | rfl | assumption) rfl ?_
    refine y_loc (pc' := 7) xD_41 rfl rfl rfl rfl ?_
    refine y_loc (pc' := 8) xD_41 rfl rfl rfl rfl ?_
    refine y_ifne (pt := 31) (pf := 11) xD_41 rfl rfl rfl (fun h8 => ?_) (fun h8 => ?_)
    · skip
      refine y_loc (pc' := 32) xD_41 rfl rfl rfl rfl ?_
      refine y_ci (pc' := 33) (4) xD_41 rfl rfl rfl rfl ?_
      refine y_icgt (pt := 81) (pf := 36) xD_41 rfl rfl rfl (fun h33 => ?_) (fun h33 => ?_)
      · exact absurd h33 (Int32.not_lt.mpr (by rw [hop2]; exact n4.mpr h14.2))
      · skip
        refine y_loc (pc' := 37) xD_41 rfl rfl rfl rfl ?_
        first | refine m_getR (pc' := 40) xD_41 rfl rfl rfl rfl (hR.1 _ _ _ rfl) rfl ?_ | refine m_getR (pc' := 40) xD_41 rfl rfl (by first | rfl | assumption) rfl (by assumption) rfl ?_
        refine y_loc (pc' := 41) xD_41 rfl rfl rfl rfl ?_
        first | refine m_getR (pc' := 44) xD_41 rfl rfl rfl rfl (hR.1 _ _ _ rfl) rfl ?_ | refine m_getR (pc' := 44) xD_41 rfl rfl (by first | rfl | assumption) rfl (by assumption) rfl ?_
        refine y_loc (pc' := 45) xD_41 rfl rfl rfl rfl ?_
        refine m_iald (pc' := 46) (i) xD_41 rfl (by first | rfl | assumption) (by first | assumption | omega) (by decide) (by first | decide | omega) (by first | rfl | assumption) rfl ?_
        skip
        refine m_iald (pc' := 47) (b) xD_41 rfl (by first | rfl | assumption) (by first | assumption | omega) (by decide) (by first | decide | omega) (by first | rfl | assumption) rfl ?_
        refine y_loc (pc' := 49) xD_41 rfl rfl rfl rfl ?_
        refine y_loc (pc' := 50) xD_41 rfl rfl rfl rfl ?_
        first | refine m_getR (pc' := 53) xD_41 rfl rfl rfl rfl (hR.1 _ _ _ rfl) rfl ?_ | refine m_getR (pc' := 53) xD_41 rfl rfl (by first | rfl | assumption) rfl (by assumption) rfl ?_
        refine y_loc (pc' := 54) xD_41 rfl rfl rfl rfl ?_
        first | refine m_getR (pc' := 57) xD_41 rfl rfl rfl rfl (hR.1 _ _ _ rfl) rfl ?_ | refine m_getR (pc' := 57) xD_41 rfl rfl (by first | rfl | assumption) rfl (by assumption) rfl ?_
        refine y_loc (pc' := 58) xD_41 rfl rfl rfl rfl ?_
        refine m_iald (pc' := 59) (i) xD_41 rfl (by first | rfl | assumption) (by first | assumption | omega) (by decide) (by first | decide | omega) (by first | rfl | assumption) rfl ?_
        skip
        refine m_iald (pc' := 60) (c) xD_41 rfl (by first | rfl | assumption) (by first | assumption | omega) (by decide) (by first | decide | omega) (by first | rfl | assumption) rfl ?_
        refine y_loc (pc' := 62) xD_41 rfl rfl rfl rfl ?_
        refine y_loc (pc' := 63) xD_41 rfl rfl rfl rfl ?_
        first | refine m_getR (pc' := 66) xD_41 rfl rfl rfl rfl (hR.1 _ _ _ rfl) rfl ?_ | refine m_getR (pc' := 66) xD_41 rfl rfl (by first | rfl | assumption) rfl (by assumption) rfl ?_
        refine y_loc (pc' := 67) xD_41 rfl rfl rfl rfl ?_
        first | refine m_getR (pc' := 70) xD_41 rfl rfl rfl rfl (hR.1 _ _ _ rfl) rfl ?_ | refine m_getR (pc' := 70) xD_41 rfl rfl (by first | rfl | assumption) rfl (by assumption) rfl ?_
        refine y_loc (pc' := 71) xD_41 rfl rfl rfl rfl ?_
        refine m_iald (pc' := 72) (i) xD_41 rfl (by first | rfl | assumption) (by first | assumption | omega) (by decide) (by first | decide | omega) (by first | rfl | assumption) rfl ?_
        refine y_loc (pc' := 73) xD_41 rfl rfl rfl rfl ?_
        refine y_loc (pc' := 75) xD_41 rfl rfl rfl rfl ?_
        refine y_loc (pc' := 77) xD_41 rfl rfl rfl rfl ?_
        refine y_callS xD_41 rfl rfl rfl rfl rfl rfl rfl rfl (s_calculate t (by omega) (by omega) hop2) (fun v h' hq => ?_)
        obtain ⟨rfl, rfl⟩ := hq
        skip
        refine m_iast (pc' := 81) (a) xD_41 rfl (by first | rfl | assumption) (by first | assumption | omega) (by decide) (by first | rfl | assumption) rfl ?_
        rw [xu_rowI]
        exact tail _ _ _ _ (fun y hy => xrow_ne hy) (by omega) (by omega)
    · exact absurd (show t = 0 from n0.mp (by rw [← hop2]; exact h8)) (by omega)
  · obtain ⟨a, ha, ea, ca⟩ := hia (Or.inl (by rw [hop, n66]; omega))
    have h1 : 1 ≤ cdC I A i 0 := by rw [hop]; exact (nI_leI (a := 1) (by omega) (by omega)).mpr (by omega)
    obtain ⟨b, hb, eb⟩ := hVb ⟨h1, by rw [hop, n66]; omega⟩
    have eb2 : I (A + 3) i = nI b := eb
    have hq : q_line UC (cdC I A) (bnC I A) n i (I 21) (J 22) = (q_lead (cdC I A) n i (decide (q_yes (decide (cdC I A i 0 = 5)) (I 21 a).toInt64 (I 21 b).toInt64 = 0)), I 21, q_u UC (bnC I A i) (q_no (decide (cdC I A i 0 = 5)) (I 21 a).toInt64 (I 21 b).toInt64) (q_yes (decide (cdC I A i 0 = 5)) (I 21 a).toInt64 (I 21 b).toInt64) (J 22)) := by
      unfold q_line
      rw [if_neg (by rw [hop, n0]; omega), if_neg (by rw [hop, n4]; omega), if_pos (by rw [hop, n66]; omega), ca, eb, nI_cl (by omega)]
    rw [hq, xrow_id]
    have hisb : I (A + 1) i = 5 ∨ I (A + 1) i = 6 := by rw [hop2, n5, n6]; exact h56
    refine y_loc (pc' := 1) xD_41 rfl rfl rfl rfl ?_
    first | refine m_getR (pc' := 4) xD_41 rfl rfl rfl rfl (hR.1 _ _ _ rfl) rfl ?_ | refine m_getR (pc' := 4) xD_41 rfl rfl (by first | rfl | assumption) rfl (by assumption) rfl ?_
    refine y_loc (pc' := 5) xD_41 rfl rfl rfl rfl ?_
    refine m_iald (pc' := 6) (i) xD_41 rfl (by first | rfl | assumption) (by first | assumption | omega) (by decide) (by first | decide | omega) (by first | rfl | assumption) rfl ?_
    refine y_loc (pc' := 7) xD_41 rfl rfl rfl rfl ?_
    refine y_loc (pc' := 8) xD_41 rfl rfl rfl rfl ?_
    refine y_ifne (pt := 31) (pf := 11) xD_41 rfl rfl rfl (fun h8 => ?_) (fun h8 => ?_)
    · skip
      refine y_loc (pc' := 32) xD_41 rfl rfl rfl rfl ?_
      refine y_ci (pc' := 33) (4) xD_41 rfl rfl rfl rfl ?_
      refine y_icgt (pt := 81) (pf := 36) xD_41 rfl rfl rfl (fun h33 => ?_) (fun h33 => ?_)
      · skip
        refine y_loc (pc' := 82) xD_41 rfl rfl rfl rfl ?_
        refine y_loc (pc' := 83) xD_41 rfl rfl rfl rfl ?_
        refine y_loc (pc' := 84) xD_41 rfl rfl rfl rfl ?_
        refine y_loc (pc' := 85) xD_41 rfl rfl rfl rfl ?_
        refine y_callV xD_41 rfl rfl rfl rfl (by first | rfl | assumption) rfl rfl rfl rfl (s_isBranch hR hA i hi10 hx) (fun v h' hq => ?_)
        obtain ⟨rfl, rfl⟩ := hq
        refine y_ifeq (pt := 100) (pf := 91) xD_41 rfl rfl rfl (fun h88 => ?_) (fun h88 => ?_)
        · skip
          exact absurd hisb (zB_0.mp h88)
        · skip
          refine y_loc (pc' := 92) xD_41 rfl rfl rfl rfl ?_
          refine y_loc (pc' := 93) xD_41 rfl rfl rfl rfl ?_
          refine y_loc (pc' := 94) xD_41 rfl rfl rfl rfl ?_
          refine y_callV xD_41 rfl rfl rfl rfl (by first | rfl | assumption) rfl rfl rfl rfl (s_decide hR hA i hi10 h56 hop ha hb ea eb hbr hx) (fun v h' hq => ?_)
          obtain ⟨rfl, rfl⟩ := hq
          refine y_goto (pc' := 101) xD_41 rfl rfl ?_
          refine y_callV xD_41 rfl rfl rfl rfl (by first | rfl | assumption) rfl rfl rfl rfl (s_placeAfter hR hA hn hn2 i hi hV0 hx) (fun v h' hq => ?_)
          obtain ⟨rfl, rfl⟩ := hq
          refine y_retI xD_41 rfl rfl ?_
          refine rI_e ?_
          congr 2
          rw [Bool.eq_iff_iff, decide_eq_true_eq, decide_eq_true_eq]
          exact zB_1
      · exact absurd (Int32.not_lt.mp h33) (by rw [hop2]; exact fun q => absurd (n4.mp q) (by omega))
    · exact absurd (show t = 0 from n0.mp (by rw [← hop2]; exact h8)) (by omega)
  · have hq : q_line UC (cdC I A) (bnC I A) n i (I 21) (J 22) = (q_lead (cdC I A) n i false, I 21, J 22) := by
      unfold q_line
      rw [if_neg (by rw [hop, n0]; omega), if_neg (by rw [hop, n4]; omega), if_neg (by rw [hop, n66]; omega)]
    rw [hq, xrow_id, xrow_id]
    refine y_loc (pc' := 1) xD_41 rfl rfl rfl rfl ?_
    first | refine m_getR (pc' := 4) xD_41 rfl rfl rfl rfl (hR.1 _ _ _ rfl) rfl ?_ | refine m_getR (pc' := 4) xD_41 rfl rfl (by first | rfl | assumption) rfl (by assumption) rfl ?_
    refine y_loc (pc' := 5) xD_41 rfl rfl rfl rfl ?_
    refine m_iald (pc' := 6) (i) xD_41 rfl (by first | rfl | assumption) (by first | assumption | omega) (by decide) (by first | decide | omega) (by first | rfl | assumption) rfl ?_
    refine y_loc (pc' := 7) xD_41 rfl rfl rfl rfl ?_
    refine y_loc (pc' := 8) xD_41 rfl rfl rfl rfl ?_
    refine y_ifne (pt := 31) (pf := 11) xD_41 rfl rfl rfl (fun h8 => ?_) (fun h8 => ?_)
    · skip
      refine y_loc (pc' := 32) xD_41 rfl rfl rfl rfl ?_
      refine y_ci (pc' := 33) (4) xD_41 rfl rfl rfl rfl ?_
      refine y_icgt (pt := 81) (pf := 36) xD_41 rfl rfl rfl (fun h33 => ?_) (fun h33 => ?_)
      · skip
        exact tail _ _ _ _ (fun y hy => rfl) (by omega) (by omega)
      · exact absurd (Int32.not_lt.mp h33) (by rw [hop2]; exact fun q => absurd (n4.mp q) (by omega))
    · exact absurd (show t = 0 from n0.mp (by rw [← hop2]; exact h8)) (by omega)
/-- Runner.callMethod, from its loop on -/
theorem s_call_loop (hR : RF R) (hA : A = 4 ∨ A = 10) {n : Nat} (hn : I A 5 = nI n) (hn2 : n ≤ 10) (hV : VC (cdC I A) n) (hbr : ∀ p, p < n → I (A + 5) p = -1 ∨ ∃ k, k < 12 ∧ I (A + 5) p = nI k) : ∀ (f p : Nat) (v : Nat → Int32) (N : Nat → Int64) (q4 : Option Value), f ≤ 40 → p ≤ n →
    XP S (d + 3) 40 4 [some (.ref 20), some (.ref A), some (.int (nI p)), some (.int (nI (40 - f))), q4] [] (hh (xrow I 21 v) (xrow J 22 N) R) (rJ (q_call UC (cdC I A) (bnC I A) n f p v N).1 (hh (xrow I 21 (q_call UC (cdC I A) (bnC I A) n f p v N).2.1) (xrow J 22 (q_call UC (cdC I A) (bnC I A) n f p v N).2.2) R)) := by
  obtain ⟨hk0, hk1, hk2, hk3, hk4, hk5⟩ := kMeth hA
  obtain ⟨hr0, hr1, hr2, hr3, hr4⟩ := rMeth hR hA
  have a0 : A ≠ 21 := by rcases hA with rfl | rfl <;> decide
  have a1 : A + 1 ≠ 21 := by rcases hA with rfl | rfl <;> decide
  have a2 : A + 2 ≠ 21 := by rcases hA with rfl | rfl <;> decide
  have a4 : A + 4 ≠ 21 := by rcases hA with rfl | rfl <;> decide
  have a5 : A + 5 ≠ 21 := by rcases hA with rfl | rfl <;> decide
  intro f
  induction f with
  | zero =>
    intro p v N q4 hf hp
    refine y_loc (pc' := 5) xD_40 rfl rfl rfl rfl ?_
    refine y_ci (pc' := 7) (40) xD_40 rfl rfl rfl rfl ?_
    refine y_icge (pt := 94) (pf := 10) xD_40 rfl rfl rfl (fun h7 => ?_) (fun h7 => ?_)
    · skip
      refine y_loc (pc' := 95) xD_40 rfl rfl rfl rfl ?_
      refine y_loc (pc' := 96) xD_40 rfl rfl rfl rfl ?_
      refine m_get (pc' := 99) xD_40 rfl rfl (by first | rfl | assumption) rfl rfl ?_
      refine y_icge (pt := 108) (pf := 102) xD_40 rfl rfl rfl (fun h99 => ?_) (fun h99 => ?_)
      · skip
        refine y_cj (pc' := 109) (0) xD_40 rfl rfl rfl rfl ?_
        refine y_retJ xD_40 rfl rfl ?_
        rw [xrow_ne a0, hn] at h99
        first | (rw [q_call_end (Nat.not_lt.mpr ((nI_leI (by omega) (by omega)).mp h99))]; exact rJ_e rfl) | (rw [q_call_0 (Nat.lt_of_not_le (fun q => h99 ((nI_leI (by omega) (by omega)).mpr q)))]; exact rJ_e rfl)
      · skip
        refine y_ldc (pc' := 105) xD_40 rfl rfl rfl rfl ?_
        refine y_goto (pc' := 109) xD_40 rfl rfl ?_
        refine y_retJ xD_40 rfl rfl ?_
        rw [xrow_ne a0, hn] at h99
        first | (rw [q_call_end (Nat.not_lt.mpr ((nI_leI (by omega) (by omega)).mp h99))]; exact rJ_e rfl) | (rw [q_call_0 (Nat.lt_of_not_le (fun q => h99 ((nI_leI (by omega) (by omega)).mpr q)))]; exact rJ_e rfl)
    · exact absurd (show (40 : Int32) ≤ nI (40 - 0) from by decide) h7
  | succ f ih =>
    intro p v N q4 hf hp
    have hcd : cdC (xrow I 21 v) A = cdC I A := cdC_eq hA (fun y hy => xrow_ne (by omega))
    have hbn : bnC (xrow I 21 v) A = bnC I A := bnC_eq hA (fun y hy => xrow_ne (by omega))
    have e1 : nI (40 - (f + 1)) + 1 = nI (40 - f) := by rw [nI_1]; congr 1; omega
    refine y_loc (pc' := 5) xD_40 rfl rfl rfl rfl ?_
    refine y_ci (pc' := 7) (40) xD_40 rfl rfl rfl rfl ?_
    refine y_icge (pt := 94) (pf := 10) xD_40 rfl rfl rfl (fun h7 => ?_) (fun h7 => ?_)
    · exact absurd h7 (nI_ge (b := 40) (by omega) (by omega))
    · skip
      refine y_loc (pc' := 11) xD_40 rfl rfl rfl rfl ?_
      refine y_loc (pc' := 12) xD_40 rfl rfl rfl rfl ?_
      refine m_get (pc' := 15) xD_40 rfl rfl (by first | rfl | assumption) rfl rfl ?_
      refine y_icge (pt := 94) (pf := 18) xD_40 rfl rfl rfl (fun h15 => ?_) (fun h15 => ?_)
      · skip
        have h15a : ¬ p < n := by
          rw [xrow_ne a0, hn] at h15
          exact Nat.not_lt.mpr ((nI_leI (by omega) (by omega)).mp h15)
        rw [q_call_end h15a]
        refine y_loc (pc' := 95) xD_40 rfl rfl rfl rfl ?_
        refine y_loc (pc' := 96) xD_40 rfl rfl rfl rfl ?_
        refine m_get (pc' := 99) xD_40 rfl rfl (by first | rfl | assumption) rfl rfl ?_
        refine y_icge (pt := 108) (pf := 102) xD_40 rfl rfl rfl (fun h99 => ?_) (fun h99 => ?_)
        · skip
          refine y_cj (pc' := 109) (0) xD_40 rfl rfl rfl rfl ?_
          refine y_retJ xD_40 rfl rfl ?_
          exact rJ_e rfl
        · skip
          exact absurd h15 h99
      · skip
        have hpn : p < n := by
          rw [xrow_ne a0, hn] at h15
          exact Nat.lt_of_not_le (fun q => h15 ((nI_leI (by omega) (by omega)).mpr q))
        have hp10 : p < 10 := by omega
        obtain ⟨⟨t, ht, hop⟩, hV3, hVa, hVb, hVc⟩ := hV p hpn
        have hop2 : xrow I 21 v (A + 1) p = cdC I A p 0 := by rw [xrow_ne a1]; rfl
        have next : ∀ (op : Value), ¬ cdC I A p 0 = 8 → ¬ cdC I A p 0 = 9 → ¬ (cdC I A p 0 = 4 ∧ v (cdC I A p 3).toNatClampNeg = 0) → XP S (d + 3) 40 81 [some (.ref 20), some (.ref A), some (.int (nI p)), some (.int (nI (40 - (f + 1)))), some op] [] (hh (xrow I 21 v) (xrow J 22 N) R) (rJ (q_call UC (cdC I A) (bnC I A) n (f + 1) p v N).1 (hh (xrow I 21 (q_call UC (cdC I A) (bnC I A) n (f + 1) p v N).2.1) (xrow J 22 (q_call UC (cdC I A) (bnC I A) n (f + 1) p v N).2.2) R)) := by
          intro op h8 h9 h4
          rw [q_call_n hpn h8 h9 h4]
          refine y_loc (pc' := 82) xD_40 rfl rfl rfl rfl ?_
          refine y_loc (pc' := 83) xD_40 rfl rfl rfl rfl ?_
          refine y_loc (pc' := 84) xD_40 rfl rfl rfl rfl ?_
          refine y_callV xD_40 rfl rfl rfl rfl (by first | rfl | assumption) rfl rfl rfl rfl (s_doLine (n := n) hR hA (by rw [xrow_ne a0]; exact hn) hn2 p hpn (by rw [hcd]; exact hV p hpn) (by rw [xrow_ne a5]; exact hbr p hpn) rfl) (fun v h' hq => ?_)
          obtain ⟨rfl, rfl⟩ := hq
          rw [hcd, hbn, xrow_at, xrow_at, xrow_row, xrow_row]
          refine y_loc (pc' := 88) xD_40 rfl rfl rfl rfl ?_
          refine y_inc (pc' := 91) (nI (40 - f)) xD_40 rfl rfl rfl e1 rfl rfl ?_
          refine y_goto (pc' := 4) xD_40 rfl rfl ?_
          exact ih _ _ _ _ (by omega) q_line_le
        refine y_loc (pc' := 19) xD_40 rfl rfl rfl rfl ?_
        first | refine m_getR (pc' := 22) xD_40 rfl rfl rfl rfl (hR.1 _ _ _ rfl) rfl ?_ | refine m_getR (pc' := 22) xD_40 rfl rfl (by first | rfl | assumption) rfl (by assumption) rfl ?_
        refine y_loc (pc' := 23) xD_40 rfl rfl rfl rfl ?_
        refine m_iald (pc' := 24) (p) xD_40 rfl (by first | rfl | assumption) (by first | assumption | omega) (by decide) (by first | decide | omega) (by first | rfl | assumption) rfl ?_
        refine y_loc (pc' := 26) xD_40 rfl rfl rfl rfl ?_
        refine y_loc (pc' := 28) xD_40 rfl rfl rfl rfl ?_
        refine y_ci (pc' := 30) (8) xD_40 rfl rfl rfl rfl ?_
        refine y_icne (pt := 46) (pf := 33) xD_40 rfl rfl rfl (fun h30 => ?_) (fun h30 => ?_)
        · skip
          refine y_loc (pc' := 48) xD_40 rfl rfl rfl rfl ?_
          refine y_ci (pc' := 50) (9) xD_40 rfl rfl rfl rfl ?_
          refine y_icne (pt := 57) (pf := 53) xD_40 rfl rfl rfl (fun h50 => ?_) (fun h50 => ?_)
          · skip
            refine y_loc (pc' := 59) xD_40 rfl rfl rfl rfl ?_
            refine y_ci (pc' := 60) (4) xD_40 rfl rfl rfl rfl ?_
            refine y_icne (pt := 81) (pf := 63) xD_40 rfl rfl rfl (fun h60 => ?_) (fun h60 => ?_)
            · skip
              first
              | exact next _ (fun q => h30 (hop2.trans q)) (fun q => h50 (hop2.trans q)) (fun q => h60 (hop2.trans q.1))
              | exact next _ (fun q => h30 (hop2.trans q)) (fun q => h50 (hop2.trans q)) (fun q => h74 (by rw [xrow_at]; have := q.2; rw [ec, nI_cl (by omega)] at this; exact this))
            · skip
              refine y_loc (pc' := 64) xD_40 rfl rfl rfl rfl ?_
              first | refine m_getR (pc' := 67) xD_40 rfl rfl rfl rfl (hR.1 _ _ _ rfl) rfl ?_ | refine m_getR (pc' := 67) xD_40 rfl rfl (by first | rfl | assumption) rfl (by assumption) rfl ?_
              refine y_loc (pc' := 68) xD_40 rfl rfl rfl rfl ?_
              first | refine m_getR (pc' := 71) xD_40 rfl rfl rfl rfl (hR.1 _ _ _ rfl) rfl ?_ | refine m_getR (pc' := 71) xD_40 rfl rfl (by first | rfl | assumption) rfl (by assumption) rfl ?_
              refine y_loc (pc' := 72) xD_40 rfl rfl rfl rfl ?_
              refine m_iald (pc' := 73) (p) xD_40 rfl (by first | rfl | assumption) (by first | assumption | omega) (by decide) (by first | decide | omega) (by first | rfl | assumption) rfl ?_
              obtain ⟨c, hc, ec⟩ := hVc (by rw [← hop2, h60]; exact ⟨by decide, by decide⟩)
              refine m_iald (pc' := 74) (c) xD_40 rfl (by first | rfl | assumption) (by first | assumption | omega) (by decide) (by first | decide | omega) (by rw [xrow_ne a4]; exact ec) rfl ?_
              refine y_ifne (pt := 81) (pf := 77) xD_40 rfl rfl rfl (fun h74 => ?_) (fun h74 => ?_)
              · skip
                first
                | exact next _ (fun q => h30 (hop2.trans q)) (fun q => h50 (hop2.trans q)) (fun q => h60 (hop2.trans q.1))
                | exact next _ (fun q => h30 (hop2.trans q)) (fun q => h50 (hop2.trans q)) (fun q => h74 (by rw [xrow_at]; have := q.2; rw [ec, nI_cl (by omega)] at this; exact this))
              · skip
                refine y_ldc (pc' := 80) xD_40 rfl rfl rfl rfl ?_
                rw [q_call_4 hpn (hop2.symm.trans h60) (by rw [ec, nI_cl (by omega)]; rw [xrow_at] at h74; exact h74)]
                refine y_retJ xD_40 rfl rfl ?_
                exact rJ_e rfl
          · skip
            refine y_ldc (pc' := 56) xD_40 rfl rfl rfl rfl ?_
            rw [q_call_9 hpn (hop2.symm.trans h50)]
            refine y_retJ xD_40 rfl rfl ?_
            exact rJ_e rfl
        · skip
          refine y_loc (pc' := 34) xD_40 rfl rfl rfl rfl ?_
          first | refine m_getR (pc' := 37) xD_40 rfl rfl rfl rfl (hR.1 _ _ _ rfl) rfl ?_ | refine m_getR (pc' := 37) xD_40 rfl rfl (by first | rfl | assumption) rfl (by assumption) rfl ?_
          refine y_loc (pc' := 38) xD_40 rfl rfl rfl rfl ?_
          first | refine m_getR (pc' := 41) xD_40 rfl rfl rfl rfl (hR.1 _ _ _ rfl) rfl ?_ | refine m_getR (pc' := 41) xD_40 rfl rfl (by first | rfl | assumption) rfl (by assumption) rfl ?_
          refine y_loc (pc' := 42) xD_40 rfl rfl rfl rfl ?_
          refine m_iald (pc' := 43) (p) xD_40 rfl (by first | rfl | assumption) (by first | assumption | omega) (by decide) (by first | decide | omega) (by first | rfl | assumption) rfl ?_
          obtain ⟨a, ha, ea⟩ := hVa (Or.inr (hop2.symm.trans h30))
          refine m_iald (pc' := 44) (a) xD_40 rfl (by first | rfl | assumption) (by first | assumption | omega) (by decide) (by first | decide | omega) (by rw [xrow_ne a2]; exact ea) rfl ?_
          refine y_op (pc' := 45) xD_40 rfl rfl rfl rfl ?_
          rw [q_call_8 hpn (hop2.symm.trans h30), ea, nI_cl (by omega), xrow_at]
          refine y_retJ xD_40 rfl rfl ?_
          exact rJ_e rfl
/-- Runner.callMethod -/
theorem s_callMethod (hR : RF R) (hA : A = 4 ∨ A = 10) {n : Nat} (hn : I A 5 = nI n) (hn2 : n ≤ 10) (hV : VC (cdC I A) n) (hbr : ∀ p, p < n → I (A + 5) p = -1 ∨ ∃ k, k < 12 ∧ I (A + 5) p = nI k) : XP S (d + 3) 40 0 (xent [.ref 20, .ref A] 5) [] (hh I J R) (rJ (q_call UC (cdC I A) (bnC I A) n 40 0 (I 21) (J 22)).1 (hh (xrow I 21 (q_call UC (cdC I A) (bnC I A) n 40 0 (I 21) (J 22)).2.1) (xrow J 22 (q_call UC (cdC I A) (bnC I A) n 40 0 (I 21) (J 22)).2.2) R)) := by
  have key := s_call_loop (S := S) (d := d) (J := J) hR hA hn hn2 hV hbr 40 0 (I 21) (J 22) none (Nat.le_refl _) (Nat.zero_le _)
  rw [xrow_id, xrow_id] at key
  refine y_ci (pc' := 1) (0) xD_40 rfl rfl rfl rfl ?_
  refine y_loc (pc' := 2) xD_40 rfl rfl rfl rfl ?_
  refine y_ci (pc' := 3) (0) xD_40 rfl rfl rfl rfl ?_
  refine y_loc (pc' := 4) xD_40 rfl rfl rfl rfl ?_
  exact key
end DL
end
section
/-! The model: a branch, a line, a call. -/
def q_find (I : Nat → Nat → Int32) (m p : Nat) : Nat → Nat → Option Nat
  | 0, _ => none
  | f + 1, k => if I 267 k = nI m ∧ I 268 k = nI p then some k else q_find I m p f (k + 1)
def bnM (I : Nat → Nat → Int32) (m nb : Nat) : Nat → Option Nat := fun p => q_find I m p nb 0
theorem UM_row {J : Nat → Nat → Int64} {k : Nat} {no yes n1 n2 : Int64} (h1 : n1 = if J 273 (2 * k) < 0 ∨ no < J 273 (2 * k) then no else J 273 (2 * k)) (h2 : n2 = if J 273 (2 * k + 1) < 0 ∨ yes < J 273 (2 * k + 1) then yes else J 273 (2 * k + 1)) : xu (xu J 273 (2 * k) n1) 273 (2 * k + 1) n2 = xrow J 273 (UM k no yes (J 273)) := by
  subst h1; subst h2
  rw [xu_row, xu_row, xrow_row]
  congr 1
section MN
variable {S : XS} {d m : Nat} {I : Nat → Nat → Int32} {J : Nat → Nat → Int64} {R : Nat → Nat → Option Nat}
theorem s_note_body (hR : RF R) (hm : m < 2) (p : Nat) (hp : p < 10) (a b k : Nat) (ha : a < 8) (hb : b < 8) (hk : k < 12) {nb : Nat} (hnb : I 261 10 = nI nb) (hnb2 : nb ≤ 12) (hkn : k < nb) {xm xp xa xb : Int32} (e1 : xm = nI m) (e2 : xp = nI p) (e3 : xa = nI a) (e4 : xb = nI b) :
    XP S (d + 1) 129 40 [some (.ref 261), some (.int xm), some (.int xp), some (.int xa), some (.int xb), some (.int (nI k)), none, none, none, none, none, none, none, none, none] [] (hh I J R) (rV (hh I (xrow J 273 (UM k (q_no (decide (cdM I m p 0 = 5)) (I 271 a).toInt64 (I 271 b).toInt64) (q_yes (decide (cdM I m p 0 = 5)) (I 271 a).toInt64 (I 271 b).toInt64) (J 273))) R)) := by
  have e5 : (2 : Int32) * nI k = nI (2 * k) := pk_mul 2 k
  have e6 : (2 : Int32) * nI k + 1 = nI (2 * k + 1) := by rw [e5]; exact nI_1 _
  have st2 : ∀ (no yes n1 w u : Int64) (z : Int32), n1 = (if J 273 (2 * k) < 0 ∨ no < J 273 (2 * k) then no else J 273 (2 * k)) → XP S (d + 1) 129 229 [some (.ref 261), some (.int xm), some (.int xp), some (.int xa), some (.int xb), some (.int (nI k)), some (.long w), none, some (.long u), none, some (.int z), some (.long yes), none, some (.long no), none] [] (hh I (xu J 273 (2 * k) n1) R) (rV (hh I (xrow J 273 (UM k no yes (J 273))) R)) := by
    intro no yes n1 w u z hn1
    have hj : xu J 273 (2 * k) n1 273 (2 * k + 1) = J 273 (2 * k + 1) := by rw [xu_at, if_neg (by omega)]
    refine y_loc (pc' := 230) xD_129 rfl rfl rfl rfl ?_
    first | refine m_getR (pc' := 233) xD_129 rfl rfl rfl rfl (hR.1 _ _ _ rfl) rfl ?_ | refine m_getR (pc' := 233) xD_129 rfl rfl (by first | rfl | assumption) rfl (by assumption) rfl ?_
    refine y_ci (pc' := 234) (2) xD_129 rfl rfl rfl rfl ?_
    refine y_loc (pc' := 236) xD_129 rfl rfl rfl rfl ?_
    refine y_op (pc' := 237) xD_129 rfl rfl rfl rfl ?_
    refine y_ci (pc' := 238) (1) xD_129 rfl rfl rfl rfl ?_
    refine y_op (pc' := 239) xD_129 rfl rfl rfl rfl ?_
    refine y_loc (pc' := 240) xD_129 rfl rfl rfl rfl ?_
    first | refine m_getR (pc' := 243) xD_129 rfl rfl rfl rfl (hR.1 _ _ _ rfl) rfl ?_ | refine m_getR (pc' := 243) xD_129 rfl rfl (by first | rfl | assumption) rfl (by assumption) rfl ?_
    refine y_ci (pc' := 244) (2) xD_129 rfl rfl rfl rfl ?_
    refine y_loc (pc' := 246) xD_129 rfl rfl rfl rfl ?_
    refine y_op (pc' := 247) xD_129 rfl rfl rfl rfl ?_
    refine y_ci (pc' := 248) (1) xD_129 rfl rfl rfl rfl ?_
    refine y_op (pc' := 249) xD_129 rfl rfl rfl rfl ?_
    refine m_jald (pc' := 250) (2 * k + 1) xD_129 rfl (by first | rfl | assumption) (by first | assumption | omega) (by decide) (by first | rfl | assumption) rfl ?_
    refine y_cj (pc' := 251) (0) xD_129 rfl rfl rfl rfl ?_
    refine y_op (pc' := 252) xD_129 rfl rfl rfl rfl ?_
    refine y_iflt (pt := 272) (pf := 255) xD_129 rfl rfl rfl (fun h252 => ?_) (fun h252 => ?_)
    · skip
      refine y_loc (pc' := 274) xD_129 rfl rfl rfl rfl ?_
      refine y_goto (pc' := 288) xD_129 rfl rfl ?_
      refine m_jast (pc' := 289) (2 * k + 1) xD_129 rfl (by first | rfl | assumption) (by first | assumption | omega) (by decide) (by first | rfl | assumption) rfl ?_
      rw [UM_row (yes := yes) hn1 (by rw [hj] at *; first | (rw [if_pos (Or.inl (lg_lt.mp h252))]) | (rw [if_pos (Or.inr (Int64.not_le.mp (fun q => h269 ((lg_cmp_ge _ _).mpr q))))]) | (rw [if_neg (fun q => q.elim (fun z => h252 (lg_lt.mpr z)) (fun z => absurd z (Int64.not_lt.mpr ((lg_cmp_ge _ _).mp h269))))]))]
      refine y_retV xD_129 rfl rfl ?_
      exact ⟨rfl, rfl⟩
    · skip
      refine y_loc (pc' := 257) xD_129 rfl rfl rfl rfl ?_
      refine y_loc (pc' := 258) xD_129 rfl rfl rfl rfl ?_
      first | refine m_getR (pc' := 261) xD_129 rfl rfl rfl rfl (hR.1 _ _ _ rfl) rfl ?_ | refine m_getR (pc' := 261) xD_129 rfl rfl (by first | rfl | assumption) rfl (by assumption) rfl ?_
      refine y_ci (pc' := 262) (2) xD_129 rfl rfl rfl rfl ?_
      refine y_loc (pc' := 264) xD_129 rfl rfl rfl rfl ?_
      refine y_op (pc' := 265) xD_129 rfl rfl rfl rfl ?_
      refine y_ci (pc' := 266) (1) xD_129 rfl rfl rfl rfl ?_
      refine y_op (pc' := 267) xD_129 rfl rfl rfl rfl ?_
      refine m_jald (pc' := 268) (2 * k + 1) xD_129 rfl (by first | rfl | assumption) (by first | assumption | omega) (by decide) (by first | rfl | assumption) rfl ?_
      refine y_op (pc' := 269) xD_129 rfl rfl rfl rfl ?_
      refine y_ifge (pt := 277) (pf := 272) xD_129 rfl rfl rfl (fun h269 => ?_) (fun h269 => ?_)
      · skip
        refine y_loc (pc' := 278) xD_129 rfl rfl rfl rfl ?_
        first | refine m_getR (pc' := 281) xD_129 rfl rfl rfl rfl (hR.1 _ _ _ rfl) rfl ?_ | refine m_getR (pc' := 281) xD_129 rfl rfl (by first | rfl | assumption) rfl (by assumption) rfl ?_
        refine y_ci (pc' := 282) (2) xD_129 rfl rfl rfl rfl ?_
        refine y_loc (pc' := 284) xD_129 rfl rfl rfl rfl ?_
        refine y_op (pc' := 285) xD_129 rfl rfl rfl rfl ?_
        refine y_ci (pc' := 286) (1) xD_129 rfl rfl rfl rfl ?_
        refine y_op (pc' := 287) xD_129 rfl rfl rfl rfl ?_
        refine m_jald (pc' := 288) (2 * k + 1) xD_129 rfl (by first | rfl | assumption) (by first | assumption | omega) (by decide) (by first | rfl | assumption) rfl ?_
        refine m_jast (pc' := 289) (2 * k + 1) xD_129 rfl (by first | rfl | assumption) (by first | assumption | omega) (by decide) (by first | rfl | assumption) rfl ?_
        rw [UM_row (yes := yes) hn1 (by rw [hj] at *; first | (rw [if_pos (Or.inl (lg_lt.mp h252))]) | (rw [if_pos (Or.inr (Int64.not_le.mp (fun q => h269 ((lg_cmp_ge _ _).mpr q))))]) | (rw [if_neg (fun q => q.elim (fun z => h252 (lg_lt.mpr z)) (fun z => absurd z (Int64.not_lt.mpr ((lg_cmp_ge _ _).mp h269))))]))]
        refine y_retV xD_129 rfl rfl ?_
        exact ⟨rfl, rfl⟩
      · skip
        refine y_loc (pc' := 274) xD_129 rfl rfl rfl rfl ?_
        refine y_goto (pc' := 288) xD_129 rfl rfl ?_
        refine m_jast (pc' := 289) (2 * k + 1) xD_129 rfl (by first | rfl | assumption) (by first | assumption | omega) (by decide) (by first | rfl | assumption) rfl ?_
        rw [UM_row (yes := yes) hn1 (by rw [hj] at *; first | (rw [if_pos (Or.inl (lg_lt.mp h252))]) | (rw [if_pos (Or.inr (Int64.not_le.mp (fun q => h269 ((lg_cmp_ge _ _).mpr q))))]) | (rw [if_neg (fun q => q.elim (fun z => h252 (lg_lt.mpr z)) (fun z => absurd z (Int64.not_lt.mpr ((lg_cmp_ge _ _).mp h269))))]))]
        refine y_retV xD_129 rfl rfl ?_
        exact ⟨rfl, rfl⟩
  have st1 : ∀ (no yes w u : Int64) (z : Int32), XP S (d + 1) 129 177 [some (.ref 261), some (.int xm), some (.int xp), some (.int xa), some (.int xb), some (.int (nI k)), some (.long w), none, some (.long u), none, some (.int z), some (.long yes), none, some (.long no), none] [] (hh I J R) (rV (hh I (xrow J 273 (UM k no yes (J 273))) R)) := by
    intro no yes w u z
    refine y_loc (pc' := 178) xD_129 rfl rfl rfl rfl ?_
    first | refine m_getR (pc' := 181) xD_129 rfl rfl rfl rfl (hR.1 _ _ _ rfl) rfl ?_ | refine m_getR (pc' := 181) xD_129 rfl rfl (by first | rfl | assumption) rfl (by assumption) rfl ?_
    refine y_ci (pc' := 182) (2) xD_129 rfl rfl rfl rfl ?_
    refine y_loc (pc' := 184) xD_129 rfl rfl rfl rfl ?_
    refine y_op (pc' := 185) xD_129 rfl rfl rfl rfl ?_
    refine y_loc (pc' := 186) xD_129 rfl rfl rfl rfl ?_
    first | refine m_getR (pc' := 189) xD_129 rfl rfl rfl rfl (hR.1 _ _ _ rfl) rfl ?_ | refine m_getR (pc' := 189) xD_129 rfl rfl (by first | rfl | assumption) rfl (by assumption) rfl ?_
    refine y_ci (pc' := 190) (2) xD_129 rfl rfl rfl rfl ?_
    refine y_loc (pc' := 192) xD_129 rfl rfl rfl rfl ?_
    refine y_op (pc' := 193) xD_129 rfl rfl rfl rfl ?_
    refine m_jald (pc' := 194) (2 * k) xD_129 rfl (by first | rfl | assumption) (by first | assumption | omega) (by decide) (by first | rfl | assumption) rfl ?_
    refine y_cj (pc' := 195) (0) xD_129 rfl rfl rfl rfl ?_
    refine y_op (pc' := 196) xD_129 rfl rfl rfl rfl ?_
    refine y_iflt (pt := 214) (pf := 199) xD_129 rfl rfl rfl (fun h196 => ?_) (fun h196 => ?_)
    · skip
      refine y_loc (pc' := 216) xD_129 rfl rfl rfl rfl ?_
      refine y_goto (pc' := 228) xD_129 rfl rfl ?_
      refine m_jast (pc' := 229) (2 * k) xD_129 rfl (by first | rfl | assumption) (by first | assumption | omega) (by decide) (by first | rfl | assumption) rfl ?_
      exact st2 _ _ _ _ _ _ (by first | (rw [if_pos (Or.inl (lg_lt.mp h196))]) | (rw [if_pos (Or.inr (Int64.not_le.mp (fun q => h211 ((lg_cmp_ge _ _).mpr q))))]) | (rw [if_neg (fun q => q.elim (fun z => h196 (lg_lt.mpr z)) (fun z => absurd z (Int64.not_lt.mpr ((lg_cmp_ge _ _).mp h211))))]))
    · skip
      refine y_loc (pc' := 201) xD_129 rfl rfl rfl rfl ?_
      refine y_loc (pc' := 202) xD_129 rfl rfl rfl rfl ?_
      first | refine m_getR (pc' := 205) xD_129 rfl rfl rfl rfl (hR.1 _ _ _ rfl) rfl ?_ | refine m_getR (pc' := 205) xD_129 rfl rfl (by first | rfl | assumption) rfl (by assumption) rfl ?_
      refine y_ci (pc' := 206) (2) xD_129 rfl rfl rfl rfl ?_
      refine y_loc (pc' := 208) xD_129 rfl rfl rfl rfl ?_
      refine y_op (pc' := 209) xD_129 rfl rfl rfl rfl ?_
      refine m_jald (pc' := 210) (2 * k) xD_129 rfl (by first | rfl | assumption) (by first | assumption | omega) (by decide) (by first | rfl | assumption) rfl ?_
      refine y_op (pc' := 211) xD_129 rfl rfl rfl rfl ?_
      refine y_ifge (pt := 219) (pf := 214) xD_129 rfl rfl rfl (fun h211 => ?_) (fun h211 => ?_)
      · skip
        refine y_loc (pc' := 220) xD_129 rfl rfl rfl rfl ?_
        first | refine m_getR (pc' := 223) xD_129 rfl rfl rfl rfl (hR.1 _ _ _ rfl) rfl ?_ | refine m_getR (pc' := 223) xD_129 rfl rfl (by first | rfl | assumption) rfl (by assumption) rfl ?_
        refine y_ci (pc' := 224) (2) xD_129 rfl rfl rfl rfl ?_
        refine y_loc (pc' := 226) xD_129 rfl rfl rfl rfl ?_
        refine y_op (pc' := 227) xD_129 rfl rfl rfl rfl ?_
        refine m_jald (pc' := 228) (2 * k) xD_129 rfl (by first | rfl | assumption) (by first | assumption | omega) (by decide) (by first | rfl | assumption) rfl ?_
        refine m_jast (pc' := 229) (2 * k) xD_129 rfl (by first | rfl | assumption) (by first | assumption | omega) (by decide) (by first | rfl | assumption) rfl ?_
        exact st2 _ _ _ _ _ _ (by first | (rw [if_pos (Or.inl (lg_lt.mp h196))]) | (rw [if_pos (Or.inr (Int64.not_le.mp (fun q => h211 ((lg_cmp_ge _ _).mpr q))))]) | (rw [if_neg (fun q => q.elim (fun z => h196 (lg_lt.mpr z)) (fun z => absurd z (Int64.not_lt.mpr ((lg_cmp_ge _ _).mp h211))))]))
      · skip
        refine y_loc (pc' := 216) xD_129 rfl rfl rfl rfl ?_
        refine y_goto (pc' := 228) xD_129 rfl rfl ?_
        refine m_jast (pc' := 229) (2 * k) xD_129 rfl (by first | rfl | assumption) (by first | assumption | omega) (by decide) (by first | rfl | assumption) rfl ?_
        exact st2 _ _ _ _ _ _ (by first | (rw [if_pos (Or.inl (lg_lt.mp h196))]) | (rw [if_pos (Or.inr (Int64.not_le.mp (fun q => h211 ((lg_cmp_ge _ _).mpr q))))]) | (rw [if_neg (fun q => q.elim (fun z => h196 (lg_lt.mpr z)) (fun z => absurd z (Int64.not_lt.mpr ((lg_cmp_ge _ _).mp h211))))]))
  have st0 : ∀ (yes : Int64) (z : Int32), (z = 1 ∧ cdM I m p 0 = 5 ∨ z = 0 ∧ ¬ cdM I m p 0 = 5) → q_yes (decide (cdM I m p 0 = 5)) (I 271 a).toInt64 (I 271 b).toInt64 = yes → XP S (d + 1) 129 137 [some (.ref 261), some (.int xm), some (.int xp), some (.int xa), some (.int xb), some (.int (nI k)), some (.long (I 271 a).toInt64), none, some (.long (I 271 b).toInt64), none, some (.int z), some (.long yes), none, none, none] [] (hh I J R) (rV (hh I (xrow J 273 (UM k (q_no (decide (cdM I m p 0 = 5)) (I 271 a).toInt64 (I 271 b).toInt64) (q_yes (decide (cdM I m p 0 = 5)) (I 271 a).toInt64 (I 271 b).toInt64) (J 273))) R)) := by
    intro yes z hz hy
    have fin : ∀ (no : Int64), q_no (decide (cdM I m p 0 = 5)) (I 271 a).toInt64 (I 271 b).toInt64 = no → XP S (d + 1) 129 177 [some (.ref 261), some (.int xm), some (.int xp), some (.int xa), some (.int xb), some (.int (nI k)), some (.long (I 271 a).toInt64), none, some (.long (I 271 b).toInt64), none, some (.int z), some (.long yes), none, some (.long no), none] [] (hh I J R) (rV (hh I (xrow J 273 (UM k (q_no (decide (cdM I m p 0 = 5)) (I 271 a).toInt64 (I 271 b).toInt64) (q_yes (decide (cdM I m p 0 = 5)) (I 271 a).toInt64 (I 271 b).toInt64) (J 273))) R)) := by
      intro no hno
      rw [hno, hy]
      exact st1 _ _ _ _ _
    have hz5 : ¬ z = 0 → cdM I m p 0 = 5 := fun q => hz.elim (fun r => r.2) (fun r => absurd r.1 q)
    have hzn : z = 0 → ¬ cdM I m p 0 = 5 := fun q => hz.elim (fun r => by rw [q] at r; exact absurd r.1 (by decide)) (fun r => r.2)
    refine y_loc (pc' := 139) xD_129 rfl rfl rfl rfl ?_
    refine y_ifeq (pt := 158) (pf := 142) xD_129 rfl rfl rfl (fun h139 => ?_) (fun h139 => ?_)
    · skip
      refine y_loc (pc' := 160) xD_129 rfl rfl rfl rfl ?_
      refine y_loc (pc' := 162) xD_129 rfl rfl rfl rfl ?_
      refine y_op (pc' := 163) xD_129 rfl rfl rfl rfl ?_
      refine y_ifge (pt := 174) (pf := 166) xD_129 rfl rfl rfl (fun h163 => ?_) (fun h163 => ?_)
      · skip
        refine y_cj (pc' := 175) (0) xD_129 rfl rfl rfl rfl ?_
        refine y_loc (pc' := 177) xD_129 rfl rfl rfl rfl ?_
        first
        | exact fin _ (qn1 (hz5 h139) (lg_eq.mp h147))
        | exact fin _ (qn0 (hz5 h139) (fun q => h147 (lg_eq.mpr q)))
        | exact fin _ (qng (hzn h139) (Int64.not_lt.mpr ((lg_cmp_ge _ _).mp h163)))
        | exact fin _ (qnl (hzn h139) (Int64.not_le.mp (fun q => h163 ((lg_cmp_ge _ _).mpr q))))
      · skip
        refine y_loc (pc' := 168) xD_129 rfl rfl rfl rfl ?_
        refine y_loc (pc' := 170) xD_129 rfl rfl rfl rfl ?_
        refine y_op (pc' := 171) xD_129 rfl rfl rfl rfl ?_
        refine y_goto (pc' := 175) xD_129 rfl rfl ?_
        refine y_loc (pc' := 177) xD_129 rfl rfl rfl rfl ?_
        first
        | exact fin _ (qn1 (hz5 h139) (lg_eq.mp h147))
        | exact fin _ (qn0 (hz5 h139) (fun q => h147 (lg_eq.mpr q)))
        | exact fin _ (qng (hzn h139) (Int64.not_lt.mpr ((lg_cmp_ge _ _).mp h163)))
        | exact fin _ (qnl (hzn h139) (Int64.not_le.mp (fun q => h163 ((lg_cmp_ge _ _).mpr q))))
    · skip
      refine y_loc (pc' := 144) xD_129 rfl rfl rfl rfl ?_
      refine y_loc (pc' := 146) xD_129 rfl rfl rfl rfl ?_
      refine y_op (pc' := 147) xD_129 rfl rfl rfl rfl ?_
      refine y_ifne (pt := 154) (pf := 150) xD_129 rfl rfl rfl (fun h147 => ?_) (fun h147 => ?_)
      · skip
        refine y_cj (pc' := 155) (0) xD_129 rfl rfl rfl rfl ?_
        refine y_goto (pc' := 175) xD_129 rfl rfl ?_
        refine y_loc (pc' := 177) xD_129 rfl rfl rfl rfl ?_
        first
        | exact fin _ (qn1 (hz5 h139) (lg_eq.mp h147))
        | exact fin _ (qn0 (hz5 h139) (fun q => h147 (lg_eq.mpr q)))
        | exact fin _ (qng (hzn h139) (Int64.not_lt.mpr ((lg_cmp_ge _ _).mp h163)))
        | exact fin _ (qnl (hzn h139) (Int64.not_le.mp (fun q => h163 ((lg_cmp_ge _ _).mpr q))))
      · skip
        refine y_cj (pc' := 151) (1) xD_129 rfl rfl rfl rfl ?_
        refine y_goto (pc' := 175) xD_129 rfl rfl ?_
        refine y_loc (pc' := 177) xD_129 rfl rfl rfl rfl ?_
        first
        | exact fin _ (qn1 (hz5 h139) (lg_eq.mp h147))
        | exact fin _ (qn0 (hz5 h139) (fun q => h147 (lg_eq.mpr q)))
        | exact fin _ (qng (hzn h139) (Int64.not_lt.mpr ((lg_cmp_ge _ _).mp h163)))
        | exact fin _ (qnl (hzn h139) (Int64.not_le.mp (fun q => h163 ((lg_cmp_ge _ _).mpr q))))
  refine y_loc (pc' := 42) xD_129 rfl rfl rfl rfl ?_
  refine y_loc (pc' := 43) xD_129 rfl rfl rfl rfl ?_
  refine m_get (pc' := 46) xD_129 rfl rfl (by first | rfl | assumption) rfl rfl ?_
  refine y_icne (pt := 50) (pf := 49) xD_129 rfl rfl rfl (fun h46 => ?_) (fun h46 => ?_)
  · skip
    refine y_loc (pc' := 51) xD_129 rfl rfl rfl rfl ?_
    first | refine m_getR (pc' := 54) xD_129 rfl rfl rfl rfl (hR.1 _ _ _ rfl) rfl ?_ | refine m_getR (pc' := 54) xD_129 rfl rfl (by first | rfl | assumption) rfl (by assumption) rfl ?_
    refine y_loc (pc' := 55) xD_129 rfl rfl rfl rfl ?_
    refine m_iald (pc' := 56) (a) xD_129 rfl (by first | rfl | assumption) (by first | assumption | omega) (by decide) (by first | decide | omega) (by first | rfl | assumption) rfl ?_
    refine y_op (pc' := 57) xD_129 rfl rfl rfl rfl ?_
    refine y_loc (pc' := 59) xD_129 rfl rfl rfl rfl ?_
    refine y_loc (pc' := 60) xD_129 rfl rfl rfl rfl ?_
    first | refine m_getR (pc' := 63) xD_129 rfl rfl rfl rfl (hR.1 _ _ _ rfl) rfl ?_ | refine m_getR (pc' := 63) xD_129 rfl rfl (by first | rfl | assumption) rfl (by assumption) rfl ?_
    refine y_loc (pc' := 65) xD_129 rfl rfl rfl rfl ?_
    refine m_iald (pc' := 66) (b) xD_129 rfl (by first | rfl | assumption) (by first | assumption | omega) (by decide) (by first | decide | omega) (by first | rfl | assumption) rfl ?_
    refine y_op (pc' := 67) xD_129 rfl rfl rfl rfl ?_
    refine y_loc (pc' := 69) xD_129 rfl rfl rfl rfl ?_
    refine y_loc (pc' := 70) xD_129 rfl rfl rfl rfl ?_
    refine y_loc (pc' := 71) xD_129 rfl rfl rfl rfl ?_
    refine y_loc (pc' := 72) xD_129 rfl rfl rfl rfl ?_
    refine y_ci (pc' := 73) (0) xD_129 rfl rfl rfl rfl ?_
    refine y_callV xD_129 rfl rfl rfl rfl (by first | rfl | assumption) rfl rfl rfl rfl (s_code hR hm p 0 hp (by decide) e1 e2 rfl) (fun v h' hq => ?_)
    obtain ⟨rfl, rfl⟩ := hq
    refine y_ci (pc' := 77) (5) xD_129 rfl rfl rfl rfl ?_
    refine y_icne (pt := 84) (pf := 80) xD_129 rfl rfl rfl (fun h77 => ?_) (fun h77 => ?_)
    · skip
      refine y_ci (pc' := 85) (0) xD_129 rfl rfl rfl rfl ?_
      refine y_loc (pc' := 87) xD_129 rfl rfl rfl rfl ?_
      refine y_loc (pc' := 89) xD_129 rfl rfl rfl rfl ?_
      refine y_ifeq (pt := 116) (pf := 92) xD_129 rfl rfl rfl (fun h89 => ?_) (fun h89 => ?_)
      · skip
        refine y_loc (pc' := 118) xD_129 rfl rfl rfl rfl ?_
        refine y_loc (pc' := 120) xD_129 rfl rfl rfl rfl ?_
        refine y_op (pc' := 121) xD_129 rfl rfl rfl rfl ?_
        refine y_ifge (pt := 128) (pf := 124) xD_129 rfl rfl rfl (fun h121 => ?_) (fun h121 => ?_)
        · skip
          refine y_loc (pc' := 130) xD_129 rfl rfl rfl rfl ?_
          refine y_loc (pc' := 132) xD_129 rfl rfl rfl rfl ?_
          refine y_op (pc' := 133) xD_129 rfl rfl rfl rfl ?_
          refine y_cj (pc' := 134) (1) xD_129 rfl rfl rfl rfl ?_
          refine y_op (pc' := 135) xD_129 rfl rfl rfl rfl ?_
          refine y_loc (pc' := 137) xD_129 rfl rfl rfl rfl ?_
          first
          | exact st0 _ _ (Or.inl ⟨rfl, h77⟩) (qy1 h77 (lg_gt.mp (Int32.not_le.mp h97)))
          | exact st0 _ _ (Or.inl ⟨rfl, h77⟩) (qy2 h77 (fun q => absurd (lg_gt.mpr q) (Int32.not_lt.mpr h97)))
          | exact st0 _ _ (Or.inr ⟨rfl, h77⟩) (qyg h77 (Int64.not_lt.mpr ((lg_cmp_ge _ _).mp h121)))
          | exact st0 _ _ (Or.inr ⟨rfl, h77⟩) (qyl h77 (Int64.not_le.mp (fun q => h121 ((lg_cmp_ge _ _).mpr q))))
          | exact absurd h89 (by decide)
        · skip
          refine y_cj (pc' := 125) (0) xD_129 rfl rfl rfl rfl ?_
          refine y_goto (pc' := 135) xD_129 rfl rfl ?_
          refine y_loc (pc' := 137) xD_129 rfl rfl rfl rfl ?_
          first
          | exact st0 _ _ (Or.inl ⟨rfl, h77⟩) (qy1 h77 (lg_gt.mp (Int32.not_le.mp h97)))
          | exact st0 _ _ (Or.inl ⟨rfl, h77⟩) (qy2 h77 (fun q => absurd (lg_gt.mpr q) (Int32.not_lt.mpr h97)))
          | exact st0 _ _ (Or.inr ⟨rfl, h77⟩) (qyg h77 (Int64.not_lt.mpr ((lg_cmp_ge _ _).mp h121)))
          | exact st0 _ _ (Or.inr ⟨rfl, h77⟩) (qyl h77 (Int64.not_le.mp (fun q => h121 ((lg_cmp_ge _ _).mpr q))))
          | exact absurd h89 (by decide)
      · skip
        refine y_loc (pc' := 94) xD_129 rfl rfl rfl rfl ?_
        refine y_loc (pc' := 96) xD_129 rfl rfl rfl rfl ?_
        refine y_op (pc' := 97) xD_129 rfl rfl rfl rfl ?_
        refine y_ifle (pt := 108) (pf := 100) xD_129 rfl rfl rfl (fun h97 => ?_) (fun h97 => ?_)
        · skip
          refine y_loc (pc' := 110) xD_129 rfl rfl rfl rfl ?_
          refine y_loc (pc' := 112) xD_129 rfl rfl rfl rfl ?_
          refine y_op (pc' := 113) xD_129 rfl rfl rfl rfl ?_
          refine y_goto (pc' := 135) xD_129 rfl rfl ?_
          refine y_loc (pc' := 137) xD_129 rfl rfl rfl rfl ?_
          first
          | exact st0 _ _ (Or.inl ⟨rfl, h77⟩) (qy1 h77 (lg_gt.mp (Int32.not_le.mp h97)))
          | exact st0 _ _ (Or.inl ⟨rfl, h77⟩) (qy2 h77 (fun q => absurd (lg_gt.mpr q) (Int32.not_lt.mpr h97)))
          | exact st0 _ _ (Or.inr ⟨rfl, h77⟩) (qyg h77 (Int64.not_lt.mpr ((lg_cmp_ge _ _).mp h121)))
          | exact st0 _ _ (Or.inr ⟨rfl, h77⟩) (qyl h77 (Int64.not_le.mp (fun q => h121 ((lg_cmp_ge _ _).mpr q))))
          | exact absurd h89 (by decide)
        · skip
          refine y_loc (pc' := 102) xD_129 rfl rfl rfl rfl ?_
          refine y_loc (pc' := 104) xD_129 rfl rfl rfl rfl ?_
          refine y_op (pc' := 105) xD_129 rfl rfl rfl rfl ?_
          refine y_goto (pc' := 135) xD_129 rfl rfl ?_
          refine y_loc (pc' := 137) xD_129 rfl rfl rfl rfl ?_
          first
          | exact st0 _ _ (Or.inl ⟨rfl, h77⟩) (qy1 h77 (lg_gt.mp (Int32.not_le.mp h97)))
          | exact st0 _ _ (Or.inl ⟨rfl, h77⟩) (qy2 h77 (fun q => absurd (lg_gt.mpr q) (Int32.not_lt.mpr h97)))
          | exact st0 _ _ (Or.inr ⟨rfl, h77⟩) (qyg h77 (Int64.not_lt.mpr ((lg_cmp_ge _ _).mp h121)))
          | exact st0 _ _ (Or.inr ⟨rfl, h77⟩) (qyl h77 (Int64.not_le.mp (fun q => h121 ((lg_cmp_ge _ _).mpr q))))
          | exact absurd h89 (by decide)
    · skip
      refine y_ci (pc' := 81) (1) xD_129 rfl rfl rfl rfl ?_
      refine y_goto (pc' := 85) xD_129 rfl rfl ?_
      refine y_loc (pc' := 87) xD_129 rfl rfl rfl rfl ?_
      refine y_loc (pc' := 89) xD_129 rfl rfl rfl rfl ?_
      refine y_ifeq (pt := 116) (pf := 92) xD_129 rfl rfl rfl (fun h89 => ?_) (fun h89 => ?_)
      · skip
        refine y_loc (pc' := 118) xD_129 rfl rfl rfl rfl ?_
        refine y_loc (pc' := 120) xD_129 rfl rfl rfl rfl ?_
        refine y_op (pc' := 121) xD_129 rfl rfl rfl rfl ?_
        refine y_ifge (pt := 128) (pf := 124) xD_129 rfl rfl rfl (fun h121 => ?_) (fun h121 => ?_)
        · skip
          refine y_loc (pc' := 130) xD_129 rfl rfl rfl rfl ?_
          refine y_loc (pc' := 132) xD_129 rfl rfl rfl rfl ?_
          refine y_op (pc' := 133) xD_129 rfl rfl rfl rfl ?_
          refine y_cj (pc' := 134) (1) xD_129 rfl rfl rfl rfl ?_
          refine y_op (pc' := 135) xD_129 rfl rfl rfl rfl ?_
          refine y_loc (pc' := 137) xD_129 rfl rfl rfl rfl ?_
          first
          | exact st0 _ _ (Or.inl ⟨rfl, h77⟩) (qy1 h77 (lg_gt.mp (Int32.not_le.mp h97)))
          | exact st0 _ _ (Or.inl ⟨rfl, h77⟩) (qy2 h77 (fun q => absurd (lg_gt.mpr q) (Int32.not_lt.mpr h97)))
          | exact st0 _ _ (Or.inr ⟨rfl, h77⟩) (qyg h77 (Int64.not_lt.mpr ((lg_cmp_ge _ _).mp h121)))
          | exact st0 _ _ (Or.inr ⟨rfl, h77⟩) (qyl h77 (Int64.not_le.mp (fun q => h121 ((lg_cmp_ge _ _).mpr q))))
          | exact absurd h89 (by decide)
        · skip
          refine y_cj (pc' := 125) (0) xD_129 rfl rfl rfl rfl ?_
          refine y_goto (pc' := 135) xD_129 rfl rfl ?_
          refine y_loc (pc' := 137) xD_129 rfl rfl rfl rfl ?_
          first
          | exact st0 _ _ (Or.inl ⟨rfl, h77⟩) (qy1 h77 (lg_gt.mp (Int32.not_le.mp h97)))
          | exact st0 _ _ (Or.inl ⟨rfl, h77⟩) (qy2 h77 (fun q => absurd (lg_gt.mpr q) (Int32.not_lt.mpr h97)))
          | exact st0 _ _ (Or.inr ⟨rfl, h77⟩) (qyg h77 (Int64.not_lt.mpr ((lg_cmp_ge _ _).mp h121)))
          | exact st0 _ _ (Or.inr ⟨rfl, h77⟩) (qyl h77 (Int64.not_le.mp (fun q => h121 ((lg_cmp_ge _ _).mpr q))))
          | exact absurd h89 (by decide)
      · skip
        refine y_loc (pc' := 94) xD_129 rfl rfl rfl rfl ?_
        refine y_loc (pc' := 96) xD_129 rfl rfl rfl rfl ?_
        refine y_op (pc' := 97) xD_129 rfl rfl rfl rfl ?_
        refine y_ifle (pt := 108) (pf := 100) xD_129 rfl rfl rfl (fun h97 => ?_) (fun h97 => ?_)
        · skip
          refine y_loc (pc' := 110) xD_129 rfl rfl rfl rfl ?_
          refine y_loc (pc' := 112) xD_129 rfl rfl rfl rfl ?_
          refine y_op (pc' := 113) xD_129 rfl rfl rfl rfl ?_
          refine y_goto (pc' := 135) xD_129 rfl rfl ?_
          refine y_loc (pc' := 137) xD_129 rfl rfl rfl rfl ?_
          first
          | exact st0 _ _ (Or.inl ⟨rfl, h77⟩) (qy1 h77 (lg_gt.mp (Int32.not_le.mp h97)))
          | exact st0 _ _ (Or.inl ⟨rfl, h77⟩) (qy2 h77 (fun q => absurd (lg_gt.mpr q) (Int32.not_lt.mpr h97)))
          | exact st0 _ _ (Or.inr ⟨rfl, h77⟩) (qyg h77 (Int64.not_lt.mpr ((lg_cmp_ge _ _).mp h121)))
          | exact st0 _ _ (Or.inr ⟨rfl, h77⟩) (qyl h77 (Int64.not_le.mp (fun q => h121 ((lg_cmp_ge _ _).mpr q))))
          | exact absurd h89 (by decide)
        · skip
          refine y_loc (pc' := 102) xD_129 rfl rfl rfl rfl ?_
          refine y_loc (pc' := 104) xD_129 rfl rfl rfl rfl ?_
          refine y_op (pc' := 105) xD_129 rfl rfl rfl rfl ?_
          refine y_goto (pc' := 135) xD_129 rfl rfl ?_
          refine y_loc (pc' := 137) xD_129 rfl rfl rfl rfl ?_
          first
          | exact st0 _ _ (Or.inl ⟨rfl, h77⟩) (qy1 h77 (lg_gt.mp (Int32.not_le.mp h97)))
          | exact st0 _ _ (Or.inl ⟨rfl, h77⟩) (qy2 h77 (fun q => absurd (lg_gt.mpr q) (Int32.not_lt.mpr h97)))
          | exact st0 _ _ (Or.inr ⟨rfl, h77⟩) (qyg h77 (Int64.not_lt.mpr ((lg_cmp_ge _ _).mp h121)))
          | exact st0 _ _ (Or.inr ⟨rfl, h77⟩) (qyl h77 (Int64.not_le.mp (fun q => h121 ((lg_cmp_ge _ _).mpr q))))
          | exact absurd h89 (by decide)
  · skip
    exact absurd h46 (by rw [hnb]; exact fun q => absurd ((nI_eq (by omega) (by omega)).mp q) (by omega))
/-- note(m, p, a, b) -/
theorem s_note (hR : RF R) (hm : m < 2) (p : Nat) (hp : p < 10) (a b : Nat) (ha : a < 8) (hb : b < 8) {nb : Nat} (hnb : I 261 10 = nI nb) (hnb2 : nb ≤ 12) {xm xp xa xb : Int32} (e1 : xm = nI m) (e2 : xp = nI p) (e3 : xa = nI a) (e4 : xb = nI b) :
    XP S (d + 1) 129 0 (xent [.ref 261, .int xm, .int xp, .int xa, .int xb] 15) [] (hh I J R) (rV (hh I (xrow J 273 (q_u UM (bnM I m nb p) (q_no (decide (cdM I m p 0 = 5)) (I 271 a).toInt64 (I 271 b).toInt64) (q_yes (decide (cdM I m p 0 = 5)) (I 271 a).toInt64 (I 271 b).toInt64) (J 273))) R)) := by
  have loop : ∀ (f k : Nat), k + f = nb → XP S (d + 1) 129 3 [some (.ref 261), some (.int xm), some (.int xp), some (.int xa), some (.int xb), some (.int (nI k)), none, none, none, none, none, none, none, none, none] [] (hh I J R) (rV (hh I (xrow J 273 (q_u UM (q_find I m p f k) (q_no (decide (cdM I m p 0 = 5)) (I 271 a).toInt64 (I 271 b).toInt64) (q_yes (decide (cdM I m p 0 = 5)) (I 271 a).toInt64 (I 271 b).toInt64) (J 273))) R)) := by
    intro f
    induction f with
    | zero =>
      intro k hk
      have hk2 : I 261 10 ≤ nI k := by rw [hnb]; exact nI_le (by omega) (by omega)
      refine y_loc (pc' := 5) xD_129 rfl rfl rfl rfl ?_
      refine y_loc (pc' := 6) xD_129 rfl rfl rfl rfl ?_
      refine m_get (pc' := 9) xD_129 rfl rfl (by first | rfl | assumption) rfl rfl ?_
      refine y_icge (pt := 40) (pf := 12) xD_129 rfl rfl rfl (fun h9 => ?_) (fun h9 => ?_)
      · skip
        refine y_loc (pc' := 42) xD_129 rfl rfl rfl rfl ?_
        refine y_loc (pc' := 43) xD_129 rfl rfl rfl rfl ?_
        refine m_get (pc' := 46) xD_129 rfl rfl (by first | rfl | assumption) rfl rfl ?_
        refine y_icne (pt := 50) (pf := 49) xD_129 rfl rfl rfl (fun h46 => ?_) (fun h46 => ?_)
        · skip
          exact absurd (show nI k = I 261 10 by rw [hnb, show k = nb by omega]) h46
        · skip
          refine y_retV xD_129 rfl rfl ?_
          exact ⟨rfl, by rw [show q_find I m p 0 k = none from rfl]; show hh I J R = hh I (xrow J 273 (J 273)) R; rw [xrow_id]⟩
      · exact absurd hk2 h9
    | succ f ih =>
      intro k hk
      have hk2 : ¬ I 261 10 ≤ nI k := by rw [hnb]; exact nI_ge (by omega) (by omega)
      have e5 : nI k + 1 = nI (k + 1) := nI_1 k
      have found : I 267 k = nI m → I 268 k = nI p → q_find I m p (f + 1) k = some k := fun q1 q2 => by simp only [q_find, if_pos (And.intro q1 q2)]
      have nfound : ¬ (I 267 k = nI m ∧ I 268 k = nI p) → q_find I m p (f + 1) k = q_find I m p f (k + 1) := fun q => by simp only [q_find, if_neg q]
      refine y_loc (pc' := 5) xD_129 rfl rfl rfl rfl ?_
      refine y_loc (pc' := 6) xD_129 rfl rfl rfl rfl ?_
      refine m_get (pc' := 9) xD_129 rfl rfl (by first | rfl | assumption) rfl rfl ?_
      refine y_icge (pt := 40) (pf := 12) xD_129 rfl rfl rfl (fun h9 => ?_) (fun h9 => ?_)
      · skip
        first
        | exact absurd h9 hk2
        | (rw [found (h20.trans e1) (h31.trans e2)]; exact s_note_body hR hm p hp a b k ha hb (by omega) hnb hnb2 (by omega) e1 e2 e3 e4)
      · skip
        refine y_loc (pc' := 13) xD_129 rfl rfl rfl rfl ?_
        first | refine m_getR (pc' := 16) xD_129 rfl rfl rfl rfl (hR.1 _ _ _ rfl) rfl ?_ | refine m_getR (pc' := 16) xD_129 rfl rfl (by first | rfl | assumption) rfl (by assumption) rfl ?_
        refine y_loc (pc' := 18) xD_129 rfl rfl rfl rfl ?_
        refine m_iald (pc' := 19) (k) xD_129 rfl (by first | rfl | assumption) (by first | assumption | omega) (by decide) (by first | decide | omega) (by first | rfl | assumption) rfl ?_
        refine y_loc (pc' := 20) xD_129 rfl rfl rfl rfl ?_
        refine y_icne (pt := 34) (pf := 23) xD_129 rfl rfl rfl (fun h20 => ?_) (fun h20 => ?_)
        · skip
          refine y_inc (pc' := 37) (nI (k + 1)) xD_129 rfl rfl rfl e5 rfl rfl ?_
          refine y_goto (pc' := 3) xD_129 rfl rfl ?_
          first | (rw [nfound (fun q => h20 (q.1.trans e1.symm))]; exact ih (k + 1) (by omega)) | (rw [nfound (fun q => h31 (q.2.trans e2.symm))]; exact ih (k + 1) (by omega))
        · skip
          refine y_loc (pc' := 24) xD_129 rfl rfl rfl rfl ?_
          first | refine m_getR (pc' := 27) xD_129 rfl rfl rfl rfl (hR.1 _ _ _ rfl) rfl ?_ | refine m_getR (pc' := 27) xD_129 rfl rfl (by first | rfl | assumption) rfl (by assumption) rfl ?_
          refine y_loc (pc' := 29) xD_129 rfl rfl rfl rfl ?_
          refine m_iald (pc' := 30) (k) xD_129 rfl (by first | rfl | assumption) (by first | assumption | omega) (by decide) (by first | decide | omega) (by first | rfl | assumption) rfl ?_
          refine y_loc (pc' := 31) xD_129 rfl rfl rfl rfl ?_
          refine y_iceq (pt := 40) (pf := 34) xD_129 rfl rfl rfl (fun h31 => ?_) (fun h31 => ?_)
          · skip
            first
            | exact absurd h9 hk2
            | (rw [found (h20.trans e1) (h31.trans e2)]; exact s_note_body hR hm p hp a b k ha hb (by omega) hnb hnb2 (by omega) e1 e2 e3 e4)
          · skip
            refine y_inc (pc' := 37) (nI (k + 1)) xD_129 rfl rfl rfl e5 rfl rfl ?_
            refine y_goto (pc' := 3) xD_129 rfl rfl ?_
            first | (rw [nfound (fun q => h20 (q.1.trans e1.symm))]; exact ih (k + 1) (by omega)) | (rw [nfound (fun q => h31 (q.2.trans e2.symm))]; exact ih (k + 1) (by omega))
  refine y_ci (pc' := 1) (0) xD_129 rfl rfl rfl rfl ?_
  refine y_loc (pc' := 3) xD_129 rfl rfl rfl rfl ?_
  exact loop nb 0 (by omega)
/-- go(m, p): a line -/
theorem s_go (hR : RF R) (hm : m < 2) {n : Nat} (hn : I 265 m = nI n) (hn2 : n ≤ 10) (p : Nat) (hp : p < n) (hV : VL (cdM I m) p) {nb : Nat} (hnb : I 261 10 = nI nb) (hnb2 : nb ≤ 12) (hdiv : ¬ (cdM I m p 0 = 4 ∧ I 271 (cdM I m p 3).toNatClampNeg = 0)) {xm xp : Int32} (e1 : xm = nI m) (e2 : xp = nI p) :
    XP S (d + 3) 128 0 (xent [.ref 261, .int xm, .int xp] 9) [] (hh I J R) (rI (nI (q_line UM (cdM I m) (bnM I m nb) n p (I 271) (J 273)).1) (hh (xrow I 271 (q_line UM (cdM I m) (bnM I m nb) n p (I 271) (J 273)).2.1) (xrow J 273 (q_line UM (cdM I m) (bnM I m nb) n p (I 271) (J 273)).2.2) R)) := by
  have hV0 := hV
  obtain ⟨⟨t, ht, hop⟩, hV3, hVa, hVb, hVc⟩ := hV
  obtain ⟨n5, n6, n0, n4, n66, -⟩ := nI_5 ht
  have hp10 : p < 10 := Nat.lt_of_lt_of_le hp hn2
  have tail : ∀ (I' : Nat → Nat → Int32) (q3 q4 q5 q6 q7 q8 : Option Value), (∀ y, y ≠ 271 → I' y = I y) → ¬ t = 5 → ¬ t = 6 → XP S (d + 3) 128 215 [some (.ref 261), some (.int xm), some (.int xp), q3, q4, q5, q6, q7, q8] [] (hh I' J R) (rI (nI (q_lead (cdM I m) n p false)) (hh I' J R)) := by
    intro I' q3 q4 q5 q6 q7 q8 hI h5 h6
    have hcd : cdM I' m = cdM I m := by
      funext x y
      unfold cdM
      rw [hI 264 (by decide)]
    refine y_loc (pc' := 216) xD_128 rfl rfl rfl rfl ?_
    refine y_loc (pc' := 217) xD_128 rfl rfl rfl rfl ?_
    refine y_loc (pc' := 218) xD_128 rfl rfl rfl rfl ?_
    refine y_ci (pc' := 219) (0) xD_128 rfl rfl rfl rfl ?_
    refine y_callV xD_128 rfl rfl rfl rfl (by first | rfl | assumption) rfl rfl rfl rfl (s_lead hR hm (by rw [hI 265 (by decide)]; exact hn) hn2 p hp (by rw [hcd]; exact hV0) e1 e2) (fun v h' hq => ?_)
    obtain ⟨rfl, rfl⟩ := hq
    refine y_retI xD_128 rfl rfl ?_
    exact rI_e (by rw [hcd]; rfl)
  have hia : (cdM I m p 0 ≤ 6 ∨ cdM I m p 0 = 8) → ∃ a, a < 8 ∧ cdM I m p 1 = nI a ∧ (cdM I m p 1).toNatClampNeg = a := fun q => by
    obtain ⟨a, ha, ea⟩ := hVa q
    exact ⟨a, ha, ea, by rw [ea, nI_cl (by omega)]⟩
  rcases (show t = 0 ∨ (1 ≤ t ∧ t ≤ 4) ∨ (t = 5 ∨ t = 6) ∨ 7 ≤ t by omega) with h0 | h14 | h56 | h7
  · obtain ⟨a, ha, ea, ca⟩ := hia (Or.inl (by rw [hop, n66]; omega))
    have hq : q_line UM (cdM I m) (bnM I m nb) n p (I 271) (J 273) = (q_lead (cdM I m) n p false, upd (I 271) a (cdM I m p 3), J 273) := by
      unfold q_line
      rw [if_pos (by rw [hop, n0]; exact h0), ca]
    rw [hq, xrow_id]
    refine y_loc (pc' := 1) xD_128 rfl rfl rfl rfl ?_
    refine y_loc (pc' := 2) xD_128 rfl rfl rfl rfl ?_
    refine y_loc (pc' := 3) xD_128 rfl rfl rfl rfl ?_
    refine y_ci (pc' := 4) (0) xD_128 rfl rfl rfl rfl ?_
    refine y_callV xD_128 rfl rfl rfl rfl (by first | rfl | assumption) rfl rfl rfl rfl (s_code hR hm p 0 hp10 (by decide) e1 e2 rfl) (fun v h' hq => ?_)
    obtain ⟨rfl, rfl⟩ := hq
    refine y_loc (pc' := 8) xD_128 rfl rfl rfl rfl ?_
    refine y_loc (pc' := 9) xD_128 rfl rfl rfl rfl ?_
    refine y_loc (pc' := 10) xD_128 rfl rfl rfl rfl ?_
    refine y_loc (pc' := 11) xD_128 rfl rfl rfl rfl ?_
    refine y_ci (pc' := 12) (1) xD_128 rfl rfl rfl rfl ?_
    refine y_callV xD_128 rfl rfl rfl rfl (by first | rfl | assumption) rfl rfl rfl rfl (s_code hR hm p 1 hp10 (by decide) e1 e2 rfl) (fun v h' hq => ?_)
    obtain ⟨rfl, rfl⟩ := hq
    refine y_loc (pc' := 17) xD_128 rfl rfl rfl rfl ?_
    refine y_loc (pc' := 18) xD_128 rfl rfl rfl rfl ?_
    refine y_loc (pc' := 19) xD_128 rfl rfl rfl rfl ?_
    refine y_loc (pc' := 20) xD_128 rfl rfl rfl rfl ?_
    refine y_ci (pc' := 21) (2) xD_128 rfl rfl rfl rfl ?_
    refine y_callV xD_128 rfl rfl rfl rfl (by first | rfl | assumption) rfl rfl rfl rfl (s_code hR hm p 2 hp10 (by decide) e1 e2 rfl) (fun v h' hq => ?_)
    obtain ⟨rfl, rfl⟩ := hq
    refine y_loc (pc' := 26) xD_128 rfl rfl rfl rfl ?_
    refine y_loc (pc' := 27) xD_128 rfl rfl rfl rfl ?_
    refine y_loc (pc' := 28) xD_128 rfl rfl rfl rfl ?_
    refine y_loc (pc' := 29) xD_128 rfl rfl rfl rfl ?_
    refine y_ci (pc' := 30) (3) xD_128 rfl rfl rfl rfl ?_
    refine y_callV xD_128 rfl rfl rfl rfl (by first | rfl | assumption) rfl rfl rfl rfl (s_code hR hm p 3 hp10 (by decide) e1 e2 rfl) (fun v h' hq => ?_)
    obtain ⟨rfl, rfl⟩ := hq
    refine y_loc (pc' := 35) xD_128 rfl rfl rfl rfl ?_
    refine y_loc (pc' := 36) xD_128 rfl rfl rfl rfl ?_
    refine y_ifne (pt := 51) (pf := 39) xD_128 rfl rfl rfl (fun h36 => ?_) (fun h36 => ?_)
    · skip
      exact absurd (show cdM I m p 0 = 0 by rw [hop, n0]; exact h0) h36
    · skip
      refine y_loc (pc' := 40) xD_128 rfl rfl rfl rfl ?_
      first | refine m_getR (pc' := 43) xD_128 rfl rfl rfl rfl (hR.1 _ _ _ rfl) rfl ?_ | refine m_getR (pc' := 43) xD_128 rfl rfl (by first | rfl | assumption) rfl (by assumption) rfl ?_
      refine y_loc (pc' := 45) xD_128 rfl rfl rfl rfl ?_
      refine y_loc (pc' := 47) xD_128 rfl rfl rfl rfl ?_
      refine m_iast (pc' := 48) (a) xD_128 rfl (by first | rfl | assumption) (by first | assumption | omega) (by decide) (by first | rfl | assumption) rfl ?_
      rw [xu_rowI]
      refine y_goto (pc' := 215) xD_128 rfl rfl ?_
      exact tail _ _ _ _ _ _ _ (fun y hy => xrow_ne hy) (by omega) (by omega)
  · obtain ⟨a, ha, ea, ca⟩ := hia (Or.inl (by rw [hop, n66]; omega))
    have h1 : 1 ≤ cdM I m p 0 := by rw [hop]; exact (nI_leI (a := 1) (by omega) (by omega)).mpr h14.1
    obtain ⟨b, hb, eb⟩ := hVb ⟨h1, by rw [hop, n66]; omega⟩
    obtain ⟨c, hc, ec⟩ := hVc ⟨h1, by rw [hop, n4]; omega⟩
    have hq : q_line UM (cdM I m) (bnM I m nb) n p (I 271) (J 273) = (q_lead (cdM I m) n p false, upd (I 271) a (q_calc (cdM I m p 0) (I 271 b) (I 271 c)), J 273) := by
      unfold q_line
      rw [if_neg (by rw [hop, n0]; omega), if_pos (by rw [hop, n4]; omega), ca, eb, ec, nI_cl (by omega), nI_cl (by omega)]
    rw [hq, xrow_id]
    have hdz : cdM I m p 0 = 4 → ¬ I 271 c = 0 := fun q r => hdiv ⟨q, by rw [ec, nI_cl (by omega)]; exact r⟩
    have hop4 : ¬ cdM I m p 0 = 1 → ¬ cdM I m p 0 = 2 → ¬ cdM I m p 0 = 3 → cdM I m p 0 = 4 := by
      intro q1 q2 q3
      rw [hop] at q1 q2 q3 ⊢
      rcases (show t = 1 ∨ t = 2 ∨ t = 3 ∨ t = 4 by omega) with rfl | rfl | rfl | rfl
      · exact absurd rfl q1
      · exact absurd rfl q2
      · exact absurd rfl q3
      · rfl
    refine y_loc (pc' := 1) xD_128 rfl rfl rfl rfl ?_
    refine y_loc (pc' := 2) xD_128 rfl rfl rfl rfl ?_
    refine y_loc (pc' := 3) xD_128 rfl rfl rfl rfl ?_
    refine y_ci (pc' := 4) (0) xD_128 rfl rfl rfl rfl ?_
    refine y_callV xD_128 rfl rfl rfl rfl (by first | rfl | assumption) rfl rfl rfl rfl (s_code hR hm p 0 hp10 (by decide) e1 e2 rfl) (fun v h' hq => ?_)
    obtain ⟨rfl, rfl⟩ := hq
    refine y_loc (pc' := 8) xD_128 rfl rfl rfl rfl ?_
    refine y_loc (pc' := 9) xD_128 rfl rfl rfl rfl ?_
    refine y_loc (pc' := 10) xD_128 rfl rfl rfl rfl ?_
    refine y_loc (pc' := 11) xD_128 rfl rfl rfl rfl ?_
    refine y_ci (pc' := 12) (1) xD_128 rfl rfl rfl rfl ?_
    refine y_callV xD_128 rfl rfl rfl rfl (by first | rfl | assumption) rfl rfl rfl rfl (s_code hR hm p 1 hp10 (by decide) e1 e2 rfl) (fun v h' hq => ?_)
    obtain ⟨rfl, rfl⟩ := hq
    refine y_loc (pc' := 17) xD_128 rfl rfl rfl rfl ?_
    refine y_loc (pc' := 18) xD_128 rfl rfl rfl rfl ?_
    refine y_loc (pc' := 19) xD_128 rfl rfl rfl rfl ?_
    refine y_loc (pc' := 20) xD_128 rfl rfl rfl rfl ?_
    refine y_ci (pc' := 21) (2) xD_128 rfl rfl rfl rfl ?_
    refine y_callV xD_128 rfl rfl rfl rfl (by first | rfl | assumption) rfl rfl rfl rfl (s_code hR hm p 2 hp10 (by decide) e1 e2 rfl) (fun v h' hq => ?_)
    obtain ⟨rfl, rfl⟩ := hq
    refine y_loc (pc' := 26) xD_128 rfl rfl rfl rfl ?_
    refine y_loc (pc' := 27) xD_128 rfl rfl rfl rfl ?_
    refine y_loc (pc' := 28) xD_128 rfl rfl rfl rfl ?_
    refine y_loc (pc' := 29) xD_128 rfl rfl rfl rfl ?_
    refine y_ci (pc' := 30) (3) xD_128 rfl rfl rfl rfl ?_
    refine y_callV xD_128 rfl rfl rfl rfl (by first | rfl | assumption) rfl rfl rfl rfl (s_code hR hm p 3 hp10 (by decide) e1 e2 rfl) (fun v h' hq => ?_)
    obtain ⟨rfl, rfl⟩ := hq
    refine y_loc (pc' := 35) xD_128 rfl rfl rfl rfl ?_
    refine y_loc (pc' := 36) xD_128 rfl rfl rfl rfl ?_
    refine y_ifne (pt := 51) (pf := 39) xD_128 rfl rfl rfl (fun h36 => ?_) (fun h36 => ?_)
    · skip
      refine y_loc (pc' := 52) xD_128 rfl rfl rfl rfl ?_
      refine y_ci (pc' := 53) (4) xD_128 rfl rfl rfl rfl ?_
      refine y_icgt (pt := 128) (pf := 56) xD_128 rfl rfl rfl (fun h53 => ?_) (fun h53 => ?_)
      · skip
        exact absurd h53 (Int32.not_lt.mpr (by rw [hop]; exact n4.mpr h14.2))
      · skip
        refine y_loc (pc' := 57) xD_128 rfl rfl rfl rfl ?_
        first | refine m_getR (pc' := 60) xD_128 rfl rfl rfl rfl (hR.1 _ _ _ rfl) rfl ?_ | refine m_getR (pc' := 60) xD_128 rfl rfl (by first | rfl | assumption) rfl (by assumption) rfl ?_
        refine y_loc (pc' := 62) xD_128 rfl rfl rfl rfl ?_
        refine m_iald (pc' := 63) (b) xD_128 rfl (by first | rfl | assumption) (by first | assumption | omega) (by decide) (by first | decide | omega) (by first | rfl | assumption) rfl ?_
        refine y_loc (pc' := 65) xD_128 rfl rfl rfl rfl ?_
        refine y_loc (pc' := 66) xD_128 rfl rfl rfl rfl ?_
        first | refine m_getR (pc' := 69) xD_128 rfl rfl rfl rfl (hR.1 _ _ _ rfl) rfl ?_ | refine m_getR (pc' := 69) xD_128 rfl rfl (by first | rfl | assumption) rfl (by assumption) rfl ?_
        refine y_loc (pc' := 71) xD_128 rfl rfl rfl rfl ?_
        refine m_iald (pc' := 72) (c) xD_128 rfl (by first | rfl | assumption) (by first | assumption | omega) (by decide) (by first | decide | omega) (by first | rfl | assumption) rfl ?_
        refine y_loc (pc' := 74) xD_128 rfl rfl rfl rfl ?_
        refine y_loc (pc' := 75) xD_128 rfl rfl rfl rfl ?_
        first | refine m_getR (pc' := 78) xD_128 rfl rfl rfl rfl (hR.1 _ _ _ rfl) rfl ?_ | refine m_getR (pc' := 78) xD_128 rfl rfl (by first | rfl | assumption) rfl (by assumption) rfl ?_
        refine y_loc (pc' := 80) xD_128 rfl rfl rfl rfl ?_
        refine y_loc (pc' := 81) xD_128 rfl rfl rfl rfl ?_
        refine y_ci (pc' := 82) (1) xD_128 rfl rfl rfl rfl ?_
        refine y_icne (pt := 93) (pf := 85) xD_128 rfl rfl rfl (fun h82 => ?_) (fun h82 => ?_)
        · skip
          refine y_loc (pc' := 94) xD_128 rfl rfl rfl rfl ?_
          refine y_ci (pc' := 95) (2) xD_128 rfl rfl rfl rfl ?_
          refine y_icne (pt := 106) (pf := 98) xD_128 rfl rfl rfl (fun h95 => ?_) (fun h95 => ?_)
          · skip
            refine y_loc (pc' := 107) xD_128 rfl rfl rfl rfl ?_
            refine y_ci (pc' := 108) (3) xD_128 rfl rfl rfl rfl ?_
            refine y_icne (pt := 119) (pf := 111) xD_128 rfl rfl rfl (fun h108 => ?_) (fun h108 => ?_)
            · skip
              refine y_loc (pc' := 121) xD_128 rfl rfl rfl rfl ?_
              refine y_loc (pc' := 123) xD_128 rfl rfl rfl rfl ?_
              refine y_op (pc' := 124) xD_128 rfl rfl (show (if I 271 c = 0 then none else some _) = some _ from if_neg (hdz (hop4 h82 h95 h108))) rfl ?_
              refine m_iast (pc' := 125) (a) xD_128 rfl (by first | rfl | assumption) (by first | assumption | omega) (by decide) (by first | rfl | assumption) rfl ?_
              rw [xu_rowI]
              refine y_goto (pc' := 215) xD_128 rfl rfl ?_
              first
              | (rw [show q_calc (cdM I m p 0) (I 271 b) (I 271 c) = I 271 b + I 271 c by unfold q_calc; rw [if_pos h82]]; exact tail _ _ _ _ _ _ _ (fun y hy => xrow_ne hy) (by omega) (by omega))
              | (rw [show q_calc (cdM I m p 0) (I 271 b) (I 271 c) = I 271 b - I 271 c by unfold q_calc; rw [if_neg h82, if_pos h95]]; exact tail _ _ _ _ _ _ _ (fun y hy => xrow_ne hy) (by omega) (by omega))
              | (rw [show q_calc (cdM I m p 0) (I 271 b) (I 271 c) = I 271 b * I 271 c by unfold q_calc; rw [if_neg h82, if_neg h95, if_pos h108]]; exact tail _ _ _ _ _ _ _ (fun y hy => xrow_ne hy) (by omega) (by omega))
              | (rw [show q_calc (cdM I m p 0) (I 271 b) (I 271 c) = I 271 b / I 271 c by unfold q_calc; rw [if_neg h82, if_neg h95, if_neg h108, if_neg (hdz (hop4 h82 h95 h108))]]; exact tail _ _ _ _ _ _ _ (fun y hy => xrow_ne hy) (by omega) (by omega))
            · skip
              refine y_loc (pc' := 113) xD_128 rfl rfl rfl rfl ?_
              refine y_loc (pc' := 115) xD_128 rfl rfl rfl rfl ?_
              refine y_op (pc' := 116) xD_128 rfl rfl rfl rfl ?_
              refine y_goto (pc' := 124) xD_128 rfl rfl ?_
              refine m_iast (pc' := 125) (a) xD_128 rfl (by first | rfl | assumption) (by first | assumption | omega) (by decide) (by first | rfl | assumption) rfl ?_
              rw [xu_rowI]
              refine y_goto (pc' := 215) xD_128 rfl rfl ?_
              first
              | (rw [show q_calc (cdM I m p 0) (I 271 b) (I 271 c) = I 271 b + I 271 c by unfold q_calc; rw [if_pos h82]]; exact tail _ _ _ _ _ _ _ (fun y hy => xrow_ne hy) (by omega) (by omega))
              | (rw [show q_calc (cdM I m p 0) (I 271 b) (I 271 c) = I 271 b - I 271 c by unfold q_calc; rw [if_neg h82, if_pos h95]]; exact tail _ _ _ _ _ _ _ (fun y hy => xrow_ne hy) (by omega) (by omega))
              | (rw [show q_calc (cdM I m p 0) (I 271 b) (I 271 c) = I 271 b * I 271 c by unfold q_calc; rw [if_neg h82, if_neg h95, if_pos h108]]; exact tail _ _ _ _ _ _ _ (fun y hy => xrow_ne hy) (by omega) (by omega))
              | (rw [show q_calc (cdM I m p 0) (I 271 b) (I 271 c) = I 271 b / I 271 c by unfold q_calc; rw [if_neg h82, if_neg h95, if_neg h108, if_neg (hdz (hop4 h82 h95 h108))]]; exact tail _ _ _ _ _ _ _ (fun y hy => xrow_ne hy) (by omega) (by omega))
          · skip
            refine y_loc (pc' := 100) xD_128 rfl rfl rfl rfl ?_
            refine y_loc (pc' := 102) xD_128 rfl rfl rfl rfl ?_
            refine y_op (pc' := 103) xD_128 rfl rfl rfl rfl ?_
            refine y_goto (pc' := 124) xD_128 rfl rfl ?_
            refine m_iast (pc' := 125) (a) xD_128 rfl (by first | rfl | assumption) (by first | assumption | omega) (by decide) (by first | rfl | assumption) rfl ?_
            rw [xu_rowI]
            refine y_goto (pc' := 215) xD_128 rfl rfl ?_
            first
            | (rw [show q_calc (cdM I m p 0) (I 271 b) (I 271 c) = I 271 b + I 271 c by unfold q_calc; rw [if_pos h82]]; exact tail _ _ _ _ _ _ _ (fun y hy => xrow_ne hy) (by omega) (by omega))
            | (rw [show q_calc (cdM I m p 0) (I 271 b) (I 271 c) = I 271 b - I 271 c by unfold q_calc; rw [if_neg h82, if_pos h95]]; exact tail _ _ _ _ _ _ _ (fun y hy => xrow_ne hy) (by omega) (by omega))
            | (rw [show q_calc (cdM I m p 0) (I 271 b) (I 271 c) = I 271 b * I 271 c by unfold q_calc; rw [if_neg h82, if_neg h95, if_pos h108]]; exact tail _ _ _ _ _ _ _ (fun y hy => xrow_ne hy) (by omega) (by omega))
            | (rw [show q_calc (cdM I m p 0) (I 271 b) (I 271 c) = I 271 b / I 271 c by unfold q_calc; rw [if_neg h82, if_neg h95, if_neg h108, if_neg (hdz (hop4 h82 h95 h108))]]; exact tail _ _ _ _ _ _ _ (fun y hy => xrow_ne hy) (by omega) (by omega))
        · skip
          refine y_loc (pc' := 87) xD_128 rfl rfl rfl rfl ?_
          refine y_loc (pc' := 89) xD_128 rfl rfl rfl rfl ?_
          refine y_op (pc' := 90) xD_128 rfl rfl rfl rfl ?_
          refine y_goto (pc' := 124) xD_128 rfl rfl ?_
          refine m_iast (pc' := 125) (a) xD_128 rfl (by first | rfl | assumption) (by first | assumption | omega) (by decide) (by first | rfl | assumption) rfl ?_
          rw [xu_rowI]
          refine y_goto (pc' := 215) xD_128 rfl rfl ?_
          first
          | (rw [show q_calc (cdM I m p 0) (I 271 b) (I 271 c) = I 271 b + I 271 c by unfold q_calc; rw [if_pos h82]]; exact tail _ _ _ _ _ _ _ (fun y hy => xrow_ne hy) (by omega) (by omega))
          | (rw [show q_calc (cdM I m p 0) (I 271 b) (I 271 c) = I 271 b - I 271 c by unfold q_calc; rw [if_neg h82, if_pos h95]]; exact tail _ _ _ _ _ _ _ (fun y hy => xrow_ne hy) (by omega) (by omega))
          | (rw [show q_calc (cdM I m p 0) (I 271 b) (I 271 c) = I 271 b * I 271 c by unfold q_calc; rw [if_neg h82, if_neg h95, if_pos h108]]; exact tail _ _ _ _ _ _ _ (fun y hy => xrow_ne hy) (by omega) (by omega))
          | (rw [show q_calc (cdM I m p 0) (I 271 b) (I 271 c) = I 271 b / I 271 c by unfold q_calc; rw [if_neg h82, if_neg h95, if_neg h108, if_neg (hdz (hop4 h82 h95 h108))]]; exact tail _ _ _ _ _ _ _ (fun y hy => xrow_ne hy) (by omega) (by omega))
    · skip
      exact absurd (show t = 0 from n0.mp (by rw [← hop]; exact h36)) (by omega)
  · obtain ⟨a, ha, ea, ca⟩ := hia (Or.inl (by rw [hop, n66]; omega))
    have h1 : 1 ≤ cdM I m p 0 := by rw [hop]; exact (nI_leI (a := 1) (by omega) (by omega)).mpr (by omega)
    obtain ⟨b, hb, eb⟩ := hVb ⟨h1, by rw [hop, n66]; omega⟩
    have hq : q_line UM (cdM I m) (bnM I m nb) n p (I 271) (J 273) = (q_lead (cdM I m) n p (decide (q_yes (decide (cdM I m p 0 = 5)) (I 271 a).toInt64 (I 271 b).toInt64 = 0)), I 271, q_u UM (bnM I m nb p) (q_no (decide (cdM I m p 0 = 5)) (I 271 a).toInt64 (I 271 b).toInt64) (q_yes (decide (cdM I m p 0 = 5)) (I 271 a).toInt64 (I 271 b).toInt64) (J 273)) := by
      unfold q_line
      rw [if_neg (by rw [hop, n0]; omega), if_neg (by rw [hop, n4]; omega), if_pos (by rw [hop, n66]; omega), ca, eb, nI_cl (by omega)]
    rw [hq, xrow_id]
    have fin : ∀ (J' : Nat → Nat → Int64) (z : Int32) (q3 q4 q5 q6 q8 : Option Value), decide (z = 1) = decide (q_yes (decide (cdM I m p 0 = 5)) (I 271 a).toInt64 (I 271 b).toInt64 = 0) → (z = 0 ∨ z = 1) → XP S (d + 3) 128 198 [some (.ref 261), some (.int xm), some (.int xp), q3, q4, q5, q6, some (.int z), q8] [] (hh I J' R) (rI (nI (q_lead (cdM I m) n p (decide (q_yes (decide (cdM I m p 0 = 5)) (I 271 a).toInt64 (I 271 b).toInt64 = 0)))) (hh I J' R)) := by
      intro J' z q3 q4 q5 q6 q8 hz hz2
      rw [← hz]
      refine y_loc (pc' := 199) xD_128 rfl rfl rfl rfl ?_
      refine y_loc (pc' := 200) xD_128 rfl rfl rfl rfl ?_
      refine y_loc (pc' := 201) xD_128 rfl rfl rfl rfl ?_
      refine y_loc (pc' := 203) xD_128 rfl rfl rfl rfl ?_
      refine y_ifeq (pt := 210) (pf := 206) xD_128 rfl rfl rfl (fun h203 => ?_) (fun h203 => ?_)
      · skip
        refine y_ci (pc' := 211) (0) xD_128 rfl rfl rfl rfl ?_
        refine y_callV xD_128 rfl rfl rfl rfl (by first | rfl | assumption) rfl rfl rfl rfl (s_lead hR hm hn hn2 p hp hV0 e1 e2) (fun v h' hq => ?_)
        obtain ⟨rfl, rfl⟩ := hq
        refine y_retI xD_128 rfl rfl ?_
        first | (rw [show decide (z = 1) = decide ((0 : Int32) = 1) by rw [h203]]; exact rI_e rfl) | (rw [show decide (z = 1) = decide ((1 : Int32) = 1) by rw [hz2.resolve_left h203]]; exact rI_e rfl)
      · skip
        refine y_ci (pc' := 207) (1) xD_128 rfl rfl rfl rfl ?_
        refine y_goto (pc' := 211) xD_128 rfl rfl ?_
        refine y_callV xD_128 rfl rfl rfl rfl (by first | rfl | assumption) rfl rfl rfl rfl (s_lead hR hm hn hn2 p hp hV0 e1 e2) (fun v h' hq => ?_)
        obtain ⟨rfl, rfl⟩ := hq
        refine y_retI xD_128 rfl rfl ?_
        first | (rw [show decide (z = 1) = decide ((0 : Int32) = 1) by rw [h203]]; exact rI_e rfl) | (rw [show decide (z = 1) = decide ((1 : Int32) = 1) by rw [hz2.resolve_left h203]]; exact rI_e rfl)
    refine y_loc (pc' := 1) xD_128 rfl rfl rfl rfl ?_
    refine y_loc (pc' := 2) xD_128 rfl rfl rfl rfl ?_
    refine y_loc (pc' := 3) xD_128 rfl rfl rfl rfl ?_
    refine y_ci (pc' := 4) (0) xD_128 rfl rfl rfl rfl ?_
    refine y_callV xD_128 rfl rfl rfl rfl (by first | rfl | assumption) rfl rfl rfl rfl (s_code hR hm p 0 hp10 (by decide) e1 e2 rfl) (fun v h' hq => ?_)
    obtain ⟨rfl, rfl⟩ := hq
    refine y_loc (pc' := 8) xD_128 rfl rfl rfl rfl ?_
    refine y_loc (pc' := 9) xD_128 rfl rfl rfl rfl ?_
    refine y_loc (pc' := 10) xD_128 rfl rfl rfl rfl ?_
    refine y_loc (pc' := 11) xD_128 rfl rfl rfl rfl ?_
    refine y_ci (pc' := 12) (1) xD_128 rfl rfl rfl rfl ?_
    refine y_callV xD_128 rfl rfl rfl rfl (by first | rfl | assumption) rfl rfl rfl rfl (s_code hR hm p 1 hp10 (by decide) e1 e2 rfl) (fun v h' hq => ?_)
    obtain ⟨rfl, rfl⟩ := hq
    refine y_loc (pc' := 17) xD_128 rfl rfl rfl rfl ?_
    refine y_loc (pc' := 18) xD_128 rfl rfl rfl rfl ?_
    refine y_loc (pc' := 19) xD_128 rfl rfl rfl rfl ?_
    refine y_loc (pc' := 20) xD_128 rfl rfl rfl rfl ?_
    refine y_ci (pc' := 21) (2) xD_128 rfl rfl rfl rfl ?_
    refine y_callV xD_128 rfl rfl rfl rfl (by first | rfl | assumption) rfl rfl rfl rfl (s_code hR hm p 2 hp10 (by decide) e1 e2 rfl) (fun v h' hq => ?_)
    obtain ⟨rfl, rfl⟩ := hq
    refine y_loc (pc' := 26) xD_128 rfl rfl rfl rfl ?_
    refine y_loc (pc' := 27) xD_128 rfl rfl rfl rfl ?_
    refine y_loc (pc' := 28) xD_128 rfl rfl rfl rfl ?_
    refine y_loc (pc' := 29) xD_128 rfl rfl rfl rfl ?_
    refine y_ci (pc' := 30) (3) xD_128 rfl rfl rfl rfl ?_
    refine y_callV xD_128 rfl rfl rfl rfl (by first | rfl | assumption) rfl rfl rfl rfl (s_code hR hm p 3 hp10 (by decide) e1 e2 rfl) (fun v h' hq => ?_)
    obtain ⟨rfl, rfl⟩ := hq
    refine y_loc (pc' := 35) xD_128 rfl rfl rfl rfl ?_
    refine y_loc (pc' := 36) xD_128 rfl rfl rfl rfl ?_
    refine y_ifne (pt := 51) (pf := 39) xD_128 rfl rfl rfl (fun h36 => ?_) (fun h36 => ?_)
    · skip
      refine y_loc (pc' := 52) xD_128 rfl rfl rfl rfl ?_
      refine y_ci (pc' := 53) (4) xD_128 rfl rfl rfl rfl ?_
      refine y_icgt (pt := 128) (pf := 56) xD_128 rfl rfl rfl (fun h53 => ?_) (fun h53 => ?_)
      · skip
        refine y_loc (pc' := 129) xD_128 rfl rfl rfl rfl ?_
        refine y_ci (pc' := 131) (6) xD_128 rfl rfl rfl rfl ?_
        refine y_icgt (pt := 215) (pf := 134) xD_128 rfl rfl rfl (fun h131 => ?_) (fun h131 => ?_)
        · skip
          exact absurd h131 (Int32.not_lt.mpr (by rw [hop]; exact n66.mpr (by omega)))
        · skip
          refine y_loc (pc' := 135) xD_128 rfl rfl rfl rfl ?_
          refine y_loc (pc' := 136) xD_128 rfl rfl rfl rfl ?_
          refine y_loc (pc' := 137) xD_128 rfl rfl rfl rfl ?_
          refine y_loc (pc' := 139) xD_128 rfl rfl rfl rfl ?_
          refine y_loc (pc' := 141) xD_128 rfl rfl rfl rfl ?_
          refine y_callV xD_128 rfl rfl rfl rfl (by first | rfl | assumption) rfl rfl rfl rfl (s_note hR hm p hp10 a b ha hb hnb hnb2 e1 e2 ea eb) (fun v h' hq => ?_)
          obtain ⟨rfl, rfl⟩ := hq
          refine y_loc (pc' := 145) xD_128 rfl rfl rfl rfl ?_
          refine y_ci (pc' := 146) (5) xD_128 rfl rfl rfl rfl ?_
          refine y_icne (pt := 174) (pf := 149) xD_128 rfl rfl rfl (fun h146 => ?_) (fun h146 => ?_)
          · skip
            refine y_loc (pc' := 175) xD_128 rfl rfl rfl rfl ?_
            first | refine m_getR (pc' := 178) xD_128 rfl rfl rfl rfl (hR.1 _ _ _ rfl) rfl ?_ | refine m_getR (pc' := 178) xD_128 rfl rfl (by first | rfl | assumption) rfl (by assumption) rfl ?_
            refine y_loc (pc' := 180) xD_128 rfl rfl rfl rfl ?_
            refine m_iald (pc' := 181) (a) xD_128 rfl (by first | rfl | assumption) (by first | assumption | omega) (by decide) (by first | decide | omega) (by first | rfl | assumption) rfl ?_
            refine y_loc (pc' := 182) xD_128 rfl rfl rfl rfl ?_
            first | refine m_getR (pc' := 185) xD_128 rfl rfl rfl rfl (hR.1 _ _ _ rfl) rfl ?_ | refine m_getR (pc' := 185) xD_128 rfl rfl (by first | rfl | assumption) rfl (by assumption) rfl ?_
            refine y_loc (pc' := 187) xD_128 rfl rfl rfl rfl ?_
            refine m_iald (pc' := 188) (b) xD_128 rfl (by first | rfl | assumption) (by first | assumption | omega) (by decide) (by first | decide | omega) (by first | rfl | assumption) rfl ?_
            refine y_icge (pt := 195) (pf := 191) xD_128 rfl rfl rfl (fun h188 => ?_) (fun h188 => ?_)
            · skip
              refine y_ci (pc' := 196) (0) xD_128 rfl rfl rfl rfl ?_
              refine y_loc (pc' := 198) xD_128 rfl rfl rfl rfl ?_
              first
              | exact fin _ 1 _ _ _ _ _ (by rw [Bool.eq_iff_iff]; simp only [decide_eq_true_eq]; exact ⟨fun _ => qz_eq h146 h163, fun _ => by first | rfl | trivial⟩) (Or.inr rfl)
              | exact fin _ 0 _ _ _ _ _ (by rw [Bool.eq_iff_iff]; simp only [decide_eq_true_eq]; exact ⟨fun q => absurd q (by decide), fun q => absurd (qz_eq' h146 q) h163⟩) (Or.inl rfl)
              | exact fin _ 1 _ _ _ _ _ (by rw [Bool.eq_iff_iff]; simp only [decide_eq_true_eq]; exact ⟨fun _ => qz_lt h146 (Int32.not_le.mp h188), fun _ => by first | rfl | trivial⟩) (Or.inr rfl)
              | exact fin _ 0 _ _ _ _ _ (by rw [Bool.eq_iff_iff]; simp only [decide_eq_true_eq]; exact ⟨fun q => absurd q (by decide), fun q => absurd (qz_lt' h146 q) (Int32.not_lt.mpr h188)⟩) (Or.inl rfl)
            · skip
              refine y_ci (pc' := 192) (1) xD_128 rfl rfl rfl rfl ?_
              refine y_goto (pc' := 196) xD_128 rfl rfl ?_
              refine y_loc (pc' := 198) xD_128 rfl rfl rfl rfl ?_
              first
              | exact fin _ 1 _ _ _ _ _ (by rw [Bool.eq_iff_iff]; simp only [decide_eq_true_eq]; exact ⟨fun _ => qz_eq h146 h163, fun _ => by first | rfl | trivial⟩) (Or.inr rfl)
              | exact fin _ 0 _ _ _ _ _ (by rw [Bool.eq_iff_iff]; simp only [decide_eq_true_eq]; exact ⟨fun q => absurd q (by decide), fun q => absurd (qz_eq' h146 q) h163⟩) (Or.inl rfl)
              | exact fin _ 1 _ _ _ _ _ (by rw [Bool.eq_iff_iff]; simp only [decide_eq_true_eq]; exact ⟨fun _ => qz_lt h146 (Int32.not_le.mp h188), fun _ => by first | rfl | trivial⟩) (Or.inr rfl)
              | exact fin _ 0 _ _ _ _ _ (by rw [Bool.eq_iff_iff]; simp only [decide_eq_true_eq]; exact ⟨fun q => absurd q (by decide), fun q => absurd (qz_lt' h146 q) (Int32.not_lt.mpr h188)⟩) (Or.inl rfl)
          · skip
            refine y_loc (pc' := 150) xD_128 rfl rfl rfl rfl ?_
            first | refine m_getR (pc' := 153) xD_128 rfl rfl rfl rfl (hR.1 _ _ _ rfl) rfl ?_ | refine m_getR (pc' := 153) xD_128 rfl rfl (by first | rfl | assumption) rfl (by assumption) rfl ?_
            refine y_loc (pc' := 155) xD_128 rfl rfl rfl rfl ?_
            refine m_iald (pc' := 156) (a) xD_128 rfl (by first | rfl | assumption) (by first | assumption | omega) (by decide) (by first | decide | omega) (by first | rfl | assumption) rfl ?_
            refine y_loc (pc' := 157) xD_128 rfl rfl rfl rfl ?_
            first | refine m_getR (pc' := 160) xD_128 rfl rfl rfl rfl (hR.1 _ _ _ rfl) rfl ?_ | refine m_getR (pc' := 160) xD_128 rfl rfl (by first | rfl | assumption) rfl (by assumption) rfl ?_
            refine y_loc (pc' := 162) xD_128 rfl rfl rfl rfl ?_
            refine m_iald (pc' := 163) (b) xD_128 rfl (by first | rfl | assumption) (by first | assumption | omega) (by decide) (by first | decide | omega) (by first | rfl | assumption) rfl ?_
            refine y_icne (pt := 170) (pf := 166) xD_128 rfl rfl rfl (fun h163 => ?_) (fun h163 => ?_)
            · skip
              refine y_ci (pc' := 171) (0) xD_128 rfl rfl rfl rfl ?_
              refine y_goto (pc' := 196) xD_128 rfl rfl ?_
              refine y_loc (pc' := 198) xD_128 rfl rfl rfl rfl ?_
              first
              | exact fin _ 1 _ _ _ _ _ (by rw [Bool.eq_iff_iff]; simp only [decide_eq_true_eq]; exact ⟨fun _ => qz_eq h146 h163, fun _ => by first | rfl | trivial⟩) (Or.inr rfl)
              | exact fin _ 0 _ _ _ _ _ (by rw [Bool.eq_iff_iff]; simp only [decide_eq_true_eq]; exact ⟨fun q => absurd q (by decide), fun q => absurd (qz_eq' h146 q) h163⟩) (Or.inl rfl)
              | exact fin _ 1 _ _ _ _ _ (by rw [Bool.eq_iff_iff]; simp only [decide_eq_true_eq]; exact ⟨fun _ => qz_lt h146 (Int32.not_le.mp h188), fun _ => by first | rfl | trivial⟩) (Or.inr rfl)
              | exact fin _ 0 _ _ _ _ _ (by rw [Bool.eq_iff_iff]; simp only [decide_eq_true_eq]; exact ⟨fun q => absurd q (by decide), fun q => absurd (qz_lt' h146 q) (Int32.not_lt.mpr h188)⟩) (Or.inl rfl)
            · skip
              refine y_ci (pc' := 167) (1) xD_128 rfl rfl rfl rfl ?_
              refine y_goto (pc' := 196) xD_128 rfl rfl ?_
              refine y_loc (pc' := 198) xD_128 rfl rfl rfl rfl ?_
              first
              | exact fin _ 1 _ _ _ _ _ (by rw [Bool.eq_iff_iff]; simp only [decide_eq_true_eq]; exact ⟨fun _ => qz_eq h146 h163, fun _ => by first | rfl | trivial⟩) (Or.inr rfl)
              | exact fin _ 0 _ _ _ _ _ (by rw [Bool.eq_iff_iff]; simp only [decide_eq_true_eq]; exact ⟨fun q => absurd q (by decide), fun q => absurd (qz_eq' h146 q) h163⟩) (Or.inl rfl)
              | exact fin _ 1 _ _ _ _ _ (by rw [Bool.eq_iff_iff]; simp only [decide_eq_true_eq]; exact ⟨fun _ => qz_lt h146 (Int32.not_le.mp h188), fun _ => by first | rfl | trivial⟩) (Or.inr rfl)
              | exact fin _ 0 _ _ _ _ _ (by rw [Bool.eq_iff_iff]; simp only [decide_eq_true_eq]; exact ⟨fun q => absurd q (by decide), fun q => absurd (qz_lt' h146 q) (Int32.not_lt.mpr h188)⟩) (Or.inl rfl)
      · skip
        exact absurd (Int32.not_lt.mp h53) (by rw [hop]; exact fun q => absurd (n4.mp q) (by omega))
    · skip
      exact absurd (show t = 0 from n0.mp (by rw [← hop]; exact h36)) (by omega)
  · have hq : q_line UM (cdM I m) (bnM I m nb) n p (I 271) (J 273) = (q_lead (cdM I m) n p false, I 271, J 273) := by
      unfold q_line
      rw [if_neg (by rw [hop, n0]; omega), if_neg (by rw [hop, n4]; omega), if_neg (by rw [hop, n66]; omega)]
    rw [hq, xrow_id, xrow_id]
    refine y_loc (pc' := 1) xD_128 rfl rfl rfl rfl ?_
    refine y_loc (pc' := 2) xD_128 rfl rfl rfl rfl ?_
    refine y_loc (pc' := 3) xD_128 rfl rfl rfl rfl ?_
    refine y_ci (pc' := 4) (0) xD_128 rfl rfl rfl rfl ?_
    refine y_callV xD_128 rfl rfl rfl rfl (by first | rfl | assumption) rfl rfl rfl rfl (s_code hR hm p 0 hp10 (by decide) e1 e2 rfl) (fun v h' hq => ?_)
    obtain ⟨rfl, rfl⟩ := hq
    refine y_loc (pc' := 8) xD_128 rfl rfl rfl rfl ?_
    refine y_loc (pc' := 9) xD_128 rfl rfl rfl rfl ?_
    refine y_loc (pc' := 10) xD_128 rfl rfl rfl rfl ?_
    refine y_loc (pc' := 11) xD_128 rfl rfl rfl rfl ?_
    refine y_ci (pc' := 12) (1) xD_128 rfl rfl rfl rfl ?_
    refine y_callV xD_128 rfl rfl rfl rfl (by first | rfl | assumption) rfl rfl rfl rfl (s_code hR hm p 1 hp10 (by decide) e1 e2 rfl) (fun v h' hq => ?_)
    obtain ⟨rfl, rfl⟩ := hq
    refine y_loc (pc' := 17) xD_128 rfl rfl rfl rfl ?_
    refine y_loc (pc' := 18) xD_128 rfl rfl rfl rfl ?_
    refine y_loc (pc' := 19) xD_128 rfl rfl rfl rfl ?_
    refine y_loc (pc' := 20) xD_128 rfl rfl rfl rfl ?_
    refine y_ci (pc' := 21) (2) xD_128 rfl rfl rfl rfl ?_
    refine y_callV xD_128 rfl rfl rfl rfl (by first | rfl | assumption) rfl rfl rfl rfl (s_code hR hm p 2 hp10 (by decide) e1 e2 rfl) (fun v h' hq => ?_)
    obtain ⟨rfl, rfl⟩ := hq
    refine y_loc (pc' := 26) xD_128 rfl rfl rfl rfl ?_
    refine y_loc (pc' := 27) xD_128 rfl rfl rfl rfl ?_
    refine y_loc (pc' := 28) xD_128 rfl rfl rfl rfl ?_
    refine y_loc (pc' := 29) xD_128 rfl rfl rfl rfl ?_
    refine y_ci (pc' := 30) (3) xD_128 rfl rfl rfl rfl ?_
    refine y_callV xD_128 rfl rfl rfl rfl (by first | rfl | assumption) rfl rfl rfl rfl (s_code hR hm p 3 hp10 (by decide) e1 e2 rfl) (fun v h' hq => ?_)
    obtain ⟨rfl, rfl⟩ := hq
    refine y_loc (pc' := 35) xD_128 rfl rfl rfl rfl ?_
    refine y_loc (pc' := 36) xD_128 rfl rfl rfl rfl ?_
    refine y_ifne (pt := 51) (pf := 39) xD_128 rfl rfl rfl (fun h36 => ?_) (fun h36 => ?_)
    · skip
      refine y_loc (pc' := 52) xD_128 rfl rfl rfl rfl ?_
      refine y_ci (pc' := 53) (4) xD_128 rfl rfl rfl rfl ?_
      refine y_icgt (pt := 128) (pf := 56) xD_128 rfl rfl rfl (fun h53 => ?_) (fun h53 => ?_)
      · skip
        refine y_loc (pc' := 129) xD_128 rfl rfl rfl rfl ?_
        refine y_ci (pc' := 131) (6) xD_128 rfl rfl rfl rfl ?_
        refine y_icgt (pt := 215) (pf := 134) xD_128 rfl rfl rfl (fun h131 => ?_) (fun h131 => ?_)
        · skip
          exact tail _ _ _ _ _ _ _ (fun y hy => rfl) (by omega) (by omega)
        · skip
          exact absurd (Int32.not_lt.mp h131) (by rw [hop]; exact fun q => absurd (n66.mp q) (by omega))
      · skip
        exact absurd (Int32.not_lt.mp h53) (by rw [hop]; exact fun q => absurd (n4.mp q) (by omega))
    · skip
      exact absurd (show t = 0 from n0.mp (by rw [← hop]; exact h36)) (by omega)
end MN
end
section
/-! The model: a call. -/
section MC
variable {S : XS} {d m : Nat} {I : Nat → Nat → Int32} {J : Nat → Nat → Int64} {R : Nat → Nat → Option Nat}
theorem cdM_eq {I I' : Nat → Nat → Int32} (h : I' 264 = I 264) : cdM I' m = cdM I m := by
  funext x y
  unfold cdM
  rw [h]
theorem q_find_eq {I I' : Nat → Nat → Int32} (h1 : I' 267 = I 267) (h2 : I' 268 = I 268) (p : Nat) : ∀ f k, q_find I' m p f k = q_find I m p f k
  | 0, _ => rfl
  | f + 1, k => by simp only [q_find, h1, h2, q_find_eq h1 h2 p f (k + 1)]
theorem bnM_eq {I I' : Nat → Nat → Int32} {nb : Nat} (h1 : I' 267 = I 267) (h2 : I' 268 = I 268) : bnM I' m nb = bnM I m nb := by
  funext p
  exact q_find_eq h1 h2 p nb 0
theorem s_mcall_loop (hR : RF R) (hm : m < 2) {n : Nat} (hn : I 265 m = nI n) (hn2 : n ≤ 10) (hV : VC (cdM I m) n) {nb : Nat} (hnb : I 261 10 = nI nb) (hnb2 : nb ≤ 12) {xm : Int32} (e1 : xm = nI m) : ∀ (f p : Nat) (v : Nat → Int32) (N : Nat → Int64) (q4 : Option Value), f ≤ 40 → p ≤ n →
    XP S (d + 4) 127 4 [some (.ref 261), some (.int xm), some (.int (nI p)), some (.int (nI (40 - f))), q4] [] (hh (xrow I 271 v) (xrow J 273 N) R) (rJ (q_call UM (cdM I m) (bnM I m nb) n f p v N).1 (hh (xrow I 271 (q_call UM (cdM I m) (bnM I m nb) n f p v N).2.1) (xrow J 273 (q_call UM (cdM I m) (bnM I m nb) n f p v N).2.2) R)) := by
  have b0 : ∀ v : Nat → Int32, xrow I 271 v 265 = I 265 := fun v => xrow_ne (by decide)
  intro f
  induction f with
  | zero =>
    intro p v N q4 hf hp
    refine y_loc (pc' := 5) xD_127 rfl rfl rfl rfl ?_
    refine y_ci (pc' := 7) (40) xD_127 rfl rfl rfl rfl ?_
    refine y_icge (pt := 99) (pf := 10) xD_127 rfl rfl rfl (fun h7 => ?_) (fun h7 => ?_)
    · skip
      refine y_loc (pc' := 100) xD_127 rfl rfl rfl rfl ?_
      refine y_loc (pc' := 101) xD_127 rfl rfl rfl rfl ?_
      first | refine m_getR (pc' := 104) xD_127 rfl rfl rfl rfl (hR.1 _ _ _ rfl) rfl ?_ | refine m_getR (pc' := 104) xD_127 rfl rfl (by first | rfl | assumption) rfl (by assumption) rfl ?_
      refine y_loc (pc' := 105) xD_127 rfl rfl rfl rfl ?_
      refine m_iald (pc' := 106) (m) xD_127 rfl (by first | rfl | assumption) (by first | assumption | omega) (by decide) (by first | decide | omega) (by first | rfl | assumption) rfl ?_
      refine y_icge (pt := 115) (pf := 109) xD_127 rfl rfl rfl (fun h106 => ?_) (fun h106 => ?_)
      · skip
        refine y_cj (pc' := 116) (0) xD_127 rfl rfl rfl rfl ?_
        refine y_retJ xD_127 rfl rfl ?_
        rw [b0, hn] at h106
        first | (rw [q_call_end (Nat.not_lt.mpr ((nI_leI (by omega) (by omega)).mp h106))]; exact rJ_e rfl) | (rw [q_call_0 (Nat.lt_of_not_le (fun q => h106 ((nI_leI (by omega) (by omega)).mpr q)))]; exact rJ_e rfl)
      · skip
        refine y_ldc (pc' := 112) xD_127 rfl rfl rfl rfl ?_
        refine y_goto (pc' := 116) xD_127 rfl rfl ?_
        refine y_retJ xD_127 rfl rfl ?_
        rw [b0, hn] at h106
        first | (rw [q_call_end (Nat.not_lt.mpr ((nI_leI (by omega) (by omega)).mp h106))]; exact rJ_e rfl) | (rw [q_call_0 (Nat.lt_of_not_le (fun q => h106 ((nI_leI (by omega) (by omega)).mpr q)))]; exact rJ_e rfl)
    · exact absurd (show (40 : Int32) ≤ nI (40 - 0) from by decide) h7
  | succ f ih =>
    intro p v N q4 hf hp
    have hcd : cdM (xrow I 271 v) m = cdM I m := cdM_eq (xrow_ne (by decide))
    have hbn : bnM (xrow I 271 v) m nb = bnM I m nb := bnM_eq (xrow_ne (by decide)) (xrow_ne (by decide))
    have e5 : nI (40 - (f + 1)) + 1 = nI (40 - f) := by rw [nI_1]; congr 1; omega
    refine y_loc (pc' := 5) xD_127 rfl rfl rfl rfl ?_
    refine y_ci (pc' := 7) (40) xD_127 rfl rfl rfl rfl ?_
    refine y_icge (pt := 99) (pf := 10) xD_127 rfl rfl rfl (fun h7 => ?_) (fun h7 => ?_)
    · exact absurd h7 (nI_ge (b := 40) (by omega) (by omega))
    · skip
      refine y_loc (pc' := 11) xD_127 rfl rfl rfl rfl ?_
      refine y_loc (pc' := 12) xD_127 rfl rfl rfl rfl ?_
      first | refine m_getR (pc' := 15) xD_127 rfl rfl rfl rfl (hR.1 _ _ _ rfl) rfl ?_ | refine m_getR (pc' := 15) xD_127 rfl rfl (by first | rfl | assumption) rfl (by assumption) rfl ?_
      refine y_loc (pc' := 16) xD_127 rfl rfl rfl rfl ?_
      refine m_iald (pc' := 17) (m) xD_127 rfl (by first | rfl | assumption) (by first | assumption | omega) (by decide) (by first | decide | omega) (by first | rfl | assumption) rfl ?_
      skip
      refine y_icge (pt := 99) (pf := 20) xD_127 rfl rfl rfl (fun h17 => ?_) (fun h17 => ?_)
      · skip
        have h17a : ¬ p < n := by
          rw [b0, hn] at h17
          exact Nat.not_lt.mpr ((nI_leI (by omega) (by omega)).mp h17)
        rw [q_call_end h17a]
        refine y_loc (pc' := 100) xD_127 rfl rfl rfl rfl ?_
        refine y_loc (pc' := 101) xD_127 rfl rfl rfl rfl ?_
        first | refine m_getR (pc' := 104) xD_127 rfl rfl rfl rfl (hR.1 _ _ _ rfl) rfl ?_ | refine m_getR (pc' := 104) xD_127 rfl rfl (by first | rfl | assumption) rfl (by assumption) rfl ?_
        refine y_loc (pc' := 105) xD_127 rfl rfl rfl rfl ?_
        refine m_iald (pc' := 106) (m) xD_127 rfl (by first | rfl | assumption) (by first | assumption | omega) (by decide) (by first | decide | omega) (by first | rfl | assumption) rfl ?_
        refine y_icge (pt := 115) (pf := 109) xD_127 rfl rfl rfl (fun h106 => ?_) (fun h106 => ?_)
        · skip
          refine y_cj (pc' := 116) (0) xD_127 rfl rfl rfl rfl ?_
          refine y_retJ xD_127 rfl rfl ?_
          exact rJ_e rfl
        · skip
          exact absurd h17 h106
      · skip
        have hpn : p < n := by
          rw [b0, hn] at h17
          exact Nat.lt_of_not_le (fun q => h17 ((nI_leI (by omega) (by omega)).mpr q))
        have hp10 : p < 10 := by omega
        obtain ⟨⟨t, ht, hop⟩, hV3, hVa, hVb, hVc⟩ := hV p hpn
        have next : ∀ (op : Value), ¬ cdM I m p 0 = 8 → ¬ cdM I m p 0 = 9 → ¬ (cdM I m p 0 = 4 ∧ v (cdM I m p 3).toNatClampNeg = 0) → XP S (d + 4) 127 86 [some (.ref 261), some (.int xm), some (.int (nI p)), some (.int (nI (40 - (f + 1)))), some op] [] (hh (xrow I 271 v) (xrow J 273 N) R) (rJ (q_call UM (cdM I m) (bnM I m nb) n (f + 1) p v N).1 (hh (xrow I 271 (q_call UM (cdM I m) (bnM I m nb) n (f + 1) p v N).2.1) (xrow J 273 (q_call UM (cdM I m) (bnM I m nb) n (f + 1) p v N).2.2) R)) := by
          intro op h8 h9 h4
          rw [q_call_n hpn h8 h9 h4]
          refine y_loc (pc' := 87) xD_127 rfl rfl rfl rfl ?_
          refine y_loc (pc' := 88) xD_127 rfl rfl rfl rfl ?_
          refine y_loc (pc' := 89) xD_127 rfl rfl rfl rfl ?_
          refine y_callV xD_127 rfl rfl rfl rfl (by first | rfl | assumption) rfl rfl rfl rfl (s_go (n := n) (nb := nb) hR hm (by rw [b0]; exact hn) hn2 p hpn (by rw [hcd]; exact hV p hpn) (by rw [xrow_ne (by decide)]; exact hnb) hnb2 (by rw [hcd, xrow_at]; exact h4) e1 rfl) (fun v h' hq => ?_)
          obtain ⟨rfl, rfl⟩ := hq
          rw [hcd, hbn, xrow_at, xrow_at, xrow_row, xrow_row]
          refine y_loc (pc' := 93) xD_127 rfl rfl rfl rfl ?_
          refine y_inc (pc' := 96) (nI (40 - f)) xD_127 rfl rfl rfl e5 rfl rfl ?_
          refine y_goto (pc' := 4) xD_127 rfl rfl ?_
          exact ih _ _ _ _ (by omega) q_line_le
        refine y_loc (pc' := 21) xD_127 rfl rfl rfl rfl ?_
        refine y_loc (pc' := 22) xD_127 rfl rfl rfl rfl ?_
        refine y_loc (pc' := 23) xD_127 rfl rfl rfl rfl ?_
        refine y_ci (pc' := 24) (0) xD_127 rfl rfl rfl rfl ?_
        refine y_callV xD_127 rfl rfl rfl rfl (by first | rfl | assumption) rfl rfl rfl rfl (s_code hR hm p 0 hp10 (by decide) e1 rfl rfl) (fun v h' hq => ?_)
        obtain ⟨rfl, rfl⟩ := hq
        rw [hcd]
        refine y_loc (pc' := 29) xD_127 rfl rfl rfl rfl ?_
        refine y_loc (pc' := 31) xD_127 rfl rfl rfl rfl ?_
        refine y_ci (pc' := 33) (8) xD_127 rfl rfl rfl rfl ?_
        refine y_icne (pt := 50) (pf := 36) xD_127 rfl rfl rfl (fun h33 => ?_) (fun h33 => ?_)
        · skip
          refine y_loc (pc' := 52) xD_127 rfl rfl rfl rfl ?_
          refine y_ci (pc' := 54) (9) xD_127 rfl rfl rfl rfl ?_
          refine y_icne (pt := 61) (pf := 57) xD_127 rfl rfl rfl (fun h54 => ?_) (fun h54 => ?_)
          · skip
            refine y_loc (pc' := 63) xD_127 rfl rfl rfl rfl ?_
            refine y_ci (pc' := 64) (4) xD_127 rfl rfl rfl rfl ?_
            refine y_icne (pt := 86) (pf := 67) xD_127 rfl rfl rfl (fun h64 => ?_) (fun h64 => ?_)
            · skip
              first
              | exact next _ h33 h54 (fun q => h64 q.1)
              | exact next _ h33 h54 (fun q => h79 (by rw [xrow_at]; have := q.2; rw [ec, nI_cl (by omega)] at this; exact this))
            · skip
              refine y_loc (pc' := 68) xD_127 rfl rfl rfl rfl ?_
              first | refine m_getR (pc' := 71) xD_127 rfl rfl rfl rfl (hR.1 _ _ _ rfl) rfl ?_ | refine m_getR (pc' := 71) xD_127 rfl rfl (by first | rfl | assumption) rfl (by assumption) rfl ?_
              refine y_loc (pc' := 72) xD_127 rfl rfl rfl rfl ?_
              refine y_loc (pc' := 73) xD_127 rfl rfl rfl rfl ?_
              refine y_loc (pc' := 74) xD_127 rfl rfl rfl rfl ?_
              refine y_ci (pc' := 75) (3) xD_127 rfl rfl rfl rfl ?_
              refine y_callV xD_127 rfl rfl rfl rfl (by first | rfl | assumption) rfl rfl rfl rfl (s_code hR hm p 3 hp10 (by decide) e1 rfl rfl) (fun v h' hq => ?_)
              obtain ⟨rfl, rfl⟩ := hq
              rw [hcd]
              obtain ⟨c, hc, ec⟩ := hVc (by rw [h64]; exact ⟨by decide, by decide⟩)
              refine m_iald (pc' := 79) (c) xD_127 rfl (by first | rfl | assumption) (by first | assumption | omega) (by decide) (by first | decide | omega) (by first | rfl | assumption) rfl ?_
              refine y_ifne (pt := 86) (pf := 82) xD_127 rfl rfl rfl (fun h79 => ?_) (fun h79 => ?_)
              · skip
                first
                | exact next _ h33 h54 (fun q => h64 q.1)
                | exact next _ h33 h54 (fun q => h79 (by rw [xrow_at]; have := q.2; rw [ec, nI_cl (by omega)] at this; exact this))
              · skip
                refine y_ldc (pc' := 85) xD_127 rfl rfl rfl rfl ?_
                rw [q_call_4 hpn h64 (by rw [ec, nI_cl (by omega)]; rw [xrow_at] at h79; exact h79)]
                refine y_retJ xD_127 rfl rfl ?_
                exact rJ_e rfl
          · skip
            refine y_ldc (pc' := 60) xD_127 rfl rfl rfl rfl ?_
            rw [q_call_9 hpn h54]
            refine y_retJ xD_127 rfl rfl ?_
            exact rJ_e rfl
        · skip
          refine y_loc (pc' := 37) xD_127 rfl rfl rfl rfl ?_
          first | refine m_getR (pc' := 40) xD_127 rfl rfl rfl rfl (hR.1 _ _ _ rfl) rfl ?_ | refine m_getR (pc' := 40) xD_127 rfl rfl (by first | rfl | assumption) rfl (by assumption) rfl ?_
          refine y_loc (pc' := 41) xD_127 rfl rfl rfl rfl ?_
          refine y_loc (pc' := 42) xD_127 rfl rfl rfl rfl ?_
          refine y_loc (pc' := 43) xD_127 rfl rfl rfl rfl ?_
          refine y_ci (pc' := 44) (1) xD_127 rfl rfl rfl rfl ?_
          refine y_callV xD_127 rfl rfl rfl rfl (by first | rfl | assumption) rfl rfl rfl rfl (s_code hR hm p 1 hp10 (by decide) e1 rfl rfl) (fun v h' hq => ?_)
          obtain ⟨rfl, rfl⟩ := hq
          rw [hcd]
          obtain ⟨a, ha, ea⟩ := hVa (Or.inr h33)
          refine m_iald (pc' := 48) (a) xD_127 rfl (by first | rfl | assumption) (by first | assumption | omega) (by decide) (by first | decide | omega) (by first | rfl | assumption) rfl ?_
          refine y_op (pc' := 49) xD_127 rfl rfl rfl rfl ?_
          rw [q_call_8 hpn h33, ea, nI_cl (by omega), xrow_at]
          refine y_retJ xD_127 rfl rfl ?_
          exact rJ_e rfl
/-- call(m) -/
theorem s_mcall (hR : RF R) (hm : m < 2) {n : Nat} (hn : I 265 m = nI n) (hn2 : n ≤ 10) (hV : VC (cdM I m) n) {nb : Nat} (hnb : I 261 10 = nI nb) (hnb2 : nb ≤ 12) {xm : Int32} (e1 : xm = nI m) : XP S (d + 4) 127 0 (xent [.ref 261, .int xm] 5) [] (hh I J R) (rJ (q_call UM (cdM I m) (bnM I m nb) n 40 0 (I 271) (J 273)).1 (hh (xrow I 271 (q_call UM (cdM I m) (bnM I m nb) n 40 0 (I 271) (J 273)).2.1) (xrow J 273 (q_call UM (cdM I m) (bnM I m nb) n 40 0 (I 271) (J 273)).2.2) R)) := by
  have key := s_mcall_loop (S := S) (d := d) (J := J) hR hm hn hn2 hV hnb hnb2 e1 40 0 (I 271) (J 273) none (Nat.le_refl _) (Nat.zero_le _)
  rw [xrow_id, xrow_id] at key
  refine y_ci (pc' := 1) (0) xD_127 rfl rfl rfl rfl ?_
  refine y_loc (pc' := 2) xD_127 rfl rfl rfl rfl ?_
  refine y_ci (pc' := 3) (0) xD_127 rfl rfl rfl rfl ?_
  refine y_loc (pc' := 4) xD_127 rfl rfl rfl rfl ?_
  exact key
end MC
end
section
/-! A step, a run: the words; the class's doStep. -/
/-- the value of a result -/
def q_val (r : Int64) : Int32 := if r = r.toInt32.toInt64 then r.toInt32 else 0
/-- a step's numbers are well: its kind, its REF -/
def VS (f : Nat → Int32) (j : Nat) : Prop := (∃ t, t < 8 ∧ ¬ t = 2 ∧ ¬ t = 3 ∧ f (4 * j) = nI t) ∧ (f (4 * j) < 2 → f (4 * j + 3) = -1 ∨ ∃ r, r < j ∧ f (4 * j + 3) = nI r)
/-- what a call is given -/
def q_arg (f : Nat → Int32) (j : Nat) (v : Nat → Int32) (res : Nat → Int64) : Nat → Int32 := upd (upd (upd (upd v 0 (f (4 * j + 1))) 1 (if f (4 * j + 3) = -1 then f (4 * j + 2) else q_val (res (f (4 * j + 3)).toNatClampNeg))) 2 0) 3 0
def q_do (U : Nat → Int64 → Int64 → (Nat → Int64) → Nat → Int64) (cdf : Nat → Nat → Nat → Int32) (bnf : Nat → Nat → Option Nat) (ln : Nat → Nat) (f : Nat → Int32) (j : Nat) (v : Nat → Int32) (N res : Nat → Int64) : Int64 × (Nat → Int32) × (Nat → Int64) :=
  if f (4 * j) < 2 then q_call U (cdf (f (4 * j)).toNatClampNeg) (bnf (f (4 * j)).toNatClampNeg) (ln (f (4 * j)).toNatClampNeg) 40 0 (q_arg f j v res) N
  else (0, upd v (f (4 * j)).toNatClampNeg (f (4 * j + 1)), N)
/-- the class's program is well -/
def lnC (I : Nat → Nat → Int32) (m : Nat) : Nat := (I (4 + 6 * m) 5).toNatClampNeg
def PC (I : Nat → Nat → Int32) : Prop := ∀ m, m < 2 → I (4 + 6 * m) 5 = nI (lnC I m) ∧ lnC I m ≤ 10 ∧ VC (cdC I (4 + 6 * m)) (lnC I m) ∧ ∀ p, p < lnC I m → I (4 + 6 * m + 5) p = -1 ∨ ∃ k, k < 12 ∧ I (4 + 6 * m + 5) p = nI k
theorem PC_eq {I I' : Nat → Nat → Int32} (h : ∀ x, x < 16 → I' x = I x) (hP : PC I) : PC I' ∧ ∀ m, m < 2 → lnC I' m = lnC I m ∧ cdC I' (4 + 6 * m) = cdC I (4 + 6 * m) ∧ bnC I' (4 + 6 * m) = bnC I (4 + 6 * m) := by
  have key : ∀ m, m < 2 → lnC I' m = lnC I m ∧ cdC I' (4 + 6 * m) = cdC I (4 + 6 * m) ∧ bnC I' (4 + 6 * m) = bnC I (4 + 6 * m) := by
    intro m hm
    refine ⟨?_, cdC_eq (by omega) h, bnC_eq (by omega) h⟩
    unfold lnC
    rw [h _ (by omega)]
  refine ⟨fun m hm => ?_, key⟩
  obtain ⟨k1, k2, k3⟩ := key m hm
  rw [k1, k2, h _ (by omega), h _ (by omega)]
  exact hP m hm
section DS
variable {S : XS} {d a : Nat} {I : Nat → Nat → Int32} {J : Nat → Nat → Int64} {R : Nat → Nat → Option Nat} {h : XH}
theorem s_valueOf {w : Int64} : XP S d 39 0 (xent [.long w] 2) [] h (rI (q_val w) h) := by
  refine y_loc (pc' := 1) xD_39 rfl rfl rfl rfl ?_
  refine y_loc (pc' := 2) xD_39 rfl rfl rfl rfl ?_
  refine y_op (pc' := 3) xD_39 rfl rfl rfl rfl ?_
  refine y_op (pc' := 4) xD_39 rfl rfl rfl rfl ?_
  refine y_op (pc' := 5) xD_39 rfl rfl rfl rfl ?_
  refine y_ifne (pt := 13) (pf := 8) xD_39 rfl rfl rfl (fun h5 => ?_) (fun h5 => ?_)
  · skip
    refine y_ci (pc' := 14) (0) xD_39 rfl rfl rfl rfl ?_
    refine y_retI xD_39 rfl rfl ?_
    refine rI_e ?_
    unfold q_val
    first | rw [if_pos (lg_eq.mp h5)] | rw [if_neg (fun q => h5 (lg_eq.mpr q))]
  · skip
    refine y_loc (pc' := 9) xD_39 rfl rfl rfl rfl ?_
    refine y_op (pc' := 10) xD_39 rfl rfl rfl rfl ?_
    refine y_goto (pc' := 14) xD_39 rfl rfl ?_
    refine y_retI xD_39 rfl rfl ?_
    refine rI_e ?_
    unfold q_val
    first | rw [if_pos (lg_eq.mp h5)] | rw [if_neg (fun q => h5 (lg_eq.mpr q))]
/-- Runner.doStep -/
theorem s_doStep (hR : RF R) (hc : isCase a) (hP : PC I) (j : Nat) (hj : j < 6) (hV : VS (I (a + 1)) j) {x : Int32} (hx : x = nI j) :
    XP S (d + 4) 37 0 (xent [.ref 20, .ref a, .int x, .ref 2] 7) [] (hh I J R) (rJ (q_do UC (fun m => cdC I (4 + 6 * m)) (fun m => bnC I (4 + 6 * m)) (lnC I) (I (a + 1)) j (I 21) (J 22) (J (a + 2))).1 (hh (xrow I 21 (q_do UC (fun m => cdC I (4 + 6 * m)) (fun m => bnC I (4 + 6 * m)) (lnC I) (I (a + 1)) j (I 21) (J 22) (J (a + 2))).2.1) (xrow J 22 (q_do UC (fun m => cdC I (4 + 6 * m)) (fun m => bnC I (4 + 6 * m)) (lnC I) (I (a + 1)) j (I 21) (J 22) (J (a + 2))).2.2) R)) := by
  have ca := hc
  obtain ⟨hk0, hk1, hk2, hk3⟩ := kCase hc
  obtain ⟨hr0, hr1, hr2⟩ := hR.2 a hc
  obtain ⟨⟨t, ht, ht2, ht3, hkd⟩, hrf⟩ := hV
  have hkd2 : I (a + 1) (4 * j + 0) = nI t := hkd
  by_cases hlt : t < 2
  · have hlt2 : I (a + 1) (4 * j) < 2 := by rw [hkd]; exact nI_lt (b := 2) hlt (by omega)
    unfold q_do
    rw [if_pos hlt2, hkd, nI_cl (by omega)]
    have ha1 : a + 1 ≠ 21 := by unfold isCase at ca; omega
    have hA : 4 + 6 * t = 4 ∨ 4 + 6 * t = 10 := by omega
    have fin : ∀ (y' : Int32) (q4 q5 q6 : Option Value), y' = (if I (a + 1) (4 * j + 3) = -1 then I (a + 1) (4 * j + 2) else q_val (J (a + 2) (I (a + 1) (4 * j + 3)).toNatClampNeg)) → q4 = some (.int (I (a + 1) (4 * j + 0))) → XP S (d + 4) 37 82 [some (.ref 20), some (.ref a), some (.int x), some (.ref 2), q4, q5, q6] [] (hh (xrow I 21 (upd (upd (I 21) 0 (I (a + 1) (4 * j + 1))) 1 y')) J R) (rJ (q_call UC (cdC I (4 + 6 * t)) (bnC I (4 + 6 * t)) (lnC I t) 40 0 (q_arg (I (a + 1)) j (I 21) (J (a + 2))) (J 22)).1 (hh (xrow I 21 (q_call UC (cdC I (4 + 6 * t)) (bnC I (4 + 6 * t)) (lnC I t) 40 0 (q_arg (I (a + 1)) j (I 21) (J (a + 2))) (J 22)).2.1) (xrow J 22 (q_call UC (cdC I (4 + 6 * t)) (bnC I (4 + 6 * t)) (lnC I t) 40 0 (q_arg (I (a + 1)) j (I 21) (J (a + 2))) (J 22)).2.2) R)) := by
      intro y' q4 q5 q6 hy h4
      subst h4
      have hr3 : R 3 t = some (4 + 6 * t) := by
        rcases (show t = 0 ∨ t = 1 by omega) with rfl | rfl
        · exact hR.1 _ _ _ rfl
        · exact hR.1 _ _ _ rfl
      have harg : upd (upd (upd (upd (I 21) 0 (I (a + 1) (4 * j + 1))) 1 y') 2 0) 3 0 = q_arg (I (a + 1)) j (I 21) (J (a + 2)) := by rw [hy]; rfl
      obtain ⟨hP', hE⟩ := PC_eq (I' := xrow I 21 (q_arg (I (a + 1)) j (I 21) (J (a + 2)))) (fun y hy => xrow_ne (by omega)) hP
      obtain ⟨p1, p2, p3, p4⟩ := hP' t hlt
      obtain ⟨E1, E2, E3⟩ := hE t hlt
      refine y_loc (pc' := 83) xD_37 rfl rfl rfl rfl ?_
      first | refine m_getR (pc' := 86) xD_37 rfl rfl rfl rfl (hR.1 _ _ _ rfl) rfl ?_ | refine m_getR (pc' := 86) xD_37 rfl rfl (by first | rfl | assumption) rfl (by assumption) rfl ?_
      refine y_ci (pc' := 87) (2) xD_37 rfl rfl rfl rfl ?_
      refine y_ci (pc' := 88) (0) xD_37 rfl rfl rfl rfl ?_
      refine m_iast (pc' := 89) (2) xD_37 rfl (by first | rfl | assumption) (by first | assumption | omega) (by decide) (by first | rfl | assumption) rfl ?_
      rw [xu_rowI, xrow_row, xrow_at]
      refine y_loc (pc' := 90) xD_37 rfl rfl rfl rfl ?_
      first | refine m_getR (pc' := 93) xD_37 rfl rfl rfl rfl (hR.1 _ _ _ rfl) rfl ?_ | refine m_getR (pc' := 93) xD_37 rfl rfl (by first | rfl | assumption) rfl (by assumption) rfl ?_
      refine y_ci (pc' := 94) (3) xD_37 rfl rfl rfl rfl ?_
      refine y_ci (pc' := 95) (0) xD_37 rfl rfl rfl rfl ?_
      refine m_iast (pc' := 96) (3) xD_37 rfl (by first | rfl | assumption) (by first | assumption | omega) (by decide) (by first | rfl | assumption) rfl ?_
      rw [xu_rowI, xrow_row, xrow_at, harg]
      refine y_loc (pc' := 97) xD_37 rfl rfl rfl rfl ?_
      refine y_loc (pc' := 98) xD_37 rfl rfl rfl rfl ?_
      first | refine m_getR (pc' := 101) xD_37 rfl rfl rfl rfl (hR.1 _ _ _ rfl) rfl ?_ | refine m_getR (pc' := 101) xD_37 rfl rfl (by first | rfl | assumption) rfl (by assumption) rfl ?_
      refine y_loc (pc' := 103) xD_37 rfl rfl rfl rfl ?_
      refine m_aald (pc' := 104) (t) (q := 1) xD_37 rfl (by first | rfl | assumption) (by decide) (by first | assumption | omega) (by decide) hkd2 hr3 rfl ?_
      refine y_callV xD_37 rfl rfl rfl rfl (by first | rfl | assumption) rfl rfl rfl rfl (s_callMethod hR hA p1 p2 p3 p4) (fun v h' hq => ?_)
      obtain ⟨rfl, rfl⟩ := hq
      rw [E1, E2, E3, xrow_at, xrow_row]
      refine y_retJ xD_37 rfl rfl ?_
      exact rJ_e rfl
    refine y_loc (pc' := 1) xD_37 rfl rfl rfl rfl ?_
    refine y_loc (pc' := 2) xD_37 rfl rfl rfl rfl ?_
    refine y_ci (pc' := 3) (0) xD_37 rfl rfl rfl rfl ?_
    refine y_callV xD_37 rfl rfl rfl rfl (by first | rfl | assumption) rfl rfl rfl rfl (s_part hR hc j 0 hj (by decide) hx rfl) (fun v h' hq => ?_)
    obtain ⟨rfl, rfl⟩ := hq
    refine y_loc (pc' := 8) xD_37 rfl rfl rfl rfl ?_
    refine y_loc (pc' := 9) xD_37 rfl rfl rfl rfl ?_
    refine y_loc (pc' := 10) xD_37 rfl rfl rfl rfl ?_
    refine y_ci (pc' := 11) (1) xD_37 rfl rfl rfl rfl ?_
    refine y_callV xD_37 rfl rfl rfl rfl (by first | rfl | assumption) rfl rfl rfl rfl (s_part hR hc j 1 hj (by decide) hx rfl) (fun v h' hq => ?_)
    obtain ⟨rfl, rfl⟩ := hq
    refine y_loc (pc' := 16) xD_37 rfl rfl rfl rfl ?_
    refine y_loc (pc' := 18) xD_37 rfl rfl rfl rfl ?_
    refine y_callS xD_37 rfl rfl rfl rfl rfl rfl rfl rfl (s_isMethod) (fun v h' hq => ?_)
    obtain ⟨rfl, rfl⟩ := hq
    refine y_ifne (pt := 35) (pf := 24) xD_37 rfl rfl rfl (fun h21 => ?_) (fun h21 => ?_)
    · skip
      refine y_loc (pc' := 36) xD_37 rfl rfl rfl rfl ?_
      refine y_loc (pc' := 37) xD_37 rfl rfl rfl rfl ?_
      refine y_ci (pc' := 38) (3) xD_37 rfl rfl rfl rfl ?_
      refine y_callV xD_37 rfl rfl rfl rfl (by first | rfl | assumption) rfl rfl rfl rfl (s_part hR hc j 3 hj (by decide) hx rfl) (fun v h' hq => ?_)
      obtain ⟨rfl, rfl⟩ := hq
      refine y_loc (pc' := 43) xD_37 rfl rfl rfl rfl ?_
      refine y_loc (pc' := 44) xD_37 rfl rfl rfl rfl ?_
      first | refine m_getR (pc' := 47) xD_37 rfl rfl rfl rfl (hR.1 _ _ _ rfl) rfl ?_ | refine m_getR (pc' := 47) xD_37 rfl rfl (by first | rfl | assumption) rfl (by assumption) rfl ?_
      refine y_ci (pc' := 48) (0) xD_37 rfl rfl rfl rfl ?_
      refine y_loc (pc' := 50) xD_37 rfl rfl rfl rfl ?_
      refine m_iast (pc' := 51) (0) xD_37 rfl (by first | rfl | assumption) (by first | assumption | omega) (by decide) (by first | rfl | assumption) rfl ?_
      rw [xu_rowI]
      refine y_loc (pc' := 52) xD_37 rfl rfl rfl rfl ?_
      first | refine m_getR (pc' := 55) xD_37 rfl rfl rfl rfl (hR.1 _ _ _ rfl) rfl ?_ | refine m_getR (pc' := 55) xD_37 rfl rfl (by first | rfl | assumption) rfl (by assumption) rfl ?_
      refine y_ci (pc' := 56) (1) xD_37 rfl rfl rfl rfl ?_
      refine y_loc (pc' := 58) xD_37 rfl rfl rfl rfl ?_
      refine y_ci (pc' := 59) (-1) xD_37 rfl rfl rfl rfl ?_
      refine y_icne (pt := 71) (pf := 62) xD_37 rfl rfl rfl (fun h59 => ?_) (fun h59 => ?_)
      · skip
        refine y_loc (pc' := 72) xD_37 rfl rfl rfl rfl ?_
        first | refine m_getR (pc' := 75) xD_37 rfl rfl rfl rfl (hR.1 _ _ _ rfl) rfl ?_ | refine m_getR (pc' := 75) xD_37 rfl rfl (by first | rfl | assumption) rfl (by assumption) rfl ?_
        refine y_loc (pc' := 77) xD_37 rfl rfl rfl rfl ?_
        obtain ⟨r, hr, er⟩ := (hrf hlt2).resolve_left h59
        have hr6 : r < 6 := by omega
        refine m_jald (pc' := 78) (r) xD_37 rfl (by first | rfl | assumption) (by first | assumption | omega) (by decide) (by first | rfl | assumption) rfl ?_
        refine y_callS xD_37 rfl rfl rfl rfl rfl rfl rfl rfl (s_valueOf) (fun v h' hq => ?_)
        obtain ⟨rfl, rfl⟩ := hq
        refine m_iast (pc' := 82) (1) xD_37 rfl (by first | rfl | assumption) (by first | assumption | omega) (by decide) (by first | rfl | assumption) rfl ?_
        rw [xu_rowI, xrow_row, xrow_at]
        first
        | exact fin _ _ _ _ (by rw [if_pos h59]) rfl
        | exact fin _ _ _ _ (by rw [if_neg h59, er, nI_cl (by omega)]) rfl
      · skip
        refine y_loc (pc' := 63) xD_37 rfl rfl rfl rfl ?_
        refine y_loc (pc' := 64) xD_37 rfl rfl rfl rfl ?_
        refine y_ci (pc' := 65) (2) xD_37 rfl rfl rfl rfl ?_
        refine y_callV xD_37 rfl rfl rfl rfl (by first | rfl | assumption) rfl rfl rfl rfl (s_part hR hc j 2 hj (by decide) hx rfl) (fun v h' hq => ?_)
        obtain ⟨rfl, rfl⟩ := hq
        rw [xrow_ne ha1]
        refine y_goto (pc' := 81) xD_37 rfl rfl ?_
        refine m_iast (pc' := 82) (1) xD_37 rfl (by first | rfl | assumption) (by first | assumption | omega) (by decide) (by first | rfl | assumption) rfl ?_
        rw [xu_rowI, xrow_row, xrow_at]
        first
        | exact fin _ _ _ _ (by rw [if_pos h59]) rfl
        | exact fin _ _ _ _ (by rw [if_neg h59, er, nI_cl (by omega)]) rfl
    · skip
      exact absurd ⟨show (0 : Int32) ≤ I (a + 1) (4 * j) by rw [hkd]; exact nI_pos' (by omega), hlt2⟩ (zB_0.mp h21)
  · have hlt2 : ¬ I (a + 1) (4 * j) < 2 := by rw [hkd]; exact nI_nlt (b := 2) (by omega) (by omega)
    unfold q_do
    rw [if_neg hlt2, hkd, nI_cl (by omega)]
    refine y_loc (pc' := 1) xD_37 rfl rfl rfl rfl ?_
    refine y_loc (pc' := 2) xD_37 rfl rfl rfl rfl ?_
    refine y_ci (pc' := 3) (0) xD_37 rfl rfl rfl rfl ?_
    refine y_callV xD_37 rfl rfl rfl rfl (by first | rfl | assumption) rfl rfl rfl rfl (s_part hR hc j 0 hj (by decide) hx rfl) (fun v h' hq => ?_)
    obtain ⟨rfl, rfl⟩ := hq
    refine y_loc (pc' := 8) xD_37 rfl rfl rfl rfl ?_
    refine y_loc (pc' := 9) xD_37 rfl rfl rfl rfl ?_
    refine y_loc (pc' := 10) xD_37 rfl rfl rfl rfl ?_
    refine y_ci (pc' := 11) (1) xD_37 rfl rfl rfl rfl ?_
    refine y_callV xD_37 rfl rfl rfl rfl (by first | rfl | assumption) rfl rfl rfl rfl (s_part hR hc j 1 hj (by decide) hx rfl) (fun v h' hq => ?_)
    obtain ⟨rfl, rfl⟩ := hq
    refine y_loc (pc' := 16) xD_37 rfl rfl rfl rfl ?_
    refine y_loc (pc' := 18) xD_37 rfl rfl rfl rfl ?_
    refine y_callS xD_37 rfl rfl rfl rfl rfl rfl rfl rfl (s_isMethod) (fun v h' hq => ?_)
    obtain ⟨rfl, rfl⟩ := hq
    refine y_ifne (pt := 35) (pf := 24) xD_37 rfl rfl rfl (fun h21 => ?_) (fun h21 => ?_)
    · skip
      exact absurd (zB_n0.mp h21).2 hlt2
    · skip
      refine y_loc (pc' := 25) xD_37 rfl rfl rfl rfl ?_
      first | refine m_getR (pc' := 28) xD_37 rfl rfl rfl rfl (hR.1 _ _ _ rfl) rfl ?_ | refine m_getR (pc' := 28) xD_37 rfl rfl (by first | rfl | assumption) rfl (by assumption) rfl ?_
      refine y_loc (pc' := 30) xD_37 rfl rfl rfl rfl ?_
      refine y_loc (pc' := 32) xD_37 rfl rfl rfl rfl ?_
      refine m_iast (pc' := 33) (t) xD_37 rfl (by first | rfl | assumption) (by first | assumption | omega) (by decide) hkd2 rfl ?_
      rw [xu_rowI]
      refine y_cj (pc' := 34) (0) xD_37 rfl rfl rfl rfl ?_
      refine y_retJ xD_37 rfl rfl ?_
      show rJ 0 (hh (xrow I 21 _) (xrow J 22 (J 22)) R) _ _
      rw [xrow_id]
      exact rJ_e rfl
end DS
end
section
/-! Arrays.fill; the steps of a case, one after the other. -/
section FI
variable {S : XS} {d a : Nat} {I : Nat → Nat → Int32} {J : Nat → Nat → Int64} {R : Nat → Nat → Option Nat}
theorem y_alen {k pc pc' n : Nat} {L : XL} {r : List Value} {Q : Option Value → XH → Prop} {T : List (Nat × Instr × Nat)} (hD : XDec k T) (hd : xat T pc = some (.arraylength, 1)) (hk : kq a = (100, n) ∨ kq a = (101, n)) (ha : a ≠ 0) (hp : pc + 1 = pc') (K : XP S d k pc' L (.int (nI n) :: r) (hh I J R) Q) : XP S d k pc L (.ref a :: r) (hh I J R) Q := by
  refine y_ldc hD hd rfl ?_ hp K
  show xalen S (hh I J R) (.ref a :: r) = _
  unfold xalen
  rcases hk with hk | hk <;> simp only [if_neg ha, xkd_hh, hk] <;> rfl
theorem s_fillI (n : Nat) (hk : kq a = (100, n)) (hn : n < 2000) (ha : a ≠ 0) {x : Int32} : XP S d 35 0 (xent [.ref a, .int x] 4) [] (hh I J R) (rV (hh (xrow I a (fun i => if i < n then x else I a i)) J R)) := by
  have loop : ∀ (f k : Nat), k + f = n → XP S d 35 5 [some (.ref a), some (.int x), some (.int (nI k)), some (.int (nI n))] [] (hh (xrow I a (fun i => if i < k then x else I a i)) J R) (rV (hh (xrow I a (fun i => if i < n then x else I a i)) J R)) := by
    intro f
    induction f with
    | zero =>
      intro k hkn
      refine y_loc (pc' := 6) xD_35 rfl rfl rfl rfl ?_
      refine y_loc (pc' := 7) xD_35 rfl rfl rfl rfl ?_
      refine y_icge (pt := 20) (pf := 10) xD_35 rfl rfl rfl (fun h7 => ?_) (fun h7 => ?_)
      · skip
        refine y_retV xD_35 rfl rfl ?_
        exact ⟨rfl, by rw [show k = n by omega]⟩
      · skip
        exact absurd (nI_le (by omega) (by omega)) h7
    | succ f ih =>
      intro k hkn
      have e1 : nI k + 1 = nI (k + 1) := nI_1 k
      have e2 : xu (xrow I a (fun i => if i < k then x else I a i)) a k x = xrow I a (fun i => if i < k + 1 then x else I a i) := by
        rw [xu_row, xrow_row]
        congr 1
        funext i
        rw [xrow_at]
        by_cases h1 : i = k
        · rw [if_pos h1, if_pos (by omega)]
        · rw [if_neg h1]
          by_cases h2 : i < k
          · rw [if_pos h2, if_pos (by omega)]
          · rw [if_neg h2, if_neg (by omega)]
      refine y_loc (pc' := 6) xD_35 rfl rfl rfl rfl ?_
      refine y_loc (pc' := 7) xD_35 rfl rfl rfl rfl ?_
      refine y_icge (pt := 20) (pf := 10) xD_35 rfl rfl rfl (fun h7 => ?_) (fun h7 => ?_)
      · skip
        exact absurd h7 (nI_ge (by omega) (by omega))
      · skip
        refine y_loc (pc' := 11) xD_35 rfl rfl rfl rfl ?_
        refine y_loc (pc' := 12) xD_35 rfl rfl rfl rfl ?_
        refine y_loc (pc' := 13) xD_35 rfl rfl rfl rfl ?_
        refine m_iast (pc' := 14) (k) xD_35 rfl (by first | rfl | assumption) (by first | assumption | omega) (by first | decide | assumption) (by first | rfl | assumption) rfl ?_
        rw [e2]
        refine y_inc (pc' := 17) (nI (k + 1)) xD_35 rfl rfl rfl e1 rfl rfl ?_
        refine y_goto (pc' := 5) xD_35 rfl rfl ?_
        exact ih (k + 1) (by omega)
  have key := loop n 0 (by omega)
  rw [show (fun i => if i < 0 then x else I a i) = I a from by funext i; rw [if_neg (by omega)], xrow_id] at key
  refine y_ci (pc' := 1) (0) xD_35 rfl rfl rfl rfl ?_
  refine y_loc (pc' := 2) xD_35 rfl rfl rfl rfl ?_
  refine y_loc (pc' := 3) xD_35 rfl rfl rfl rfl ?_
  refine y_alen (pc' := 4) (n := n) xD_35 rfl (Or.inl hk) ha rfl ?_
  refine y_loc (pc' := 5) xD_35 rfl rfl rfl rfl ?_
  exact key
theorem s_fillJ (n : Nat) (hk : kq a = (101, n)) (hn : n < 2000) (ha : a ≠ 0) {x : Int64} : XP S d 36 0 (xent [.ref a, .long x] 5) [] (hh I J R) (rV (hh I (xrow J a (fun i => if i < n then x else J a i)) R)) := by
  have loop : ∀ (f k : Nat), k + f = n → XP S d 36 6 [some (.ref a), some (.long x), none, some (.int (nI k)), some (.int (nI n))] [] (hh I (xrow J a (fun i => if i < k then x else J a i)) R) (rV (hh I (xrow J a (fun i => if i < n then x else J a i)) R)) := by
    intro f
    induction f with
    | zero =>
      intro k hkn
      refine y_loc (pc' := 7) xD_36 rfl rfl rfl rfl ?_
      refine y_loc (pc' := 9) xD_36 rfl rfl rfl rfl ?_
      refine y_icge (pt := 22) (pf := 12) xD_36 rfl rfl rfl (fun h9 => ?_) (fun h9 => ?_)
      · skip
        refine y_retV xD_36 rfl rfl ?_
        exact ⟨rfl, by rw [show k = n by omega]⟩
      · skip
        exact absurd (nI_le (by omega) (by omega)) h9
    | succ f ih =>
      intro k hkn
      have e1 : nI k + 1 = nI (k + 1) := nI_1 k
      have e2 : xu (xrow J a (fun i => if i < k then x else J a i)) a k x = xrow J a (fun i => if i < k + 1 then x else J a i) := by
        rw [xu_row, xrow_row]
        congr 1
        funext i
        rw [xrow_at]
        by_cases h1 : i = k
        · rw [if_pos h1, if_pos (by omega)]
        · rw [if_neg h1]
          by_cases h2 : i < k
          · rw [if_pos h2, if_pos (by omega)]
          · rw [if_neg h2, if_neg (by omega)]
      refine y_loc (pc' := 7) xD_36 rfl rfl rfl rfl ?_
      refine y_loc (pc' := 9) xD_36 rfl rfl rfl rfl ?_
      refine y_icge (pt := 22) (pf := 12) xD_36 rfl rfl rfl (fun h9 => ?_) (fun h9 => ?_)
      · skip
        exact absurd h9 (nI_ge (by omega) (by omega))
      · skip
        refine y_loc (pc' := 13) xD_36 rfl rfl rfl rfl ?_
        refine y_loc (pc' := 14) xD_36 rfl rfl rfl rfl ?_
        refine y_loc (pc' := 15) xD_36 rfl rfl rfl rfl ?_
        refine m_jast (pc' := 16) (k) xD_36 rfl (by first | rfl | assumption) (by first | assumption | omega) (by first | decide | assumption) (by first | rfl | assumption) rfl ?_
        rw [e2]
        refine y_inc (pc' := 19) (nI (k + 1)) xD_36 rfl rfl rfl e1 rfl rfl ?_
        refine y_goto (pc' := 6) xD_36 rfl rfl ?_
        exact ih (k + 1) (by omega)
  have key := loop n 0 (by omega)
  rw [show (fun i => if i < 0 then x else J a i) = J a from by funext i; rw [if_neg (by omega)], xrow_id] at key
  refine y_ci (pc' := 1) (0) xD_36 rfl rfl rfl rfl ?_
  refine y_loc (pc' := 2) xD_36 rfl rfl rfl rfl ?_
  refine y_loc (pc' := 3) xD_36 rfl rfl rfl rfl ?_
  refine y_alen (pc' := 4) (n := n) xD_36 rfl (Or.inr hk) ha rfl ?_
  refine y_loc (pc' := 6) xD_36 rfl rfl rfl rfl ?_
  exact key
end FI
/-- the steps of a case, j of them done: variables, distances, results, whether it is over -/
def q_rs (U : Nat → Int64 → Int64 → (Nat → Int64) → Nat → Int64) (cdf : Nat → Nat → Nat → Int32) (bnf : Nat → Nat → Option Nat) (ln : Nat → Nat) (f : Nat → Int32) (v : Nat → Int32) (N res : Nat → Int64) : Nat → (Nat → Int32) × (Nat → Int64) × (Nat → Int64) × Bool
  | 0 => (v, N, res, false)
  | j + 1 => if (q_rs U cdf bnf ln f v N res j).2.2.2 = true then ((q_rs U cdf bnf ln f v N res j).1, (q_rs U cdf bnf ln f v N res j).2.1, vp_updL (q_rs U cdf bnf ln f v N res j).2.2.1 j 4294967296, true)
    else ((q_do U cdf bnf ln f j (q_rs U cdf bnf ln f v N res j).1 (q_rs U cdf bnf ln f v N res j).2.1 (q_rs U cdf bnf ln f v N res j).2.2.1).2.1, (q_do U cdf bnf ln f j (q_rs U cdf bnf ln f v N res j).1 (q_rs U cdf bnf ln f v N res j).2.1 (q_rs U cdf bnf ln f v N res j).2.2.1).2.2, vp_updL (q_rs U cdf bnf ln f v N res j).2.2.1 j (q_do U cdf bnf ln f j (q_rs U cdf bnf ln f v N res j).1 (q_rs U cdf bnf ln f v N res j).2.1 (q_rs U cdf bnf ln f v N res j).2.2.1).1, decide ((q_do U cdf bnf ln f j (q_rs U cdf bnf ln f v N res j).1 (q_rs U cdf bnf ln f v N res j).2.1 (q_rs U cdf bnf ln f v N res j).2.2.1).1 = 4294967299))
section QR
variable {U : Nat → Int64 → Int64 → (Nat → Int64) → Nat → Int64} {cdf : Nat → Nat → Nat → Int32} {bnf : Nat → Nat → Option Nat} {ln : Nat → Nat} {f : Nat → Int32} {v : Nat → Int32} {N res : Nat → Int64} {j : Nat}
theorem q_rs_t (h : (q_rs U cdf bnf ln f v N res j).2.2.2 = true) : q_rs U cdf bnf ln f v N res (j + 1) = ((q_rs U cdf bnf ln f v N res j).1, (q_rs U cdf bnf ln f v N res j).2.1, vp_updL (q_rs U cdf bnf ln f v N res j).2.2.1 j 4294967296, true) := by
  simp only [q_rs]
  rw [if_pos h]
theorem q_rs_f (h : (q_rs U cdf bnf ln f v N res j).2.2.2 = false) : q_rs U cdf bnf ln f v N res (j + 1) = ((q_do U cdf bnf ln f j (q_rs U cdf bnf ln f v N res j).1 (q_rs U cdf bnf ln f v N res j).2.1 (q_rs U cdf bnf ln f v N res j).2.2.1).2.1, (q_do U cdf bnf ln f j (q_rs U cdf bnf ln f v N res j).1 (q_rs U cdf bnf ln f v N res j).2.1 (q_rs U cdf bnf ln f v N res j).2.2.1).2.2, vp_updL (q_rs U cdf bnf ln f v N res j).2.2.1 j (q_do U cdf bnf ln f j (q_rs U cdf bnf ln f v N res j).1 (q_rs U cdf bnf ln f v N res j).2.1 (q_rs U cdf bnf ln f v N res j).2.2.1).1, decide ((q_do U cdf bnf ln f j (q_rs U cdf bnf ln f v N res j).1 (q_rs U cdf bnf ln f v N res j).2.1 (q_rs U cdf bnf ln f v N res j).2.2.1).1 = 4294967299)) := by
  simp only [q_rs]
  rw [if_neg (by rw [h]; decide)]
end QR
end
section
/-! The class's perform: the steps. -/
section PF
variable {S : XS} {d a : Nat} {I : Nat → Nat → Int32} {J : Nat → Nat → Int64} {R : Nat → Nat → Option Nat}
/-- the class's runs of a case's steps -/
def rsC (I : Nat → Nat → Int32) (a : Nat) (v : Nat → Int32) (N res : Nat → Int64) : Nat → (Nat → Int32) × (Nat → Int64) × (Nat → Int64) × Bool := q_rs UC (fun m => cdC I (4 + 6 * m)) (fun m => bnC I (4 + 6 * m)) (lnC I) (I (a + 1)) v N res
theorem q_do_eq {U : Nat → Int64 → Int64 → (Nat → Int64) → Nat → Int64} {cdf cdf' : Nat → Nat → Nat → Int32} {bnf bnf' : Nat → Nat → Option Nat} {ln ln' : Nat → Nat} {f : Nat → Int32} {j : Nat} {v : Nat → Int32} {N res : Nat → Int64} (hV : VS f j) (h : ∀ m, m < 2 → ln' m = ln m ∧ cdf' m = cdf m ∧ bnf' m = bnf m) : q_do U cdf' bnf' ln' f j v N res = q_do U cdf bnf ln f j v N res := by
  unfold q_do
  obtain ⟨⟨t, ht, h2, h3, hk⟩, -⟩ := hV
  by_cases hc : f (4 * j) < 2
  · rw [if_pos hc, if_pos hc]
    rw [hk] at hc ⊢
    have ht2 : t < 2 := (nI_ltI (b := 2) (by omega) (by omega)).mp hc
    rw [nI_cl (by omega)]
    obtain ⟨h1, h2, h3⟩ := h t ht2
    rw [h1, h2, h3]
  · rw [if_neg hc, if_neg hc]
theorem s_perf_loop (hR : RF R) (hc : isCase a) (hP : PC I) {n : Nat} (hn : I a 3 = nI n) (hn6 : n ≤ 6) (hV : ∀ j, j < n → VS (I (a + 1)) j) (v : Nat → Int32) (N res : Nat → Int64) {Q : Option Value → XH → Prop}
    (K : ∀ q : Option Value, XP S (d + 5) 34 97 [some (.ref 20), some (.ref a), some (.ref 2), q, some (.int (nI n))] [] (hh (xrow I 21 (rsC I a v N res n).1) (xrow (xrow J 22 (rsC I a v N res n).2.1) (a + 2) (rsC I a v N res n).2.2.1) R) Q) : ∀ (f j : Nat), j + f = n →
    XP S (d + 5) 34 33 [some (.ref 20), some (.ref a), some (.ref 2), some (.int (zB (rsC I a v N res j).2.2.2)), some (.int (nI j))] [] (hh (xrow I 21 (rsC I a v N res j).1) (xrow (xrow J 22 (rsC I a v N res j).2.1) (a + 2) (rsC I a v N res j).2.2.1) R) Q := by
  have ca := hc
  obtain ⟨hk0, hk1, hk2, hk3⟩ := kCase hc
  obtain ⟨hr0, hr1, hr2⟩ := hR.2 a hc
  have x0 : a ≠ 21 := by unfold isCase at ca; omega
  have x1 : a + 1 ≠ 21 := by unfold isCase at ca; omega
  have x2 : (22 : Nat) ≠ a + 2 := by unfold isCase at ca; omega
  have x3 : a + 2 ≠ 22 := by unfold isCase at ca; omega
  intro f
  induction f with
  | zero =>
    intro j hj
    have hj : j = n := by omega
    subst hj
    refine y_loc (pc' := 35) xD_34 rfl rfl rfl rfl ?_
    refine y_loc (pc' := 36) xD_34 rfl rfl rfl rfl ?_
    refine m_get (pc' := 39) xD_34 rfl rfl (by first | rfl | assumption) rfl rfl ?_
    refine y_icge (pt := 97) (pf := 42) xD_34 rfl rfl rfl (fun h39 => ?_) (fun h39 => ?_)
    · skip
      exact K _
    · exact absurd (show xrow I 21 _ a 3 ≤ nI j by rw [xrow_ne x0, hn]; exact Int32.le_refl _) h39
  | succ f ih =>
    intro j hj
    have hjn : j < n := by omega
    have hj6 : j < 6 := by omega
    have e1 : nI j + 1 = nI (j + 1) := nI_1 j
    obtain ⟨hP', hE⟩ := PC_eq (I' := xrow I 21 (rsC I a v N res j).1) (fun y hy => xrow_ne (by omega)) hP
    have stJ : ∀ (N' : Nat → Int64) (r' : Nat → Int64) (w : Int64), xu (xrow (xrow J 22 N') (a + 2) r') (a + 2) j w = xrow (xrow J 22 N') (a + 2) (vp_updL r' j w) := by
      intro N' r' w
      rw [xu_row, xrow_row, xrow_at]
      rfl
    have swap : ∀ (N' N'' : Nat → Int64) (r' : Nat → Int64), xrow (xrow (xrow J 22 N') (a + 2) r') 22 N'' = xrow (xrow J 22 N'') (a + 2) r' := by
      intro N' N'' r'
      funext y z
      unfold xrow
      by_cases h1 : y = 22
      · rw [if_pos h1, if_neg (by rw [h1]; exact x2), if_pos h1]
      · rw [if_neg h1]
        by_cases h2 : y = a + 2
        · rw [if_pos h2, if_pos h2]
        · rw [if_neg h2, if_neg h2, if_neg h1, if_neg h1]
    have hdo : q_do UC (fun m => cdC (xrow I 21 (rsC I a v N res j).1) (4 + 6 * m)) (fun m => bnC (xrow I 21 (rsC I a v N res j).1) (4 + 6 * m)) (lnC (xrow I 21 (rsC I a v N res j).1)) (I (a + 1)) j (rsC I a v N res j).1 (rsC I a v N res j).2.1 (rsC I a v N res j).2.2.1 = q_do UC (fun m => cdC I (4 + 6 * m)) (fun m => bnC I (4 + 6 * m)) (lnC I) (I (a + 1)) j (rsC I a v N res j).1 (rsC I a v N res j).2.1 (rsC I a v N res j).2.2.1 := q_do_eq (hV j hjn) hE
    have step := ih (j + 1) (by omega)
    cases hov : (rsC I a v N res j).2.2.2 with
    | true =>
      have hs : rsC I a v N res (j + 1) = ((rsC I a v N res j).1, (rsC I a v N res j).2.1, vp_updL (rsC I a v N res j).2.2.1 j 4294967296, true) := q_rs_t hov
      rw [hs] at step
      refine y_loc (pc' := 35) xD_34 rfl rfl rfl rfl ?_
      refine y_loc (pc' := 36) xD_34 rfl rfl rfl rfl ?_
      refine m_get (pc' := 39) xD_34 rfl rfl (by first | rfl | assumption) rfl rfl ?_
      refine y_icge (pt := 97) (pf := 42) xD_34 rfl rfl rfl (fun h39 => ?_) (fun h39 => ?_)
      · skip
        exact absurd h39 (by rw [xrow_ne x0, hn]; exact nI_ge hjn (by omega))
      · skip
        refine y_loc (pc' := 43) xD_34 rfl rfl rfl rfl ?_
        first | refine m_getR (pc' := 46) xD_34 rfl rfl rfl rfl (hR.1 _ _ _ rfl) rfl ?_ | refine m_getR (pc' := 46) xD_34 rfl rfl (by first | rfl | assumption) rfl (by assumption) rfl ?_
        refine y_loc (pc' := 48) xD_34 rfl rfl rfl rfl ?_
        refine y_loc (pc' := 49) xD_34 rfl rfl rfl rfl ?_
        refine y_ifeq (pt := 58) (pf := 52) xD_34 rfl rfl rfl (fun h49 => ?_) (fun h49 => ?_)
        · skip
          exact absurd h49 (by decide)
        · skip
          refine y_ldc (pc' := 55) xD_34 rfl rfl rfl rfl ?_
          refine y_goto (pc' := 66) xD_34 rfl rfl ?_
          refine m_jast (pc' := 67) (j) xD_34 rfl (by first | rfl | assumption) (by first | assumption | omega) (by first | decide | assumption) (by first | rfl | assumption) rfl ?_
          rw [stJ]
          refine y_loc (pc' := 68) xD_34 rfl rfl rfl rfl ?_
          refine y_ifne (pt := 85) (pf := 71) xD_34 rfl rfl rfl (fun h68 => ?_) (fun h68 => ?_)
          · skip
            refine y_ci (pc' := 86) (1) xD_34 rfl rfl rfl rfl ?_
            refine y_goto (pc' := 90) xD_34 rfl rfl ?_
            refine y_loc (pc' := 91) xD_34 rfl rfl rfl rfl ?_
            refine y_inc (pc' := 94) (nI (j + 1)) xD_34 rfl rfl rfl e1 rfl rfl ?_
            refine y_goto (pc' := 33) xD_34 rfl rfl ?_
            exact step
          · skip
            exact absurd h68 (by decide)
    | false =>
      have hs : rsC I a v N res (j + 1) = ((q_do UC (fun m => cdC I (4 + 6 * m)) (fun m => bnC I (4 + 6 * m)) (lnC I) (I (a + 1)) j (rsC I a v N res j).1 (rsC I a v N res j).2.1 (rsC I a v N res j).2.2.1).2.1, (q_do UC (fun m => cdC I (4 + 6 * m)) (fun m => bnC I (4 + 6 * m)) (lnC I) (I (a + 1)) j (rsC I a v N res j).1 (rsC I a v N res j).2.1 (rsC I a v N res j).2.2.1).2.2, vp_updL (rsC I a v N res j).2.2.1 j (q_do UC (fun m => cdC I (4 + 6 * m)) (fun m => bnC I (4 + 6 * m)) (lnC I) (I (a + 1)) j (rsC I a v N res j).1 (rsC I a v N res j).2.1 (rsC I a v N res j).2.2.1).1, decide ((q_do UC (fun m => cdC I (4 + 6 * m)) (fun m => bnC I (4 + 6 * m)) (lnC I) (I (a + 1)) j (rsC I a v N res j).1 (rsC I a v N res j).2.1 (rsC I a v N res j).2.2.1).1 = 4294967299)) := q_rs_f hov
      rw [hs] at step
      refine y_loc (pc' := 35) xD_34 rfl rfl rfl rfl ?_
      refine y_loc (pc' := 36) xD_34 rfl rfl rfl rfl ?_
      refine m_get (pc' := 39) xD_34 rfl rfl (by first | rfl | assumption) rfl rfl ?_
      refine y_icge (pt := 97) (pf := 42) xD_34 rfl rfl rfl (fun h39 => ?_) (fun h39 => ?_)
      · skip
        exact absurd h39 (by rw [xrow_ne x0, hn]; exact nI_ge hjn (by omega))
      · skip
        refine y_loc (pc' := 43) xD_34 rfl rfl rfl rfl ?_
        first | refine m_getR (pc' := 46) xD_34 rfl rfl rfl rfl (hR.1 _ _ _ rfl) rfl ?_ | refine m_getR (pc' := 46) xD_34 rfl rfl (by first | rfl | assumption) rfl (by assumption) rfl ?_
        refine y_loc (pc' := 48) xD_34 rfl rfl rfl rfl ?_
        refine y_loc (pc' := 49) xD_34 rfl rfl rfl rfl ?_
        refine y_ifeq (pt := 58) (pf := 52) xD_34 rfl rfl rfl (fun h49 => ?_) (fun h49 => ?_)
        · skip
          refine y_loc (pc' := 59) xD_34 rfl rfl rfl rfl ?_
          refine y_loc (pc' := 60) xD_34 rfl rfl rfl rfl ?_
          refine y_loc (pc' := 62) xD_34 rfl rfl rfl rfl ?_
          refine y_loc (pc' := 63) xD_34 rfl rfl rfl rfl ?_
          refine y_callV xD_34 rfl rfl rfl rfl (by first | rfl | assumption) rfl rfl rfl rfl (s_doStep hR hc hP' j hj6 (by rw [xrow_ne x1]; exact hV j hjn) rfl) (fun v h' hq => ?_)
          obtain ⟨rfl, rfl⟩ := hq
          rw [xrow_ne x1, xrow_at, xrow_ne x2, xrow_at, xrow_at, hdo, xrow_row, swap]
          refine m_jast (pc' := 67) (j) xD_34 rfl (by first | rfl | assumption) (by first | assumption | omega) (by first | decide | assumption) (by first | rfl | assumption) rfl ?_
          rw [stJ]
          refine y_loc (pc' := 68) xD_34 rfl rfl rfl rfl ?_
          refine y_ifne (pt := 85) (pf := 71) xD_34 rfl rfl rfl (fun h68 => ?_) (fun h68 => ?_)
          · skip
            refine y_ci (pc' := 86) (1) xD_34 rfl rfl rfl rfl ?_
            refine y_goto (pc' := 90) xD_34 rfl rfl ?_
            refine y_loc (pc' := 91) xD_34 rfl rfl rfl rfl ?_
            refine y_inc (pc' := 94) (nI (j + 1)) xD_34 rfl rfl rfl e1 rfl rfl ?_
            refine y_goto (pc' := 33) xD_34 rfl rfl ?_
            first | exact absurd rfl h68 | (rw [decide_eq_true (lg_eq.mp h82)] at step; exact step) | (rw [decide_eq_false (fun q => h82 (lg_eq.mpr q))] at step; exact step)
          · skip
            refine y_loc (pc' := 72) xD_34 rfl rfl rfl rfl ?_
            first | refine m_getR (pc' := 75) xD_34 rfl rfl rfl rfl (hR.1 _ _ _ rfl) rfl ?_ | refine m_getR (pc' := 75) xD_34 rfl rfl (by first | rfl | assumption) rfl (by assumption) rfl ?_
            refine y_loc (pc' := 77) xD_34 rfl rfl rfl rfl ?_
            refine m_jald (pc' := 78) (j) xD_34 rfl (by first | rfl | assumption) (by first | assumption | omega) (by first | decide | assumption) (by first | rfl | assumption) rfl ?_
            rw [xrow_at, pk_uLs]
            refine y_ldc (pc' := 81) xD_34 rfl rfl rfl rfl ?_
            refine y_op (pc' := 82) xD_34 rfl rfl rfl rfl ?_
            refine y_ifne (pt := 89) (pf := 85) xD_34 rfl rfl rfl (fun h82 => ?_) (fun h82 => ?_)
            · skip
              refine y_ci (pc' := 90) (0) xD_34 rfl rfl rfl rfl ?_
              refine y_loc (pc' := 91) xD_34 rfl rfl rfl rfl ?_
              refine y_inc (pc' := 94) (nI (j + 1)) xD_34 rfl rfl rfl e1 rfl rfl ?_
              refine y_goto (pc' := 33) xD_34 rfl rfl ?_
              first | exact absurd rfl h68 | (rw [decide_eq_true (lg_eq.mp h82)] at step; exact step) | (rw [decide_eq_false (fun q => h82 (lg_eq.mpr q))] at step; exact step)
            · skip
              refine y_ci (pc' := 86) (1) xD_34 rfl rfl rfl rfl ?_
              refine y_goto (pc' := 90) xD_34 rfl rfl ?_
              refine y_loc (pc' := 91) xD_34 rfl rfl rfl rfl ?_
              refine y_inc (pc' := 94) (nI (j + 1)) xD_34 rfl rfl rfl e1 rfl rfl ?_
              refine y_goto (pc' := 33) xD_34 rfl rfl ?_
              first | exact absurd rfl h68 | (rw [decide_eq_true (lg_eq.mp h82)] at step; exact step) | (rw [decide_eq_false (fun q => h82 (lg_eq.mpr q))] at step; exact step)
        · skip
          exact absurd (show zB false = 0 from rfl) h49
end PF
end
section
/-! The model's perform. -/
/-- a result: an int, or at least 2 to the 32 -/
def RV (w : Int64) : Prop := (∃ x : Int32, w = x.toInt64) ∨ 4294967296 ≤ w
theorem q_val_eq {w : Int64} (h : RV w) : (if 4294967296 ≤ w then 0 else w.toInt32) = q_val w := by
  unfold q_val
  rcases h with ⟨x, rfl⟩ | h
  · have h1 : ¬ (4294967296 : Int64) ≤ x.toInt64 := by
      rw [Int64.le_iff_toInt_le, Int32.toInt_toInt64]
      have := x.toInt_lt
      show ¬ (4294967296 : Int) ≤ _
      omega
    rw [if_neg h1, Int32.toInt32_toInt64, if_pos rfl]
  · rw [if_pos h, if_neg]
    intro e
    rw [e, Int64.le_iff_toInt_le, Int32.toInt_toInt64] at h
    have := (w.toInt32).toInt_lt
    have h : (4294967296 : Int) ≤ w.toInt32.toInt := h
    omega
theorem q_call_RV {U : Nat → Int64 → Int64 → (Nat → Int64) → Nat → Int64} {cd : Nat → Nat → Int32} {bn : Nat → Option Nat} {n : Nat} : ∀ (f p : Nat) (v : Nat → Int32) (N : Nat → Int64), RV (q_call U cd bn n f p v N).1
  | 0, p, v, N => by
    by_cases hp : p < n
    · rw [q_call_0 hp]; exact Or.inr (show (4294967296 : Int64) ≤ 4294967299 by decide)
    · rw [q_call_end hp]; exact Or.inl ⟨0, rfl⟩
  | f + 1, p, v, N => by
    by_cases hp : p < n
    · by_cases h8 : cd p 0 = 8
      · rw [q_call_8 hp h8]; exact Or.inl ⟨_, rfl⟩
      · by_cases h9 : cd p 0 = 9
        · rw [q_call_9 hp h9]; exact Or.inr (show (4294967296 : Int64) ≤ 4294967298 by decide)
        · by_cases h4 : cd p 0 = 4 ∧ v (cd p 3).toNatClampNeg = 0
          · rw [q_call_4 hp h4.1 h4.2]; exact Or.inr (show (4294967296 : Int64) ≤ 4294967297 by decide)
          · rw [q_call_n hp h8 h9 h4]; exact q_call_RV f _ _ _
    · rw [q_call_end hp]; exact Or.inl ⟨0, rfl⟩
section QV
variable {U : Nat → Int64 → Int64 → (Nat → Int64) → Nat → Int64} {cdf : Nat → Nat → Nat → Int32} {bnf : Nat → Nat → Option Nat} {ln : Nat → Nat} {f : Nat → Int32} {v : Nat → Int32} {N res : Nat → Int64}
theorem q_rs_RV : ∀ (j i : Nat), i < j → RV ((q_rs U cdf bnf ln f v N res j).2.2.1 i)
  | 0, i, h => absurd h (by omega)
  | j + 1, i, h => by
    cases ho : (q_rs U cdf bnf ln f v N res j).2.2.2 with
    | true =>
      rw [q_rs_t ho]
      by_cases hi : i = j
      · subst hi; show RV (vp_updL _ i _ i); rw [pk_uLs]; exact Or.inr (by decide)
      · show RV (vp_updL _ j _ i); rw [pk_uLn hi]; exact q_rs_RV j i (by omega)
    | false =>
      rw [q_rs_f ho]
      by_cases hi : i = j
      · subst hi
        show RV (vp_updL _ i _ i)
        rw [pk_uLs]
        unfold q_do
        split
        · exact q_call_RV _ _ _ _
        · exact Or.inl ⟨0, rfl⟩
      · show RV (vp_updL _ j _ i); rw [pk_uLn hi]; exact q_rs_RV j i (by omega)
end QV
def lnM (I : Nat → Nat → Int32) (m : Nat) : Nat := (I 265 m).toNatClampNeg
def PM (I : Nat → Nat → Int32) (nb : Nat) : Prop := I 261 10 = nI nb ∧ nb ≤ 12 ∧ ∀ m, m < 2 → I 265 m = nI (lnM I m) ∧ lnM I m ≤ 10 ∧ VC (cdM I m) (lnM I m)
def slM (I : Nat → Nat → Int32) (s : Nat) : Nat → Int32 := fun q => I 262 (24 * s + q)
def rsM (I : Nat → Nat → Int32) (nb s : Nat) (v : Nat → Int32) (N res : Nat → Int64) : Nat → (Nat → Int32) × (Nat → Int64) × (Nat → Int64) × Bool := q_rs UM (cdM I) (fun m => bnM I m nb) (lnM I) (slM I s) v N res
section MP
variable {S : XS} {d s nb : Nat} {I : Nat → Nat → Int32} {J : Nat → Nat → Int64} {R : Nat → Nat → Option Nat}
theorem s_mpart (hR : RF R) (hs : s < 67) (j q : Nat) (hj : j < 6) (hq : q < 4) {xs xj xq : Int32} (e1 : xs = nI s) (e2 : xj = nI j) (e3 : xq = nI q) : XP S d 125 0 (xent [.ref 261, .int xs, .int xj, .int xq] 4) [] (hh I J R) (rI (slM I s (4 * j + q)) (hh I J R)) := by
  refine y_loc (pc' := 1) xD_125 rfl rfl rfl rfl ?_
  first | refine m_getR (pc' := 4) xD_125 rfl rfl rfl rfl (hR.1 _ _ _ rfl) rfl ?_ | refine m_getR (pc' := 4) xD_125 rfl rfl (by first | rfl | assumption) rfl (by assumption) rfl ?_
  refine y_loc (pc' := 5) xD_125 rfl rfl rfl rfl ?_
  refine y_ci (pc' := 7) (24) xD_125 rfl rfl rfl rfl ?_
  refine y_op (pc' := 8) xD_125 rfl rfl rfl rfl ?_
  refine y_loc (pc' := 9) xD_125 rfl rfl rfl rfl ?_
  refine y_ci (pc' := 10) (4) xD_125 rfl rfl rfl rfl ?_
  refine y_op (pc' := 11) xD_125 rfl rfl rfl rfl ?_
  refine y_op (pc' := 12) xD_125 rfl rfl rfl rfl ?_
  refine y_loc (pc' := 13) xD_125 rfl rfl rfl rfl ?_
  refine y_op (pc' := 14) xD_125 rfl rfl rfl rfl ?_
  refine m_iald (pc' := 15) (24 * s + (4 * j + q)) xD_125 rfl (by first | rfl | assumption) (by first | assumption | omega) (by first | decide | assumption) (by first | decide | omega) (by rw [e1, e2, e3]; show nI s * nI 24 + nI j * nI 4 + nI q = _; rw [pk_mul, pk_mul, nI_add, nI_add]; congr 1; omega) rfl ?_
  refine y_retI xD_125 rfl rfl ?_
  exact rI_e rfl
theorem s_value (hR : RF R) (j : Nat) (hj : j < 6) (hv : RV (J 272 j)) {xj : Int32} (e1 : xj = nI j) : XP S d 126 0 (xent [.ref 261, .int xj] 2) [] (hh I J R) (rI (q_val (J 272 j)) (hh I J R)) := by
  rw [← q_val_eq hv]
  refine y_loc (pc' := 1) xD_126 rfl rfl rfl rfl ?_
  first | refine m_getR (pc' := 4) xD_126 rfl rfl rfl rfl (hR.1 _ _ _ rfl) rfl ?_ | refine m_getR (pc' := 4) xD_126 rfl rfl (by first | rfl | assumption) rfl (by assumption) rfl ?_
  refine y_loc (pc' := 5) xD_126 rfl rfl rfl rfl ?_
  refine m_jald (pc' := 6) (j) xD_126 rfl (by first | rfl | assumption) (by first | assumption | omega) (by first | decide | assumption) (by first | rfl | assumption) rfl ?_
  refine y_ldc (pc' := 9) xD_126 rfl rfl rfl rfl ?_
  refine y_op (pc' := 10) xD_126 rfl rfl rfl rfl ?_
  refine y_iflt (pt := 17) (pf := 13) xD_126 rfl rfl rfl (fun h10 => ?_) (fun h10 => ?_)
  · skip
    refine y_loc (pc' := 18) xD_126 rfl rfl rfl rfl ?_
    first | refine m_getR (pc' := 21) xD_126 rfl rfl rfl rfl (hR.1 _ _ _ rfl) rfl ?_ | refine m_getR (pc' := 21) xD_126 rfl rfl (by first | rfl | assumption) rfl (by assumption) rfl ?_
    refine y_loc (pc' := 22) xD_126 rfl rfl rfl rfl ?_
    refine m_jald (pc' := 23) (j) xD_126 rfl (by first | rfl | assumption) (by first | assumption | omega) (by first | decide | assumption) (by first | rfl | assumption) rfl ?_
    refine y_op (pc' := 24) xD_126 rfl rfl rfl rfl ?_
    refine y_retI xD_126 rfl rfl ?_
    refine rI_e ?_
    first | rw [if_neg (Int64.not_le.mpr (lg_lt.mp h10))] | rw [if_pos (Int64.not_lt.mp (fun q => h10 (lg_lt.mpr q)))]
  · skip
    refine y_ci (pc' := 14) (0) xD_126 rfl rfl rfl rfl ?_
    refine y_goto (pc' := 24) xD_126 rfl rfl ?_
    refine y_retI xD_126 rfl rfl ?_
    refine rI_e ?_
    first | rw [if_neg (Int64.not_le.mpr (lg_lt.mp h10))] | rw [if_pos (Int64.not_lt.mp (fun q => h10 (lg_lt.mpr q)))]
theorem s_mperf_loop (hR : RF R) (hs : s < 67) (hP : PM I nb) {n : Nat} (hn : I 263 s = nI n) (hn6 : n ≤ 6) (hV : ∀ j, j < n → VS (slM I s) j) (v : Nat → Int32) (N res : Nat → Int64) {xs : Int32} (e1 : xs = nI s) : ∀ (f j : Nat) (q4 q5 : Option Value), j + f = n →
    XP S (d + 5) 124 48 [some (.ref 261), some (.int xs), some (.int (zB (rsM I nb s v N res j).2.2.2)), some (.int (nI j)), q4, q5] [] (hh (xrow I 271 (rsM I nb s v N res j).1) (xrow (xrow J 273 (rsM I nb s v N res j).2.1) 272 (rsM I nb s v N res j).2.2.1) R) (rV (hh (xrow I 271 (rsM I nb s v N res n).1) (xrow (xrow J 273 (rsM I nb s v N res n).2.1) 272 (rsM I nb s v N res n).2.2.1) R)) := by
  obtain ⟨hnb, hnb2, hPm⟩ := hP
  have b3 : ∀ w : Nat → Int32, xrow I 271 w 263 = I 263 := fun w => xrow_ne (by decide)
  have sl : ∀ w : Nat → Int32, slM (xrow I 271 w) s = slM I s := fun w => by
    funext q
    unfold slM
    rw [xrow_ne (by decide)]
  intro f
  induction f with
  | zero =>
    intro j q4 q5 hj
    have hj : j = n := by omega
    subst hj
    refine y_loc (pc' := 49) xD_124 rfl rfl rfl rfl ?_
    refine y_loc (pc' := 50) xD_124 rfl rfl rfl rfl ?_
    first | refine m_getR (pc' := 53) xD_124 rfl rfl rfl rfl (hR.1 _ _ _ rfl) rfl ?_ | refine m_getR (pc' := 53) xD_124 rfl rfl (by first | rfl | assumption) rfl (by assumption) rfl ?_
    refine y_loc (pc' := 54) xD_124 rfl rfl rfl rfl ?_
    refine m_iald (pc' := 55) (s) xD_124 rfl (by first | rfl | assumption) (by first | assumption | omega) (by first | decide | assumption) (by first | decide | omega) (by first | rfl | assumption) rfl ?_
    skip
    refine y_icge (pt := 215) (pf := 58) xD_124 rfl rfl rfl (fun h55 => ?_) (fun h55 => ?_)
    · skip
      refine y_retV xD_124 rfl rfl ?_
      exact ⟨rfl, rfl⟩
    · exact absurd (show xrow I 271 _ 263 s ≤ nI j by rw [b3, hn]; exact Int32.le_refl _) h55
  | succ f ih =>
    intro j q4 q5 hj
    have hjn : j < n := by omega
    have hj6 : j < 6 := by omega
    have e5 : nI j + 1 = nI (j + 1) := nI_1 j
    have stJ : ∀ (N' : Nat → Int64) (r' : Nat → Int64) (w : Int64), xu (xrow (xrow J 273 N') 272 r') 272 j w = xrow (xrow J 273 N') 272 (vp_updL r' j w) := by
      intro N' r' w
      rw [xu_row, xrow_row, xrow_at]
      rfl
    have swap : ∀ (N' N'' : Nat → Int64) (r' : Nat → Int64), xrow (xrow (xrow J 273 N') 272 r') 273 N'' = xrow (xrow J 273 N'') 272 r' := by
      intro N' N'' r'
      funext y z
      unfold xrow
      by_cases h1 : y = 273
      · rw [if_pos h1, if_neg (by omega), if_pos h1]
      · rw [if_neg h1]
        by_cases h2 : y = 272
        · rw [if_pos h2, if_pos h2]
        · rw [if_neg h2, if_neg h2, if_neg h1, if_neg h1]
    have upd2 : ∀ (r' : Nat → Int64) (x w : Int64), vp_updL (vp_updL r' j x) j w = vp_updL r' j w := by
      intro r' x w
      funext i
      unfold vp_updL
      split <;> rfl
    obtain ⟨⟨t, ht, ht2, ht3, hkd⟩, hrf⟩ := hV j hjn
    have step := fun q4 q5 => ih (j + 1) q4 q5 (by omega)
    cases hov : (rsM I nb s v N res j).2.2.2 with
    | true =>
      have hss : rsM I nb s v N res (j + 1) = ((rsM I nb s v N res j).1, (rsM I nb s v N res j).2.1, vp_updL (rsM I nb s v N res j).2.2.1 j 4294967296, true) := q_rs_t hov
      rw [hss] at step
      refine y_loc (pc' := 49) xD_124 rfl rfl rfl rfl ?_
      refine y_loc (pc' := 50) xD_124 rfl rfl rfl rfl ?_
      first | refine m_getR (pc' := 53) xD_124 rfl rfl rfl rfl (hR.1 _ _ _ rfl) rfl ?_ | refine m_getR (pc' := 53) xD_124 rfl rfl (by first | rfl | assumption) rfl (by assumption) rfl ?_
      refine y_loc (pc' := 54) xD_124 rfl rfl rfl rfl ?_
      refine m_iald (pc' := 55) (s) xD_124 rfl (by first | rfl | assumption) (by first | assumption | omega) (by first | decide | assumption) (by first | decide | omega) (by first | rfl | assumption) rfl ?_
      refine y_icge (pt := 215) (pf := 58) xD_124 rfl rfl rfl (fun h55 => ?_) (fun h55 => ?_)
      · skip
        exact absurd h55 (by rw [b3, hn]; exact nI_ge hjn (by omega))
      · skip
        refine y_loc (pc' := 59) xD_124 rfl rfl rfl rfl ?_
        refine y_loc (pc' := 60) xD_124 rfl rfl rfl rfl ?_
        refine y_loc (pc' := 61) xD_124 rfl rfl rfl rfl ?_
        refine y_ci (pc' := 62) (0) xD_124 rfl rfl rfl rfl ?_
        refine y_callV xD_124 rfl rfl rfl rfl (by first | rfl | assumption) rfl rfl rfl rfl (s_mpart hR hs j 0 hj6 (by decide) e1 rfl rfl) (fun v h' hq => ?_)
        obtain ⟨rfl, rfl⟩ := hq
        refine y_loc (pc' := 67) xD_124 rfl rfl rfl rfl ?_
        refine y_loc (pc' := 68) xD_124 rfl rfl rfl rfl ?_
        first | refine m_getR (pc' := 71) xD_124 rfl rfl rfl rfl (hR.1 _ _ _ rfl) rfl ?_ | refine m_getR (pc' := 71) xD_124 rfl rfl (by first | rfl | assumption) rfl (by assumption) rfl ?_
        refine y_loc (pc' := 72) xD_124 rfl rfl rfl rfl ?_
        refine y_loc (pc' := 73) xD_124 rfl rfl rfl rfl ?_
        refine y_ifeq (pt := 82) (pf := 76) xD_124 rfl rfl rfl (fun h73 => ?_) (fun h73 => ?_)
        · skip
          exact absurd h73 (by decide)
        · skip
          refine y_ldc (pc' := 79) xD_124 rfl rfl rfl rfl ?_
          refine y_goto (pc' := 83) xD_124 rfl rfl ?_
          refine m_jast (pc' := 84) (j) xD_124 rfl (by first | rfl | assumption) (by first | assumption | omega) (by first | decide | assumption) (by first | rfl | assumption) rfl ?_
          rw [stJ]
          refine y_loc (pc' := 85) xD_124 rfl rfl rfl rfl ?_
          refine y_ifne (pt := 111) (pf := 88) xD_124 rfl rfl rfl (fun h85 => ?_) (fun h85 => ?_)
          · skip
            refine y_loc (pc' := 112) xD_124 rfl rfl rfl rfl ?_
            refine y_ifne (pt := 209) (pf := 115) xD_124 rfl rfl rfl (fun h112 => ?_) (fun h112 => ?_)
            · skip
              refine y_inc (pc' := 212) (nI (j + 1)) xD_124 rfl rfl rfl e5 rfl rfl ?_
              refine y_goto (pc' := 48) xD_124 rfl rfl ?_
              exact step _ _
            · skip
              exact absurd h112 (by decide)
          · skip
            exact absurd h85 (by decide)
    | false =>
      have hss : rsM I nb s v N res (j + 1) = ((q_do UM (cdM I) (fun m => bnM I m nb) (lnM I) (slM I s) j (rsM I nb s v N res j).1 (rsM I nb s v N res j).2.1 (rsM I nb s v N res j).2.2.1).2.1, (q_do UM (cdM I) (fun m => bnM I m nb) (lnM I) (slM I s) j (rsM I nb s v N res j).1 (rsM I nb s v N res j).2.1 (rsM I nb s v N res j).2.2.1).2.2, vp_updL (rsM I nb s v N res j).2.2.1 j (q_do UM (cdM I) (fun m => bnM I m nb) (lnM I) (slM I s) j (rsM I nb s v N res j).1 (rsM I nb s v N res j).2.1 (rsM I nb s v N res j).2.2.1).1, decide ((q_do UM (cdM I) (fun m => bnM I m nb) (lnM I) (slM I s) j (rsM I nb s v N res j).1 (rsM I nb s v N res j).2.1 (rsM I nb s v N res j).2.2.1).1 = 4294967299)) := q_rs_f hov
      rw [hss] at step
      have hRV : ∀ i, i < j → RV ((rsM I nb s v N res j).2.2.1 i) := fun i hi => q_rs_RV j i hi
      generalize (rsM I nb s v N res j).1 = v1 at *
      generalize (rsM I nb s v N res j).2.1 = N1 at *
      generalize (rsM I nb s v N res j).2.2.1 = r1 at *
      by_cases hlt : t < 2
      · have hlt2 : slM I s (4 * j) < 2 := by rw [hkd]; exact nI_lt (b := 2) hlt (by omega)
        have hq : q_do UM (cdM I) (fun m => bnM I m nb) (lnM I) (slM I s) j v1 N1 r1 = q_call UM (cdM I t) (bnM I t nb) (lnM I t) 40 0 (q_arg (slM I s) j v1 r1) N1 := by
          unfold q_do
          rw [if_pos hlt2, hkd, nI_cl (by omega)]
        rw [hq] at step
        obtain ⟨p1, p2, p3⟩ := hPm t hlt
        have fin : ∀ (y' : Int32) (q5 : Option Value), y' = (if slM I s (4 * j + 3) = -1 then slM I s (4 * j + 2) else q_val (r1 (slM I s (4 * j + 3)).toNatClampNeg)) → XP S (d + 5) 124 164 [some (.ref 261), some (.int xs), some (.int (zB false)), some (.int (nI j)), some (.int (slM I s (4 * j + 0))), q5] [] (hh (xrow I 271 (upd (upd v1 0 (slM I s (4 * j + 1))) 1 y')) (xrow (xrow J 273 N1) 272 (vp_updL r1 j 0)) R) (rV (hh (xrow I 271 (rsM I nb s v N res n).1) (xrow (xrow J 273 (rsM I nb s v N res n).2.1) 272 (rsM I nb s v N res n).2.2.1) R)) := by
          intro y' q5 hy
          have harg : upd (upd (upd (upd v1 0 (slM I s (4 * j + 1))) 1 y') 2 0) 3 0 = q_arg (slM I s) j v1 r1 := by rw [hy]; rfl
          have hcd : cdM (xrow I 271 (q_arg (slM I s) j v1 r1)) t = cdM I t := cdM_eq (xrow_ne (by decide))
          have hbn : bnM (xrow I 271 (q_arg (slM I s) j v1 r1)) t nb = bnM I t nb := bnM_eq (xrow_ne (by decide)) (xrow_ne (by decide))
          have hN1 : xrow (xrow J 273 N1) 272 (vp_updL r1 j 0) 273 = N1 := by rw [xrow_ne (by decide), xrow_at]
          refine y_loc (pc' := 165) xD_124 rfl rfl rfl rfl ?_
          first | refine m_getR (pc' := 168) xD_124 rfl rfl rfl rfl (hR.1 _ _ _ rfl) rfl ?_ | refine m_getR (pc' := 168) xD_124 rfl rfl (by first | rfl | assumption) rfl (by assumption) rfl ?_
          refine y_ci (pc' := 169) (2) xD_124 rfl rfl rfl rfl ?_
          refine y_ci (pc' := 170) (0) xD_124 rfl rfl rfl rfl ?_
          refine m_iast (pc' := 171) (2) xD_124 rfl (by first | rfl | assumption) (by first | assumption | omega) (by first | decide | assumption) (by first | rfl | assumption) rfl ?_
          rw [xu_rowI, xrow_row, xrow_at]
          refine y_loc (pc' := 172) xD_124 rfl rfl rfl rfl ?_
          first | refine m_getR (pc' := 175) xD_124 rfl rfl rfl rfl (hR.1 _ _ _ rfl) rfl ?_ | refine m_getR (pc' := 175) xD_124 rfl rfl (by first | rfl | assumption) rfl (by assumption) rfl ?_
          refine y_ci (pc' := 176) (3) xD_124 rfl rfl rfl rfl ?_
          refine y_ci (pc' := 177) (0) xD_124 rfl rfl rfl rfl ?_
          refine m_iast (pc' := 178) (3) xD_124 rfl (by first | rfl | assumption) (by first | assumption | omega) (by first | decide | assumption) (by first | rfl | assumption) rfl ?_
          rw [xu_rowI, xrow_row, xrow_at, harg]
          refine y_loc (pc' := 179) xD_124 rfl rfl rfl rfl ?_
          first | refine m_getR (pc' := 182) xD_124 rfl rfl rfl rfl (hR.1 _ _ _ rfl) rfl ?_ | refine m_getR (pc' := 182) xD_124 rfl rfl (by first | rfl | assumption) rfl (by assumption) rfl ?_
          refine y_loc (pc' := 183) xD_124 rfl rfl rfl rfl ?_
          refine y_loc (pc' := 184) xD_124 rfl rfl rfl rfl ?_
          refine y_loc (pc' := 186) xD_124 rfl rfl rfl rfl ?_
          refine y_callV xD_124 rfl rfl rfl rfl (by first | rfl | assumption) rfl rfl rfl rfl (s_mcall (n := lnM I t) (nb := nb) hR hlt (by rw [xrow_ne (by decide)]; exact p1) p2 (by rw [hcd]; exact p3) (by rw [xrow_ne (by decide)]; exact hnb) hnb2 hkd) (fun v h' hq => ?_)
          obtain ⟨rfl, rfl⟩ := hq
          rw [hcd, hbn, xrow_at, hN1, xrow_row, swap]
          generalize q_call UM (cdM I t) (bnM I t nb) (lnM I t) 40 0 (q_arg (slM I s) j v1 r1) N1 = qr at *
          skip
          refine m_jast (pc' := 190) (j) xD_124 rfl (by first | rfl | assumption) (by first | assumption | omega) (by first | decide | assumption) (by first | rfl | assumption) rfl ?_
          rw [stJ, upd2]
          refine y_loc (pc' := 191) xD_124 rfl rfl rfl rfl ?_
          first | refine m_getR (pc' := 194) xD_124 rfl rfl rfl rfl (hR.1 _ _ _ rfl) rfl ?_ | refine m_getR (pc' := 194) xD_124 rfl rfl (by first | rfl | assumption) rfl (by assumption) rfl ?_
          refine y_loc (pc' := 195) xD_124 rfl rfl rfl rfl ?_
          refine m_jald (pc' := 196) (j) xD_124 rfl (by first | rfl | assumption) (by first | assumption | omega) (by first | decide | assumption) (by first | rfl | assumption) rfl ?_
          rw [xrow_at, pk_uLs]
          refine y_ldc (pc' := 199) xD_124 rfl rfl rfl rfl ?_
          refine y_op (pc' := 200) xD_124 rfl rfl rfl rfl ?_
          refine y_ifne (pt := 207) (pf := 203) xD_124 rfl rfl rfl (fun h200 => ?_) (fun h200 => ?_)
          · skip
            refine y_ci (pc' := 208) (0) xD_124 rfl rfl rfl rfl ?_
            refine y_loc (pc' := 209) xD_124 rfl rfl rfl rfl ?_
            refine y_inc (pc' := 212) (nI (j + 1)) xD_124 rfl rfl rfl e5 rfl rfl ?_
            refine y_goto (pc' := 48) xD_124 rfl rfl ?_
            first | (rw [decide_eq_true (lg_eq.mp h200)] at step; exact step _ _) | (rw [decide_eq_false (fun q => h200 (lg_eq.mpr q))] at step; exact step _ _)
          · skip
            refine y_ci (pc' := 204) (1) xD_124 rfl rfl rfl rfl ?_
            refine y_goto (pc' := 208) xD_124 rfl rfl ?_
            refine y_loc (pc' := 209) xD_124 rfl rfl rfl rfl ?_
            refine y_inc (pc' := 212) (nI (j + 1)) xD_124 rfl rfl rfl e5 rfl rfl ?_
            refine y_goto (pc' := 48) xD_124 rfl rfl ?_
            first | (rw [decide_eq_true (lg_eq.mp h200)] at step; exact step _ _) | (rw [decide_eq_false (fun q => h200 (lg_eq.mpr q))] at step; exact step _ _)
        refine y_loc (pc' := 49) xD_124 rfl rfl rfl rfl ?_
        refine y_loc (pc' := 50) xD_124 rfl rfl rfl rfl ?_
        first | refine m_getR (pc' := 53) xD_124 rfl rfl rfl rfl (hR.1 _ _ _ rfl) rfl ?_ | refine m_getR (pc' := 53) xD_124 rfl rfl (by first | rfl | assumption) rfl (by assumption) rfl ?_
        refine y_loc (pc' := 54) xD_124 rfl rfl rfl rfl ?_
        refine m_iald (pc' := 55) (s) xD_124 rfl (by first | rfl | assumption) (by first | assumption | omega) (by first | decide | assumption) (by first | decide | omega) (by first | rfl | assumption) rfl ?_
        refine y_icge (pt := 215) (pf := 58) xD_124 rfl rfl rfl (fun h55 => ?_) (fun h55 => ?_)
        · skip
          exact absurd h55 (by rw [b3, hn]; exact nI_ge hjn (by omega))
        · skip
          refine y_loc (pc' := 59) xD_124 rfl rfl rfl rfl ?_
          refine y_loc (pc' := 60) xD_124 rfl rfl rfl rfl ?_
          refine y_loc (pc' := 61) xD_124 rfl rfl rfl rfl ?_
          refine y_ci (pc' := 62) (0) xD_124 rfl rfl rfl rfl ?_
          refine y_callV xD_124 rfl rfl rfl rfl (by first | rfl | assumption) rfl rfl rfl rfl (s_mpart hR hs j 0 hj6 (by decide) e1 rfl rfl) (fun v h' hq => ?_)
          obtain ⟨rfl, rfl⟩ := hq
          rw [sl]
          refine y_loc (pc' := 67) xD_124 rfl rfl rfl rfl ?_
          refine y_loc (pc' := 68) xD_124 rfl rfl rfl rfl ?_
          first | refine m_getR (pc' := 71) xD_124 rfl rfl rfl rfl (hR.1 _ _ _ rfl) rfl ?_ | refine m_getR (pc' := 71) xD_124 rfl rfl (by first | rfl | assumption) rfl (by assumption) rfl ?_
          refine y_loc (pc' := 72) xD_124 rfl rfl rfl rfl ?_
          refine y_loc (pc' := 73) xD_124 rfl rfl rfl rfl ?_
          refine y_ifeq (pt := 82) (pf := 76) xD_124 rfl rfl rfl (fun h73 => ?_) (fun h73 => ?_)
          · skip
            refine y_cj (pc' := 83) (0) xD_124 rfl rfl rfl rfl ?_
            refine m_jast (pc' := 84) (j) xD_124 rfl (by first | rfl | assumption) (by first | assumption | omega) (by first | decide | assumption) (by first | rfl | assumption) rfl ?_
            rw [stJ]
            refine y_loc (pc' := 85) xD_124 rfl rfl rfl rfl ?_
            refine y_ifne (pt := 111) (pf := 88) xD_124 rfl rfl rfl (fun h85 => ?_) (fun h85 => ?_)
            · skip
              refine y_loc (pc' := 112) xD_124 rfl rfl rfl rfl ?_
              refine y_ifne (pt := 209) (pf := 115) xD_124 rfl rfl rfl (fun h112 => ?_) (fun h112 => ?_)
              · skip
                first | exact absurd (show zB false = 0 from rfl) h112 | exact absurd (show zB false = 0 from rfl) h85
              · skip
                refine y_loc (pc' := 116) xD_124 rfl rfl rfl rfl ?_
                refine y_loc (pc' := 117) xD_124 rfl rfl rfl rfl ?_
                refine y_loc (pc' := 118) xD_124 rfl rfl rfl rfl ?_
                refine y_ci (pc' := 119) (3) xD_124 rfl rfl rfl rfl ?_
                refine y_callV xD_124 rfl rfl rfl rfl (by first | rfl | assumption) rfl rfl rfl rfl (s_mpart hR hs j 3 hj6 (by decide) e1 rfl rfl) (fun v h' hq => ?_)
                obtain ⟨rfl, rfl⟩ := hq
                rw [sl]
                refine y_loc (pc' := 124) xD_124 rfl rfl rfl rfl ?_
                refine y_loc (pc' := 125) xD_124 rfl rfl rfl rfl ?_
                first | refine m_getR (pc' := 128) xD_124 rfl rfl rfl rfl (hR.1 _ _ _ rfl) rfl ?_ | refine m_getR (pc' := 128) xD_124 rfl rfl (by first | rfl | assumption) rfl (by assumption) rfl ?_
                refine y_ci (pc' := 129) (0) xD_124 rfl rfl rfl rfl ?_
                refine y_loc (pc' := 130) xD_124 rfl rfl rfl rfl ?_
                refine y_loc (pc' := 131) xD_124 rfl rfl rfl rfl ?_
                refine y_loc (pc' := 132) xD_124 rfl rfl rfl rfl ?_
                refine y_ci (pc' := 133) (1) xD_124 rfl rfl rfl rfl ?_
                refine y_callV xD_124 rfl rfl rfl rfl (by first | rfl | assumption) rfl rfl rfl rfl (s_mpart hR hs j 1 hj6 (by decide) e1 rfl rfl) (fun v h' hq => ?_)
                obtain ⟨rfl, rfl⟩ := hq
                rw [sl]
                refine m_iast (pc' := 137) (0) xD_124 rfl (by first | rfl | assumption) (by first | assumption | omega) (by first | decide | assumption) (by first | rfl | assumption) rfl ?_
                rw [xu_rowI, xrow_row, xrow_at]
                refine y_loc (pc' := 138) xD_124 rfl rfl rfl rfl ?_
                first | refine m_getR (pc' := 141) xD_124 rfl rfl rfl rfl (hR.1 _ _ _ rfl) rfl ?_ | refine m_getR (pc' := 141) xD_124 rfl rfl (by first | rfl | assumption) rfl (by assumption) rfl ?_
                refine y_ci (pc' := 142) (1) xD_124 rfl rfl rfl rfl ?_
                refine y_loc (pc' := 144) xD_124 rfl rfl rfl rfl ?_
                refine y_ifge (pt := 157) (pf := 147) xD_124 rfl rfl rfl (fun h144 => ?_) (fun h144 => ?_)
                · skip
                  refine y_loc (pc' := 158) xD_124 rfl rfl rfl rfl ?_
                  refine y_loc (pc' := 160) xD_124 rfl rfl rfl rfl ?_
                  obtain ⟨r, hr, er⟩ := (hrf hlt2).resolve_left (fun q => absurd h144 (by rw [q]; decide))
                  refine y_callV xD_124 rfl rfl rfl rfl (by first | rfl | assumption) rfl rfl rfl rfl (s_value hR r (by omega) (by rw [xrow_at, pk_uLn (by omega)]; exact hRV r hr) er) (fun v h' hq => ?_)
                  obtain ⟨rfl, rfl⟩ := hq
                  rw [xrow_at, pk_uLn (by omega)]
                  refine m_iast (pc' := 164) (1) xD_124 rfl (by first | rfl | assumption) (by first | assumption | omega) (by first | decide | assumption) (by first | rfl | assumption) rfl ?_
                  rw [xu_rowI, xrow_row, xrow_at]
                  first
                  | exact fin _ _ (by rw [if_neg (fun q => absurd h144 (by rw [q]; decide)), er, nI_cl (by omega)])
                  | exact fin _ _ (by rw [if_pos ((hrf hlt2).resolve_right (fun ⟨r, hr, er⟩ => h144 (by rw [er]; exact nI_pos' (by omega))))])
                · skip
                  refine y_loc (pc' := 148) xD_124 rfl rfl rfl rfl ?_
                  refine y_loc (pc' := 149) xD_124 rfl rfl rfl rfl ?_
                  refine y_loc (pc' := 150) xD_124 rfl rfl rfl rfl ?_
                  refine y_ci (pc' := 151) (2) xD_124 rfl rfl rfl rfl ?_
                  refine y_callV xD_124 rfl rfl rfl rfl (by first | rfl | assumption) rfl rfl rfl rfl (s_mpart hR hs j 2 hj6 (by decide) e1 rfl rfl) (fun v h' hq => ?_)
                  obtain ⟨rfl, rfl⟩ := hq
                  rw [sl]
                  refine y_goto (pc' := 163) xD_124 rfl rfl ?_
                  refine m_iast (pc' := 164) (1) xD_124 rfl (by first | rfl | assumption) (by first | assumption | omega) (by first | decide | assumption) (by first | rfl | assumption) rfl ?_
                  rw [xu_rowI, xrow_row, xrow_at]
                  first
                  | exact fin _ _ (by rw [if_neg (fun q => absurd h144 (by rw [q]; decide)), er, nI_cl (by omega)])
                  | exact fin _ _ (by rw [if_pos ((hrf hlt2).resolve_right (fun ⟨r, hr, er⟩ => h144 (by rw [er]; exact nI_pos' (by omega))))])
            · skip
              refine y_loc (pc' := 90) xD_124 rfl rfl rfl rfl ?_
              refine y_ci (pc' := 91) (4) xD_124 rfl rfl rfl rfl ?_
              refine y_iclt (pt := 111) (pf := 94) xD_124 rfl rfl rfl (fun h91 => ?_) (fun h91 => ?_)
              · skip
                refine y_loc (pc' := 112) xD_124 rfl rfl rfl rfl ?_
                refine y_ifne (pt := 209) (pf := 115) xD_124 rfl rfl rfl (fun h112 => ?_) (fun h112 => ?_)
                · skip
                  first | exact absurd (show zB false = 0 from rfl) h112 | exact absurd (show zB false = 0 from rfl) h85
                · skip
                  refine y_loc (pc' := 116) xD_124 rfl rfl rfl rfl ?_
                  refine y_loc (pc' := 117) xD_124 rfl rfl rfl rfl ?_
                  refine y_loc (pc' := 118) xD_124 rfl rfl rfl rfl ?_
                  refine y_ci (pc' := 119) (3) xD_124 rfl rfl rfl rfl ?_
                  refine y_callV xD_124 rfl rfl rfl rfl (by first | rfl | assumption) rfl rfl rfl rfl (s_mpart hR hs j 3 hj6 (by decide) e1 rfl rfl) (fun v h' hq => ?_)
                  obtain ⟨rfl, rfl⟩ := hq
                  rw [sl]
                  refine y_loc (pc' := 124) xD_124 rfl rfl rfl rfl ?_
                  refine y_loc (pc' := 125) xD_124 rfl rfl rfl rfl ?_
                  first | refine m_getR (pc' := 128) xD_124 rfl rfl rfl rfl (hR.1 _ _ _ rfl) rfl ?_ | refine m_getR (pc' := 128) xD_124 rfl rfl (by first | rfl | assumption) rfl (by assumption) rfl ?_
                  refine y_ci (pc' := 129) (0) xD_124 rfl rfl rfl rfl ?_
                  refine y_loc (pc' := 130) xD_124 rfl rfl rfl rfl ?_
                  refine y_loc (pc' := 131) xD_124 rfl rfl rfl rfl ?_
                  refine y_loc (pc' := 132) xD_124 rfl rfl rfl rfl ?_
                  refine y_ci (pc' := 133) (1) xD_124 rfl rfl rfl rfl ?_
                  refine y_callV xD_124 rfl rfl rfl rfl (by first | rfl | assumption) rfl rfl rfl rfl (s_mpart hR hs j 1 hj6 (by decide) e1 rfl rfl) (fun v h' hq => ?_)
                  obtain ⟨rfl, rfl⟩ := hq
                  rw [sl]
                  refine m_iast (pc' := 137) (0) xD_124 rfl (by first | rfl | assumption) (by first | assumption | omega) (by first | decide | assumption) (by first | rfl | assumption) rfl ?_
                  rw [xu_rowI, xrow_row, xrow_at]
                  refine y_loc (pc' := 138) xD_124 rfl rfl rfl rfl ?_
                  first | refine m_getR (pc' := 141) xD_124 rfl rfl rfl rfl (hR.1 _ _ _ rfl) rfl ?_ | refine m_getR (pc' := 141) xD_124 rfl rfl (by first | rfl | assumption) rfl (by assumption) rfl ?_
                  refine y_ci (pc' := 142) (1) xD_124 rfl rfl rfl rfl ?_
                  refine y_loc (pc' := 144) xD_124 rfl rfl rfl rfl ?_
                  refine y_ifge (pt := 157) (pf := 147) xD_124 rfl rfl rfl (fun h144 => ?_) (fun h144 => ?_)
                  · skip
                    refine y_loc (pc' := 158) xD_124 rfl rfl rfl rfl ?_
                    refine y_loc (pc' := 160) xD_124 rfl rfl rfl rfl ?_
                    obtain ⟨r, hr, er⟩ := (hrf hlt2).resolve_left (fun q => absurd h144 (by rw [q]; decide))
                    refine y_callV xD_124 rfl rfl rfl rfl (by first | rfl | assumption) rfl rfl rfl rfl (s_value hR r (by omega) (by rw [xrow_at, pk_uLn (by omega)]; exact hRV r hr) er) (fun v h' hq => ?_)
                    obtain ⟨rfl, rfl⟩ := hq
                    rw [xrow_at, pk_uLn (by omega)]
                    refine m_iast (pc' := 164) (1) xD_124 rfl (by first | rfl | assumption) (by first | assumption | omega) (by first | decide | assumption) (by first | rfl | assumption) rfl ?_
                    rw [xu_rowI, xrow_row, xrow_at]
                    first
                    | exact fin _ _ (by rw [if_neg (fun q => absurd h144 (by rw [q]; decide)), er, nI_cl (by omega)])
                    | exact fin _ _ (by rw [if_pos ((hrf hlt2).resolve_right (fun ⟨r, hr, er⟩ => h144 (by rw [er]; exact nI_pos' (by omega))))])
                  · skip
                    refine y_loc (pc' := 148) xD_124 rfl rfl rfl rfl ?_
                    refine y_loc (pc' := 149) xD_124 rfl rfl rfl rfl ?_
                    refine y_loc (pc' := 150) xD_124 rfl rfl rfl rfl ?_
                    refine y_ci (pc' := 151) (2) xD_124 rfl rfl rfl rfl ?_
                    refine y_callV xD_124 rfl rfl rfl rfl (by first | rfl | assumption) rfl rfl rfl rfl (s_mpart hR hs j 2 hj6 (by decide) e1 rfl rfl) (fun v h' hq => ?_)
                    obtain ⟨rfl, rfl⟩ := hq
                    rw [sl]
                    refine y_goto (pc' := 163) xD_124 rfl rfl ?_
                    refine m_iast (pc' := 164) (1) xD_124 rfl (by first | rfl | assumption) (by first | assumption | omega) (by first | decide | assumption) (by first | rfl | assumption) rfl ?_
                    rw [xu_rowI, xrow_row, xrow_at]
                    first
                    | exact fin _ _ (by rw [if_neg (fun q => absurd h144 (by rw [q]; decide)), er, nI_cl (by omega)])
                    | exact fin _ _ (by rw [if_pos ((hrf hlt2).resolve_right (fun ⟨r, hr, er⟩ => h144 (by rw [er]; exact nI_pos' (by omega))))])
              · skip
                exact absurd (show slM I s (4 * j + 0) < 4 by rw [show slM I s (4 * j + 0) = nI t from hkd]; exact nI_lt (b := 4) (by omega) (by omega)) h91
          · skip
            exact absurd (show zB false = 0 from rfl) h73
      · have hlt2 : ¬ slM I s (4 * j) < 2 := by rw [hkd]; exact nI_nlt (b := 2) (by omega) (by omega)
        have hq : q_do UM (cdM I) (fun m => bnM I m nb) (lnM I) (slM I s) j v1 N1 r1 = (0, upd v1 t (slM I s (4 * j + 1)), N1) := by
          unfold q_do
          rw [if_neg hlt2, hkd, nI_cl (by omega)]
        rw [hq] at step
        refine y_loc (pc' := 49) xD_124 rfl rfl rfl rfl ?_
        refine y_loc (pc' := 50) xD_124 rfl rfl rfl rfl ?_
        first | refine m_getR (pc' := 53) xD_124 rfl rfl rfl rfl (hR.1 _ _ _ rfl) rfl ?_ | refine m_getR (pc' := 53) xD_124 rfl rfl (by first | rfl | assumption) rfl (by assumption) rfl ?_
        refine y_loc (pc' := 54) xD_124 rfl rfl rfl rfl ?_
        refine m_iald (pc' := 55) (s) xD_124 rfl (by first | rfl | assumption) (by first | assumption | omega) (by first | decide | assumption) (by first | decide | omega) (by first | rfl | assumption) rfl ?_
        refine y_icge (pt := 215) (pf := 58) xD_124 rfl rfl rfl (fun h55 => ?_) (fun h55 => ?_)
        · skip
          exact absurd h55 (by rw [b3, hn]; exact nI_ge hjn (by omega))
        · skip
          refine y_loc (pc' := 59) xD_124 rfl rfl rfl rfl ?_
          refine y_loc (pc' := 60) xD_124 rfl rfl rfl rfl ?_
          refine y_loc (pc' := 61) xD_124 rfl rfl rfl rfl ?_
          refine y_ci (pc' := 62) (0) xD_124 rfl rfl rfl rfl ?_
          refine y_callV xD_124 rfl rfl rfl rfl (by first | rfl | assumption) rfl rfl rfl rfl (s_mpart hR hs j 0 hj6 (by decide) e1 rfl rfl) (fun v h' hq => ?_)
          obtain ⟨rfl, rfl⟩ := hq
          rw [sl]
          refine y_loc (pc' := 67) xD_124 rfl rfl rfl rfl ?_
          refine y_loc (pc' := 68) xD_124 rfl rfl rfl rfl ?_
          first | refine m_getR (pc' := 71) xD_124 rfl rfl rfl rfl (hR.1 _ _ _ rfl) rfl ?_ | refine m_getR (pc' := 71) xD_124 rfl rfl (by first | rfl | assumption) rfl (by assumption) rfl ?_
          refine y_loc (pc' := 72) xD_124 rfl rfl rfl rfl ?_
          refine y_loc (pc' := 73) xD_124 rfl rfl rfl rfl ?_
          refine y_ifeq (pt := 82) (pf := 76) xD_124 rfl rfl rfl (fun h73 => ?_) (fun h73 => ?_)
          · skip
            refine y_cj (pc' := 83) (0) xD_124 rfl rfl rfl rfl ?_
            refine m_jast (pc' := 84) (j) xD_124 rfl (by first | rfl | assumption) (by first | assumption | omega) (by first | decide | assumption) (by first | rfl | assumption) rfl ?_
            rw [stJ]
            refine y_loc (pc' := 85) xD_124 rfl rfl rfl rfl ?_
            refine y_ifne (pt := 111) (pf := 88) xD_124 rfl rfl rfl (fun h85 => ?_) (fun h85 => ?_)
            · skip
              first | exact absurd (show zB false = 0 from rfl) h85 | exact absurd h91 (by rw [show slM I s (4 * j + 0) = nI t from hkd]; exact nI_nlt (b := 4) (by omega) (by omega))
            · skip
              refine y_loc (pc' := 90) xD_124 rfl rfl rfl rfl ?_
              refine y_ci (pc' := 91) (4) xD_124 rfl rfl rfl rfl ?_
              refine y_iclt (pt := 111) (pf := 94) xD_124 rfl rfl rfl (fun h91 => ?_) (fun h91 => ?_)
              · skip
                first | exact absurd (show zB false = 0 from rfl) h85 | exact absurd h91 (by rw [show slM I s (4 * j + 0) = nI t from hkd]; exact nI_nlt (b := 4) (by omega) (by omega))
              · skip
                refine y_loc (pc' := 95) xD_124 rfl rfl rfl rfl ?_
                first | refine m_getR (pc' := 98) xD_124 rfl rfl rfl rfl (hR.1 _ _ _ rfl) rfl ?_ | refine m_getR (pc' := 98) xD_124 rfl rfl (by first | rfl | assumption) rfl (by assumption) rfl ?_
                refine y_loc (pc' := 100) xD_124 rfl rfl rfl rfl ?_
                refine y_loc (pc' := 101) xD_124 rfl rfl rfl rfl ?_
                refine y_loc (pc' := 102) xD_124 rfl rfl rfl rfl ?_
                refine y_loc (pc' := 103) xD_124 rfl rfl rfl rfl ?_
                refine y_ci (pc' := 104) (1) xD_124 rfl rfl rfl rfl ?_
                refine y_callV xD_124 rfl rfl rfl rfl (by first | rfl | assumption) rfl rfl rfl rfl (s_mpart hR hs j 1 hj6 (by decide) e1 rfl rfl) (fun v h' hq => ?_)
                obtain ⟨rfl, rfl⟩ := hq
                rw [sl]
                refine m_iast (pc' := 108) (t) xD_124 rfl (by first | rfl | assumption) (by first | assumption | omega) (by first | decide | assumption) hkd rfl ?_
                rw [xu_rowI, xrow_row, xrow_at]
                refine y_goto (pc' := 209) xD_124 rfl rfl ?_
                refine y_inc (pc' := 212) (nI (j + 1)) xD_124 rfl rfl rfl e5 rfl rfl ?_
                refine y_goto (pc' := 48) xD_124 rfl rfl ?_
                exact step _ _
          · skip
            exact absurd (show zB false = 0 from rfl) h73
end MP
end
section
/-! The model's perform, whole. -/
theorem row_ext {α : Type} {f : Nat → Nat → α} {a k : Nat} {g g' : Nat → α} {x : α} (h : ∀ i, g' i = if i = k then x else g i) : xu (xrow f a g) a k x = xrow f a g' := by
  rw [xu_row, xrow_row, xrow_at]
  congr 1
  funext i
  exact (h i).symm
theorem if_or {α : Type} {P P' e : Prop} [Decidable P] [Decidable P'] [Decidable e] {x y : α} (h : P' ↔ e ∨ P) : (if P' then x else y) = if e then x else if P then x else y := by
  by_cases he : e
  · rw [if_pos he, if_pos (h.mpr (Or.inl he))]
  · rw [if_neg he]
    by_cases hp : P
    · rw [if_pos hp, if_pos (h.mpr (Or.inr hp))]
    · rw [if_neg hp, if_neg (fun q => (h.mp q).elim he hp)]
section MW
variable {S : XS} {d s nb : Nat} {I : Nat → Nat → Int32} {J : Nat → Nat → Int64} {R : Nat → Nat → Option Nat}
def v0M (I : Nat → Nat → Int32) : Nat → Int32 := fun i => if 4 ≤ i ∧ i < 8 then 0 else I 271 i
def n0M (J : Nat → Nat → Int64) : Nat → Int64 := fun i => if i < 24 then -1 else J 273 i
/-- what the model's perform leaves: variables, distances, results -/
def rnM (I : Nat → Nat → Int32) (J : Nat → Nat → Int64) (nb s n : Nat) : (Nat → Int32) × (Nat → Int64) × (Nat → Int64) × Bool := rsM I nb s (v0M I) (n0M J) (J 272) n
theorem s_mperform (hR : RF R) (hs : s < 67) (hP : PM I nb) {n : Nat} (hn : I 263 s = nI n) (hn6 : n ≤ 6) (hV : ∀ j, j < n → VS (slM I s) j) {xs : Int32} (e1 : xs = nI s) :
    XP S (d + 5) 124 0 (xent [.ref 261, .int xs] 6) [] (hh I J R) (rV (hh (xrow I 271 (rnM I J nb s n).1) (xrow (xrow J 273 (rnM I J nb s n).2.1) 272 (rnM I J nb s n).2.2.1) R)) := by
  have lp2 : ∀ (f k : Nat), k + f = 24 → XP S (d + 5) 124 23 [some (.ref 261), some (.int xs), some (.int (nI k)), none, none, none] [] (hh (xrow I 271 (v0M I)) (xrow J 273 (fun i => if i < k then -1 else J 273 i)) R) (rV (hh (xrow I 271 (rnM I J nb s n).1) (xrow (xrow J 273 (rnM I J nb s n).2.1) 272 (rnM I J nb s n).2.2.1) R)) := by
    intro f
    induction f with
    | zero =>
      intro k hk
      have hk : k = 24 := by omega
      subst hk
      have key := s_mperf_loop (S := S) (d := d) (J := J) hR hs hP hn hn6 hV (v0M I) (n0M J) (J 272) e1 n 0 none none (by omega)
      have e0 : rsM I nb s (v0M I) (n0M J) (J 272) 0 = (v0M I, n0M J, J 272, false) := rfl
      rw [e0] at key
      have e2 : xrow (xrow J 273 (n0M J)) 272 (J 272) = xrow J 273 (n0M J) := by
        funext y z
        unfold xrow
        by_cases h1 : y = 272
        · rw [if_pos h1, if_neg (by omega), h1]
        · rw [if_neg h1]
      rw [e2] at key
      refine y_loc (pc' := 24) xD_124 rfl rfl rfl rfl ?_
      refine y_ci (pc' := 26) (24) xD_124 rfl rfl rfl rfl ?_
      refine y_icge (pt := 44) (pf := 29) xD_124 rfl rfl rfl (fun h26 => ?_) (fun h26 => ?_)
      · skip
        refine y_ci (pc' := 45) (0) xD_124 rfl rfl rfl rfl ?_
        refine y_loc (pc' := 46) xD_124 rfl rfl rfl rfl ?_
        refine y_ci (pc' := 47) (0) xD_124 rfl rfl rfl rfl ?_
        refine y_loc (pc' := 48) xD_124 rfl rfl rfl rfl ?_
        exact key
      · exact absurd (show (24 : Int32) ≤ nI 24 from by decide) h26
    | succ f ih =>
      intro k hk
      have e5 : nI k + 1 = nI (k + 1) := nI_1 k
      refine y_loc (pc' := 24) xD_124 rfl rfl rfl rfl ?_
      refine y_ci (pc' := 26) (24) xD_124 rfl rfl rfl rfl ?_
      refine y_icge (pt := 44) (pf := 29) xD_124 rfl rfl rfl (fun h26 => ?_) (fun h26 => ?_)
      · skip
        exact absurd h26 (nI_ge (b := 24) (by omega) (by omega))
      · skip
        refine y_loc (pc' := 30) xD_124 rfl rfl rfl rfl ?_
        first | refine m_getR (pc' := 33) xD_124 rfl rfl rfl rfl (hR.1 _ _ _ rfl) rfl ?_ | refine m_getR (pc' := 33) xD_124 rfl rfl (by first | rfl | assumption) rfl (by assumption) rfl ?_
        refine y_loc (pc' := 34) xD_124 rfl rfl rfl rfl ?_
        refine y_ldc (pc' := 37) xD_124 rfl rfl rfl rfl ?_
        refine m_jast (pc' := 38) (k) xD_124 rfl (by first | rfl | assumption) (by first | assumption | omega) (by first | decide | assumption) (by first | rfl | assumption) rfl ?_
        rw [row_ext (g' := fun i => if i < k + 1 then -1 else J 273 i) (fun i => if_or (by omega))]
        refine y_inc (pc' := 41) (nI (k + 1)) xD_124 rfl rfl rfl e5 rfl rfl ?_
        refine y_goto (pc' := 23) xD_124 rfl rfl ?_
        exact ih (k + 1) (by omega)
  have lp1 : ∀ (f k : Nat), 4 ≤ k → k + f = 8 → XP S (d + 5) 124 2 [some (.ref 261), some (.int xs), some (.int (nI k)), none, none, none] [] (hh (xrow I 271 (fun i => if 4 ≤ i ∧ i < k then 0 else I 271 i)) J R) (rV (hh (xrow I 271 (rnM I J nb s n).1) (xrow (xrow J 273 (rnM I J nb s n).2.1) 272 (rnM I J nb s n).2.2.1) R)) := by
    intro f
    induction f with
    | zero =>
      intro k h4 hk
      have hk : k = 8 := by omega
      subst hk
      have key := lp2 24 0 (by omega)
      rw [show (fun i => if i < 0 then (-1 : Int64) else J 273 i) = J 273 from by funext i; rw [if_neg (by omega)], xrow_id] at key
      refine y_loc (pc' := 3) xD_124 rfl rfl rfl rfl ?_
      refine y_ci (pc' := 5) (8) xD_124 rfl rfl rfl rfl ?_
      refine y_icge (pt := 21) (pf := 8) xD_124 rfl rfl rfl (fun h5 => ?_) (fun h5 => ?_)
      · skip
        refine y_ci (pc' := 22) (0) xD_124 rfl rfl rfl rfl ?_
        refine y_loc (pc' := 23) xD_124 rfl rfl rfl rfl ?_
        exact key
      · exact absurd (show (8 : Int32) ≤ nI 8 from by decide) h5
    | succ f ih =>
      intro k h4 hk
      have e5 : nI k + 1 = nI (k + 1) := nI_1 k
      refine y_loc (pc' := 3) xD_124 rfl rfl rfl rfl ?_
      refine y_ci (pc' := 5) (8) xD_124 rfl rfl rfl rfl ?_
      refine y_icge (pt := 21) (pf := 8) xD_124 rfl rfl rfl (fun h5 => ?_) (fun h5 => ?_)
      · skip
        exact absurd h5 (nI_ge (b := 8) (by omega) (by omega))
      · skip
        refine y_loc (pc' := 9) xD_124 rfl rfl rfl rfl ?_
        first | refine m_getR (pc' := 12) xD_124 rfl rfl rfl rfl (hR.1 _ _ _ rfl) rfl ?_ | refine m_getR (pc' := 12) xD_124 rfl rfl (by first | rfl | assumption) rfl (by assumption) rfl ?_
        refine y_loc (pc' := 13) xD_124 rfl rfl rfl rfl ?_
        refine y_ci (pc' := 14) (0) xD_124 rfl rfl rfl rfl ?_
        refine m_iast (pc' := 15) (k) xD_124 rfl (by first | rfl | assumption) (by first | assumption | omega) (by first | decide | assumption) (by first | rfl | assumption) rfl ?_
        rw [row_ext (g' := fun i => if 4 ≤ i ∧ i < k + 1 then 0 else I 271 i) (fun i => if_or (by omega))]
        refine y_inc (pc' := 18) (nI (k + 1)) xD_124 rfl rfl rfl e5 rfl rfl ?_
        refine y_goto (pc' := 2) xD_124 rfl rfl ?_
        exact ih (k + 1) (by omega) (by omega)
  have key := lp1 4 4 (by omega) (by omega)
  rw [show (fun i => if 4 ≤ i ∧ i < 4 then (0 : Int32) else I 271 i) = I 271 from by funext i; rw [if_neg (by omega)], xrow_id] at key
  refine y_ci (pc' := 1) (4) xD_124 rfl rfl rfl rfl ?_
  refine y_loc (pc' := 2) xD_124 rfl rfl rfl rfl ?_
  exact key
end MW
end
section
/-! The class's fitness. -/
def q_least (N : Nat → Int64) (gs : Int32) : Nat → Int64
  | 0 => 8589934592
  | k + 1 => if bitI gs (nI k) = 0 then q_least N gs k else if q_least N gs k ≤ N k then q_least N gs k else N k
def q_nb (nd : Nat → Int32) (gs : Int32) : Nat → Int32
  | 0 => 0
  | k + 1 => if (gs >>> ((2 * nI k) &&& 31)) &&& 3 = 0 then q_nb nd gs k else q_nb nd gs k ||| nd k
def q_fit (N : Nat → Int64) (nd : Nat → Int32) (nb : Nat) : Nat → Nat → Int32 → Int64
  | 0, _, _ => 549755813888
  | f + 1, lv, gs => if gs = 0 then 549755813888 else if q_least N gs (2 * nb) = 8589934592 then q_fit N nd nb f (lv + 1) (q_nb nd gs nb) else (nI lv).toInt64 * 8589934592 + q_least N gs (2 * nb)
section FT
variable {S : XS} {d nb : Nat} {I : Nat → Nat → Int32} {J : Nat → Nat → Int64} {R : Nat → Nat → Option Nat}
/-- Runner.leastNearest -/
theorem s_leastNearest (hR : RF R) {gs : Int32} (ng : Nat) (hng : ng ≤ 24) {xc : Int32} (e1 : xc = nI ng) : XP S (d + 1) 48 0 (xent [.ref 20, .int gs, .int xc] 6) [] (hh I J R) (rJ (q_least (J 22) gs ng) (hh I J R)) := by
  subst e1
  have loop : ∀ (f k : Nat), k + f = ng → XP S (d + 1) 48 7 [some (.ref 20), some (.int gs), some (.int (nI ng)), some (.long (q_least (J 22) gs k)), none, some (.int (nI k))] [] (hh I J R) (rJ (q_least (J 22) gs ng) (hh I J R)) := by
    intro f
    induction f with
    | zero =>
      intro k hk
      have hk : k = ng := by omega
      subst hk
      refine y_loc (pc' := 9) xD_48 rfl rfl rfl rfl ?_
      refine y_loc (pc' := 10) xD_48 rfl rfl rfl rfl ?_
      refine y_icge (pt := 40) (pf := 13) xD_48 rfl rfl rfl (fun h10 => ?_) (fun h10 => ?_)
      · skip
        refine y_loc (pc' := 41) xD_48 rfl rfl rfl rfl ?_
        refine y_retJ xD_48 rfl rfl ?_
        exact rJ_e rfl
      · skip
        exact absurd (Int32.le_refl _) h10
    | succ f ih =>
      intro k hk
      have e5 : nI k + 1 = nI (k + 1) := nI_1 k
      have step := ih (k + 1) (by omega)
      simp only [q_least] at step
      refine y_loc (pc' := 9) xD_48 rfl rfl rfl rfl ?_
      refine y_loc (pc' := 10) xD_48 rfl rfl rfl rfl ?_
      refine y_icge (pt := 40) (pf := 13) xD_48 rfl rfl rfl (fun h10 => ?_) (fun h10 => ?_)
      · skip
        exact absurd h10 (nI_ge (by omega) (by omega))
      · skip
        refine y_loc (pc' := 14) xD_48 rfl rfl rfl rfl ?_
        refine y_loc (pc' := 16) xD_48 rfl rfl rfl rfl ?_
        refine y_callS xD_48 rfl rfl rfl rfl rfl rfl rfl rfl (s_hasGoal) (fun v h' hq => ?_)
        obtain ⟨rfl, rfl⟩ := hq
        refine y_ifeq (pt := 34) (pf := 22) xD_48 rfl rfl rfl (fun h19 => ?_) (fun h19 => ?_)
        · skip
          refine y_inc (pc' := 37) (nI (k + 1)) xD_48 rfl rfl rfl e5 rfl rfl ?_
          refine y_goto (pc' := 7) xD_48 rfl rfl ?_
          first | (rw [if_pos (Decidable.not_not.mp (zB_0.mp h19))] at step; exact step) | (rw [if_neg (zB_n0.mp h19)] at step; exact step)
        · skip
          refine y_loc (pc' := 23) xD_48 rfl rfl rfl rfl ?_
          refine y_loc (pc' := 24) xD_48 rfl rfl rfl rfl ?_
          first | refine m_getR (pc' := 27) xD_48 rfl rfl rfl rfl (hR.1 _ _ _ rfl) rfl ?_ | refine m_getR (pc' := 27) xD_48 rfl rfl (by first | rfl | assumption) rfl (by assumption) rfl ?_
          refine y_loc (pc' := 29) xD_48 rfl rfl rfl rfl ?_
          refine m_jald (pc' := 30) (k) xD_48 rfl (by first | rfl | assumption) (by first | assumption | omega) (by first | decide | assumption) (by first | rfl | assumption) rfl ?_
          refine y_callS xD_48 rfl rfl rfl rfl rfl rfl rfl rfl (s_minJ) (fun v h' hq => ?_)
          obtain ⟨rfl, rfl⟩ := hq
          refine y_loc (pc' := 34) xD_48 rfl rfl rfl rfl ?_
          refine y_inc (pc' := 37) (nI (k + 1)) xD_48 rfl rfl rfl e5 rfl rfl ?_
          refine y_goto (pc' := 7) xD_48 rfl rfl ?_
          first | (rw [if_pos (Decidable.not_not.mp (zB_0.mp h19))] at step; exact step) | (rw [if_neg (zB_n0.mp h19)] at step; exact step)
  refine y_ldc (pc' := 3) xD_48 rfl rfl rfl rfl ?_
  refine y_loc (pc' := 4) xD_48 rfl rfl rfl rfl ?_
  refine y_ci (pc' := 5) (0) xD_48 rfl rfl rfl rfl ?_
  refine y_loc (pc' := 7) xD_48 rfl rfl rfl rfl ?_
  exact loop ng 0 (by omega)
/-- Program.goalsNeededBy -/
theorem s_goalsNeededBy (hR : RF R) {gs : Int32} (hnb : I 2 3 = nI nb) (hnb2 : nb ≤ 12) : XP S d 50 0 (xent [.ref 2, .int gs] 4) [] (hh I J R) (rI (q_nb (I 16) gs nb) (hh I J R)) := by
  have loop : ∀ (f k : Nat), k + f = nb → XP S d 50 4 [some (.ref 2), some (.int gs), some (.int (q_nb (I 16) gs k)), some (.int (nI k))] [] (hh I J R) (rI (q_nb (I 16) gs nb) (hh I J R)) := by
    intro f
    induction f with
    | zero =>
      intro k hk
      have hk : k = nb := by omega
      subst hk
      refine y_loc (pc' := 5) xD_50 rfl rfl rfl rfl ?_
      refine y_loc (pc' := 6) xD_50 rfl rfl rfl rfl ?_
      refine m_get (pc' := 9) xD_50 rfl rfl (by first | rfl | assumption) rfl rfl ?_
      refine y_icge (pt := 37) (pf := 12) xD_50 rfl rfl rfl (fun h9 => ?_) (fun h9 => ?_)
      · skip
        refine y_loc (pc' := 38) xD_50 rfl rfl rfl rfl ?_
        refine y_retI xD_50 rfl rfl ?_
        exact rI_e rfl
      · skip
        exact absurd (show I 2 3 ≤ nI k by rw [hnb]; exact Int32.le_refl _) h9
    | succ f ih =>
      intro k hk
      have e5 : nI k + 1 = nI (k + 1) := nI_1 k
      have step := ih (k + 1) (by omega)
      simp only [q_nb] at step
      refine y_loc (pc' := 5) xD_50 rfl rfl rfl rfl ?_
      refine y_loc (pc' := 6) xD_50 rfl rfl rfl rfl ?_
      refine m_get (pc' := 9) xD_50 rfl rfl (by first | rfl | assumption) rfl rfl ?_
      refine y_icge (pt := 37) (pf := 12) xD_50 rfl rfl rfl (fun h9 => ?_) (fun h9 => ?_)
      · skip
        exact absurd h9 (by rw [hnb]; exact nI_ge (by omega) (by omega))
      · skip
        refine y_loc (pc' := 13) xD_50 rfl rfl rfl rfl ?_
        refine y_ci (pc' := 14) (2) xD_50 rfl rfl rfl rfl ?_
        refine y_loc (pc' := 15) xD_50 rfl rfl rfl rfl ?_
        refine y_op (pc' := 16) xD_50 rfl rfl rfl rfl ?_
        refine y_op (pc' := 17) xD_50 rfl rfl rfl rfl ?_
        refine y_ci (pc' := 18) (3) xD_50 rfl rfl rfl rfl ?_
        refine y_op (pc' := 19) xD_50 rfl rfl rfl rfl ?_
        refine y_ifeq (pt := 31) (pf := 22) xD_50 rfl rfl rfl (fun h19 => ?_) (fun h19 => ?_)
        · skip
          refine y_inc (pc' := 34) (nI (k + 1)) xD_50 rfl rfl rfl e5 rfl rfl ?_
          refine y_goto (pc' := 4) xD_50 rfl rfl ?_
          first | (rw [if_pos h19] at step; exact step) | (rw [if_neg h19] at step; exact step)
        · skip
          refine y_loc (pc' := 23) xD_50 rfl rfl rfl rfl ?_
          refine y_loc (pc' := 24) xD_50 rfl rfl rfl rfl ?_
          first | refine m_getR (pc' := 27) xD_50 rfl rfl rfl rfl (hR.1 _ _ _ rfl) rfl ?_ | refine m_getR (pc' := 27) xD_50 rfl rfl (by first | rfl | assumption) rfl (by assumption) rfl ?_
          refine y_loc (pc' := 28) xD_50 rfl rfl rfl rfl ?_
          refine m_iald (pc' := 29) (k) xD_50 rfl (by first | rfl | assumption) (by first | assumption | omega) (by first | decide | assumption) (by first | decide | omega) (by first | rfl | assumption) rfl ?_
          refine y_op (pc' := 30) xD_50 rfl rfl rfl rfl ?_
          refine y_loc (pc' := 31) xD_50 rfl rfl rfl rfl ?_
          refine y_inc (pc' := 34) (nI (k + 1)) xD_50 rfl rfl rfl e5 rfl rfl ?_
          refine y_goto (pc' := 4) xD_50 rfl rfl ?_
          first | (rw [if_pos h19] at step; exact step) | (rw [if_neg h19] at step; exact step)
  refine y_ci (pc' := 1) (0) xD_50 rfl rfl rfl rfl ?_
  refine y_loc (pc' := 2) xD_50 rfl rfl rfl rfl ?_
  refine y_ci (pc' := 3) (0) xD_50 rfl rfl rfl rfl ?_
  refine y_loc (pc' := 4) xD_50 rfl rfl rfl rfl ?_
  exact loop nb 0 (by omega)
/-- Runner.fitnessFor -/
theorem s_fitnessFor (hR : RF R) {g : Int32} (hnb : I 2 3 = nI nb) (hnb2 : nb ≤ 12) : XP S (d + 2) 47 0 (xent [.ref 20, .int g, .ref 2] 7) [] (hh I J R) (rJ (q_fit (J 22) (I 16) nb 13 0 (1 <<< (g &&& 31))) (hh I J R)) := by
  have hgc : (2 : Int32) * I 2 3 = nI (2 * nb) := by rw [hnb]; exact pk_mul 2 nb
  have loop : ∀ (f lv : Nat) (gs : Int32) (q5 : Option Value), lv + f = 13 → XP S (d + 2) 47 7 [some (.ref 20), some (.int g), some (.ref 2), some (.int gs), some (.int (nI lv)), q5, none] [] (hh I J R) (rJ (q_fit (J 22) (I 16) nb f lv gs) (hh I J R)) := by
    intro f
    induction f with
    | zero =>
      intro lv gs q5 hlv
      refine y_loc (pc' := 9) xD_47 rfl rfl rfl rfl ?_
      refine y_ci (pc' := 11) (12) xD_47 rfl rfl rfl rfl ?_
      refine y_icgt (pt := 61) (pf := 14) xD_47 rfl rfl rfl (fun h11 => ?_) (fun h11 => ?_)
      · skip
        refine y_ldc (pc' := 64) xD_47 rfl rfl rfl rfl ?_
        refine y_retJ xD_47 rfl rfl ?_
        exact rJ_e rfl
      · exact absurd (show (12 : Int32) < nI lv by rw [show lv = 13 by omega]; decide) h11
    | succ f ih =>
      intro lv gs q5 hlv
      have e5 : nI lv + 1 = nI (lv + 1) := nI_1 lv
      refine y_loc (pc' := 9) xD_47 rfl rfl rfl rfl ?_
      refine y_ci (pc' := 11) (12) xD_47 rfl rfl rfl rfl ?_
      refine y_icgt (pt := 61) (pf := 14) xD_47 rfl rfl rfl (fun h11 => ?_) (fun h11 => ?_)
      · skip
        refine y_ldc (pc' := 64) xD_47 rfl rfl rfl rfl ?_
        first | exact absurd h11 (Int32.not_lt.mpr (nI_le (b := 12) (by omega) (by omega))) | (rw [show q_fit (J 22) (I 16) nb (f + 1) lv gs = 549755813888 by simp only [q_fit]; rw [if_pos h15]]; refine y_retJ xD_47 rfl rfl ?_; exact rJ_e rfl)
      · skip
        refine y_loc (pc' := 15) xD_47 rfl rfl rfl rfl ?_
        refine y_ifeq (pt := 61) (pf := 18) xD_47 rfl rfl rfl (fun h15 => ?_) (fun h15 => ?_)
        · skip
          refine y_ldc (pc' := 64) xD_47 rfl rfl rfl rfl ?_
          first | exact absurd h11 (Int32.not_lt.mpr (nI_le (b := 12) (by omega) (by omega))) | (rw [show q_fit (J 22) (I 16) nb (f + 1) lv gs = 549755813888 by simp only [q_fit]; rw [if_pos h15]]; refine y_retJ xD_47 rfl rfl ?_; exact rJ_e rfl)
        · skip
          refine y_loc (pc' := 19) xD_47 rfl rfl rfl rfl ?_
          refine y_loc (pc' := 20) xD_47 rfl rfl rfl rfl ?_
          refine y_loc (pc' := 21) xD_47 rfl rfl rfl rfl ?_
          refine y_callV xD_47 rfl rfl rfl rfl (by first | rfl | assumption) rfl rfl rfl rfl (s_goalCount) (fun v h' hq => ?_)
          obtain ⟨rfl, rfl⟩ := hq
          refine y_callV xD_47 rfl rfl rfl rfl (by first | rfl | assumption) rfl rfl rfl rfl (s_leastNearest hR (2 * nb) (by omega) hgc) (fun v h' hq => ?_)
          obtain ⟨rfl, rfl⟩ := hq
          refine y_loc (pc' := 29) xD_47 rfl rfl rfl rfl ?_
          refine y_loc (pc' := 31) xD_47 rfl rfl rfl rfl ?_
          refine y_ldc (pc' := 34) xD_47 rfl rfl rfl rfl ?_
          refine y_op (pc' := 35) xD_47 rfl rfl rfl rfl ?_
          refine y_ifeq (pt := 49) (pf := 38) xD_47 rfl rfl rfl (fun h35 => ?_) (fun h35 => ?_)
          · skip
            refine y_loc (pc' := 50) xD_47 rfl rfl rfl rfl ?_
            refine y_loc (pc' := 51) xD_47 rfl rfl rfl rfl ?_
            refine y_callV xD_47 rfl rfl rfl rfl (by first | rfl | assumption) rfl rfl rfl rfl (s_goalsNeededBy hR hnb hnb2) (fun v h' hq => ?_)
            obtain ⟨rfl, rfl⟩ := hq
            refine y_loc (pc' := 55) xD_47 rfl rfl rfl rfl ?_
            refine y_inc (pc' := 58) (nI (lv + 1)) xD_47 rfl rfl rfl e5 rfl rfl ?_
            refine y_goto (pc' := 7) xD_47 rfl rfl ?_
            (rw [show q_fit (J 22) (I 16) nb (f + 1) lv gs = q_fit (J 22) (I 16) nb f (lv + 1) (q_nb (I 16) gs nb) by simp only [q_fit]; rw [if_neg h15, if_pos (lg_eq.mp h35)]]; exact ih (lv + 1) _ _ (by omega))
          · skip
            refine y_loc (pc' := 40) xD_47 rfl rfl rfl rfl ?_
            refine y_op (pc' := 41) xD_47 rfl rfl rfl rfl ?_
            refine y_ldc (pc' := 44) xD_47 rfl rfl rfl rfl ?_
            refine y_op (pc' := 45) xD_47 rfl rfl rfl rfl ?_
            refine y_loc (pc' := 47) xD_47 rfl rfl rfl rfl ?_
            refine y_op (pc' := 48) xD_47 rfl rfl rfl rfl ?_
            rw [show q_fit (J 22) (I 16) nb (f + 1) lv gs = (nI lv).toInt64 * 8589934592 + q_least (J 22) gs (2 * nb) by simp only [q_fit]; rw [if_neg h15, if_neg (fun q => h35 (lg_eq.mpr q))]]
            refine y_retJ xD_47 rfl rfl ?_
            exact rJ_e rfl
  refine y_ci (pc' := 1) (1) xD_47 rfl rfl rfl rfl ?_
  refine y_loc (pc' := 2) xD_47 rfl rfl rfl rfl ?_
  refine y_op (pc' := 3) xD_47 rfl rfl rfl rfl ?_
  refine y_loc (pc' := 4) xD_47 rfl rfl rfl rfl ?_
  refine y_ci (pc' := 5) (0) xD_47 rfl rfl rfl rfl ?_
  refine y_loc (pc' := 7) xD_47 rfl rfl rfl rfl ?_
  exact loop 13 0 _ none (by omega)
end FT
end
section
/-! The class's perform, whole. -/
def q_set (N : Nat → Int64) : Nat → Int32
  | 0 => 0
  | k + 1 => if N k = 0 then q_set N k ||| (1 <<< (nI k &&& 31)) else q_set N k
theorem xu_xu {α : Type} {f : Nat → Nat → α} {a i : Nat} {v w : α} : xu (xu f a i v) a i w = xu f a i w := by
  funext x y
  unfold xu
  split <;> rfl
def v0C (I : Nat → Nat → Int32) : Nat → Int32 := fun i => if i < 8 then 0 else I 21 i
def n0C (J : Nat → Nat → Int64) : Nat → Int64 := fun i => if i < 24 then 8589934592 else J 22 i
/-- what the class's perform comes to -/
def rnC (I : Nat → Nat → Int32) (J : Nat → Nat → Int64) (a n : Nat) : (Nat → Int32) × (Nat → Int64) × (Nat → Int64) × Bool := rsC I a (v0C I) (n0C J) (J (a + 2)) n
def ftC (I : Nat → Nat → Int32) (N : Nat → Int64) (nb : Nat) (old : Nat → Int64) (k : Nat) : Nat → Int64 := fun g => if g < k then q_fit N (I 16) nb 13 0 (1 <<< (nI g &&& 31)) else old g
theorem q_rs_eq {U : Nat → Int64 → Int64 → (Nat → Int64) → Nat → Int64} {cdf cdf' : Nat → Nat → Nat → Int32} {bnf bnf' : Nat → Nat → Option Nat} {ln ln' : Nat → Nat} {f : Nat → Int32} {v : Nat → Int32} {N res : Nat → Int64} (h : ∀ m, m < 2 → ln' m = ln m ∧ cdf' m = cdf m ∧ bnf' m = bnf m) : ∀ (n : Nat), (∀ j, j < n → VS f j) → q_rs U cdf' bnf' ln' f v N res n = q_rs U cdf bnf ln f v N res n
  | 0, _ => rfl
  | n + 1, hV => by
    have ih := q_rs_eq (U := U) (v := v) (N := N) (res := res) h n (fun j hj => hV j (by omega))
    cases ho : (q_rs U cdf bnf ln f v N res n).2.2.2 with
    | true => rw [q_rs_t ho, q_rs_t (by rw [ih]; exact ho), ih]
    | false => rw [q_rs_f ho, q_rs_f (by rw [ih]; exact ho), ih, q_do_eq (hV n (by omega)) h]
section PW
variable {S : XS} {d a nb : Nat} {I : Nat → Nat → Int32} {J : Nat → Nat → Int64} {R : Nat → Nat → Option Nat}
theorem s_perf_goals (hR : RF R) (hc : isCase a) (hnb : I 2 3 = nI nb) (hnb2 : nb ≤ 12) : ∀ (f k : Nat) (q3 : Option Value), k + f = 2 * nb →
    XP S (d + 5) 34 105 [some (.ref 20), some (.ref a), some (.ref 2), q3, some (.int (nI k))] [] (hh (xu I a 4 (q_set (J 22) k)) (xrow J (a + 3) (ftC I (J 22) nb (J (a + 3)) k)) R) (rV (hh (xu I a 4 (q_set (J 22) (2 * nb))) (xrow J (a + 3) (ftC I (J 22) nb (J (a + 3)) (2 * nb))) R)) := by
  have ca := hc
  obtain ⟨hk0, hk1, hk2, hk3⟩ := kCase hc
  obtain ⟨hr0, hr1, hr2⟩ := hR.2 a hc
  have x2 : (2 : Nat) ≠ a := by unfold isCase at ca; omega
  have x16 : (16 : Nat) ≠ a := by unfold isCase at ca; omega
  have x22 : (22 : Nat) ≠ a + 3 := by unfold isCase at ca; omega
  have g2 : ∀ x : Int32, xu I a 4 x 2 = I 2 := fun x => xu_ne x2
  have hgc : ∀ x : Int32, (2 : Int32) * xu I a 4 x 2 3 = nI (2 * nb) := fun x => by rw [g2, hnb]; exact pk_mul 2 nb
  intro f
  induction f with
  | zero =>
    intro k q3 hk
    have hk : k = 2 * nb := by omega
    subst hk
    refine y_loc (pc' := 107) xD_34 rfl rfl rfl rfl ?_
    refine y_loc (pc' := 108) xD_34 rfl rfl rfl rfl ?_
    refine y_callV xD_34 rfl rfl rfl rfl (by first | rfl | assumption) rfl rfl rfl rfl (s_goalCount) (fun v h' hq => ?_)
    obtain ⟨rfl, rfl⟩ := hq
    refine y_icge (pt := 163) (pf := 114) xD_34 rfl rfl rfl (fun h111 => ?_) (fun h111 => ?_)
    · skip
      refine y_retV xD_34 rfl rfl ?_
      exact ⟨rfl, rfl⟩
    · skip
      exact absurd (show (2 : Int32) * xu I a 4 _ 2 3 ≤ nI (2 * nb) by rw [hgc]; exact Int32.le_refl _) h111
  | succ f ih =>
    intro k q3 hk
    have e5 : nI k + 1 = nI (k + 1) := nI_1 k
    have step := fun q3 => ih (k + 1) q3 (by omega)
    have eJ : xu (xrow J (a + 3) (ftC I (J 22) nb (J (a + 3)) k)) (a + 3) k (q_fit (J 22) (I 16) nb 13 0 (1 <<< (nI k &&& 31))) = xrow J (a + 3) (ftC I (J 22) nb (J (a + 3)) (k + 1)) := by
      refine row_ext (fun i => ?_)
      unfold ftC
      by_cases h1 : i = k
      · subst h1; rw [if_pos rfl, if_pos (by omega)]
      · rw [if_neg h1]
        by_cases h2 : i < k
        · rw [if_pos h2, if_pos (by omega)]
        · rw [if_neg h2, if_neg (by omega)]
    have tail : ∀ x : Int32, x = q_set (J 22) (k + 1) → XP S (d + 5) 34 143 [some (.ref 20), some (.ref a), some (.ref 2), q3, some (.int (nI k))] [] (hh (xu I a 4 x) (xrow J (a + 3) (ftC I (J 22) nb (J (a + 3)) k)) R) (rV (hh (xu I a 4 (q_set (J 22) (2 * nb))) (xrow J (a + 3) (ftC I (J 22) nb (J (a + 3)) (2 * nb))) R)) := by
      intro x hx
      subst hx
      refine y_loc (pc' := 144) xD_34 rfl rfl rfl rfl ?_
      first | refine m_getR (pc' := 147) xD_34 rfl rfl rfl rfl (hR.1 _ _ _ rfl) rfl ?_ | refine m_getR (pc' := 147) xD_34 rfl rfl (by first | rfl | assumption) rfl (by assumption) rfl ?_
      refine y_loc (pc' := 149) xD_34 rfl rfl rfl rfl ?_
      refine y_loc (pc' := 150) xD_34 rfl rfl rfl rfl ?_
      refine y_loc (pc' := 152) xD_34 rfl rfl rfl rfl ?_
      refine y_loc (pc' := 153) xD_34 rfl rfl rfl rfl ?_
      refine y_callV xD_34 rfl rfl rfl rfl (by first | rfl | assumption) rfl rfl rfl rfl (s_fitnessFor (nb := nb) hR (by rw [g2]; exact hnb) hnb2) (fun v h' hq => ?_)
      obtain ⟨rfl, rfl⟩ := hq
      rw [xrow_ne x22, xu_ne x16]
      refine m_jast (pc' := 157) (k) xD_34 rfl (by first | rfl | assumption) (by first | assumption | omega) (by first | decide | assumption) (by first | rfl | assumption) rfl ?_
      rw [eJ]
      refine y_inc (pc' := 160) (nI (k + 1)) xD_34 rfl rfl rfl e5 rfl rfl ?_
      refine y_goto (pc' := 105) xD_34 rfl rfl ?_
      exact step _
    refine y_loc (pc' := 107) xD_34 rfl rfl rfl rfl ?_
    refine y_loc (pc' := 108) xD_34 rfl rfl rfl rfl ?_
    refine y_callV xD_34 rfl rfl rfl rfl (by first | rfl | assumption) rfl rfl rfl rfl (s_goalCount) (fun v h' hq => ?_)
    obtain ⟨rfl, rfl⟩ := hq
    refine y_icge (pt := 163) (pf := 114) xD_34 rfl rfl rfl (fun h111 => ?_) (fun h111 => ?_)
    · skip
      exact absurd h111 (by rw [hgc]; exact nI_ge (by omega) (by omega))
    · skip
      refine y_loc (pc' := 115) xD_34 rfl rfl rfl rfl ?_
      refine y_op (pc' := 116) xD_34 rfl rfl rfl rfl ?_
      refine m_get (pc' := 119) xD_34 rfl rfl (by first | rfl | assumption) rfl rfl ?_
      refine y_loc (pc' := 120) xD_34 rfl rfl rfl rfl ?_
      first | refine m_getR (pc' := 123) xD_34 rfl rfl rfl rfl (hR.1 _ _ _ rfl) rfl ?_ | refine m_getR (pc' := 123) xD_34 rfl rfl (by first | rfl | assumption) rfl (by assumption) rfl ?_
      refine y_loc (pc' := 125) xD_34 rfl rfl rfl rfl ?_
      refine m_jald (pc' := 126) (k) xD_34 rfl (by first | rfl | assumption) (by first | assumption | omega) (by first | decide | assumption) (by first | rfl | assumption) rfl ?_
      rw [xrow_ne x22]
      refine y_cj (pc' := 127) (0) xD_34 rfl rfl rfl rfl ?_
      refine y_op (pc' := 128) xD_34 rfl rfl rfl rfl ?_
      refine y_ifne (pt := 138) (pf := 131) xD_34 rfl rfl rfl (fun h128 => ?_) (fun h128 => ?_)
      · skip
        refine y_ci (pc' := 139) (0) xD_34 rfl rfl rfl rfl ?_
        refine y_op (pc' := 140) xD_34 rfl rfl rfl rfl ?_
        refine m_putI (pc' := 143) xD_34 rfl rfl (by first | rfl | assumption) rfl rfl rfl ?_
        rw [xu_xu, xu_at, if_pos rfl]
        first
        | exact tail _ (by simp only [q_set]; rw [if_pos (lg_eq.mp h128)])
        | exact tail _ (by simp only [q_set]; rw [if_neg (fun q => h128 (lg_eq.mpr q)), Int32.or_zero])
      · skip
        refine y_ci (pc' := 132) (1) xD_34 rfl rfl rfl rfl ?_
        refine y_loc (pc' := 134) xD_34 rfl rfl rfl rfl ?_
        refine y_op (pc' := 135) xD_34 rfl rfl rfl rfl ?_
        refine y_goto (pc' := 139) xD_34 rfl rfl ?_
        refine y_op (pc' := 140) xD_34 rfl rfl rfl rfl ?_
        refine m_putI (pc' := 143) xD_34 rfl rfl (by first | rfl | assumption) rfl rfl rfl ?_
        rw [xu_xu, xu_at, if_pos rfl]
        first
        | exact tail _ (by simp only [q_set]; rw [if_pos (lg_eq.mp h128)])
        | exact tail _ (by simp only [q_set]; rw [if_neg (fun q => h128 (lg_eq.mpr q)), Int32.or_zero])
/-- Runner.perform -/
theorem s_perform (hR : RF R) (hc : isCase a) (hP : PC I) (hnb : I 2 3 = nI nb) (hnb2 : nb ≤ 12) {n : Nat} (hn : I a 3 = nI n) (hn6 : n ≤ 6) (hV : ∀ j, j < n → VS (I (a + 1)) j) :
    XP S (d + 5) 34 0 (xent [.ref 20, .ref a, .ref 2] 5) [] (hh I J R) (rV (hh (xu (xrow (xu I 20 2 (I 20 2 + 1)) 21 (rnC I J a n).1) a 4 (q_set (rnC I J a n).2.1 (2 * nb))) (xrow (xrow (xrow J 22 (rnC I J a n).2.1) (a + 2) (rnC I J a n).2.2.1) (a + 3) (ftC I (rnC I J a n).2.1 nb (J (a + 3)) (2 * nb))) R)) := by
  have ca := hc
  obtain ⟨hk0, hk1, hk2, hk3⟩ := kCase hc
  obtain ⟨hr0, hr1, hr2⟩ := hR.2 a hc
  have y0 : a ≠ 20 := by unfold isCase at ca; omega
  have y1 : a + 1 ≠ 20 := by unfold isCase at ca; omega
  have y2 : a + 2 ≠ 22 := by unfold isCase at ca; omega
  have y3 : a + 3 ≠ 22 := by unfold isCase at ca; omega
  have y4 : a + 3 ≠ a + 2 := by omega
  have y5 : (22 : Nat) ≠ a + 2 := by omega
  obtain ⟨hP1, hE⟩ := PC_eq (I' := xu I 20 2 (I 20 2 + 1)) (fun y hy => xu_ne (by omega)) hP
  have hrs : ∀ j, j ≤ n → rsC (xu I 20 2 (I 20 2 + 1)) a (v0C I) (n0C J) (J (a + 2)) j = rsC I a (v0C I) (n0C J) (J (a + 2)) j := by
    intro j hj
    unfold rsC
    rw [xu_ne y1]
    exact q_rs_eq hE j (fun i hi => hV i (by omega))
  have loop := fun Q K => s_perf_loop (S := S) (d := d) (I := xu I 20 2 (I 20 2 + 1)) (J := J) (Q := Q) hR hc hP1 (n := n) (by rw [xu_ne y0]; exact hn) hn6 (by rw [xu_ne y1]; exact hV) (v0C I) (n0C J) (J (a + 2)) K n 0 (by omega)
  have goals := fun q3 => s_perf_goals (S := S) (d := d) (nb := nb) (I := xrow (xu I 20 2 (I 20 2 + 1)) 21 (rnC I J a n).1) (J := xrow (xrow J 22 (rnC I J a n).2.1) (a + 2) (rnC I J a n).2.2.1) hR hc (by rw [xrow_ne (by decide), xu_ne (by decide)]; exact hnb) hnb2 (2 * nb) 0 q3 (by omega)
  have e22 : xrow (xrow J 22 (rnC I J a n).2.1) (a + 2) (rnC I J a n).2.2.1 22 = (rnC I J a n).2.1 := by rw [xrow_ne y5, xrow_at]
  have ea3 : xrow (xrow J 22 (rnC I J a n).2.1) (a + 2) (rnC I J a n).2.2.1 (a + 3) = J (a + 3) := by rw [xrow_ne y4, xrow_ne y3]
  rw [e22, ea3] at goals
  have eft : ∀ k, ftC (xrow (xu I 20 2 (I 20 2 + 1)) 21 (rnC I J a n).1) (rnC I J a n).2.1 nb (J (a + 3)) k = ftC I (rnC I J a n).2.1 nb (J (a + 3)) k := by
    intro k
    unfold ftC
    rw [xrow_ne (by decide), xu_ne (by decide)]
  simp only [eft] at goals
  have eft0 : xrow (xrow (xrow J 22 (rnC I J a n).2.1) (a + 2) (rnC I J a n).2.2.1) (a + 3) (ftC I (rnC I J a n).2.1 nb (J (a + 3)) 0) = xrow (xrow J 22 (rnC I J a n).2.1) (a + 2) (rnC I J a n).2.2.1 := by
    rw [show ftC I (rnC I J a n).2.1 nb (J (a + 3)) 0 = J (a + 3) from by funext g; unfold ftC; rw [if_neg (by omega)], ← ea3, xrow_id]
  rw [eft0] at goals
  have e0 : rsC (xu I 20 2 (I 20 2 + 1)) a (v0C I) (n0C J) (J (a + 2)) 0 = (v0C I, n0C J, J (a + 2), false) := rfl
  have en : rsC (xu I 20 2 (I 20 2 + 1)) a (v0C I) (n0C J) (J (a + 2)) n = rnC I J a n := hrs n (Nat.le_refl _)
  rw [e0, en] at loop
  have eJ0 : xrow (xrow J 22 (n0C J)) (a + 2) (J (a + 2)) = xrow J 22 (n0C J) := by
    have : xrow J 22 (n0C J) (a + 2) = J (a + 2) := xrow_ne y2
    rw [← this, xrow_id]
  have K97 : ∀ q : Option Value, XP S (d + 5) 34 97 [some (.ref 20), some (.ref a), some (.ref 2), q, some (.int (nI n))] [] (hh (xrow (xu I 20 2 (I 20 2 + 1)) 21 (rnC I J a n).1) (xrow (xrow J 22 (rnC I J a n).2.1) (a + 2) (rnC I J a n).2.2.1) R) (rV (hh (xu (xrow (xu I 20 2 (I 20 2 + 1)) 21 (rnC I J a n).1) a 4 (q_set (rnC I J a n).2.1 (2 * nb))) (xrow (xrow (xrow J 22 (rnC I J a n).2.1) (a + 2) (rnC I J a n).2.2.1) (a + 3) (ftC I (rnC I J a n).2.1 nb (J (a + 3)) (2 * nb))) R)) := by
    intro q
    refine y_loc (pc' := 98) xD_34 rfl rfl rfl rfl ?_
    refine y_ci (pc' := 99) (0) xD_34 rfl rfl rfl rfl ?_
    refine m_putI (pc' := 102) xD_34 rfl rfl (by first | rfl | assumption) rfl rfl rfl ?_
    refine y_ci (pc' := 103) (0) xD_34 rfl rfl rfl rfl ?_
    refine y_loc (pc' := 105) xD_34 rfl rfl rfl rfl ?_
    exact goals _
  have start := loop _ K97
  simp only [eJ0] at start
  refine y_loc (pc' := 1) xD_34 rfl rfl rfl rfl ?_
  refine y_op (pc' := 2) xD_34 rfl rfl rfl rfl ?_
  refine m_get (pc' := 5) xD_34 rfl rfl (by first | rfl | assumption) rfl rfl ?_
  refine y_ci (pc' := 6) (1) xD_34 rfl rfl rfl rfl ?_
  refine y_op (pc' := 7) xD_34 rfl rfl rfl rfl ?_
  refine m_putI (pc' := 10) xD_34 rfl rfl (by first | rfl | assumption) rfl rfl rfl ?_
  refine y_loc (pc' := 11) xD_34 rfl rfl rfl rfl ?_
  first | refine m_getR (pc' := 14) xD_34 rfl rfl rfl rfl (hR.1 _ _ _ rfl) rfl ?_ | refine m_getR (pc' := 14) xD_34 rfl rfl (by first | rfl | assumption) rfl (by assumption) rfl ?_
  refine y_ci (pc' := 15) (0) xD_34 rfl rfl rfl rfl ?_
  refine y_callS xD_34 rfl rfl rfl rfl rfl rfl rfl rfl (s_fillI 8 rfl (by decide) (by decide)) (fun v h' hq => ?_)
  obtain ⟨rfl, rfl⟩ := hq
  rw [xu_ne (show (21 : Nat) ≠ 20 by decide)]
  refine y_loc (pc' := 19) xD_34 rfl rfl rfl rfl ?_
  first | refine m_getR (pc' := 22) xD_34 rfl rfl rfl rfl (hR.1 _ _ _ rfl) rfl ?_ | refine m_getR (pc' := 22) xD_34 rfl rfl (by first | rfl | assumption) rfl (by assumption) rfl ?_
  refine y_ldc (pc' := 25) xD_34 rfl rfl rfl rfl ?_
  refine y_callS xD_34 rfl rfl rfl rfl rfl rfl rfl rfl (s_fillJ 24 rfl (by decide) (by decide)) (fun v h' hq => ?_)
  obtain ⟨rfl, rfl⟩ := hq
  refine y_ci (pc' := 29) (0) xD_34 rfl rfl rfl rfl ?_
  refine y_loc (pc' := 30) xD_34 rfl rfl rfl rfl ?_
  refine y_ci (pc' := 31) (0) xD_34 rfl rfl rfl rfl ?_
  refine y_loc (pc' := 33) xD_34 rfl rfl rfl rfl ?_
  exact start
end PW
end
section
/-! The model's reached and level. -/
def q_in (N : Nat → Int64) (nd : Nat → Int32) (gs : Int32) : Nat → Int64 × Int32
  | 0 => (-1, 0)
  | h + 1 => if bitI gs (nI h) = 1 then ((if 0 ≤ N h ∧ ((q_in N nd gs h).1 < 0 ∨ N h < (q_in N nd gs h).1) then N h else (q_in N nd gs h).1), (q_in N nd gs h).2 ||| nd (h / 2)) else q_in N nd gs h
def q_lvl (N : Nat → Int64) (nd : Nat → Int32) (nb : Nat) : Nat → Nat → Int32 → Int64
  | 0, _, _ => 549755813888
  | f + 1, k, gs => if 0 ≤ (q_in N nd gs (2 * nb)).1 then (nI k).toInt64 * 8589934592 + (q_in N nd gs (2 * nb)).1 else q_lvl N nd nb f (k + 1) (q_in N nd gs (2 * nb)).2
def q_level (N : Nat → Int64) (nd : Nat → Int32) (nb g : Nat) : Int64 := if 0 ≤ N g then N g else q_lvl N nd nb 24 1 (nd (g / 2))
section QI
variable {N : Nat → Int64} {nd : Nat → Int32} {gs : Int32} {h : Nat}
theorem q_in_a (hb : ¬ bitI gs (nI h) = 1) : q_in N nd gs (h + 1) = q_in N nd gs h := by simp only [q_in]; rw [if_neg hb]
theorem q_in_b (hb : bitI gs (nI h) = 1) (h0 : N h < 0) : q_in N nd gs (h + 1) = ((q_in N nd gs h).1, (q_in N nd gs h).2 ||| nd (h / 2)) := by
  simp only [q_in]
  rw [if_pos hb, if_neg (fun q => absurd h0 (Int64.not_lt.mpr q.1))]
theorem q_in_c (hb : bitI gs (nI h) = 1) (h0 : ¬ N h < 0) (h1 : (q_in N nd gs h).1 < 0) : q_in N nd gs (h + 1) = (N h, (q_in N nd gs h).2 ||| nd (h / 2)) := by
  simp only [q_in]
  rw [if_pos hb, if_pos ⟨Int64.not_lt.mp h0, Or.inl h1⟩]
theorem q_in_d (hb : bitI gs (nI h) = 1) (h1 : ¬ (q_in N nd gs h).1 < 0) (h2 : ¬ N h < (q_in N nd gs h).1) : q_in N nd gs (h + 1) = ((q_in N nd gs h).1, (q_in N nd gs h).2 ||| nd (h / 2)) := by
  simp only [q_in]
  rw [if_pos hb, if_neg (fun q => q.2.elim h1 h2)]
theorem q_in_e (hb : bitI gs (nI h) = 1) (h0 : ¬ N h < 0) (h2 : N h < (q_in N nd gs h).1) : q_in N nd gs (h + 1) = (N h, (q_in N nd gs h).2 ||| nd (h / 2)) := by
  simp only [q_in]
  rw [if_pos hb, if_pos ⟨Int64.not_lt.mp h0, Or.inr h2⟩]
end QI
section ML
variable {S : XS} {d s nb : Nat} {I : Nat → Nat → Int32} {J : Nat → Nat → Int64} {R : Nat → Nat → Option Nat}
theorem s_reached (hR : RF R) (hs : s < 67) (hP : PM I nb) {n : Nat} (hn : I 263 s = nI n) (hn6 : n ≤ 6) (hV : ∀ j, j < n → VS (slM I s) j) {xs : Int32} (e1 : xs = nI s) :
    XP S (d + 6) 123 0 (xent [.ref 261, .int xs] 4) [] (hh I J R) (rI (q_set (rnM I J nb s n).2.1 (2 * nb)) (hh (xrow I 271 (rnM I J nb s n).1) (xrow (xrow J 273 (rnM I J nb s n).2.1) 272 (rnM I J nb s n).2.2.1) R)) := by
  have hP0 := hP
  obtain ⟨hnb, hnb2, -⟩ := hP
  have eN : xrow (xrow J 273 (rnM I J nb s n).2.1) 272 (rnM I J nb s n).2.2.1 273 = (rnM I J nb s n).2.1 := by rw [xrow_ne (by decide), xrow_at]
  have hgc : (2 : Int32) * xrow I 271 (rnM I J nb s n).1 261 10 = nI (2 * nb) := by rw [xrow_ne (by decide), hnb]; exact pk_mul 2 nb
  have loop : ∀ (f k : Nat), k + f = 2 * nb → XP S (d + 6) 123 9 [some (.ref 261), some (.int xs), some (.int (q_set (rnM I J nb s n).2.1 k)), some (.int (nI k))] [] (hh (xrow I 271 (rnM I J nb s n).1) (xrow (xrow J 273 (rnM I J nb s n).2.1) 272 (rnM I J nb s n).2.2.1) R) (rI (q_set (rnM I J nb s n).2.1 (2 * nb)) (hh (xrow I 271 (rnM I J nb s n).1) (xrow (xrow J 273 (rnM I J nb s n).2.1) 272 (rnM I J nb s n).2.2.1) R)) := by
    intro f
    induction f with
    | zero =>
      intro k hk
      have hk : k = 2 * nb := by omega
      subst hk
      refine y_loc (pc' := 10) xD_123 rfl rfl rfl rfl ?_
      refine y_ci (pc' := 11) (2) xD_123 rfl rfl rfl rfl ?_
      refine y_loc (pc' := 12) xD_123 rfl rfl rfl rfl ?_
      refine m_get (pc' := 15) xD_123 rfl rfl (by first | rfl | assumption) rfl rfl ?_
      refine y_op (pc' := 16) xD_123 rfl rfl rfl rfl ?_
      refine y_icge (pt := 46) (pf := 19) xD_123 rfl rfl rfl (fun h16 => ?_) (fun h16 => ?_)
      · skip
        refine y_loc (pc' := 47) xD_123 rfl rfl rfl rfl ?_
        refine y_retI xD_123 rfl rfl ?_
        exact rI_e rfl
      · skip
        exact absurd (show (2 : Int32) * xrow I 271 (rnM I J nb s n).1 261 10 ≤ nI (2 * nb) by rw [hgc]; exact Int32.le_refl _) h16
    | succ f ih =>
      intro k hk
      have e5 : nI k + 1 = nI (k + 1) := nI_1 k
      have step := ih (k + 1) (by omega)
      simp only [q_set] at step
      refine y_loc (pc' := 10) xD_123 rfl rfl rfl rfl ?_
      refine y_ci (pc' := 11) (2) xD_123 rfl rfl rfl rfl ?_
      refine y_loc (pc' := 12) xD_123 rfl rfl rfl rfl ?_
      refine m_get (pc' := 15) xD_123 rfl rfl (by first | rfl | assumption) rfl rfl ?_
      refine y_op (pc' := 16) xD_123 rfl rfl rfl rfl ?_
      refine y_icge (pt := 46) (pf := 19) xD_123 rfl rfl rfl (fun h16 => ?_) (fun h16 => ?_)
      · skip
        exact absurd h16 (show ¬ (2 : Int32) * xrow I 271 (rnM I J nb s n).1 261 10 ≤ nI k by rw [hgc]; exact nI_ge (by omega) (by omega))
      · skip
        refine y_loc (pc' := 20) xD_123 rfl rfl rfl rfl ?_
        first | refine m_getR (pc' := 23) xD_123 rfl rfl rfl rfl (hR.1 _ _ _ rfl) rfl ?_ | refine m_getR (pc' := 23) xD_123 rfl rfl (by first | rfl | assumption) rfl (by assumption) rfl ?_
        refine y_loc (pc' := 24) xD_123 rfl rfl rfl rfl ?_
        refine m_jald (pc' := 25) (k) xD_123 rfl (by first | rfl | assumption) (by first | assumption | omega) (by first | decide | assumption) (by first | rfl | assumption) rfl ?_
        rw [eN]
        refine y_cj (pc' := 26) (0) xD_123 rfl rfl rfl rfl ?_
        refine y_op (pc' := 27) xD_123 rfl rfl rfl rfl ?_
        refine y_ifne (pt := 38) (pf := 30) xD_123 rfl rfl rfl (fun h27 => ?_) (fun h27 => ?_)
        · skip
          refine y_loc (pc' := 39) xD_123 rfl rfl rfl rfl ?_
          refine y_loc (pc' := 40) xD_123 rfl rfl rfl rfl ?_
          refine y_inc (pc' := 43) (nI (k + 1)) xD_123 rfl rfl rfl e5 rfl rfl ?_
          refine y_goto (pc' := 9) xD_123 rfl rfl ?_
          first | (rw [if_pos (lg_eq.mp h27)] at step; exact step) | (rw [if_neg (fun q => h27 (lg_eq.mpr q))] at step; exact step)
        · skip
          refine y_loc (pc' := 31) xD_123 rfl rfl rfl rfl ?_
          refine y_ci (pc' := 32) (1) xD_123 rfl rfl rfl rfl ?_
          refine y_loc (pc' := 33) xD_123 rfl rfl rfl rfl ?_
          refine y_op (pc' := 34) xD_123 rfl rfl rfl rfl ?_
          refine y_op (pc' := 35) xD_123 rfl rfl rfl rfl ?_
          refine y_goto (pc' := 39) xD_123 rfl rfl ?_
          refine y_loc (pc' := 40) xD_123 rfl rfl rfl rfl ?_
          refine y_inc (pc' := 43) (nI (k + 1)) xD_123 rfl rfl rfl e5 rfl rfl ?_
          refine y_goto (pc' := 9) xD_123 rfl rfl ?_
          first | (rw [if_pos (lg_eq.mp h27)] at step; exact step) | (rw [if_neg (fun q => h27 (lg_eq.mpr q))] at step; exact step)
  refine y_loc (pc' := 1) xD_123 rfl rfl rfl rfl ?_
  refine y_loc (pc' := 2) xD_123 rfl rfl rfl rfl ?_
  refine y_callV xD_123 rfl rfl rfl rfl (by first | rfl | assumption) rfl rfl rfl rfl (s_mperform hR hs hP0 hn hn6 hV e1) (fun v h' hq => ?_)
  obtain ⟨rfl, rfl⟩ := hq
  refine y_ci (pc' := 6) (0) xD_123 rfl rfl rfl rfl ?_
  refine y_loc (pc' := 7) xD_123 rfl rfl rfl rfl ?_
  refine y_ci (pc' := 8) (0) xD_123 rfl rfl rfl rfl ?_
  refine y_loc (pc' := 9) xD_123 rfl rfl rfl rfl ?_
  exact loop (2 * nb) 0 (by omega)
theorem s_level (hR : RF R) (hnb : I 261 10 = nI nb) (hnb2 : nb ≤ 12) (g : Nat) (hg : g < 24) {xg : Int32} (e1 : xg = nI g) : XP S d 132 0 (xent [.ref 261, .int xg] 8) [] (hh I J R) (rJ (q_level (J 273) (I 269) nb g) (hh I J R)) := by
  have hgc : (2 : Int32) * I 261 10 = nI (2 * nb) := by rw [hnb]; exact pk_mul 2 nb
  have hdv : ∀ h : Nat, h < 24 → nI h / 2 = nI (h / 2) := fun h _ => pk_div (d := 2) (by omega) (by decide) (by decide)
  have inner : ∀ (gs : Int32) (k : Nat) (Q : Option Value → XH → Prop), XP S d 132 133 [some (.ref 261), some (.int xg), some (.int gs), some (.int (nI k)), some (.long (q_in (J 273) (I 269) gs (2 * nb)).1), none, some (.int (q_in (J 273) (I 269) gs (2 * nb)).2), some (.int (nI (2 * nb)))] [] (hh I J R) Q → ∀ (f h : Nat), h + f = 2 * nb → XP S d 132 46 [some (.ref 261), some (.int xg), some (.int gs), some (.int (nI k)), some (.long (q_in (J 273) (I 269) gs h).1), none, some (.int (q_in (J 273) (I 269) gs h).2), some (.int (nI h))] [] (hh I J R) Q := by
    intro gs k Q K f
    induction f with
    | zero =>
      intro h hhe
      have hhe : h = 2 * nb := by omega
      subst hhe
      refine y_loc (pc' := 48) xD_132 rfl rfl rfl rfl ?_
      refine y_ci (pc' := 49) (2) xD_132 rfl rfl rfl rfl ?_
      refine y_loc (pc' := 50) xD_132 rfl rfl rfl rfl ?_
      refine m_get (pc' := 53) xD_132 rfl rfl (by first | rfl | assumption) rfl rfl ?_
      refine y_op (pc' := 54) xD_132 rfl rfl rfl rfl ?_
      refine y_icge (pt := 133) (pf := 57) xD_132 rfl rfl rfl (fun h54 => ?_) (fun h54 => ?_)
      · skip
        exact K
      · exact absurd (show (2 : Int32) * I 261 10 ≤ nI (2 * nb) by rw [hgc]; exact Int32.le_refl _) h54
    | succ f ih =>
      intro h hhe
      have h24 : h < 24 := by omega
      have h12 : h / 2 < 12 := by omega
      have e5 : nI h + 1 = nI (h + 1) := nI_1 h
      have step := ih (h + 1) (by omega)
      refine y_loc (pc' := 48) xD_132 rfl rfl rfl rfl ?_
      refine y_ci (pc' := 49) (2) xD_132 rfl rfl rfl rfl ?_
      refine y_loc (pc' := 50) xD_132 rfl rfl rfl rfl ?_
      refine m_get (pc' := 53) xD_132 rfl rfl (by first | rfl | assumption) rfl rfl ?_
      refine y_op (pc' := 54) xD_132 rfl rfl rfl rfl ?_
      refine y_icge (pt := 133) (pf := 57) xD_132 rfl rfl rfl (fun h54 => ?_) (fun h54 => ?_)
      · skip
        exact absurd h54 (show ¬ (2 : Int32) * I 261 10 ≤ nI h by rw [hgc]; exact nI_ge (by omega) (by omega))
      · skip
        refine y_loc (pc' := 58) xD_132 rfl rfl rfl rfl ?_
        refine y_loc (pc' := 60) xD_132 rfl rfl rfl rfl ?_
        refine y_op (pc' := 61) xD_132 rfl rfl rfl rfl ?_
        refine y_ci (pc' := 62) (1) xD_132 rfl rfl rfl rfl ?_
        refine y_op (pc' := 63) xD_132 rfl rfl rfl rfl ?_
        refine y_ci (pc' := 64) (1) xD_132 rfl rfl rfl rfl ?_
        refine y_icne (pt := 127) (pf := 67) xD_132 rfl rfl rfl (fun h64 => ?_) (fun h64 => ?_)
        · skip
          refine y_inc (pc' := 130) (nI (h + 1)) xD_132 rfl rfl rfl e5 rfl rfl ?_
          refine y_goto (pc' := 46) xD_132 rfl rfl ?_
          first
          | (rw [q_in_a h64] at step; exact step)
          | (rw [q_in_b h64 (lg_lt.mp h76)] at step; exact step)
          | (rw [q_in_c h64 (fun q => h76 (lg_lt.mpr q)) (lg_lt.mp h83)] at step; exact step)
          | (rw [q_in_d h64 (fun q => h83 (lg_lt.mpr q)) (Int64.not_lt.mpr ((lg_cmp_ge _ _).mp h96))] at step; exact step)
          | (rw [q_in_e h64 (fun q => h76 (lg_lt.mpr q)) (Int64.not_le.mp (fun q => h96 ((lg_cmp_ge _ _).mpr q)))] at step; exact step)
        · skip
          refine y_loc (pc' := 68) xD_132 rfl rfl rfl rfl ?_
          first | refine m_getR (pc' := 71) xD_132 rfl rfl rfl rfl (hR.1 _ _ _ rfl) rfl ?_ | refine m_getR (pc' := 71) xD_132 rfl rfl (by first | rfl | assumption) rfl (by assumption) rfl ?_
          refine y_loc (pc' := 73) xD_132 rfl rfl rfl rfl ?_
          refine m_jald (pc' := 74) (h) xD_132 rfl (by first | rfl | assumption) (by first | assumption | omega) (by first | decide | assumption) (by first | rfl | assumption) rfl ?_
          refine y_cj (pc' := 75) (0) xD_132 rfl rfl rfl rfl ?_
          refine y_op (pc' := 76) xD_132 rfl rfl rfl rfl ?_
          refine y_iflt (pt := 109) (pf := 79) xD_132 rfl rfl rfl (fun h76 => ?_) (fun h76 => ?_)
          · skip
            refine y_loc (pc' := 111) xD_132 rfl rfl rfl rfl ?_
            refine y_loc (pc' := 113) xD_132 rfl rfl rfl rfl ?_
            refine y_loc (pc' := 115) xD_132 rfl rfl rfl rfl ?_
            refine y_loc (pc' := 116) xD_132 rfl rfl rfl rfl ?_
            first | refine m_getR (pc' := 119) xD_132 rfl rfl rfl rfl (hR.1 _ _ _ rfl) rfl ?_ | refine m_getR (pc' := 119) xD_132 rfl rfl (by first | rfl | assumption) rfl (by assumption) rfl ?_
            refine y_loc (pc' := 121) xD_132 rfl rfl rfl rfl ?_
            refine y_ci (pc' := 122) (2) xD_132 rfl rfl rfl rfl ?_
            refine y_op (pc' := 123) xD_132 rfl rfl rfl rfl ?_
            refine m_iald (pc' := 124) (h / 2) xD_132 rfl (by first | rfl | assumption) (by first | assumption | omega) (by first | decide | assumption) (by first | decide | omega) (hdv h h24) rfl ?_
            refine y_op (pc' := 125) xD_132 rfl rfl rfl rfl ?_
            refine y_loc (pc' := 127) xD_132 rfl rfl rfl rfl ?_
            refine y_inc (pc' := 130) (nI (h + 1)) xD_132 rfl rfl rfl e5 rfl rfl ?_
            refine y_goto (pc' := 46) xD_132 rfl rfl ?_
            first
            | (rw [q_in_a h64] at step; exact step)
            | (rw [q_in_b h64 (lg_lt.mp h76)] at step; exact step)
            | (rw [q_in_c h64 (fun q => h76 (lg_lt.mpr q)) (lg_lt.mp h83)] at step; exact step)
            | (rw [q_in_d h64 (fun q => h83 (lg_lt.mpr q)) (Int64.not_lt.mpr ((lg_cmp_ge _ _).mp h96))] at step; exact step)
            | (rw [q_in_e h64 (fun q => h76 (lg_lt.mpr q)) (Int64.not_le.mp (fun q => h96 ((lg_cmp_ge _ _).mpr q)))] at step; exact step)
          · skip
            refine y_loc (pc' := 81) xD_132 rfl rfl rfl rfl ?_
            refine y_cj (pc' := 82) (0) xD_132 rfl rfl rfl rfl ?_
            refine y_op (pc' := 83) xD_132 rfl rfl rfl rfl ?_
            refine y_iflt (pt := 99) (pf := 86) xD_132 rfl rfl rfl (fun h83 => ?_) (fun h83 => ?_)
            · skip
              refine y_loc (pc' := 100) xD_132 rfl rfl rfl rfl ?_
              first | refine m_getR (pc' := 103) xD_132 rfl rfl rfl rfl (hR.1 _ _ _ rfl) rfl ?_ | refine m_getR (pc' := 103) xD_132 rfl rfl (by first | rfl | assumption) rfl (by assumption) rfl ?_
              refine y_loc (pc' := 105) xD_132 rfl rfl rfl rfl ?_
              refine m_jald (pc' := 106) (h) xD_132 rfl (by first | rfl | assumption) (by first | assumption | omega) (by first | decide | assumption) (by first | rfl | assumption) rfl ?_
              refine y_goto (pc' := 111) xD_132 rfl rfl ?_
              refine y_loc (pc' := 113) xD_132 rfl rfl rfl rfl ?_
              refine y_loc (pc' := 115) xD_132 rfl rfl rfl rfl ?_
              refine y_loc (pc' := 116) xD_132 rfl rfl rfl rfl ?_
              first | refine m_getR (pc' := 119) xD_132 rfl rfl rfl rfl (hR.1 _ _ _ rfl) rfl ?_ | refine m_getR (pc' := 119) xD_132 rfl rfl (by first | rfl | assumption) rfl (by assumption) rfl ?_
              refine y_loc (pc' := 121) xD_132 rfl rfl rfl rfl ?_
              refine y_ci (pc' := 122) (2) xD_132 rfl rfl rfl rfl ?_
              refine y_op (pc' := 123) xD_132 rfl rfl rfl rfl ?_
              refine m_iald (pc' := 124) (h / 2) xD_132 rfl (by first | rfl | assumption) (by first | assumption | omega) (by first | decide | assumption) (by first | decide | omega) (hdv h h24) rfl ?_
              refine y_op (pc' := 125) xD_132 rfl rfl rfl rfl ?_
              refine y_loc (pc' := 127) xD_132 rfl rfl rfl rfl ?_
              refine y_inc (pc' := 130) (nI (h + 1)) xD_132 rfl rfl rfl e5 rfl rfl ?_
              refine y_goto (pc' := 46) xD_132 rfl rfl ?_
              first
              | (rw [q_in_a h64] at step; exact step)
              | (rw [q_in_b h64 (lg_lt.mp h76)] at step; exact step)
              | (rw [q_in_c h64 (fun q => h76 (lg_lt.mpr q)) (lg_lt.mp h83)] at step; exact step)
              | (rw [q_in_d h64 (fun q => h83 (lg_lt.mpr q)) (Int64.not_lt.mpr ((lg_cmp_ge _ _).mp h96))] at step; exact step)
              | (rw [q_in_e h64 (fun q => h76 (lg_lt.mpr q)) (Int64.not_le.mp (fun q => h96 ((lg_cmp_ge _ _).mpr q)))] at step; exact step)
            · skip
              refine y_loc (pc' := 87) xD_132 rfl rfl rfl rfl ?_
              first | refine m_getR (pc' := 90) xD_132 rfl rfl rfl rfl (hR.1 _ _ _ rfl) rfl ?_ | refine m_getR (pc' := 90) xD_132 rfl rfl (by first | rfl | assumption) rfl (by assumption) rfl ?_
              refine y_loc (pc' := 92) xD_132 rfl rfl rfl rfl ?_
              refine m_jald (pc' := 93) (h) xD_132 rfl (by first | rfl | assumption) (by first | assumption | omega) (by first | decide | assumption) (by first | rfl | assumption) rfl ?_
              refine y_loc (pc' := 95) xD_132 rfl rfl rfl rfl ?_
              refine y_op (pc' := 96) xD_132 rfl rfl rfl rfl ?_
              refine y_ifge (pt := 109) (pf := 99) xD_132 rfl rfl rfl (fun h96 => ?_) (fun h96 => ?_)
              · skip
                refine y_loc (pc' := 111) xD_132 rfl rfl rfl rfl ?_
                refine y_loc (pc' := 113) xD_132 rfl rfl rfl rfl ?_
                refine y_loc (pc' := 115) xD_132 rfl rfl rfl rfl ?_
                refine y_loc (pc' := 116) xD_132 rfl rfl rfl rfl ?_
                first | refine m_getR (pc' := 119) xD_132 rfl rfl rfl rfl (hR.1 _ _ _ rfl) rfl ?_ | refine m_getR (pc' := 119) xD_132 rfl rfl (by first | rfl | assumption) rfl (by assumption) rfl ?_
                refine y_loc (pc' := 121) xD_132 rfl rfl rfl rfl ?_
                refine y_ci (pc' := 122) (2) xD_132 rfl rfl rfl rfl ?_
                refine y_op (pc' := 123) xD_132 rfl rfl rfl rfl ?_
                refine m_iald (pc' := 124) (h / 2) xD_132 rfl (by first | rfl | assumption) (by first | assumption | omega) (by first | decide | assumption) (by first | decide | omega) (hdv h h24) rfl ?_
                refine y_op (pc' := 125) xD_132 rfl rfl rfl rfl ?_
                refine y_loc (pc' := 127) xD_132 rfl rfl rfl rfl ?_
                refine y_inc (pc' := 130) (nI (h + 1)) xD_132 rfl rfl rfl e5 rfl rfl ?_
                refine y_goto (pc' := 46) xD_132 rfl rfl ?_
                first
                | (rw [q_in_a h64] at step; exact step)
                | (rw [q_in_b h64 (lg_lt.mp h76)] at step; exact step)
                | (rw [q_in_c h64 (fun q => h76 (lg_lt.mpr q)) (lg_lt.mp h83)] at step; exact step)
                | (rw [q_in_d h64 (fun q => h83 (lg_lt.mpr q)) (Int64.not_lt.mpr ((lg_cmp_ge _ _).mp h96))] at step; exact step)
                | (rw [q_in_e h64 (fun q => h76 (lg_lt.mpr q)) (Int64.not_le.mp (fun q => h96 ((lg_cmp_ge _ _).mpr q)))] at step; exact step)
              · skip
                refine y_loc (pc' := 100) xD_132 rfl rfl rfl rfl ?_
                first | refine m_getR (pc' := 103) xD_132 rfl rfl rfl rfl (hR.1 _ _ _ rfl) rfl ?_ | refine m_getR (pc' := 103) xD_132 rfl rfl (by first | rfl | assumption) rfl (by assumption) rfl ?_
                refine y_loc (pc' := 105) xD_132 rfl rfl rfl rfl ?_
                refine m_jald (pc' := 106) (h) xD_132 rfl (by first | rfl | assumption) (by first | assumption | omega) (by first | decide | assumption) (by first | rfl | assumption) rfl ?_
                refine y_goto (pc' := 111) xD_132 rfl rfl ?_
                refine y_loc (pc' := 113) xD_132 rfl rfl rfl rfl ?_
                refine y_loc (pc' := 115) xD_132 rfl rfl rfl rfl ?_
                refine y_loc (pc' := 116) xD_132 rfl rfl rfl rfl ?_
                first | refine m_getR (pc' := 119) xD_132 rfl rfl rfl rfl (hR.1 _ _ _ rfl) rfl ?_ | refine m_getR (pc' := 119) xD_132 rfl rfl (by first | rfl | assumption) rfl (by assumption) rfl ?_
                refine y_loc (pc' := 121) xD_132 rfl rfl rfl rfl ?_
                refine y_ci (pc' := 122) (2) xD_132 rfl rfl rfl rfl ?_
                refine y_op (pc' := 123) xD_132 rfl rfl rfl rfl ?_
                refine m_iald (pc' := 124) (h / 2) xD_132 rfl (by first | rfl | assumption) (by first | assumption | omega) (by first | decide | assumption) (by first | decide | omega) (hdv h h24) rfl ?_
                refine y_op (pc' := 125) xD_132 rfl rfl rfl rfl ?_
                refine y_loc (pc' := 127) xD_132 rfl rfl rfl rfl ?_
                refine y_inc (pc' := 130) (nI (h + 1)) xD_132 rfl rfl rfl e5 rfl rfl ?_
                refine y_goto (pc' := 46) xD_132 rfl rfl ?_
                first
                | (rw [q_in_a h64] at step; exact step)
                | (rw [q_in_b h64 (lg_lt.mp h76)] at step; exact step)
                | (rw [q_in_c h64 (fun q => h76 (lg_lt.mpr q)) (lg_lt.mp h83)] at step; exact step)
                | (rw [q_in_d h64 (fun q => h83 (lg_lt.mpr q)) (Int64.not_lt.mpr ((lg_cmp_ge _ _).mp h96))] at step; exact step)
                | (rw [q_in_e h64 (fun q => h76 (lg_lt.mpr q)) (Int64.not_le.mp (fun q => h96 ((lg_cmp_ge _ _).mpr q)))] at step; exact step)
  have outer : ∀ (f k : Nat) (gs : Int32) (q4 q5 q6 q7 : Option Value), k + f = 25 → XP S d 132 29 [some (.ref 261), some (.int xg), some (.int gs), some (.int (nI k)), q4, q5, q6, q7] [] (hh I J R) (rJ (q_lvl (J 273) (I 269) nb f k gs) (hh I J R)) := by
    intro f
    induction f with
    | zero =>
      intro k gs q4 q5 q6 q7 hk
      refine y_loc (pc' := 30) xD_132 rfl rfl rfl rfl ?_
      refine y_ci (pc' := 32) (24) xD_132 rfl rfl rfl rfl ?_
      refine y_icgt (pt := 159) (pf := 35) xD_132 rfl rfl rfl (fun h32 => ?_) (fun h32 => ?_)
      · skip
        refine y_ldc (pc' := 162) xD_132 rfl rfl rfl rfl ?_
        refine y_retJ xD_132 rfl rfl ?_
        exact rJ_e rfl
      · exact absurd (show (24 : Int32) < nI k by rw [show k = 25 by omega]; decide) h32
    | succ f ih =>
      intro k gs q4 q5 q6 q7 hk
      have e5 : nI k + 1 = nI (k + 1) := nI_1 k
      refine y_loc (pc' := 30) xD_132 rfl rfl rfl rfl ?_
      refine y_ci (pc' := 32) (24) xD_132 rfl rfl rfl rfl ?_
      refine y_icgt (pt := 159) (pf := 35) xD_132 rfl rfl rfl (fun h32 => ?_) (fun h32 => ?_)
      · exact absurd h32 (Int32.not_lt.mpr (nI_le (b := 24) (by omega) (by omega)))
      · skip
        refine y_ldc (pc' := 38) xD_132 rfl rfl rfl rfl ?_
        refine y_loc (pc' := 40) xD_132 rfl rfl rfl rfl ?_
        refine y_ci (pc' := 41) (0) xD_132 rfl rfl rfl rfl ?_
        refine y_loc (pc' := 43) xD_132 rfl rfl rfl rfl ?_
        refine y_ci (pc' := 44) (0) xD_132 rfl rfl rfl rfl ?_
        refine y_loc (pc' := 46) xD_132 rfl rfl rfl rfl ?_
        refine inner gs k _ ?_ (2 * nb) 0 (by omega)
        refine y_loc (pc' := 135) xD_132 rfl rfl rfl rfl ?_
        refine y_cj (pc' := 136) (0) xD_132 rfl rfl rfl rfl ?_
        refine y_op (pc' := 137) xD_132 rfl rfl rfl rfl ?_
        refine y_iflt (pt := 150) (pf := 140) xD_132 rfl rfl rfl (fun h137 => ?_) (fun h137 => ?_)
        · skip
          refine y_loc (pc' := 152) xD_132 rfl rfl rfl rfl ?_
          refine y_loc (pc' := 153) xD_132 rfl rfl rfl rfl ?_
          refine y_inc (pc' := 156) (nI (k + 1)) xD_132 rfl rfl rfl e5 rfl rfl ?_
          refine y_goto (pc' := 29) xD_132 rfl rfl ?_
          (rw [show q_lvl (J 273) (I 269) nb (f + 1) k gs = q_lvl (J 273) (I 269) nb f (k + 1) (q_in (J 273) (I 269) gs (2 * nb)).2 by simp only [q_lvl]; rw [if_neg (Int64.not_le.mpr (lg_lt.mp h137))]]; exact ih (k + 1) _ _ _ _ _ (by omega))
        · skip
          refine y_loc (pc' := 141) xD_132 rfl rfl rfl rfl ?_
          refine y_op (pc' := 142) xD_132 rfl rfl rfl rfl ?_
          refine y_ldc (pc' := 145) xD_132 rfl rfl rfl rfl ?_
          refine y_op (pc' := 146) xD_132 rfl rfl rfl rfl ?_
          refine y_loc (pc' := 148) xD_132 rfl rfl rfl rfl ?_
          refine y_op (pc' := 149) xD_132 rfl rfl rfl rfl ?_
          rw [show q_lvl (J 273) (I 269) nb (f + 1) k gs = (nI k).toInt64 * 8589934592 + (q_in (J 273) (I 269) gs (2 * nb)).1 by simp only [q_lvl]; rw [if_pos (Int64.not_lt.mp (fun q => h137 (lg_lt.mpr q)))]]
          refine y_retJ xD_132 rfl rfl ?_
          exact rJ_e rfl
  refine y_loc (pc' := 1) xD_132 rfl rfl rfl rfl ?_
  first | refine m_getR (pc' := 4) xD_132 rfl rfl rfl rfl (hR.1 _ _ _ rfl) rfl ?_ | refine m_getR (pc' := 4) xD_132 rfl rfl (by first | rfl | assumption) rfl (by assumption) rfl ?_
  refine y_loc (pc' := 5) xD_132 rfl rfl rfl rfl ?_
  refine m_jald (pc' := 6) (g) xD_132 rfl (by first | rfl | assumption) (by first | assumption | omega) (by first | decide | assumption) (by first | rfl | assumption) rfl ?_
  refine y_cj (pc' := 7) (0) xD_132 rfl rfl rfl rfl ?_
  refine y_op (pc' := 8) xD_132 rfl rfl rfl rfl ?_
  refine y_iflt (pt := 18) (pf := 11) xD_132 rfl rfl rfl (fun h8 => ?_) (fun h8 => ?_)
  · skip
    refine y_loc (pc' := 19) xD_132 rfl rfl rfl rfl ?_
    first | refine m_getR (pc' := 22) xD_132 rfl rfl rfl rfl (hR.1 _ _ _ rfl) rfl ?_ | refine m_getR (pc' := 22) xD_132 rfl rfl (by first | rfl | assumption) rfl (by assumption) rfl ?_
    refine y_loc (pc' := 23) xD_132 rfl rfl rfl rfl ?_
    refine y_ci (pc' := 24) (2) xD_132 rfl rfl rfl rfl ?_
    refine y_op (pc' := 25) xD_132 rfl rfl rfl rfl ?_
    refine m_iald (pc' := 26) (g / 2) xD_132 rfl (by first | rfl | assumption) (by omega) (by first | decide | assumption) (by first | decide | omega) (by rw [e1]; exact hdv g hg) rfl ?_
    refine y_loc (pc' := 27) xD_132 rfl rfl rfl rfl ?_
    refine y_ci (pc' := 28) (1) xD_132 rfl rfl rfl rfl ?_
    refine y_loc (pc' := 29) xD_132 rfl rfl rfl rfl ?_
    rw [show q_level (J 273) (I 269) nb g = q_lvl (J 273) (I 269) nb 24 1 (I 269 (g / 2)) by unfold q_level; rw [if_neg (Int64.not_le.mpr (lg_lt.mp h8))]]
    exact outer 24 1 _ _ _ _ _ (by omega)
  · skip
    refine y_loc (pc' := 12) xD_132 rfl rfl rfl rfl ?_
    first | refine m_getR (pc' := 15) xD_132 rfl rfl rfl rfl (hR.1 _ _ _ rfl) rfl ?_ | refine m_getR (pc' := 15) xD_132 rfl rfl (by first | rfl | assumption) rfl (by assumption) rfl ?_
    refine y_loc (pc' := 16) xD_132 rfl rfl rfl rfl ?_
    refine m_jald (pc' := 17) (g) xD_132 rfl (by first | rfl | assumption) (by first | assumption | omega) (by first | decide | assumption) (by first | rfl | assumption) rfl ?_
    rw [show q_level (J 273) (I 269) nb g = J 273 g by unfold q_level; rw [if_pos (Int64.not_lt.mp (fun q => h8 (lg_lt.mpr q)))]]
    refine y_retJ xD_132 rfl rfl ?_
    exact rJ_e rfl
end ML
end
section
/-! The class's run and the model's come to the same: pure. -/
def cN (w : Int64) : Int64 := if w < 0 then 8589934592 else w
def Nr (N M : Nat → Int64) : Prop := ∀ g, g < 24 → N g = cN (M g) ∧ (M g = -1 ∨ (0 ≤ M g ∧ M g < 8589934592))
def Vr (v w : Nat → Int32) : Prop := ∀ i, i < 8 → v i = w i
def Vf (v w : Nat → Int32) : Prop := ∀ i, 4 ≤ i → i < 8 → v i = w i
theorem Vr.f {v w : Nat → Int32} (h : Vr v w) : Vf v w := fun i _ hi => h i hi
def Db (w : Int64) : Prop := 0 ≤ w ∧ w < 8589934592
theorem Db_of {w : Int64} (h0 : 0 ≤ w.toInt) (h1 : w.toInt < 8589934592) : Db w := ⟨by rw [Int64.le_iff_toInt_le]; exact h0, by rw [Int64.lt_iff_toInt_lt]; exact h1⟩
theorem toI64_sub1 (x y : Int32) : (x.toInt64 - y.toInt64 + 1).toInt = x.toInt - y.toInt + 1 := by
  have h1 := x.toInt_lt
  have h2 := x.le_toInt
  have h3 := y.toInt_lt
  have h4 := y.le_toInt
  rw [Int64.toInt_add, toI64_sub]
  have h5 : (1 : Int64).toInt = 1 := rfl
  rw [h5]
  simp only [Int.bmod]
  omega
theorem Db_no (e : Bool) (x y : Int32) : Db (q_no e x.toInt64 y.toInt64) := by
  have h1 := x.toInt_lt
  have h2 := x.le_toInt
  have h3 := y.toInt_lt
  have h4 := y.le_toInt
  unfold q_no
  cases e
  · rw [if_neg (by decide)]
    by_cases hc : x.toInt64 < y.toInt64
    · rw [if_pos hc]
      rw [Int64.lt_iff_toInt_lt, Int32.toInt_toInt64, Int32.toInt_toInt64] at hc
      exact Db_of (by rw [toI64_sub]; omega) (by rw [toI64_sub]; omega)
    · rw [if_neg hc]; exact Db_of (by decide) (by decide)
  · rw [if_pos rfl]
    split <;> exact Db_of (by decide) (by decide)
theorem Db_yes (e : Bool) (x y : Int32) : Db (q_yes e x.toInt64 y.toInt64) := by
  have h1 := x.toInt_lt
  have h2 := x.le_toInt
  have h3 := y.toInt_lt
  have h4 := y.le_toInt
  unfold q_yes
  cases e
  · rw [if_neg (by decide)]
    by_cases hc : x.toInt64 < y.toInt64
    · rw [if_pos hc]; exact Db_of (by decide) (by decide)
    · rw [if_neg hc]
      rw [Int64.lt_iff_toInt_lt, Int32.toInt_toInt64, Int32.toInt_toInt64] at hc
      exact Db_of (by rw [toI64_sub1]; omega) (by rw [toI64_sub1]; omega)
  · rw [if_pos rfl]
    by_cases hc : y.toInt64 < x.toInt64
    · rw [if_pos hc]
      rw [Int64.lt_iff_toInt_lt, Int32.toInt_toInt64, Int32.toInt_toInt64] at hc
      exact Db_of (by rw [toI64_sub]; omega) (by rw [toI64_sub]; omega)
    · rw [if_neg hc]
      rw [Int64.lt_iff_toInt_lt, Int32.toInt_toInt64, Int32.toInt_toInt64] at hc
      exact Db_of (by rw [toI64_sub]; omega) (by rw [toI64_sub]; omega)
theorem cN_min {n m w : Int64} (h : n = cN m) (hm : m = -1 ∨ (0 ≤ m ∧ m < 8589934592)) (hw : Db w) : (if n ≤ w then n else w) = cN (if m < 0 ∨ w < m then w else m) ∧ ((if m < 0 ∨ w < m then w else m) = -1 ∨ (0 ≤ (if m < 0 ∨ w < m then w else m) ∧ (if m < 0 ∨ w < m then w else m) < 8589934592)) := by
  have hw0 : ¬ w < 0 := Int64.not_lt.mpr hw.1
  by_cases hc : m < 0 ∨ w < m
  · rw [if_pos hc]
    refine ⟨?_, Or.inr hw⟩
    unfold cN
    rw [if_neg hw0]
    by_cases h1 : n ≤ w
    · rw [if_pos h1]
      exfalso
      rcases hc with h2 | h2
      · rw [h, cN, if_pos h2] at h1
        exact absurd hw.2 (Int64.not_lt.mpr h1)
      · have h3 : ¬ m < 0 := fun q => by
          have := Int64.lt_trans h2 q
          exact hw0 this
        rw [h, cN, if_neg h3] at h1
        exact absurd h2 (Int64.not_lt.mpr h1)
    · rw [if_neg h1]
  · have hm0 : ¬ m < 0 := fun q => hc (Or.inl q)
    have hmw : m ≤ w := Int64.not_lt.mp (fun q => hc (Or.inr q))
    have hn : n = m := by rw [h, cN, if_neg hm0]
    rw [if_neg hc, hn, if_pos hmw]
    exact ⟨by rw [cN, if_neg hm0], hm⟩
theorem Nr.U {N M : Nat → Int64} {k : Nat} {no yes : Int64} (h : Nr N M) (hk : k < 12) (hn : Db no) (hy : Db yes) : Nr (UC k no yes N) (UM k no yes M) := by
  intro g hg
  unfold UC UM
  by_cases h1 : g = 2 * k + 1
  · rw [if_pos h1, if_pos h1]
    exact cN_min (h (2 * k + 1) (by omega)).1 (h (2 * k + 1) (by omega)).2 hy
  · rw [if_neg h1, if_neg h1]
    by_cases h2 : g = 2 * k
    · rw [if_pos h2, if_pos h2]
      exact cN_min (h (2 * k) (by omega)).1 (h (2 * k) (by omega)).2 hn
    · rw [if_neg h2, if_neg h2]
      exact h g hg
theorem Vr.up {v w : Nat → Int32} (h : Vr v w) (a : Nat) {x y : Int32} (e : x = y) : Vr (upd v a x) (upd w a y) := by
  intro i hi
  subst e
  by_cases hc : i = a
  · subst hc; rw [pk_us, pk_us]
  · rw [pk_un hc, pk_un hc]; exact h i hi
theorem Vf.up {v w : Nat → Int32} (h : Vf v w) (a : Nat) {x y : Int32} (e : x = y) : Vf (upd v a x) (upd w a y) := by
  intro i h4 hi
  subst e
  by_cases hc : i = a
  · subst hc; rw [pk_us, pk_us]
  · rw [pk_un hc, pk_un hc]; exact h i h4 hi
/-- the two programs are one, as far as their lines go -/
def Pr (cd cd' : Nat → Nat → Int32) (bn bn' : Nat → Option Nat) (n : Nat) : Prop := ∀ p, p < n → VL cd p ∧ (∀ q, q < 4 → cd' p q = cd p q) ∧ bn' p = bn p ∧ ∀ k, bn p = some k → k < 12
theorem q_lead_eq {cd cd' : Nat → Nat → Int32} {n p : Nat} {o : Bool} (h0 : cd' p 0 = cd p 0) (h3 : cd' p 3 = cd p 3) : q_lead cd' n p o = q_lead cd n p o := by
  unfold q_lead q_to
  rw [h0, h3]
theorem q_line_rel {cd cd' : Nat → Nat → Int32} {bn bn' : Nat → Option Nat} {n p : Nat} {v w : Nat → Int32} {N M : Nat → Int64} (hP : Pr cd cd' bn bn' n) (hp : p < n) (hv : Vr v w) (hN : Nr N M) :
    (q_line UC cd bn n p v N).1 = (q_line UM cd' bn' n p w M).1 ∧ Vr (q_line UC cd bn n p v N).2.1 (q_line UM cd' bn' n p w M).2.1 ∧ Nr (q_line UC cd bn n p v N).2.2 (q_line UM cd' bn' n p w M).2.2 := by
  obtain ⟨⟨⟨t, ht, hop⟩, hV3, hVa, hVb, hVc⟩, hcd, hbn, hk⟩ := hP p hp
  have c0 := hcd 0 (by decide)
  have c1 := hcd 1 (by decide)
  have c2 := hcd 2 (by decide)
  have c3 := hcd 3 (by decide)
  obtain ⟨n5, n6, n0, n4, n66, -⟩ := nI_5 ht
  unfold q_line
  rw [c0, c1, c2, c3, hbn]
  simp only [q_lead_eq (n := n) c0 c3]
  by_cases h0 : cd p 0 = 0
  · rw [if_pos h0, if_pos h0]
    exact ⟨rfl, hv.up _ rfl, hN⟩
  · rw [if_neg h0, if_neg h0]
    have h1 : 1 ≤ cd p 0 := by
      rw [hop] at h0 ⊢
      exact (nI_leI (a := 1) (by omega) (by omega)).mpr (Nat.pos_of_ne_zero (fun q => h0 (n0.mpr q)))
    by_cases h4 : cd p 0 ≤ 4
    · rw [if_pos h4, if_pos h4]
      obtain ⟨b, hb, eb⟩ := hVb ⟨h1, Int32.le_trans h4 (by decide)⟩
      obtain ⟨c, hc, ec⟩ := hVc ⟨h1, h4⟩
      refine ⟨rfl, hv.up _ ?_, hN⟩
      rw [eb, ec, nI_cl (by omega), nI_cl (by omega), hv b hb, hv c hc]
    · rw [if_neg h4, if_neg h4]
      by_cases h6 : cd p 0 ≤ 6
      · rw [if_pos h6, if_pos h6]
        obtain ⟨a, ha, ea⟩ := hVa (Or.inl h6)
        obtain ⟨b, hb, eb⟩ := hVb ⟨h1, h6⟩
        rw [ea, eb, nI_cl (by omega), nI_cl (by omega), hv a ha, hv b hb]
        refine ⟨rfl, hv, ?_⟩
        cases hbk : bn p with
        | none => exact hN
        | some k => exact hN.U (hk k hbk) (Db_no _ _ _) (Db_yes _ _ _)
      · rw [if_neg h6, if_neg h6]
        exact ⟨rfl, hv, hN⟩
theorem q_call_rel {cd cd' : Nat → Nat → Int32} {bn bn' : Nat → Option Nat} {n : Nat} (hP : Pr cd cd' bn bn' n) : ∀ (f p : Nat) (v w : Nat → Int32) (N M : Nat → Int64), Vr v w → Nr N M →
    (q_call UC cd bn n f p v N).1 = (q_call UM cd' bn' n f p w M).1 ∧ Vr (q_call UC cd bn n f p v N).2.1 (q_call UM cd' bn' n f p w M).2.1 ∧ Nr (q_call UC cd bn n f p v N).2.2 (q_call UM cd' bn' n f p w M).2.2
  | 0, p, v, w, N, M, hv, hN => by
    by_cases hp : p < n
    · rw [q_call_0 hp, q_call_0 hp]; exact ⟨rfl, hv, hN⟩
    · rw [q_call_end hp, q_call_end hp]; exact ⟨rfl, hv, hN⟩
  | f + 1, p, v, w, N, M, hv, hN => by
    by_cases hp : p < n
    · obtain ⟨⟨⟨t, ht, hop⟩, hV3, hVa, hVb, hVc⟩, hcd, -, -⟩ := hP p hp
      have c0 := hcd 0 (by decide)
      have c1 := hcd 1 (by decide)
      have c3 := hcd 3 (by decide)
      by_cases h8 : cd p 0 = 8
      · rw [q_call_8 hp h8, q_call_8 hp (c0.trans h8), c1]
        obtain ⟨a, ha, ea⟩ := hVa (Or.inr h8)
        refine ⟨?_, hv, hN⟩
        show (v _).toInt64 = (w _).toInt64
        rw [ea, nI_cl (by omega), hv a ha]
      · by_cases h9 : cd p 0 = 9
        · rw [q_call_9 hp h9, q_call_9 hp (c0.trans h9)]; exact ⟨rfl, hv, hN⟩
        · have hz : cd p 0 = 4 → v (cd p 3).toNatClampNeg = w (cd p 3).toNatClampNeg := fun q => by
            obtain ⟨c, hc, ec⟩ := hVc (by rw [q]; exact ⟨by decide, by decide⟩)
            rw [ec, nI_cl (by omega), hv c hc]
          by_cases h4 : cd p 0 = 4 ∧ v (cd p 3).toNatClampNeg = 0
          · rw [q_call_4 hp h4.1 h4.2, q_call_4 hp (c0.trans h4.1) (by rw [c3, ← hz h4.1]; exact h4.2)]; exact ⟨rfl, hv, hN⟩
          · obtain ⟨l1, l2, l3⟩ := q_line_rel hP hp hv hN
            rw [q_call_n hp h8 h9 h4, q_call_n hp (by rw [c0]; exact h8) (by rw [c0]; exact h9) (by rw [c0, c3]; exact fun q => h4 ⟨q.1, by rw [hz q.1]; exact q.2⟩), ← l1]
            exact q_call_rel hP f _ _ _ _ _ l2 l3
    · rw [q_call_end hp, q_call_end hp]; exact ⟨rfl, hv, hN⟩
/-- both programs, both methods -/
def PrA (cdf cdf' : Nat → Nat → Nat → Int32) (bnf bnf' : Nat → Nat → Option Nat) (ln ln' : Nat → Nat) : Prop := ∀ m, m < 2 → ln' m = ln m ∧ Pr (cdf m) (cdf' m) (bnf m) (bnf' m) (ln m)
def fr (f f' : Nat → Int32) (n : Nat) : Prop := ∀ i, i < 4 * n → f' i = f i
theorem q_rs_rel {cdf cdf' : Nat → Nat → Nat → Int32} {bnf bnf' : Nat → Nat → Option Nat} {ln ln' : Nat → Nat} {f f' : Nat → Int32} {v w : Nat → Int32} {N M res res' : Nat → Int64} (hP : PrA cdf cdf' bnf bnf' ln ln') (hv : Vf v w) (hN : Nr N M) : ∀ (n : Nat), n ≤ 6 → (∀ j, j < n → VS f j) → fr f f' n →
    Vf (q_rs UC cdf bnf ln f v N res n).1 (q_rs UM cdf' bnf' ln' f' w M res' n).1 ∧ Nr (q_rs UC cdf bnf ln f v N res n).2.1 (q_rs UM cdf' bnf' ln' f' w M res' n).2.1 ∧ (∀ i, i < n → (q_rs UC cdf bnf ln f v N res n).2.2.1 i = (q_rs UM cdf' bnf' ln' f' w M res' n).2.2.1 i) ∧ (q_rs UC cdf bnf ln f v N res n).2.2.2 = (q_rs UM cdf' bnf' ln' f' w M res' n).2.2.2
  | 0, _, _, _ => ⟨hv, hN, fun i hi => absurd hi (by omega), rfl⟩
  | n + 1, hn6, hV, hf => by
    obtain ⟨i1, i2, i3, i4⟩ := q_rs_rel (res := res) (res' := res') hP hv hN n (by omega) (fun j hj => hV j (by omega)) (fun i hi => hf i (by omega))
    have f0 := hf (4 * n) (by omega)
    have f1 := hf (4 * n + 1) (by omega)
    have f2 := hf (4 * n + 2) (by omega)
    have f3 := hf (4 * n + 3) (by omega)
    have upr : ∀ (r r' : Nat → Int64) (x y : Int64), x = y → (∀ i, i < n → r i = r' i) → ∀ i, i < n + 1 → vp_updL r n x i = vp_updL r' n y i := by
      intro r r' x y e h i hi
      subst e
      by_cases hc : i = n
      · subst hc; rw [pk_uLs, pk_uLs]
      · rw [pk_uLn hc, pk_uLn hc]; exact h i (by omega)
    cases ho : (q_rs UC cdf bnf ln f v N res n).2.2.2 with
    | true =>
      have ho' : (q_rs UM cdf' bnf' ln' f' w M res' n).2.2.2 = true := by rw [← i4]; exact ho
      rw [q_rs_t ho, q_rs_t ho']
      exact ⟨i1, i2, upr _ _ _ _ rfl i3, rfl⟩
    | false =>
      have ho' : (q_rs UM cdf' bnf' ln' f' w M res' n).2.2.2 = false := by rw [← i4]; exact ho
      rw [q_rs_f ho, q_rs_f ho']
      obtain ⟨⟨t, ht, ht2, ht3, hkd⟩, hrf⟩ := hV n (by omega)
      have key : (q_do UC cdf bnf ln f n (q_rs UC cdf bnf ln f v N res n).1 (q_rs UC cdf bnf ln f v N res n).2.1 (q_rs UC cdf bnf ln f v N res n).2.2.1).1 = (q_do UM cdf' bnf' ln' f' n (q_rs UM cdf' bnf' ln' f' w M res' n).1 (q_rs UM cdf' bnf' ln' f' w M res' n).2.1 (q_rs UM cdf' bnf' ln' f' w M res' n).2.2.1).1 ∧ Vf (q_do UC cdf bnf ln f n (q_rs UC cdf bnf ln f v N res n).1 (q_rs UC cdf bnf ln f v N res n).2.1 (q_rs UC cdf bnf ln f v N res n).2.2.1).2.1 (q_do UM cdf' bnf' ln' f' n (q_rs UM cdf' bnf' ln' f' w M res' n).1 (q_rs UM cdf' bnf' ln' f' w M res' n).2.1 (q_rs UM cdf' bnf' ln' f' w M res' n).2.2.1).2.1 ∧ Nr (q_do UC cdf bnf ln f n (q_rs UC cdf bnf ln f v N res n).1 (q_rs UC cdf bnf ln f v N res n).2.1 (q_rs UC cdf bnf ln f v N res n).2.2.1).2.2 (q_do UM cdf' bnf' ln' f' n (q_rs UM cdf' bnf' ln' f' w M res' n).1 (q_rs UM cdf' bnf' ln' f' w M res' n).2.1 (q_rs UM cdf' bnf' ln' f' w M res' n).2.2.1).2.2 := by
        unfold q_do
        rw [f0, f1]
        by_cases hc : f (4 * n) < 2
        · rw [if_pos hc, if_pos hc]
          have hc0 := hc
          rw [hkd] at hc
          have ht2 : t < 2 := (nI_ltI (b := 2) (by omega) (by omega)).mp hc
          rw [hkd, nI_cl (by omega)]
          obtain ⟨hl, hPr⟩ := hP t ht2
          rw [hl]
          obtain ⟨r1, r2, r3⟩ := q_call_rel hPr 40 0 (q_arg f n (q_rs UC cdf bnf ln f v N res n).1 (q_rs UC cdf bnf ln f v N res n).2.2.1) (q_arg f' n (q_rs UM cdf' bnf' ln' f' w M res' n).1 (q_rs UM cdf' bnf' ln' f' w M res' n).2.2.1) _ _ (by
            intro i hi
            unfold q_arg
            rw [f1, f2, f3]
            by_cases e3 : i = 3
            · subst e3; rw [pk_us, pk_us]
            · rw [pk_un e3, pk_un e3]
              by_cases e2 : i = 2
              · subst e2; rw [pk_us, pk_us]
              · rw [pk_un e2, pk_un e2]
                by_cases e1 : i = 1
                · subst e1
                  rw [pk_us, pk_us]
                  rcases hrf hc0 with hr | ⟨r, hr, er⟩
                  · rw [if_pos hr, if_pos hr]
                  · rw [if_neg (by rw [er]; exact nI_m1 (by omega)), if_neg (by rw [er]; exact nI_m1 (by omega)), er, nI_cl (by omega), i3 r hr]
                · rw [pk_un e1, pk_un e1]
                  by_cases e0 : i = 0
                  · subst e0; rw [pk_us, pk_us]
                  · rw [pk_un e0, pk_un e0]
                    exact i1 i (by omega) hi) i2
          exact ⟨r1, r2.f, r3⟩
        · rw [if_neg hc, if_neg hc]
          exact ⟨rfl, i1.up _ rfl, i2⟩
      obtain ⟨k1, k2, k3⟩ := key
      exact ⟨k2, k3, upr _ _ _ _ k1 i3, by show decide _ = decide _; rw [k1]⟩
end
section
/-! Sets of goals, bit by bit. -/
def ib (x : Int32) (g : Nat) : Bool := x.toBitVec.getLsbD g
theorem ib_or (x y : Int32) (g : Nat) : ib (x ||| y) g = (ib x g || ib y g) := by
  show (x ||| y).toBitVec.getLsbD g = _
  rw [Int32.toBitVec_or, BitVec.getLsbD_or]; rfl
theorem ib_and (x y : Int32) (g : Nat) : ib (x &&& y) g = (ib x g && ib y g) := by
  show (x &&& y).toBitVec.getLsbD g = _
  rw [Int32.toBitVec_and, BitVec.getLsbD_and]; rfl
theorem ib_0 (g : Nat) : ib 0 g = false := by
  show (0#32).getLsbD g = false
  exact BitVec.getLsbD_zero
theorem ib_ext {x y : Int32} (h : ∀ g, g < 32 → ib x g = ib y g) : x = y := by
  apply Int32.toBitVec_inj.mp
  apply BitVec.eq_of_getLsbD_eq
  intro i hi
  exact h i hi
theorem ib_sh {g : Nat} (hg : g < 32) (x : Int32) (i : Nat) (hi : g + i < 32) : ib (x >>> (nI g &&& 31)) i = ib x (g + i) := by
  have e : ((nI g &&& 31).toBitVec.smod 32).toNat = g := by
    clear hi; revert g; decide
  show (x >>> (nI g &&& 31)).toBitVec.getLsbD i = _
  rw [show (x >>> (nI g &&& 31)).toBitVec = x.toBitVec.sshiftRight' ((nI g &&& 31).toBitVec.smod 32) from rfl]
  rw [BitVec.sshiftRight', e, BitVec.getLsbD_sshiftRight, if_pos hi]
  have : ¬ 32 ≤ i := by omega
  simp only [this, decide_false, Bool.not_false, Bool.true_and]
  rfl
theorem ib_shl {g : Nat} (hg : g < 32) (i : Nat) (hi : i < 32) : ib (1 <<< (nI g &&& 31)) i = decide (i = g) := by
  revert i; revert g; decide
theorem b1_ib (x : Int32) : (x &&& 1 = 1 ↔ ib x 0 = true) ∧ (x &&& 1 = 0 ↔ ib x 0 = false) := by
  have e : (x &&& 1).toBitVec = BitVec.setWidth 32 (BitVec.ofBool (x.toBitVec.getLsbD 0)) := BitVec.and_one_eq_setWidth_ofBool_getLsbD
  unfold ib
  rw [← Int32.toBitVec_inj, ← Int32.toBitVec_inj, e]
  cases x.toBitVec.getLsbD 0 <;> decide
theorem bit1 {g : Nat} (hg : g < 24) (x : Int32) : bitI x (nI g) = 1 ↔ ib x g = true := by
  unfold bitI
  rw [(b1_ib _).1, ib_sh (by omega) x 0 (by omega)]; rfl
theorem bit0 {g : Nat} (hg : g < 24) (x : Int32) : bitI x (nI g) = 0 ↔ ib x g = false := by
  unfold bitI
  rw [(b1_ib _).2, ib_sh (by omega) x 0 (by omega)]; rfl
theorem bit3 {k : Nat} (hk : k < 12) (x : Int32) : (x >>> ((2 * nI k) &&& 31)) &&& 3 = 0 ↔ (ib x (2 * k) = false ∧ ib x (2 * k + 1) = false) := by
  have e2 : (2 : Int32) * nI k = nI (2 * k) := by revert k; decide
  rw [e2]
  constructor
  · intro h
    have h0 := congrArg (fun y => ib y 0) h
    have h1 := congrArg (fun y => ib y 1) h
    simp only [ib_and, ib_0] at h0 h1
    rw [ib_sh (by omega) x 0 (by omega)] at h0
    rw [ib_sh (by omega) x 1 (by omega)] at h1
    rw [show ib 3 0 = true from rfl, Bool.and_true] at h0
    rw [show ib 3 1 = true from rfl, Bool.and_true] at h1
    exact ⟨h0, h1⟩
  · intro ⟨h0, h1⟩
    apply ib_ext
    intro g hg
    rw [ib_and, ib_0]
    by_cases c0 : g = 0
    · subst c0; rw [ib_sh (by omega) x 0 (by omega)]; rw [show 2 * k + 0 = 2 * k from rfl, h0]; rfl
    · by_cases c1 : g = 1
      · subst c1; rw [ib_sh (by omega) x 1 (by omega), h1]; rfl
      · rw [show ib 3 g = false from by revert g; decide, Bool.and_false]
theorem nd_le : ∀ (n : Nat) (L : List Nat), L.Nodup → (∀ x, x ∈ L → x < n) → L.length ≤ n
  | 0, [], _, _ => Nat.le_refl _
  | 0, a :: L, _, h => absurd (h a List.mem_cons_self) (by omega)
  | n + 1, L, hd, h => by
    by_cases hm : n ∈ L
    · have := nd_le n (L.erase n) (hd.erase n) (fun x hx => by
        have h1 := (List.Nodup.mem_erase_iff hd).mp hx
        have h2 := h x h1.2
        have h3 := h1.1
        omega)
      rw [List.length_erase_of_mem hm] at this
      omega
    · have := nd_le n L hd (fun x hx => by
        have h2 := h x hx
        have h3 : x ≠ n := fun e => hm (e ▸ hx)
        omega)
      omega
def q_P (E : Nat → Nat → Prop) (b0 : Nat) : Nat → Nat → Prop
  | 0, b => b = b0
  | l + 1, b => ∃ a, q_P E b0 l a ∧ E a b
def q_Q (E : Nat → Nat → Prop) (b0 l b : Nat) : Prop := ∃ j, j ≤ l ∧ q_P E b0 j b
theorem q_Q_full {E : Nat → Nat → Prop} {b0 l : Nat} (h : ∀ b, q_Q E b0 (l + 1) b → q_Q E b0 l b) : ∀ (m b : Nat), q_P E b0 m b → q_Q E b0 l b
  | 0, b, hp => ⟨0, Nat.zero_le _, hp⟩
  | m + 1, b, ⟨a, ha, he⟩ => by
    obtain ⟨j, hj, hp⟩ := q_Q_full h m a ha
    exact h b ⟨j + 1, by omega, a, hp, he⟩
theorem q_Q_step {E : Nat → Nat → Prop} {b0 l : Nat} (h : ∃ L : List Nat, L.Nodup ∧ L.length = l + 1 ∧ ∀ x, x ∈ L → q_Q E b0 l x) :
    (∀ (m b : Nat), q_P E b0 m b → q_Q E b0 l b) ∨ ∃ L : List Nat, L.Nodup ∧ L.length = l + 2 ∧ ∀ x, x ∈ L → q_Q E b0 (l + 1) x := by
  by_cases hc : ∀ b, q_Q E b0 (l + 1) b → q_Q E b0 l b
  · exact Or.inl (q_Q_full hc)
  · right
    obtain ⟨b, hb⟩ := Classical.not_forall.mp hc
    have hb1 : q_Q E b0 (l + 1) b := Classical.byContradiction fun q => hb fun r => absurd r q
    have hb2 : ¬ q_Q E b0 l b := fun q => hb fun _ => q
    obtain ⟨L, h1, h2, h3⟩ := h
    refine ⟨b :: L, List.nodup_cons.mpr ⟨fun q => hb2 (h3 b q), h1⟩, by rw [List.length_cons, h2], fun x hx => ?_⟩
    rcases List.mem_cons.mp hx with e | hx
    · rw [e]; exact hb1
    · obtain ⟨j, hj, hp⟩ := h3 x hx
      exact ⟨j, by omega, hp⟩
theorem q_Q_all {E : Nat → Nat → Prop} {b0 : Nat} : ∀ l, (∀ (m b : Nat), q_P E b0 m b → q_Q E b0 l b) ∨ ∃ L : List Nat, L.Nodup ∧ L.length = l + 2 ∧ ∀ x, x ∈ L → q_Q E b0 (l + 1) x
  | 0 => q_Q_step ⟨[b0], List.nodup_cons.mpr ⟨List.not_mem_nil, List.nodup_nil⟩, rfl, fun x hx => ⟨0, Nat.le_refl _, List.mem_singleton.mp hx⟩⟩
  | l + 1 => by
    rcases q_Q_all l with h | h
    · left
      intro m b hp
      obtain ⟨j, hj, hq⟩ := h m b hp
      exact ⟨j, by omega, hq⟩
    · exact q_Q_step h
theorem q_P_lt {E : Nat → Nat → Prop} {b0 n : Nat} (hE : ∀ a b, E a b → b < n) (h0 : b0 < n) : ∀ (m b : Nat), q_P E b0 m b → b < n
  | 0, _, e => e ▸ h0
  | _ + 1, _, ⟨a, _, he⟩ => hE a _ he
theorem q_Q_12 {E : Nat → Nat → Prop} {b0 n : Nat} (hn : n ≤ 12) (hE : ∀ a b, E a b → b < n) (h0 : b0 < n) (m b : Nat) (hp : q_P E b0 m b) : ∃ j, j < 12 ∧ q_P E b0 j b := by
  rcases q_Q_all (E := E) (b0 := b0) 11 with h | ⟨L, h1, h2, h3⟩
  · obtain ⟨j, hj, hq⟩ := h m b hp
    exact ⟨j, by omega, hq⟩
  · have := nd_le n L h1 (fun x hx => by obtain ⟨j, _, hq⟩ := h3 x hx; exact q_P_lt hE h0 j x hq)
    omega
/-! fitness = level -/
theorem q_least_in {N M : Nat → Int64} {nd : Nat → Int32} {gs : Int32} (h : Nr N M) : ∀ n, n ≤ 24 → q_least N gs n = cN (q_in M nd gs n).1 ∧ ((q_in M nd gs n).1 = -1 ∨ (0 ≤ (q_in M nd gs n).1 ∧ (q_in M nd gs n).1 < 8589934592))
  | 0, _ => ⟨rfl, Or.inl rfl⟩
  | n + 1, hn => by
    obtain ⟨i1, i2⟩ := q_least_in (nd := nd) (gs := gs) h n (by omega)
    obtain ⟨e, hb⟩ := h n (by omega)
    simp only [q_least, q_in]
    by_cases hc : ib gs n = true
    · rw [if_neg (fun q => by rw [bit0 (by omega)] at q; rw [q] at hc; exact absurd hc (by decide)), if_pos ((bit1 (by omega) gs).mpr hc)]
      show (if q_least N gs n ≤ N n then q_least N gs n else N n) = cN (if 0 ≤ M n ∧ ((q_in M nd gs n).1 < 0 ∨ M n < (q_in M nd gs n).1) then M n else (q_in M nd gs n).1) ∧ ((if 0 ≤ M n ∧ ((q_in M nd gs n).1 < 0 ∨ M n < (q_in M nd gs n).1) then M n else (q_in M nd gs n).1) = -1 ∨ (0 ≤ (if 0 ≤ M n ∧ ((q_in M nd gs n).1 < 0 ∨ M n < (q_in M nd gs n).1) then M n else (q_in M nd gs n).1) ∧ (if 0 ≤ M n ∧ ((q_in M nd gs n).1 < 0 ∨ M n < (q_in M nd gs n).1) then M n else (q_in M nd gs n).1) < 8589934592))
      rcases hb with hb | hb
      · rw [hb] at e
        have e : N n = 8589934592 := e
        rw [hb, if_neg (show ¬ ((0 : Int64) ≤ -1 ∧ ((q_in M nd gs n).1 < 0 ∨ -1 < (q_in M nd gs n).1)) from fun q => absurd q.1 (by decide)), e]
        refine ⟨?_, i2⟩
        by_cases hq : q_least N gs n ≤ 8589934592
        · rw [if_pos hq]; exact i1
        · exfalso
          apply hq
          rw [i1]
          rcases i2 with r | r
          · rw [r]; decide
          · rw [cN, if_neg (Int64.not_lt.mpr r.1)]; exact Int64.le_of_lt r.2
      · have hM0 : ¬ M n < 0 := Int64.not_lt.mpr hb.1
        rw [cN, if_neg hM0] at e
        obtain ⟨c1, c2⟩ := cN_min i1 i2 hb
        rw [e]
        by_cases hq : (q_in M nd gs n).1 < 0 ∨ M n < (q_in M nd gs n).1
        · rw [if_pos (show 0 ≤ M n ∧ ((q_in M nd gs n).1 < 0 ∨ M n < (q_in M nd gs n).1) from ⟨hb.1, hq⟩)]; rw [if_pos hq] at c1 c2; exact ⟨c1, c2⟩
        · rw [if_neg (show ¬ (0 ≤ M n ∧ ((q_in M nd gs n).1 < 0 ∨ M n < (q_in M nd gs n).1)) from fun q => hq q.2)]; rw [if_neg hq] at c1 c2; exact ⟨c1, c2⟩
    · have hc' : ib gs n = false := by cases h : ib gs n with | true => exact absurd h hc | false => rfl
      rw [if_pos ((bit0 (by omega) gs).mpr hc'), if_neg (fun q => hc ((bit1 (by omega) gs).mp q))]
      exact ⟨i1, i2⟩
theorem orr (x y : Int32) : (x ||| y) ||| y = x ||| y := by
  apply ib_ext
  intro g _
  rw [ib_or, ib_or]
  cases ib x g <;> cases ib y g <;> rfl
theorem q_in_nb {M : Nat → Int64} {nd : Nat → Int32} {gs : Int32} : ∀ n, n ≤ 12 → (q_in M nd gs (2 * n)).2 = q_nb nd gs n
  | 0, _ => rfl
  | n + 1, hn => by
    have ih := q_in_nb (M := M) (nd := nd) (gs := gs) n (by omega)
    have step : ∀ h, h < 24 → (q_in M nd gs (h + 1)).2 = if ib gs h = true then (q_in M nd gs h).2 ||| nd (h / 2) else (q_in M nd gs h).2 := by
      intro h hh
      simp only [q_in]
      by_cases hc : ib gs h = true
      · rw [if_pos ((bit1 hh gs).mpr hc), if_pos hc]
      · rw [if_neg (fun q => hc ((bit1 hh gs).mp q)), if_neg hc]
    rw [show 2 * (n + 1) = (2 * n + 1) + 1 from by omega, step _ (by omega), step _ (by omega), ih, show 2 * n / 2 = n from by omega, show (2 * n + 1) / 2 = n from by omega]
    simp only [q_nb]
    have b3 := bit3 (k := n) (by omega) gs
    cases h0 : ib gs (2 * n) with
    | true =>
      have hc : ¬ (gs >>> ((2 * nI n) &&& 31)) &&& 3 = 0 := fun q => by have := (b3.mp q).1; rw [h0] at this; exact absurd this (by decide)
      rw [if_neg hc]
      cases h1 : ib gs (2 * n + 1) with
      | true => simp only [if_true, orr]
      | false => simp only [if_true]; rfl
    | false =>
      cases h1 : ib gs (2 * n + 1) with
      | true =>
        have hc : ¬ (gs >>> ((2 * nI n) &&& 31)) &&& 3 = 0 := fun q => by have := (b3.mp q).2; rw [h1] at this; exact absurd this (by decide)
        rw [if_neg hc]
        simp only [if_true]; rfl
      | false =>
        rw [if_pos (b3.mpr ⟨h0, h1⟩)]; rfl
theorem ib_nb {nd : Nat → Int32} {gs : Int32} {h : Nat} : ∀ n, n ≤ 12 → (ib (q_nb nd gs n) h = true ↔ ∃ b, b < n ∧ (ib gs (2 * b) = true ∨ ib gs (2 * b + 1) = true) ∧ ib (nd b) h = true)
  | 0, _ => ⟨fun q => by rw [show q_nb nd gs 0 = 0 from rfl, ib_0] at q; exact absurd q (by decide), fun ⟨b, hb, _⟩ => absurd hb (by omega)⟩
  | n + 1, hn => by
    have ih := ib_nb (nd := nd) (gs := gs) (h := h) n (by omega)
    have b3 := bit3 (k := n) (by omega) gs
    have up : (∃ b, b < n ∧ (ib gs (2 * b) = true ∨ ib gs (2 * b + 1) = true) ∧ ib (nd b) h = true) → (∃ b, b < n + 1 ∧ (ib gs (2 * b) = true ∨ ib gs (2 * b + 1) = true) ∧ ib (nd b) h = true) := fun ⟨b, h1, h2⟩ => ⟨b, by omega, h2⟩
    simp only [q_nb]
    by_cases hc : (gs >>> ((2 * nI n) &&& 31)) &&& 3 = 0
    · rw [if_pos hc]
      obtain ⟨c0, c1⟩ := b3.mp hc
      rw [ih]
      refine ⟨up, fun ⟨b, h1, h2, h3⟩ => ?_⟩
      by_cases hb : b = n
      · subst hb
        rw [c0, c1] at h2
        exact absurd h2 (by decide)
      · exact ⟨b, by omega, h2, h3⟩
    · rw [if_neg hc, ib_or, Bool.or_eq_true, ih]
      have hc2 : ib gs (2 * n) = true ∨ ib gs (2 * n + 1) = true := by
        cases h0 : ib gs (2 * n) with
        | true => exact Or.inl rfl
        | false =>
          cases h1 : ib gs (2 * n + 1) with
          | true => exact Or.inr rfl
          | false => exact absurd (b3.mpr ⟨h0, h1⟩) hc
      constructor
      · rintro (q | q)
        · exact up q
        · exact ⟨n, by omega, hc2, q⟩
      · rintro ⟨b, h1, h2, h3⟩
        by_cases hb : b = n
        · subst hb; exact Or.inr h3
        · exact Or.inl ⟨b, by omega, h2, h3⟩
theorem q_in_pos {M : Nat → Int64} {nd : Nat → Int32} {gs : Int32} : ∀ n, n ≤ 24 → (0 ≤ (q_in M nd gs n).1 ↔ ∃ h, h < n ∧ ib gs h = true ∧ 0 ≤ M h)
  | 0, _ => ⟨fun q => absurd q (by show ¬ (0 : Int64) ≤ -1; decide), fun ⟨h, hh, _⟩ => absurd hh (by omega)⟩
  | n + 1, hn => by
    have ih := q_in_pos (M := M) (nd := nd) (gs := gs) n (by omega)
    simp only [q_in]
    by_cases hc : ib gs n = true
    · rw [if_pos ((bit1 (by omega) gs).mpr hc)]
      show 0 ≤ (if 0 ≤ M n ∧ ((q_in M nd gs n).1 < 0 ∨ M n < (q_in M nd gs n).1) then M n else (q_in M nd gs n).1) ↔ _
      by_cases hM : 0 ≤ M n
      · refine ⟨fun _ => ⟨n, by omega, hc, hM⟩, fun _ => ?_⟩
        by_cases hq : 0 ≤ M n ∧ ((q_in M nd gs n).1 < 0 ∨ M n < (q_in M nd gs n).1)
        · rw [if_pos hq]; exact hM
        · rw [if_neg hq]
          exact Int64.not_lt.mp (fun q => hq ⟨hM, Or.inl q⟩)
      · rw [if_neg (fun q => hM q.1), ih]
        refine ⟨fun ⟨h, h1, h2⟩ => ⟨h, by omega, h2⟩, fun ⟨h, h1, h2, h3⟩ => ⟨h, ?_, h2, h3⟩⟩
        have : h ≠ n := fun e => hM (e ▸ h3)
        omega
    · rw [if_neg (fun q => hc ((bit1 (by omega) gs).mp q)), ih]
      refine ⟨fun ⟨h, h1, h2⟩ => ⟨h, by omega, h2⟩, fun ⟨h, h1, h2, h3⟩ => ⟨h, ?_, h2, h3⟩⟩
      have : h ≠ n := fun e => hc (e ▸ h2)
      omega
/-- the sets of the levels -/
def q_S (nd : Nat → Int32) (nb : Nat) (s : Int32) : Nat → Int32
  | 0 => s
  | l + 1 => q_nb nd (q_S nd nb s l) nb
theorem q_S_1 {nd : Nat → Int32} {nb : Nat} {s : Int32} : ∀ l, q_S nd nb (q_nb nd s nb) l = q_S nd nb s (l + 1)
  | 0 => rfl
  | l + 1 => by
    show q_nb nd (q_S nd nb (q_nb nd s nb) l) nb = _
    rw [q_S_1 l]; rfl
theorem q_lvl_F {M : Nat → Int64} {nd : Nat → Int32} {nb : Nat} (hnb : nb ≤ 12) : ∀ (f k : Nat) (s : Int32), (∀ j, ¬ 0 ≤ (q_in M nd (q_S nd nb s j) (2 * nb)).1) → q_lvl M nd nb f k s = 549755813888
  | 0, _, _, _ => rfl
  | f + 1, k, s, h => by
    simp only [q_lvl]
    rw [if_neg (show ¬ 0 ≤ (q_in M nd s (2 * nb)).1 from h 0), q_in_nb nb hnb]
    exact q_lvl_F hnb f (k + 1) _ (fun j => by rw [q_S_1]; exact h (j + 1))
theorem q_lvl_ex {M : Nat → Int64} {nd : Nat → Int32} {nb f' : Nat} (hnb : nb ≤ 12) : ∀ (f k : Nat) (s : Int32), (∀ j, 0 ≤ (q_in M nd (q_S nd nb s j) (2 * nb)).1 → ∃ i, i < f ∧ 0 ≤ (q_in M nd (q_S nd nb s i) (2 * nb)).1) → q_lvl M nd nb (f + f') k s = q_lvl M nd nb f k s
  | 0, k, s, h => by
    rw [Nat.zero_add, q_lvl_F hnb f' k s (fun j q => by obtain ⟨i, hi, _⟩ := h j q; omega)]; rfl
  | f + 1, k, s, h => by
    rw [show f + 1 + f' = (f + f') + 1 from by omega]
    simp only [q_lvl]
    by_cases h0 : 0 ≤ (q_in M nd s (2 * nb)).1
    · rw [if_pos h0, if_pos h0]
    · rw [if_neg h0, if_neg h0, q_in_nb nb hnb]
      refine q_lvl_ex hnb f (k + 1) _ (fun j q => ?_)
      rw [q_S_1] at q
      obtain ⟨i, hi, hq⟩ := h (j + 1) q
      cases i with
      | zero => exact absurd hq h0
      | succ i => exact ⟨i, by omega, by rw [q_S_1]; exact hq⟩
theorem ib_S {nd : Nat → Int32} {nb b0 h : Nat} (hnb : nb ≤ 12) : ∀ l, (ib (q_S nd nb (nd b0) l) h = true ↔ ∃ b, q_P (fun a b => b < nb ∧ (ib (nd a) (2 * b) = true ∨ ib (nd a) (2 * b + 1) = true)) b0 l b ∧ ib (nd b) h = true) := by
  intro l
  induction l generalizing h with
  | zero => exact ⟨fun q => ⟨b0, rfl, q⟩, fun ⟨b, e, q⟩ => by rw [show b = b0 from e] at q; exact q⟩
  | succ l ih =>
    show ib (q_nb nd (q_S nd nb (nd b0) l) nb) h = true ↔ _
    rw [ib_nb nb hnb]
    constructor
    · rintro ⟨b, hb, h1, h2⟩
      rcases h1 with h1 | h1
      · obtain ⟨a, ha, he⟩ := ih.mp h1
        exact ⟨b, ⟨a, ha, hb, Or.inl he⟩, h2⟩
      · obtain ⟨a, ha, he⟩ := ih.mp h1
        exact ⟨b, ⟨a, ha, hb, Or.inr he⟩, h2⟩
    · rintro ⟨b, ⟨a, ha, hb, he⟩, h2⟩
      refine ⟨b, hb, ?_, h2⟩
      rcases he with he | he
      · exact Or.inl (ih.mpr ⟨a, ha, he⟩)
      · exact Or.inr (ih.mpr ⟨a, ha, he⟩)
theorem q_fit_lvl {N M : Nat → Int64} {nd : Nat → Int32} {nb : Nat} (hnb : nb ≤ 12) (h : Nr N M) : ∀ (f lv : Nat) (gs : Int32), q_fit N nd nb f lv gs = q_lvl M nd nb f lv gs
  | 0, _, _ => rfl
  | f + 1, lv, gs => by
    obtain ⟨i1, i2⟩ := q_least_in (nd := nd) (gs := gs) h (2 * nb) (by omega)
    by_cases hz : gs = 0
    · subst hz
      simp only [q_fit]
      rw [if_pos True.intro, q_lvl_F hnb]
      intro j q
      obtain ⟨x, hx, hq, _⟩ := (q_in_pos (2 * nb) (by omega)).mp q
      have : ∀ j, q_S nd nb 0 j = 0 := by
        intro j
        induction j with
        | zero => rfl
        | succ j ihj =>
          show q_nb nd (q_S nd nb 0 j) nb = 0
          rw [ihj]
          apply ib_ext
          intro g _
          rw [ib_0]
          cases hb : ib (q_nb nd 0 nb) g with
          | false => rfl
          | true =>
            obtain ⟨b, _, h1, _⟩ := (ib_nb nb hnb).mp hb
            rw [ib_0, ib_0] at h1
            exact absurd h1 (by decide)
      rw [this, ib_0] at hq
      exact absurd hq (by decide)
    · simp only [q_fit, q_lvl]
      rw [if_neg hz, i1, q_in_nb nb hnb]
      rcases i2 with r | r
      · rw [r, if_neg (show ¬ (0 : Int64) ≤ -1 by decide), if_pos (by decide)]
        exact q_fit_lvl hnb h f (lv + 1) _
      · rw [if_pos r.1, cN, if_neg (Int64.not_lt.mpr r.1), if_neg (fun q => by rw [q] at r; exact absurd r.2 (by decide))]
theorem q_lvl_s {M : Nat → Int64} {nd : Nat → Int32} {nb k : Nat} {gs : Int32} (f : Nat) : q_lvl M nd nb (f + 1) k gs = if 0 ≤ (q_in M nd gs (2 * nb)).1 then (nI k).toInt64 * 8589934592 + (q_in M nd gs (2 * nb)).1 else q_lvl M nd nb f (k + 1) (q_in M nd gs (2 * nb)).2 := rfl
theorem q_fit_level {N M : Nat → Int64} {nd : Nat → Int32} {nb g : Nat} (hnb : nb ≤ 12) (h : Nr N M) (hg : g < 2 * nb) : q_fit N nd nb 13 0 (1 <<< (nI g &&& 31)) = q_level M nd nb g := by
  rw [q_fit_lvl hnb h]
  have e0 : ∀ i, i < 24 → ib (1 <<< (nI g &&& 31)) i = decide (i = g) := fun i hi => ib_shl (by omega) i (by omega)
  have hin : ∀ n, n ≤ 24 → (q_in M nd (1 <<< (nI g &&& 31)) n) = if g < n then (if 0 ≤ M g then M g else -1, 0 ||| nd (g / 2)) else (-1, 0) := by
    intro n
    induction n with
    | zero => intro _; rw [if_neg (by omega)]; rfl
    | succ n ih =>
      intro hn
      have ih := ih (by omega)
      simp only [q_in]
      by_cases hc : n = g
      · subst hc
        rw [if_pos ((bit1 (by omega) _).mpr (by rw [e0 n (by omega)]; exact decide_eq_true rfl)), ih, if_neg (show ¬ n < n by omega), if_pos (show n < n + 1 by omega)]
        by_cases hM : 0 ≤ M n
        · rw [if_pos ⟨hM, Or.inl (by decide)⟩, if_pos hM]
        · rw [if_neg (fun q => hM q.1), if_neg hM]
      · rw [if_neg (fun q => by have := (bit1 (by omega) _).mp q; rw [e0 n (by omega)] at this; exact hc (of_decide_eq_true this)), ih]
        by_cases hgn : g < n
        · rw [if_pos hgn, if_pos (show g < n + 1 by omega)]
        · rw [if_neg hgn, if_neg (show ¬ g < n + 1 by omega)]
  have hg2 : g / 2 < nb := by omega
  unfold q_level
  rw [q_lvl_s 12, hin (2 * nb) (by omega), if_pos hg]
  by_cases hM : 0 ≤ M g
  · rw [if_pos hM, if_pos hM, if_pos hM]
    rw [show (nI 0).toInt64 = 0 from by decide, Int64.zero_mul, Int64.zero_add]
  · rw [if_neg hM, if_neg hM]
    rw [if_neg (show ¬ (0 : Int64) ≤ -1 by decide), show (24 : Nat) = 12 + 12 from rfl, Nat.zero_add]
    rw [show (0 : Int32) ||| nd (g / 2) = nd (g / 2) from by apply ib_ext; intro i _; rw [ib_or, ib_0]; rfl]
    refine (q_lvl_ex hnb 12 1 _ (fun j q => ?_)).symm
    obtain ⟨x, hx, hq, hMx⟩ := (q_in_pos (2 * nb) (by omega)).mp q
    obtain ⟨b, hP, hb⟩ := (ib_S hnb j).mp hq
    obtain ⟨i, hi, hP'⟩ := q_Q_12 hnb (fun a b e => e.1) hg2 j b hP
    exact ⟨i, hi, (q_in_pos (2 * nb) (by omega)).mpr ⟨x, hx, (ib_S hnb i).mpr ⟨b, hP', hb⟩, hMx⟩⟩
theorem q_set_rel {N M : Nat → Int64} (h : Nr N M) : ∀ n, n ≤ 24 → q_set N n = q_set M n
  | 0, _ => rfl
  | n + 1, hn => by
    have ih := q_set_rel h n (by omega)
    obtain ⟨e, hb⟩ := h n (by omega)
    simp only [q_set]
    rw [ih, e]
    rcases hb with hb | hb
    · rw [hb, if_neg (show ¬ cN (-1) = 0 by decide), if_neg (by decide)]
    · rw [cN, if_neg (Int64.not_lt.mpr hb.1)]
end
section
/-! Draws and the writing of steps. -/
def dn (b : Int64) : Int64 := b * 25214903917 + 11 &&& 281474976710655
def du (b : Int64) : Int64 := (b.toUInt64 >>> ((17 : Int32).toInt64.toUInt64 &&& Int64.toUInt64 63)).toInt64
def dv (b : Int64) (n : Nat) : Nat := (du b).toInt.toNat % n
theorem bm64 {x : Int} (h0 : 0 ≤ x) (h1 : x < 4611686018427387904) : x.bmod (2 ^ 64) = x := by
  rw [Int.bmod_def, show (((2 ^ 64 : Nat)) : Int) = 18446744073709551616 from rfl]
  omega
theorem bm32 {x : Int} (h0 : 0 ≤ x) (h1 : x < 1073741824) : x.bmod (2 ^ 32) = x := by
  rw [Int.bmod_def, show (((2 ^ 32 : Nat)) : Int) = 4294967296 from rfl]
  omega
theorem du_b (b : Int64) : 0 ≤ (du b).toInt ∧ (du b).toInt < 2 ^ 47 := by
  have e : (du b).toInt = (b.toUInt64.toBitVec >>> (17 : Nat)).toInt := by rfl
  have h := b.toUInt64.toBitVec.isLt
  rw [e, BitVec.toInt_eq_toNat_cond, BitVec.toNat_ushiftRight, Nat.shiftRight_eq_div_pow]
  omega
theorem dv_lt (b : Int64) {n : Nat} (hn : 0 < n) : dv b n < n := Nat.mod_lt _ hn
theorem nI64 {n : Nat} (h : n < 2000) : (nI n).toInt64.toInt = n := by
  rw [Int32.toInt_toInt64]
  exact nI_toInt (by omega)
theorem dv_e (b : Int64) {n : Nat} (hn : 0 < n) (hn2 : n < 2000) : (du b - du b / (nI n).toInt64 * (nI n).toInt64).toInt32 = nI (dv b n) := by
  obtain ⟨h0, h1⟩ := du_b b
  have hm : dv b n < n := dv_lt b hn
  have hy := nI64 hn2
  apply Int32.toInt_inj.mp
  obtain ⟨m, em⟩ : ∃ m : Nat, (du b).toInt = (m : Int) := ⟨(du b).toInt.toNat, by omega⟩
  have ed : dv b n = m % n := by unfold dv; rw [em]; rfl
  have hq : m / n * n ≤ m := Nat.div_mul_le_self m n
  have hr : m % n = m - m / n * n := by have := Nat.div_add_mod m n; rw [Nat.mul_comm] at this; omega
  have e1 : (du b / (nI n).toInt64).toInt = ((m / n : Nat) : Int) := by
    rw [Int64.toInt_div, em, hy, ← Int.ofNat_tdiv]
    have : m / n ≤ m := Nat.div_le_self m n
    exact bm64 (Int.natCast_nonneg _) (Int.lt_of_le_of_lt (Int.ofNat_le.mpr this) (by omega))
  have e2 : (du b / (nI n).toInt64 * (nI n).toInt64).toInt = ((m / n * n : Nat) : Int) := by
    rw [Int64.toInt_mul, e1, hy, ← Int.natCast_mul]
    exact bm64 (by omega) (by omega)
  rw [Int64.toInt_toInt32, Int64.toInt_sub, e2, em, nI_toInt (by omega), ed, hr, ← Int.ofNat_sub hq, bm64 (by omega) (by omega)]
  exact bm32 (by omega) (by omega)
theorem nI64_0 {n : Nat} (hn : 0 < n) (h : n < 2000) : ¬ (nI n).toInt64 = 0 := fun e => by
  have := nI64 h
  rw [e] at this
  have h2 : (0 : Int64).toInt = 0 := rfl
  omega

/-- four parts written from place b on -/
def w4 (f : Nat → Int32) (b : Nat) (k x y r : Int32) : Nat → Int32 := upd (upd (upd (upd f b k) (b + 1) x) (b + 2) y) (b + 3) r
def w2 (f : Nat → Int32) (b : Nat) (y r : Int32) : Nat → Int32 := upd (upd f (b + 2) y) (b + 3) r
theorem xu4 {I : Nat → Nat → Int32} {a b : Nat} {k x y r : Int32} : xu (xu (xu (xu I a b k) a (b + 1) x) a (b + 2) y) a (b + 3) r = xrow I a (w4 (I a) b k x y r) := by
  simp only [xu_rowI, xrow_row, xrow_at]; rfl
theorem xu2 {I : Nat → Nat → Int32} {a b : Nat} {y r : Int32} : xu (xu I a (b + 2) y) a (b + 3) r = xrow I a (w2 (I a) b y r) := by
  simp only [xu_rowI, xrow_row, xrow_at]; rfl
section DR
variable {S : XS} {d a s : Nat} {I : Nat → Nat → Int32} {J : Nat → Nat → Int64} {R : Nat → Nat → Option Nat}
/-- Draws.draw -/
theorem s_draw (n : Nat) (hn : 0 < n) (hn2 : n < 2000) {x : Int32} (e1 : x = nI n) : XP S d 29 0 (xent [.ref 18, .int x] 2) [] (hh I J R) (rI (nI (dv (dn (J 18 2)) n)) (hh I (xu J 18 2 (dn (J 18 2))) R)) := by
  subst e1
  refine y_loc (pc' := 1) xD_29 rfl rfl rfl rfl ?_
  refine y_loc (pc' := 2) xD_29 rfl rfl rfl rfl ?_
  refine m_get (pc' := 5) xD_29 rfl rfl (by first | rfl | assumption) rfl rfl ?_
  refine y_ldc (pc' := 8) xD_29 rfl rfl rfl rfl ?_
  refine y_op (pc' := 9) xD_29 rfl rfl rfl rfl ?_
  refine y_ldc (pc' := 12) xD_29 rfl rfl rfl rfl ?_
  refine y_op (pc' := 13) xD_29 rfl rfl rfl rfl ?_
  refine y_ldc (pc' := 16) xD_29 rfl rfl rfl rfl ?_
  refine y_op (pc' := 17) xD_29 rfl rfl rfl rfl ?_
  refine m_putJ (pc' := 20) xD_29 rfl rfl (by first | rfl | assumption) rfl rfl rfl ?_
  refine y_loc (pc' := 21) xD_29 rfl rfl rfl rfl ?_
  refine y_ci (pc' := 22) (1) xD_29 rfl rfl rfl rfl ?_
  refine y_icge (pt := 29) (pf := 25) xD_29 rfl rfl rfl (fun h22 => ?_) (fun h22 => ?_)
  · skip
    refine y_loc (pc' := 30) xD_29 rfl rfl rfl rfl ?_
    refine m_get (pc' := 33) xD_29 rfl rfl (by first | rfl | assumption) rfl rfl ?_
    refine y_ci (pc' := 35) (17) xD_29 rfl rfl rfl rfl ?_
    refine y_op (pc' := 36) xD_29 rfl rfl rfl rfl ?_
    refine y_loc (pc' := 37) xD_29 rfl rfl rfl rfl ?_
    refine y_op (pc' := 38) xD_29 rfl rfl rfl rfl ?_
    refine y_op (pc' := 39) xD_29 rfl rfl (show (if (nI n).toInt64 = 0 then none else some _) = some _ from if_neg (nI64_0 hn hn2)) rfl ?_
    refine y_op (pc' := 40) xD_29 rfl rfl rfl rfl ?_
    refine y_retI xD_29 rfl rfl ?_
    refine rI_e ?_
    rw [xu_at]
    exact dv_e _ hn hn2
  · exact absurd ((nI_leI (a := 1) (by omega) (by omega)).mpr hn) h22
/-- the model's draw -/
theorem s_mdraw (n : Nat) (hn : 0 < n) (hn2 : n < 2000) {x : Int32} (e1 : x = nI n) : XP S d 118 0 (xent [.ref 261, .int x] 2) [] (hh I J R) (rI (nI (dv (dn (J 261 14)) n)) (hh I (xu J 261 14 (dn (J 261 14))) R)) := by
  subst e1
  refine y_loc (pc' := 1) xD_118 rfl rfl rfl rfl ?_
  refine y_loc (pc' := 2) xD_118 rfl rfl rfl rfl ?_
  refine m_get (pc' := 5) xD_118 rfl rfl (by first | rfl | assumption) rfl rfl ?_
  refine y_ldc (pc' := 8) xD_118 rfl rfl rfl rfl ?_
  refine y_op (pc' := 9) xD_118 rfl rfl rfl rfl ?_
  refine y_ldc (pc' := 12) xD_118 rfl rfl rfl rfl ?_
  refine y_op (pc' := 13) xD_118 rfl rfl rfl rfl ?_
  refine y_ldc (pc' := 16) xD_118 rfl rfl rfl rfl ?_
  refine y_op (pc' := 17) xD_118 rfl rfl rfl rfl ?_
  refine m_putJ (pc' := 20) xD_118 rfl rfl (by first | rfl | assumption) rfl rfl rfl ?_
  refine y_loc (pc' := 21) xD_118 rfl rfl rfl rfl ?_
  refine m_get (pc' := 24) xD_118 rfl rfl (by first | rfl | assumption) rfl rfl ?_
  refine y_ci (pc' := 26) (17) xD_118 rfl rfl rfl rfl ?_
  refine y_op (pc' := 27) xD_118 rfl rfl rfl rfl ?_
  refine y_loc (pc' := 28) xD_118 rfl rfl rfl rfl ?_
  refine y_op (pc' := 29) xD_118 rfl rfl rfl rfl ?_
  refine y_op (pc' := 30) xD_118 rfl rfl (show (if (nI n).toInt64 = 0 then none else some _) = some _ from if_neg (nI64_0 hn hn2)) rfl ?_
  refine y_op (pc' := 31) xD_118 rfl rfl rfl rfl ?_
  refine y_retI xD_118 rfl rfl ?_
  refine rI_e ?_
  rw [xu_at]
  exact dv_e _ hn hn2
/-- Case.write -/
theorem s_write (hR : RF R) (hc : isCase a) (j : Nat) (hj : j < 6) {xj k x y r : Int32} (e1 : xj = nI j) : XP S d 32 0 (xent [.ref a, .int xj, .int k, .int x, .int y, .int r] 6) [] (hh I J R) (rV (hh (xrow I (a + 1) (w4 (I (a + 1)) (4 * j) k x y r)) J R)) := by
  have hk0 := (kCase hc).1
  have hk1 := (kCase hc).2.1
  have hr0 := (hR.2 a hc).1
  have e4 : ∀ p, p < 4 → xj * 4 + nI p = nI (4 * j + p) := fun p _ => by rw [e1]; show nI j * nI 4 + nI p = _; rw [pk_mul, nI_add, Nat.mul_comm]
  rw [← xu4]
  refine y_loc (pc' := 1) xD_32 rfl rfl rfl rfl ?_
  first | refine m_getR (pc' := 4) xD_32 rfl rfl rfl rfl (hR.1 _ _ _ rfl) rfl ?_ | refine m_getR (pc' := 4) xD_32 rfl rfl (by first | rfl | assumption) rfl (by assumption) rfl ?_
  refine y_loc (pc' := 5) xD_32 rfl rfl rfl rfl ?_
  refine y_ci (pc' := 6) (4) xD_32 rfl rfl rfl rfl ?_
  refine y_op (pc' := 7) xD_32 rfl rfl rfl rfl ?_
  refine y_ci (pc' := 8) (0) xD_32 rfl rfl rfl rfl ?_
  refine y_op (pc' := 9) xD_32 rfl rfl rfl rfl ?_
  refine y_loc (pc' := 10) xD_32 rfl rfl rfl rfl ?_
  refine m_iast (pc' := 11) (4 * j) xD_32 rfl (by first | rfl | assumption) (by first | assumption | omega) (by first | decide | assumption) (e4 0 (by decide)) rfl ?_
  refine y_loc (pc' := 12) xD_32 rfl rfl rfl rfl ?_
  first | refine m_getR (pc' := 15) xD_32 rfl rfl rfl rfl (hR.1 _ _ _ rfl) rfl ?_ | refine m_getR (pc' := 15) xD_32 rfl rfl (by first | rfl | assumption) rfl (by assumption) rfl ?_
  refine y_loc (pc' := 16) xD_32 rfl rfl rfl rfl ?_
  refine y_ci (pc' := 17) (4) xD_32 rfl rfl rfl rfl ?_
  refine y_op (pc' := 18) xD_32 rfl rfl rfl rfl ?_
  refine y_ci (pc' := 19) (1) xD_32 rfl rfl rfl rfl ?_
  refine y_op (pc' := 20) xD_32 rfl rfl rfl rfl ?_
  refine y_loc (pc' := 21) xD_32 rfl rfl rfl rfl ?_
  refine m_iast (pc' := 22) (4 * j + 1) xD_32 rfl (by first | rfl | assumption) (by first | assumption | omega) (by first | decide | assumption) (e4 1 (by decide)) rfl ?_
  refine y_loc (pc' := 23) xD_32 rfl rfl rfl rfl ?_
  first | refine m_getR (pc' := 26) xD_32 rfl rfl rfl rfl (hR.1 _ _ _ rfl) rfl ?_ | refine m_getR (pc' := 26) xD_32 rfl rfl (by first | rfl | assumption) rfl (by assumption) rfl ?_
  refine y_loc (pc' := 27) xD_32 rfl rfl rfl rfl ?_
  refine y_ci (pc' := 28) (4) xD_32 rfl rfl rfl rfl ?_
  refine y_op (pc' := 29) xD_32 rfl rfl rfl rfl ?_
  refine y_ci (pc' := 30) (2) xD_32 rfl rfl rfl rfl ?_
  refine y_op (pc' := 31) xD_32 rfl rfl rfl rfl ?_
  refine y_loc (pc' := 33) xD_32 rfl rfl rfl rfl ?_
  refine m_iast (pc' := 34) (4 * j + 2) xD_32 rfl (by first | rfl | assumption) (by first | assumption | omega) (by first | decide | assumption) (e4 2 (by decide)) rfl ?_
  refine y_loc (pc' := 35) xD_32 rfl rfl rfl rfl ?_
  first | refine m_getR (pc' := 38) xD_32 rfl rfl rfl rfl (hR.1 _ _ _ rfl) rfl ?_ | refine m_getR (pc' := 38) xD_32 rfl rfl (by first | rfl | assumption) rfl (by assumption) rfl ?_
  refine y_loc (pc' := 39) xD_32 rfl rfl rfl rfl ?_
  refine y_ci (pc' := 40) (4) xD_32 rfl rfl rfl rfl ?_
  refine y_op (pc' := 41) xD_32 rfl rfl rfl rfl ?_
  refine y_ci (pc' := 42) (3) xD_32 rfl rfl rfl rfl ?_
  refine y_op (pc' := 43) xD_32 rfl rfl rfl rfl ?_
  refine y_loc (pc' := 45) xD_32 rfl rfl rfl rfl ?_
  refine m_iast (pc' := 46) (4 * j + 3) xD_32 rfl (by first | rfl | assumption) (by first | assumption | omega) (by first | decide | assumption) (e4 3 (by decide)) rfl ?_
  refine y_retV xD_32 rfl rfl ?_
  exact ⟨rfl, rfl⟩
/-- the model's write -/
theorem s_mwrite (hR : RF R) (hs : s < 67) (j : Nat) (hj : j < 6) {xs xj k x : Int32} (e0 : xs = nI s) (e1 : xj = nI j) : XP S d 105 0 (xent [.ref 261, .int xs, .int xj, .int k, .int x] 6) [] (hh I J R) (rV (hh (xrow I 262 (w4 (I 262) (24 * s + 4 * j) k x 0 (-1))) J R)) := by
  have e5 : xs * 24 + xj * 4 = nI (24 * s + 4 * j) := by rw [e0, e1]; show nI s * nI 24 + nI j * nI 4 = _; rw [pk_mul, pk_mul, nI_add, Nat.mul_comm s, Nat.mul_comm j]
  have e4 : ∀ p, p < 4 → xs * 24 + xj * 4 + nI p = nI (24 * s + 4 * j + p) := fun p _ => by rw [e5, nI_add]
  rw [← xu4]
  refine y_loc (pc' := 1) xD_105 rfl rfl rfl rfl ?_
  refine y_ci (pc' := 3) (24) xD_105 rfl rfl rfl rfl ?_
  refine y_op (pc' := 4) xD_105 rfl rfl rfl rfl ?_
  refine y_loc (pc' := 5) xD_105 rfl rfl rfl rfl ?_
  refine y_ci (pc' := 6) (4) xD_105 rfl rfl rfl rfl ?_
  refine y_op (pc' := 7) xD_105 rfl rfl rfl rfl ?_
  refine y_op (pc' := 8) xD_105 rfl rfl rfl rfl ?_
  refine y_loc (pc' := 10) xD_105 rfl rfl rfl rfl ?_
  refine y_loc (pc' := 11) xD_105 rfl rfl rfl rfl ?_
  first | refine m_getR (pc' := 14) xD_105 rfl rfl rfl rfl (hR.1 _ _ _ rfl) rfl ?_ | refine m_getR (pc' := 14) xD_105 rfl rfl (by first | rfl | assumption) rfl (by assumption) rfl ?_
  refine y_loc (pc' := 16) xD_105 rfl rfl rfl rfl ?_
  refine y_loc (pc' := 17) xD_105 rfl rfl rfl rfl ?_
  refine m_iast (pc' := 18) (24 * s + 4 * j) xD_105 rfl (by first | rfl | assumption) (by first | assumption | omega) (by first | decide | assumption) e5 rfl ?_
  refine y_loc (pc' := 19) xD_105 rfl rfl rfl rfl ?_
  first | refine m_getR (pc' := 22) xD_105 rfl rfl rfl rfl (hR.1 _ _ _ rfl) rfl ?_ | refine m_getR (pc' := 22) xD_105 rfl rfl (by first | rfl | assumption) rfl (by assumption) rfl ?_
  refine y_loc (pc' := 24) xD_105 rfl rfl rfl rfl ?_
  refine y_ci (pc' := 25) (1) xD_105 rfl rfl rfl rfl ?_
  refine y_op (pc' := 26) xD_105 rfl rfl rfl rfl ?_
  refine y_loc (pc' := 28) xD_105 rfl rfl rfl rfl ?_
  refine m_iast (pc' := 29) (24 * s + 4 * j + 1) xD_105 rfl (by first | rfl | assumption) (by first | assumption | omega) (by first | decide | assumption) (e4 1 (by decide)) rfl ?_
  refine y_loc (pc' := 30) xD_105 rfl rfl rfl rfl ?_
  first | refine m_getR (pc' := 33) xD_105 rfl rfl rfl rfl (hR.1 _ _ _ rfl) rfl ?_ | refine m_getR (pc' := 33) xD_105 rfl rfl (by first | rfl | assumption) rfl (by assumption) rfl ?_
  refine y_loc (pc' := 35) xD_105 rfl rfl rfl rfl ?_
  refine y_ci (pc' := 36) (2) xD_105 rfl rfl rfl rfl ?_
  refine y_op (pc' := 37) xD_105 rfl rfl rfl rfl ?_
  refine y_ci (pc' := 38) (0) xD_105 rfl rfl rfl rfl ?_
  refine m_iast (pc' := 39) (24 * s + 4 * j + 2) xD_105 rfl (by first | rfl | assumption) (by first | assumption | omega) (by first | decide | assumption) (e4 2 (by decide)) rfl ?_
  refine y_loc (pc' := 40) xD_105 rfl rfl rfl rfl ?_
  first | refine m_getR (pc' := 43) xD_105 rfl rfl rfl rfl (hR.1 _ _ _ rfl) rfl ?_ | refine m_getR (pc' := 43) xD_105 rfl rfl (by first | rfl | assumption) rfl (by assumption) rfl ?_
  refine y_loc (pc' := 45) xD_105 rfl rfl rfl rfl ?_
  refine y_ci (pc' := 46) (3) xD_105 rfl rfl rfl rfl ?_
  refine y_op (pc' := 47) xD_105 rfl rfl rfl rfl ?_
  refine y_ci (pc' := 48) (-1) xD_105 rfl rfl rfl rfl ?_
  refine m_iast (pc' := 49) (24 * s + 4 * j + 3) xD_105 rfl (by first | rfl | assumption) (by first | assumption | omega) (by first | decide | assumption) (e4 3 (by decide)) rfl ?_
  refine y_retV xD_105 rfl rfl ?_
  exact ⟨rfl, rfl⟩
/-- the model's second -/
theorem s_msecond (hR : RF R) (hs : s < 67) (j : Nat) (hj : j < 6) {xs xj y r : Int32} (e0 : xs = nI s) (e1 : xj = nI j) : XP S d 106 0 (xent [.ref 261, .int xs, .int xj, .int y, .int r] 5) [] (hh I J R) (rV (hh (xrow I 262 (w2 (I 262) (24 * s + 4 * j) (if r < 0 then y else 0) r)) J R)) := by
  have e5 : xs * 24 + xj * 4 = nI (24 * s + 4 * j) := by rw [e0, e1]; show nI s * nI 24 + nI j * nI 4 = _; rw [pk_mul, pk_mul, nI_add, Nat.mul_comm s, Nat.mul_comm j]
  have e4 : ∀ p, p < 4 → xs * 24 + xj * 4 + nI p = nI (24 * s + 4 * j + p) := fun p _ => by rw [e5, nI_add]
  rw [← xu2]
  refine y_loc (pc' := 1) xD_106 rfl rfl rfl rfl ?_
  first | refine m_getR (pc' := 4) xD_106 rfl rfl rfl rfl (hR.1 _ _ _ rfl) rfl ?_ | refine m_getR (pc' := 4) xD_106 rfl rfl (by first | rfl | assumption) rfl (by assumption) rfl ?_
  refine y_loc (pc' := 5) xD_106 rfl rfl rfl rfl ?_
  refine y_ci (pc' := 7) (24) xD_106 rfl rfl rfl rfl ?_
  refine y_op (pc' := 8) xD_106 rfl rfl rfl rfl ?_
  refine y_loc (pc' := 9) xD_106 rfl rfl rfl rfl ?_
  refine y_ci (pc' := 10) (4) xD_106 rfl rfl rfl rfl ?_
  refine y_op (pc' := 11) xD_106 rfl rfl rfl rfl ?_
  refine y_op (pc' := 12) xD_106 rfl rfl rfl rfl ?_
  refine y_ci (pc' := 13) (2) xD_106 rfl rfl rfl rfl ?_
  refine y_op (pc' := 14) xD_106 rfl rfl rfl rfl ?_
  refine y_loc (pc' := 16) xD_106 rfl rfl rfl rfl ?_
  refine y_ifge (pt := 23) (pf := 19) xD_106 rfl rfl rfl (fun h16 => ?_) (fun h16 => ?_)
  · skip
    refine y_ci (pc' := 24) (0) xD_106 rfl rfl rfl rfl ?_
    first | rw [if_neg (Int32.not_lt.mpr h16)] | rw [if_pos (Int32.not_le.mp h16)]
    refine m_iast (pc' := 25) (24 * s + 4 * j + 2) xD_106 rfl (by first | rfl | assumption) (by first | assumption | omega) (by first | decide | assumption) (e4 2 (by decide)) rfl ?_
    refine y_loc (pc' := 26) xD_106 rfl rfl rfl rfl ?_
    first | refine m_getR (pc' := 29) xD_106 rfl rfl rfl rfl (hR.1 _ _ _ rfl) rfl ?_ | refine m_getR (pc' := 29) xD_106 rfl rfl (by first | rfl | assumption) rfl (by assumption) rfl ?_
    refine y_loc (pc' := 30) xD_106 rfl rfl rfl rfl ?_
    refine y_ci (pc' := 32) (24) xD_106 rfl rfl rfl rfl ?_
    refine y_op (pc' := 33) xD_106 rfl rfl rfl rfl ?_
    refine y_loc (pc' := 34) xD_106 rfl rfl rfl rfl ?_
    refine y_ci (pc' := 35) (4) xD_106 rfl rfl rfl rfl ?_
    refine y_op (pc' := 36) xD_106 rfl rfl rfl rfl ?_
    refine y_op (pc' := 37) xD_106 rfl rfl rfl rfl ?_
    refine y_ci (pc' := 38) (3) xD_106 rfl rfl rfl rfl ?_
    refine y_op (pc' := 39) xD_106 rfl rfl rfl rfl ?_
    refine y_loc (pc' := 41) xD_106 rfl rfl rfl rfl ?_
    refine m_iast (pc' := 42) (24 * s + 4 * j + 3) xD_106 rfl (by first | rfl | assumption) (by first | assumption | omega) (by first | decide | assumption) (e4 3 (by decide)) rfl ?_
    refine y_retV xD_106 rfl rfl ?_
    exact ⟨rfl, rfl⟩
  · skip
    refine y_loc (pc' := 20) xD_106 rfl rfl rfl rfl ?_
    refine y_goto (pc' := 24) xD_106 rfl rfl ?_
    first | rw [if_neg (Int32.not_lt.mpr h16)] | rw [if_pos (Int32.not_le.mp h16)]
    refine m_iast (pc' := 25) (24 * s + 4 * j + 2) xD_106 rfl (by first | rfl | assumption) (by first | assumption | omega) (by first | decide | assumption) (e4 2 (by decide)) rfl ?_
    refine y_loc (pc' := 26) xD_106 rfl rfl rfl rfl ?_
    first | refine m_getR (pc' := 29) xD_106 rfl rfl rfl rfl (hR.1 _ _ _ rfl) rfl ?_ | refine m_getR (pc' := 29) xD_106 rfl rfl (by first | rfl | assumption) rfl (by assumption) rfl ?_
    refine y_loc (pc' := 30) xD_106 rfl rfl rfl rfl ?_
    refine y_ci (pc' := 32) (24) xD_106 rfl rfl rfl rfl ?_
    refine y_op (pc' := 33) xD_106 rfl rfl rfl rfl ?_
    refine y_loc (pc' := 34) xD_106 rfl rfl rfl rfl ?_
    refine y_ci (pc' := 35) (4) xD_106 rfl rfl rfl rfl ?_
    refine y_op (pc' := 36) xD_106 rfl rfl rfl rfl ?_
    refine y_op (pc' := 37) xD_106 rfl rfl rfl rfl ?_
    refine y_ci (pc' := 38) (3) xD_106 rfl rfl rfl rfl ?_
    refine y_op (pc' := 39) xD_106 rfl rfl rfl rfl ?_
    refine y_loc (pc' := 41) xD_106 rfl rfl rfl rfl ?_
    refine m_iast (pc' := 42) (24 * s + 4 * j + 3) xD_106 rfl (by first | rfl | assumption) (by first | assumption | omega) (by first | decide | assumption) (e4 3 (by decide)) rfl ?_
    refine y_retV xD_106 rfl rfl ?_
    exact ⟨rfl, rfl⟩
end DR
end
section
/-! The drawing of numbers and steps, in the class. -/
def dnum (b : Int64) (cc : Nat) (con : Nat → Int32) : Int32 := if dv (dn b) 4 = 0 ∨ cc = 0 then nI (dv (dn (dn b)) 21) - 10 else con (dv (dn (dn b)) cc) + nI (dv (dn b) 4) - 2
theorem nI_z {n : Nat} (h : n < 2000) : nI n = 0 ↔ n = 0 := nI_eq (b := 0) (by omega) (by decide)
theorem xu_ii {α : Type} {f : Nat → Nat → α} {a i : Nat} {v : α} : xu f a i v a i = v := by unfold xu; rw [if_pos ⟨rfl, rfl⟩]
def dK (b : Int64) : Int32 := if dv (dn b) 5 = 4 then nI (4 + dv (dn (dn b)) 4) else nI (dv (dn b) 5 / 2)
def dX (cc : Nat) (con : Nat → Int32) (b : Int64) : Int32 := if dv (dn b) 5 = 4 then dnum (dn (dn b)) cc con else dnum (dn b) cc con
def dY (cc : Nat) (con : Nat → Int32) (i : Nat) (b : Int64) : Int32 := if dv (dn b) 5 = 4 then 0 else if dv (dn (dn (dn (dn b)))) (i + 2) < i then 0 else dnum (dn (dn (dn (dn b)))) cc con
def dF (i : Nat) (b : Int64) : Int32 := if dv (dn b) 5 = 4 then -1 else if dv (dn (dn (dn (dn b)))) (i + 2) < i then nI (dv (dn (dn (dn (dn b)))) (i + 2)) else -1
def dS (i : Nat) (b : Int64) : Int64 := if dv (dn b) 5 = 4 then dn (dn (dn (dn b))) else if dv (dn (dn (dn (dn b)))) (i + 2) < i then dn (dn (dn (dn b))) else dn (dn (dn (dn (dn (dn b)))))
section DN
variable {S : XS} {d a s : Nat} {I : Nat → Nat → Int32} {J : Nat → Nat → Int64} {R : Nat → Nat → Option Nat}
/-- Draws.drawNumber -/
theorem s_drawNumber (hR : RF R) (cc : Nat) (hcc : I 18 1 = nI cc) (hcc2 : cc ≤ 20) : XP S (d + 1) 31 0 (xent [.ref 18] 2) [] (hh I J R) (rI (dnum (J 18 2) cc (I 19)) (hh I (xu J 18 2 (dn (dn (J 18 2)))) R)) := by
  refine y_loc (pc' := 1) xD_31 rfl rfl rfl rfl ?_
  refine y_ci (pc' := 2) (4) xD_31 rfl rfl rfl rfl ?_
  refine y_callV xD_31 rfl rfl rfl rfl (by first | rfl | assumption) rfl rfl rfl rfl (s_draw 4 (by decide) (by decide) rfl) (fun v h' hq => ?_)
  obtain ⟨rfl, rfl⟩ := hq
  refine y_loc (pc' := 6) xD_31 rfl rfl rfl rfl ?_
  refine y_loc (pc' := 7) xD_31 rfl rfl rfl rfl ?_
  refine y_ifeq (pt := 17) (pf := 10) xD_31 rfl rfl rfl (fun h7 => ?_) (fun h7 => ?_)
  · skip
    refine y_loc (pc' := 18) xD_31 rfl rfl rfl rfl ?_
    refine y_ci (pc' := 20) (21) xD_31 rfl rfl rfl rfl ?_
    refine y_callV xD_31 rfl rfl rfl rfl (by first | rfl | assumption) rfl rfl rfl rfl (s_draw 21 (by decide) (by decide) rfl) (fun v h' hq => ?_)
    obtain ⟨rfl, rfl⟩ := hq
    rw [xu_ii, xu_xu]
    refine y_ci (pc' := 25) (10) xD_31 rfl rfl rfl rfl ?_
    refine y_op (pc' := 26) xD_31 rfl rfl rfl rfl ?_
    refine y_retI xD_31 rfl rfl ?_
    refine rI_e ?_
    show nI (dv (dn (dn (J 18 2))) 21) - 10 = _
    unfold dnum
    first | rw [if_pos (Or.inl ((nI_z (Nat.lt_trans (dv_lt _ (by decide)) (by decide))).mp h7))] | rw [if_pos (Or.inr ((nI_z (by omega)).mp (hcc.symm.trans h14)))]
  · skip
    refine y_loc (pc' := 11) xD_31 rfl rfl rfl rfl ?_
    refine m_get (pc' := 14) xD_31 rfl rfl (by first | rfl | assumption) rfl rfl ?_
    refine y_ifne (pt := 27) (pf := 17) xD_31 rfl rfl rfl (fun h14 => ?_) (fun h14 => ?_)
    · skip
      refine y_loc (pc' := 28) xD_31 rfl rfl rfl rfl ?_
      first | refine m_getR (pc' := 31) xD_31 rfl rfl rfl rfl (hR.1 _ _ _ rfl) rfl ?_ | refine m_getR (pc' := 31) xD_31 rfl rfl (by first | rfl | assumption) rfl (by assumption) rfl ?_
      refine y_loc (pc' := 32) xD_31 rfl rfl rfl rfl ?_
      refine y_loc (pc' := 33) xD_31 rfl rfl rfl rfl ?_
      refine m_get (pc' := 36) xD_31 rfl rfl (by first | rfl | assumption) rfl rfl ?_
      have hc : 0 < cc := Nat.pos_of_ne_zero (fun q => h14 (by rw [hcc, q]; rfl))
      refine y_callV xD_31 rfl rfl rfl rfl (by first | rfl | assumption) rfl rfl rfl rfl (s_draw cc hc (by omega) hcc) (fun v h' hq => ?_)
      obtain ⟨rfl, rfl⟩ := hq
      rw [xu_ii, xu_xu]
      have hd := dv_lt (dn (dn (J 18 2))) hc
      refine m_iald (pc' := 40) (dv (dn (dn (J 18 2))) cc) xD_31 rfl (by first | rfl | assumption) (by first | assumption | omega) (by first | decide | assumption) (by first | decide | omega) (by first | rfl | assumption) rfl ?_
      refine y_loc (pc' := 41) xD_31 rfl rfl rfl rfl ?_
      refine y_op (pc' := 42) xD_31 rfl rfl rfl rfl ?_
      refine y_ci (pc' := 43) (2) xD_31 rfl rfl rfl rfl ?_
      refine y_op (pc' := 44) xD_31 rfl rfl rfl rfl ?_
      refine y_retI xD_31 rfl rfl ?_
      refine rI_e ?_
      show I 19 (dv (dn (dn (J 18 2))) cc) + nI (dv (dn (J 18 2)) 4) - 2 = _
      unfold dnum
      rw [if_neg (fun q => q.elim (fun e => h7 ((nI_z (Nat.lt_trans (dv_lt _ (by decide)) (by decide))).mpr e)) (fun e => h14 (hcc.trans ((nI_z (by omega)).mpr e))))]
    · skip
      refine y_loc (pc' := 18) xD_31 rfl rfl rfl rfl ?_
      refine y_ci (pc' := 20) (21) xD_31 rfl rfl rfl rfl ?_
      refine y_callV xD_31 rfl rfl rfl rfl (by first | rfl | assumption) rfl rfl rfl rfl (s_draw 21 (by decide) (by decide) rfl) (fun v h' hq => ?_)
      obtain ⟨rfl, rfl⟩ := hq
      rw [xu_ii, xu_xu]
      refine y_ci (pc' := 25) (10) xD_31 rfl rfl rfl rfl ?_
      refine y_op (pc' := 26) xD_31 rfl rfl rfl rfl ?_
      refine y_retI xD_31 rfl rfl ?_
      refine rI_e ?_
      show nI (dv (dn (dn (J 18 2))) 21) - 10 = _
      unfold dnum
      first | rw [if_pos (Or.inl ((nI_z (Nat.lt_trans (dv_lt _ (by decide)) (by decide))).mp h7))] | rw [if_pos (Or.inr ((nI_z (by omega)).mp (hcc.symm.trans h14)))]
/-- Draws.drawStep -/
theorem s_drawStep (hR : RF R) (hca : isCase a) (cc : Nat) (hcc : I 18 1 = nI cc) (hcc2 : cc ≤ 20) (i : Nat) (hi : i < 6) {xi : Int32} (e1 : xi = nI i) : XP S (d + 2) 30 0 (xent [.ref 18, .ref a, .int xi] 6) [] (hh I J R) (rV (hh (xrow I (a + 1) (w4 (I (a + 1)) (4 * i) (dK (J 18 2)) (dX cc (I 19) (J 18 2)) (dY cc (I 19) i (J 18 2)) (dF i (J 18 2)))) (xu J 18 2 (dS i (J 18 2))) R)) := by
  have hk0 := (kCase hca).1
  have h5 := dv_lt (dn (J 18 2)) (n := 5) (by decide)
  have h2 := dv_lt (dn (dn (dn (dn (J 18 2))))) (n := i + 2) (by omega)
  have e44 : ∀ t : Nat, (4 : Int32) + nI t = nI (4 + t) := fun t => by show nI 4 + nI t = _; rw [nI_add]
  have ek : nI (dv (dn (J 18 2)) 5) / 2 = nI (dv (dn (J 18 2)) 5 / 2) := pk_div (d := 2) (by omega) (by decide) (by decide)
  refine y_loc (pc' := 1) xD_30 rfl rfl rfl rfl ?_
  refine y_ci (pc' := 2) (5) xD_30 rfl rfl rfl rfl ?_
  refine y_callV xD_30 rfl rfl rfl rfl (by first | rfl | assumption) rfl rfl rfl rfl (s_draw 5 (by decide) (by decide) rfl) (fun v h' hq => ?_)
  obtain ⟨rfl, rfl⟩ := hq
  refine y_loc (pc' := 6) xD_30 rfl rfl rfl rfl ?_
  refine y_loc (pc' := 7) xD_30 rfl rfl rfl rfl ?_
  refine y_ci (pc' := 8) (4) xD_30 rfl rfl rfl rfl ?_
  refine y_icne (pt := 34) (pf := 11) xD_30 rfl rfl rfl (fun h8 => ?_) (fun h8 => ?_)
  · skip
    refine y_loc (pc' := 35) xD_30 rfl rfl rfl rfl ?_
    have hq : ¬ dv (dn (J 18 2)) 5 = 4 := fun q => h8 (by rw [q]; rfl)
    refine y_callV xD_30 rfl rfl rfl rfl (by first | rfl | assumption) rfl rfl rfl rfl (s_drawNumber (d := d) hR cc hcc hcc2) (fun v h' hq => ?_)
    obtain ⟨rfl, rfl⟩ := hq
    rw [xu_ii, xu_xu]
    refine y_loc (pc' := 40) xD_30 rfl rfl rfl rfl ?_
    refine y_loc (pc' := 41) xD_30 rfl rfl rfl rfl ?_
    refine y_loc (pc' := 42) xD_30 rfl rfl rfl rfl ?_
    refine y_ci (pc' := 43) (2) xD_30 rfl rfl rfl rfl ?_
    refine y_op (pc' := 44) xD_30 rfl rfl rfl rfl ?_
    refine y_callV xD_30 rfl rfl rfl rfl (by first | rfl | assumption) rfl rfl rfl rfl (s_draw (i + 2) (by omega) (by omega) (by rw [e1]; exact nI_add i 2)) (fun v h' hq => ?_)
    obtain ⟨rfl, rfl⟩ := hq
    rw [xu_ii, xu_xu]
    refine y_loc (pc' := 49) xD_30 rfl rfl rfl rfl ?_
    refine y_loc (pc' := 51) xD_30 rfl rfl rfl rfl ?_
    refine y_loc (pc' := 52) xD_30 rfl rfl rfl rfl ?_
    refine y_icge (pt := 71) (pf := 55) xD_30 rfl rfl rfl (fun h52 => ?_) (fun h52 => ?_)
    · skip
      refine y_loc (pc' := 72) xD_30 rfl rfl rfl rfl ?_
      refine y_loc (pc' := 73) xD_30 rfl rfl rfl rfl ?_
      refine y_loc (pc' := 74) xD_30 rfl rfl rfl rfl ?_
      refine y_ci (pc' := 75) (2) xD_30 rfl rfl rfl rfl ?_
      refine y_op (pc' := 76) xD_30 rfl rfl (show (if (2 : Int32) = 0 then none else some _) = some _ from if_neg (by decide)) rfl ?_
      refine y_loc (pc' := 78) xD_30 rfl rfl rfl rfl ?_
      refine y_loc (pc' := 79) xD_30 rfl rfl rfl rfl ?_
      refine y_callV xD_30 rfl rfl rfl rfl (by first | rfl | assumption) rfl rfl rfl rfl (s_drawNumber (d := d) hR cc hcc hcc2) (fun v h' hq => ?_)
      obtain ⟨rfl, rfl⟩ := hq
      rw [xu_ii, xu_xu]
      refine y_ci (pc' := 83) (-1) xD_30 rfl rfl rfl rfl ?_
      refine y_callV xD_30 rfl rfl rfl rfl (by first | rfl | assumption) rfl rfl rfl rfl (s_write hR hca i hi e1) (fun v h' hq => ?_)
      obtain ⟨rfl, rfl⟩ := hq
      refine y_retV xD_30 rfl rfl ?_
      refine ⟨rfl, ?_⟩
      unfold dK dX dY dF dS
      simp only [if_neg hq]
      rw [← ek]
      rw [e1] at h52
      first | (rw [if_pos (Nat.lt_of_not_le (fun q => h52 ((nI_leI (by omega) (by omega)).mpr q))), if_pos (Nat.lt_of_not_le (fun q => h52 ((nI_leI (by omega) (by omega)).mpr q))), if_pos (Nat.lt_of_not_le (fun q => h52 ((nI_leI (by omega) (by omega)).mpr q)))]) | (rw [if_neg (Nat.not_lt.mpr ((nI_leI (by omega) (by omega)).mp h52)), if_neg (Nat.not_lt.mpr ((nI_leI (by omega) (by omega)).mp h52)), if_neg (Nat.not_lt.mpr ((nI_leI (by omega) (by omega)).mp h52))])
    · skip
      refine y_loc (pc' := 56) xD_30 rfl rfl rfl rfl ?_
      refine y_loc (pc' := 57) xD_30 rfl rfl rfl rfl ?_
      refine y_loc (pc' := 58) xD_30 rfl rfl rfl rfl ?_
      refine y_ci (pc' := 59) (2) xD_30 rfl rfl rfl rfl ?_
      refine y_op (pc' := 60) xD_30 rfl rfl (show (if (2 : Int32) = 0 then none else some _) = some _ from if_neg (by decide)) rfl ?_
      refine y_loc (pc' := 62) xD_30 rfl rfl rfl rfl ?_
      refine y_ci (pc' := 63) (0) xD_30 rfl rfl rfl rfl ?_
      refine y_loc (pc' := 65) xD_30 rfl rfl rfl rfl ?_
      refine y_callV xD_30 rfl rfl rfl rfl (by first | rfl | assumption) rfl rfl rfl rfl (s_write hR hca i hi e1) (fun v h' hq => ?_)
      obtain ⟨rfl, rfl⟩ := hq
      refine y_goto (pc' := 86) xD_30 rfl rfl ?_
      refine y_retV xD_30 rfl rfl ?_
      refine ⟨rfl, ?_⟩
      unfold dK dX dY dF dS
      simp only [if_neg hq]
      rw [← ek]
      rw [e1] at h52
      first | (rw [if_pos (Nat.lt_of_not_le (fun q => h52 ((nI_leI (by omega) (by omega)).mpr q))), if_pos (Nat.lt_of_not_le (fun q => h52 ((nI_leI (by omega) (by omega)).mpr q))), if_pos (Nat.lt_of_not_le (fun q => h52 ((nI_leI (by omega) (by omega)).mpr q)))]) | (rw [if_neg (Nat.not_lt.mpr ((nI_leI (by omega) (by omega)).mp h52)), if_neg (Nat.not_lt.mpr ((nI_leI (by omega) (by omega)).mp h52)), if_neg (Nat.not_lt.mpr ((nI_leI (by omega) (by omega)).mp h52))])
  · skip
    refine y_ci (pc' := 12) (4) xD_30 rfl rfl rfl rfl ?_
    refine y_loc (pc' := 13) xD_30 rfl rfl rfl rfl ?_
    refine y_ci (pc' := 14) (4) xD_30 rfl rfl rfl rfl ?_
    have hq : dv (dn (J 18 2)) 5 = 4 := (nI_eq (b := 4) (by omega) (by decide)).mp h8
    refine y_callV xD_30 rfl rfl rfl rfl (by first | rfl | assumption) rfl rfl rfl rfl (s_draw 4 (by decide) (by decide) rfl) (fun v h' hq => ?_)
    obtain ⟨rfl, rfl⟩ := hq
    rw [xu_ii, xu_xu]
    refine y_op (pc' := 18) xD_30 rfl rfl rfl rfl ?_
    refine y_loc (pc' := 20) xD_30 rfl rfl rfl rfl ?_
    refine y_loc (pc' := 21) xD_30 rfl rfl rfl rfl ?_
    refine y_loc (pc' := 22) xD_30 rfl rfl rfl rfl ?_
    refine y_loc (pc' := 24) xD_30 rfl rfl rfl rfl ?_
    refine y_loc (pc' := 25) xD_30 rfl rfl rfl rfl ?_
    refine y_callV xD_30 rfl rfl rfl rfl (by first | rfl | assumption) rfl rfl rfl rfl (s_drawNumber (d := d) hR cc hcc hcc2) (fun v h' hq => ?_)
    obtain ⟨rfl, rfl⟩ := hq
    rw [xu_ii, xu_xu]
    refine y_ci (pc' := 29) (0) xD_30 rfl rfl rfl rfl ?_
    refine y_ci (pc' := 30) (-1) xD_30 rfl rfl rfl rfl ?_
    refine y_callV xD_30 rfl rfl rfl rfl (by first | rfl | assumption) rfl rfl rfl rfl (s_write hR hca i hi e1) (fun v h' hq => ?_)
    obtain ⟨rfl, rfl⟩ := hq
    refine y_retV xD_30 rfl rfl ?_
    refine ⟨rfl, ?_⟩
    unfold dK dX dY dF dS
    simp only [if_pos hq]
    rw [← e44]
end DN
end
section
/-! The drawing of numbers and steps, in the model. -/
def PL (I : Nat → Nat → Int32) : Prop := ∀ m, m < 2 → I 265 m = nI (lnM I m) ∧ lnM I m ≤ 10
def isS (I : Nat → Nat → Int32) (q : Nat) : Bool := decide (q % 10 < lnM I (q / 10) ∧ cdM I (q / 10) (q % 10) 0 = 0)
theorem isS_iff {I : Nat → Nat → Int32} {q : Nat} : isS I q = true ↔ (q % 10 < lnM I (q / 10) ∧ cdM I (q / 10) (q % 10) 0 = 0) := decide_eq_true_iff
def scnt (I : Nat → Nat → Int32) : Nat → Nat
  | 0 => 0
  | n + 1 => if isS I n then scnt I n + 1 else scnt I n
theorem scnt_y {I : Nat → Nat → Int32} {n : Nat} (h : isS I n) : scnt I (n + 1) = scnt I n + 1 := by simp only [scnt]; rw [if_pos h]
theorem scnt_n {I : Nat → Nat → Int32} {n : Nat} (h : ¬ isS I n) : scnt I (n + 1) = scnt I n := by simp only [scnt]; rw [if_neg h]
theorem scnt_le {I : Nat → Nat → Int32} : ∀ n, scnt I n ≤ n
  | 0 => Nat.le_refl _
  | n + 1 => by
    have := scnt_le (I := I) n
    by_cases h : isS I n
    · rw [scnt_y h]; omega
    · rw [scnt_n h]; omega
section MD
variable {S : XS} {d s : Nat} {I : Nat → Nat → Int32} {J : Nat → Nat → Int64} {R : Nat → Nat → Option Nat}
theorem s_setLine (hR : RF R) (hL : PL I) (q : Nat) (hq : q < 20) {xq : Int32} (e1 : xq = nI q) : XP S (d + 1) 121 0 (xent [.ref 261, .int xq] 2) [] (hh I J R) (rI (zB (decide (isS I q))) (hh I J R)) := by
  have hd : xq / 10 = nI (q / 10) := by rw [e1]; exact pk_div (d := 10) (by omega) (by decide) (by decide)
  have hr : xq - xq / 10 * 10 = nI (q % 10) := by rw [e1]; exact pk_rem (d := 10) (by omega) (by decide) (by decide)
  have hm : q / 10 < 2 := by omega
  have hp : q % 10 < 10 := by omega
  obtain ⟨l1, l2⟩ := hL (q / 10) hm
  refine y_loc (pc' := 1) xD_121 rfl rfl rfl rfl ?_
  refine y_ci (pc' := 3) (20) xD_121 rfl rfl rfl rfl ?_
  refine y_icge (pt := 42) (pf := 6) xD_121 rfl rfl rfl (fun h3 => ?_) (fun h3 => ?_)
  · skip
    first
    | exact absurd h3 (by rw [e1]; exact nI_ge (b := 20) hq (by decide))
    | (refine y_ci (pc' := 43) (0) xD_121 rfl rfl rfl rfl ?_
       refine y_retZ xD_121 rfl rfl (by decide) ?_
       refine rI_f ?_
       rw [isS_iff]
       first | exact fun q => h35 q.2 | exact fun q => absurd q.1 (Nat.not_lt.mpr ((nI_leI (by omega) (by omega)).mp h19)))
  · skip
    refine y_loc (pc' := 7) xD_121 rfl rfl rfl rfl ?_
    refine y_ci (pc' := 9) (10) xD_121 rfl rfl rfl rfl ?_
    refine y_op (pc' := 10) xD_121 rfl rfl (show (if (10 : Int32) = 0 then none else some (Value.int (xq - xq / 10 * 10) :: _)) = some _ from if_neg (by decide)) rfl ?_
    rw [hr]
    refine y_loc (pc' := 11) xD_121 rfl rfl rfl rfl ?_
    first | refine m_getR (pc' := 14) xD_121 rfl rfl rfl rfl (hR.1 _ _ _ rfl) rfl ?_ | refine m_getR (pc' := 14) xD_121 rfl rfl (by first | rfl | assumption) rfl (by assumption) rfl ?_
    refine y_loc (pc' := 15) xD_121 rfl rfl rfl rfl ?_
    refine y_ci (pc' := 17) (10) xD_121 rfl rfl rfl rfl ?_
    refine y_op (pc' := 18) xD_121 rfl rfl (show (if (10 : Int32) = 0 then none else some (Value.int (xq / 10) :: _)) = some _ from if_neg (by decide)) rfl ?_
    rw [hd]
    refine m_iald (pc' := 19) (q / 10) xD_121 rfl (by first | rfl | assumption) (by first | assumption | omega) (by first | decide | assumption) (by first | decide | omega) (by first | rfl | assumption) rfl ?_
    rw [l1]
    refine y_icge (pt := 42) (pf := 22) xD_121 rfl rfl rfl (fun h19 => ?_) (fun h19 => ?_)
    · skip
      first
      | exact absurd h3 (by rw [e1]; exact nI_ge (b := 20) hq (by decide))
      | (refine y_ci (pc' := 43) (0) xD_121 rfl rfl rfl rfl ?_
         refine y_retZ xD_121 rfl rfl (by decide) ?_
         refine rI_f ?_
         rw [isS_iff]
         first | exact fun q => h35 q.2 | exact fun q => absurd q.1 (Nat.not_lt.mpr ((nI_leI (by omega) (by omega)).mp h19)))
    · skip
      refine y_loc (pc' := 23) xD_121 rfl rfl rfl rfl ?_
      refine y_loc (pc' := 24) xD_121 rfl rfl rfl rfl ?_
      refine y_ci (pc' := 26) (10) xD_121 rfl rfl rfl rfl ?_
      refine y_op (pc' := 27) xD_121 rfl rfl (show (if (10 : Int32) = 0 then none else some (Value.int (xq / 10) :: _)) = some _ from if_neg (by decide)) rfl ?_
      refine y_loc (pc' := 28) xD_121 rfl rfl rfl rfl ?_
      refine y_ci (pc' := 30) (10) xD_121 rfl rfl rfl rfl ?_
      refine y_op (pc' := 31) xD_121 rfl rfl (show (if (10 : Int32) = 0 then none else some (Value.int (xq - xq / 10 * 10) :: _)) = some _ from if_neg (by decide)) rfl ?_
      refine y_ci (pc' := 32) (0) xD_121 rfl rfl rfl rfl ?_
      refine y_callV xD_121 rfl rfl rfl rfl (by first | rfl | assumption) rfl rfl rfl rfl (s_code hR hm (q % 10) 0 hp (by decide) hd hr rfl) (fun v h' hq => ?_)
      obtain ⟨rfl, rfl⟩ := hq
      refine y_ifne (pt := 42) (pf := 38) xD_121 rfl rfl rfl (fun h35 => ?_) (fun h35 => ?_)
      · skip
        first
        | exact absurd h3 (by rw [e1]; exact nI_ge (b := 20) hq (by decide))
        | (refine y_ci (pc' := 43) (0) xD_121 rfl rfl rfl rfl ?_
           refine y_retZ xD_121 rfl rfl (by decide) ?_
           refine rI_f ?_
           rw [isS_iff]
           first | exact fun q => h35 q.2 | exact fun q => absurd q.1 (Nat.not_lt.mpr ((nI_leI (by omega) (by omega)).mp h19)))
      · skip
        refine y_ci (pc' := 39) (1) xD_121 rfl rfl rfl rfl ?_
        refine y_goto (pc' := 43) xD_121 rfl rfl ?_
        refine y_retZ xD_121 rfl rfl (by first | decide | assumption) ?_
        exact rI_t (isS_iff.mpr ⟨Nat.lt_of_not_le (fun q => h19 ((nI_leI (by omega) (by omega)).mpr q)), h35⟩)
theorem s_mdrawNumber (hR : RF R) (hL : PL I) (cc : Nat) (hcc : cc = scnt I 20) (con : Nat → Int32) (hcon : ∀ q, q < 20 → isS I q → con (scnt I q) = cdM I (q / 10) (q % 10) 3) : XP S (d + 2) 120 0 (xent [.ref 261] 5) [] (hh I J R) (rI (dnum (J 261 14) cc con) (hh I (xu J 261 14 (dn (dn (J 261 14)))) R)) := by
  have hc20 : cc ≤ 20 := by rw [hcc]; exact scnt_le 20
  have hk4 := dv_lt (dn (J 261 14)) (n := 4) (by decide)
  have find : ∀ (J' : Nat → Nat → Int64) (w0 : Nat) (hw : w0 < cc) (f q w : Nat), q + f = 20 → w + scnt I q = w0 → XP S (d + 2) 120 65 [some (.ref 261), some (.int (nI (dv (dn (J 261 14)) 4))), some (.int (nI cc)), some (.int (nI w)), some (.int (nI q))] [] (hh I J' R) (rI (con w0 + nI (dv (dn (J 261 14)) 4) - 2) (hh I J' R)) := by
    intro J' w0 hw f
    induction f with
    | zero =>
      intro q w hq he
      exfalso
      rw [show q = 20 by omega] at he
      omega
    | succ f ih =>
      intro q w hq he
      have hq20 : q < 20 := by omega
      have e5 : nI q + 1 = nI (q + 1) := nI_1 q
      have hd : nI q / 10 = nI (q / 10) := pk_div (d := 10) (by omega) (by decide) (by decide)
      have hr : nI q - nI q / 10 * 10 = nI (q % 10) := pk_rem (d := 10) (by omega) (by decide) (by decide)
      refine y_loc (pc' := 66) xD_120 rfl rfl rfl rfl ?_
      refine y_ifgt (pt := 78) (pf := 69) xD_120 rfl rfl rfl (fun h66 => ?_) (fun h66 => ?_)
      · skip
        refine y_loc (pc' := 79) xD_120 rfl rfl rfl rfl ?_
        refine y_loc (pc' := 81) xD_120 rfl rfl rfl rfl ?_
        refine y_callV xD_120 rfl rfl rfl rfl (by first | rfl | assumption) rfl rfl rfl rfl (s_setLine (d := d) hR hL q hq20 rfl) (fun v h' hq => ?_)
        obtain ⟨rfl, rfl⟩ := hq
        refine y_ifeq (pt := 93) (pf := 87) xD_120 rfl rfl rfl (fun h84 => ?_) (fun h84 => ?_)
        · skip
          refine y_loc (pc' := 94) xD_120 rfl rfl rfl rfl ?_
          refine y_loc (pc' := 95) xD_120 rfl rfl rfl rfl ?_
          refine y_inc (pc' := 98) (nI (q + 1)) xD_120 rfl rfl rfl e5 rfl rfl ?_
          refine y_goto (pc' := 65) xD_120 rfl rfl ?_
          first
            | exact ih (q + 1) w (by omega) (by rw [scnt_n (zB_0.mp h84)]; exact he)
            | (have hw1 : 0 < w := (nI_ltI (a := 0) (by decide) (by omega)).mp h66
               have e7 : nI w - 1 = nI (w - 1) := pk_sub (b := 1) hw1
               have := ih (q + 1) (w - 1) (by omega) (by rw [scnt_y (zB_n0.mp h84)]; omega)
               rw [← e7] at this
               exact this)
            | exact absurd h75 (fun r => h84 (Classical.byContradiction fun _ => r (zB_0.mpr (zB_0.mp (by assumption)))))
            | exact absurd h75 h84
          skip
        · skip
          refine y_loc (pc' := 88) xD_120 rfl rfl rfl rfl ?_
          refine y_ci (pc' := 89) (1) xD_120 rfl rfl rfl rfl ?_
          refine y_op (pc' := 90) xD_120 rfl rfl rfl rfl ?_
          refine y_goto (pc' := 94) xD_120 rfl rfl ?_
          refine y_loc (pc' := 95) xD_120 rfl rfl rfl rfl ?_
          refine y_inc (pc' := 98) (nI (q + 1)) xD_120 rfl rfl rfl e5 rfl rfl ?_
          refine y_goto (pc' := 65) xD_120 rfl rfl ?_
          first
            | exact ih (q + 1) w (by omega) (by rw [scnt_n (zB_0.mp h84)]; exact he)
            | (have hw1 : 0 < w := (nI_ltI (a := 0) (by decide) (by omega)).mp h66
               have e7 : nI w - 1 = nI (w - 1) := pk_sub (b := 1) hw1
               have := ih (q + 1) (w - 1) (by omega) (by rw [scnt_y (zB_n0.mp h84)]; omega)
               rw [← e7] at this
               exact this)
            | exact absurd h75 (fun r => h84 (Classical.byContradiction fun _ => r (zB_0.mpr (zB_0.mp (by assumption)))))
            | exact absurd h75 h84
          skip
      · skip
        refine y_loc (pc' := 70) xD_120 rfl rfl rfl rfl ?_
        refine y_loc (pc' := 72) xD_120 rfl rfl rfl rfl ?_
        refine y_callV xD_120 rfl rfl rfl rfl (by first | rfl | assumption) rfl rfl rfl rfl (s_setLine (d := d) hR hL q hq20 rfl) (fun v h' hq => ?_)
        obtain ⟨rfl, rfl⟩ := hq
        refine y_ifne (pt := 101) (pf := 78) xD_120 rfl rfl rfl (fun h75 => ?_) (fun h75 => ?_)
        · skip
          refine y_loc (pc' := 102) xD_120 rfl rfl rfl rfl ?_
          refine y_loc (pc' := 104) xD_120 rfl rfl rfl rfl ?_
          refine y_ci (pc' := 106) (10) xD_120 rfl rfl rfl rfl ?_
          refine y_op (pc' := 107) xD_120 rfl rfl (show (if (10 : Int32) = 0 then none else some (Value.int (nI q / 10) :: _)) = some _ from if_neg (by decide)) rfl ?_
          refine y_loc (pc' := 109) xD_120 rfl rfl rfl rfl ?_
          refine y_ci (pc' := 111) (10) xD_120 rfl rfl rfl rfl ?_
          refine y_op (pc' := 112) xD_120 rfl rfl (show (if (10 : Int32) = 0 then none else some (Value.int (nI q - nI q / 10 * 10) :: _)) = some _ from if_neg (by decide)) rfl ?_
          refine y_ci (pc' := 113) (3) xD_120 rfl rfl rfl rfl ?_
          refine y_callV xD_120 rfl rfl rfl rfl (by first | rfl | assumption) rfl rfl rfl rfl (s_code hR (show q / 10 < 2 by omega) (q % 10) 3 (by omega) (by decide) hd hr rfl) (fun v h' hq => ?_)
          obtain ⟨rfl, rfl⟩ := hq
          refine y_loc (pc' := 117) xD_120 rfl rfl rfl rfl ?_
          refine y_op (pc' := 118) xD_120 rfl rfl rfl rfl ?_
          refine y_ci (pc' := 119) (2) xD_120 rfl rfl rfl rfl ?_
          refine y_op (pc' := 120) xD_120 rfl rfl rfl rfl ?_
          refine y_retI xD_120 rfl rfl ?_
          refine rI_e ?_
          have hw0 : w = 0 := Nat.eq_zero_of_not_pos (fun r => h66 ((nI_ltI (a := 0) (by decide) (by omega)).mpr r))
          rw [show w0 = scnt I q by omega, hcon q hq20 (zB_n0.mp h75)]
        · skip
          refine y_loc (pc' := 79) xD_120 rfl rfl rfl rfl ?_
          refine y_loc (pc' := 81) xD_120 rfl rfl rfl rfl ?_
          refine y_callV xD_120 rfl rfl rfl rfl (by first | rfl | assumption) rfl rfl rfl rfl (s_setLine (d := d) hR hL q hq20 rfl) (fun v h' hq => ?_)
          obtain ⟨rfl, rfl⟩ := hq
          refine y_ifeq (pt := 93) (pf := 87) xD_120 rfl rfl rfl (fun h84 => ?_) (fun h84 => ?_)
          · skip
            refine y_loc (pc' := 94) xD_120 rfl rfl rfl rfl ?_
            refine y_loc (pc' := 95) xD_120 rfl rfl rfl rfl ?_
            refine y_inc (pc' := 98) (nI (q + 1)) xD_120 rfl rfl rfl e5 rfl rfl ?_
            refine y_goto (pc' := 65) xD_120 rfl rfl ?_
            first
              | exact ih (q + 1) w (by omega) (by rw [scnt_n (zB_0.mp h84)]; exact he)
              | (have hw1 : 0 < w := (nI_ltI (a := 0) (by decide) (by omega)).mp h66
                 have e7 : nI w - 1 = nI (w - 1) := pk_sub (b := 1) hw1
                 have := ih (q + 1) (w - 1) (by omega) (by rw [scnt_y (zB_n0.mp h84)]; omega)
                 rw [← e7] at this
                 exact this)
              | exact absurd h75 (fun r => h84 (Classical.byContradiction fun _ => r (zB_0.mpr (zB_0.mp (by assumption)))))
              | exact absurd h75 h84
            skip
          · skip
            refine y_loc (pc' := 88) xD_120 rfl rfl rfl rfl ?_
            refine y_ci (pc' := 89) (1) xD_120 rfl rfl rfl rfl ?_
            refine y_op (pc' := 90) xD_120 rfl rfl rfl rfl ?_
            refine y_goto (pc' := 94) xD_120 rfl rfl ?_
            refine y_loc (pc' := 95) xD_120 rfl rfl rfl rfl ?_
            refine y_inc (pc' := 98) (nI (q + 1)) xD_120 rfl rfl rfl e5 rfl rfl ?_
            refine y_goto (pc' := 65) xD_120 rfl rfl ?_
            first
              | exact ih (q + 1) w (by omega) (by rw [scnt_n (zB_0.mp h84)]; exact he)
              | (have hw1 : 0 < w := (nI_ltI (a := 0) (by decide) (by omega)).mp h66
                 have e7 : nI w - 1 = nI (w - 1) := pk_sub (b := 1) hw1
                 have := ih (q + 1) (w - 1) (by omega) (by rw [scnt_y (zB_n0.mp h84)]; omega)
                 rw [← e7] at this
                 exact this)
              | exact absurd h75 (fun r => h84 (Classical.byContradiction fun _ => r (zB_0.mpr (zB_0.mp (by assumption)))))
              | exact absurd h75 h84
            skip
  have cnt : ∀ (J' : Nat → Nat → Int64) (Q : Option Value → XH → Prop), XP S (d + 2) 120 38 [some (.ref 261), some (.int (nI (dv (dn (J 261 14)) 4))), some (.int (nI cc)), some (.int (nI 20)), none] [] (hh I J' R) Q → ∀ (f k : Nat), k + f = 20 → XP S (d + 2) 120 10 [some (.ref 261), some (.int (nI (dv (dn (J 261 14)) 4))), some (.int (nI (scnt I k))), some (.int (nI k)), none] [] (hh I J' R) Q := by
    intro J' Q K f
    induction f with
    | zero =>
      intro k hk
      rw [show k = 20 by omega, ← hcc]
      refine y_loc (pc' := 11) xD_120 rfl rfl rfl rfl ?_
      refine y_ci (pc' := 13) (20) xD_120 rfl rfl rfl rfl ?_
      refine y_icge (pt := 38) (pf := 16) xD_120 rfl rfl rfl (fun h13 => ?_) (fun h13 => ?_)
      · skip
        exact K
      · exact absurd (Int32.le_refl _) h13
    | succ f ih =>
      intro k hk
      have e5 : nI k + 1 = nI (k + 1) := nI_1 k
      have e6 : nI (scnt I k) + 1 = nI (scnt I k + 1) := nI_1 _
      have step := ih (k + 1) (by omega)
      refine y_loc (pc' := 11) xD_120 rfl rfl rfl rfl ?_
      refine y_ci (pc' := 13) (20) xD_120 rfl rfl rfl rfl ?_
      refine y_icge (pt := 38) (pf := 16) xD_120 rfl rfl rfl (fun h13 => ?_) (fun h13 => ?_)
      · skip
        exact absurd h13 (nI_ge (b := 20) (by omega) (by decide))
      · skip
        refine y_loc (pc' := 17) xD_120 rfl rfl rfl rfl ?_
        refine y_loc (pc' := 18) xD_120 rfl rfl rfl rfl ?_
        refine y_callV xD_120 rfl rfl rfl rfl (by first | rfl | assumption) rfl rfl rfl rfl (s_setLine (d := d) hR hL k (by omega) rfl) (fun v h' hq => ?_)
        obtain ⟨rfl, rfl⟩ := hq
        refine y_ifeq (pt := 30) (pf := 24) xD_120 rfl rfl rfl (fun h21 => ?_) (fun h21 => ?_)
        · skip
          refine y_loc (pc' := 31) xD_120 rfl rfl rfl rfl ?_
          refine y_loc (pc' := 32) xD_120 rfl rfl rfl rfl ?_
          refine y_inc (pc' := 35) (nI (k + 1)) xD_120 rfl rfl rfl e5 rfl rfl ?_
          refine y_goto (pc' := 10) xD_120 rfl rfl ?_
          first
            | (rw [scnt_n (zB_0.mp h21)] at step; exact step)
            | (rw [scnt_y (zB_n0.mp h21), ← e6] at step; exact step)
          skip
        · skip
          refine y_loc (pc' := 25) xD_120 rfl rfl rfl rfl ?_
          refine y_ci (pc' := 26) (1) xD_120 rfl rfl rfl rfl ?_
          refine y_op (pc' := 27) xD_120 rfl rfl rfl rfl ?_
          refine y_goto (pc' := 31) xD_120 rfl rfl ?_
          refine y_loc (pc' := 32) xD_120 rfl rfl rfl rfl ?_
          refine y_inc (pc' := 35) (nI (k + 1)) xD_120 rfl rfl rfl e5 rfl rfl ?_
          refine y_goto (pc' := 10) xD_120 rfl rfl ?_
          first
            | (rw [scnt_n (zB_0.mp h21)] at step; exact step)
            | (rw [scnt_y (zB_n0.mp h21), ← e6] at step; exact step)
          skip
  refine y_loc (pc' := 1) xD_120 rfl rfl rfl rfl ?_
  refine y_ci (pc' := 2) (4) xD_120 rfl rfl rfl rfl ?_
  refine y_callV xD_120 rfl rfl rfl rfl (by first | rfl | assumption) rfl rfl rfl rfl (s_mdraw 4 (by decide) (by decide) rfl) (fun v h' hq => ?_)
  obtain ⟨rfl, rfl⟩ := hq
  refine y_loc (pc' := 6) xD_120 rfl rfl rfl rfl ?_
  refine y_ci (pc' := 7) (0) xD_120 rfl rfl rfl rfl ?_
  refine y_loc (pc' := 8) xD_120 rfl rfl rfl rfl ?_
  refine y_ci (pc' := 9) (0) xD_120 rfl rfl rfl rfl ?_
  refine y_loc (pc' := 10) xD_120 rfl rfl rfl rfl ?_
  refine cnt _ _ ?_ 20 0 (by omega)
  refine y_loc (pc' := 39) xD_120 rfl rfl rfl rfl ?_
  refine y_ifeq (pt := 46) (pf := 42) xD_120 rfl rfl rfl (fun h39 => ?_) (fun h39 => ?_)
  · skip
    refine y_loc (pc' := 47) xD_120 rfl rfl rfl rfl ?_
    refine y_ci (pc' := 49) (21) xD_120 rfl rfl rfl rfl ?_
    refine y_callV xD_120 rfl rfl rfl rfl (by first | rfl | assumption) rfl rfl rfl rfl (s_mdraw 21 (by decide) (by decide) rfl) (fun v h' hq => ?_)
    obtain ⟨rfl, rfl⟩ := hq
    rw [xu_ii, xu_xu]
    refine y_ci (pc' := 54) (10) xD_120 rfl rfl rfl rfl ?_
    refine y_op (pc' := 55) xD_120 rfl rfl rfl rfl ?_
    refine y_retI xD_120 rfl rfl ?_
    refine rI_e ?_
    show nI (dv (dn (dn (J 261 14))) 21) - 10 = _
    unfold dnum
    first | rw [if_pos (Or.inl ((nI_z (by omega)).mp h39))] | rw [if_pos (Or.inr ((nI_z (by omega)).mp h43))]
  · skip
    refine y_loc (pc' := 43) xD_120 rfl rfl rfl rfl ?_
    refine y_ifne (pt := 56) (pf := 46) xD_120 rfl rfl rfl (fun h43 => ?_) (fun h43 => ?_)
    · skip
      refine y_loc (pc' := 57) xD_120 rfl rfl rfl rfl ?_
      refine y_loc (pc' := 58) xD_120 rfl rfl rfl rfl ?_
      have hc : 0 < cc := Nat.pos_of_ne_zero (fun q => h43 (by rw [q]; rfl))
      refine y_callV xD_120 rfl rfl rfl rfl (by first | rfl | assumption) rfl rfl rfl rfl (s_mdraw cc hc (by omega) rfl) (fun v h' hq => ?_)
      obtain ⟨rfl, rfl⟩ := hq
      rw [xu_ii, xu_xu]
      refine y_loc (pc' := 62) xD_120 rfl rfl rfl rfl ?_
      refine y_ci (pc' := 63) (0) xD_120 rfl rfl rfl rfl ?_
      refine y_loc (pc' := 65) xD_120 rfl rfl rfl rfl ?_
      have hx : dnum (J 261 14) cc con = con (dv (dn (dn (J 261 14))) cc) + nI (dv (dn (J 261 14)) 4) - 2 := by unfold dnum; rw [if_neg (fun q => q.elim (fun e => h39 ((nI_z (by omega)).mpr e)) (fun e => h43 ((nI_z (by omega)).mpr e)))]
      rw [hx]
      exact find _ (dv (dn (dn (J 261 14))) cc) (dv_lt _ hc) 20 0 _ (by omega) (by show _ + 0 = _; omega)
    · skip
      refine y_loc (pc' := 47) xD_120 rfl rfl rfl rfl ?_
      refine y_ci (pc' := 49) (21) xD_120 rfl rfl rfl rfl ?_
      refine y_callV xD_120 rfl rfl rfl rfl (by first | rfl | assumption) rfl rfl rfl rfl (s_mdraw 21 (by decide) (by decide) rfl) (fun v h' hq => ?_)
      obtain ⟨rfl, rfl⟩ := hq
      rw [xu_ii, xu_xu]
      refine y_ci (pc' := 54) (10) xD_120 rfl rfl rfl rfl ?_
      refine y_op (pc' := 55) xD_120 rfl rfl rfl rfl ?_
      refine y_retI xD_120 rfl rfl ?_
      refine rI_e ?_
      show nI (dv (dn (dn (J 261 14))) 21) - 10 = _
      unfold dnum
      first | rw [if_pos (Or.inl ((nI_z (by omega)).mp h39))] | rw [if_pos (Or.inr ((nI_z (by omega)).mp h43))]
end MD
end
section
/-! Steps and cases drawn. -/
theorem w2_w4 {f : Nat → Int32} {b : Nat} {k x y r y' r' : Int32} : w2 (w4 f b k x y r) b y' r' = w4 f b k x y' r' := by
  funext j
  unfold w2 w4
  by_cases h3 : j = b + 3
  · subst h3; rw [pk_us, pk_us]
  · rw [pk_un h3, pk_un h3]
    by_cases h2 : j = b + 2
    · subst h2; rw [pk_us, pk_us]
    · rw [pk_un h2, pk_un h2, pk_un h3, pk_un h2]
section MS
variable {S : XS} {d a s : Nat} {I : Nat → Nat → Int32} {J : Nat → Nat → Int64} {R : Nat → Nat → Option Nat}
theorem s_mdrawStep (hR : RF R) (hs : s < 67) (hL : PL I) (cc : Nat) (hcc : cc = scnt I 20) (con : Nat → Int32) (hcon : ∀ q, q < 20 → isS I q → con (scnt I q) = cdM I (q / 10) (q % 10) 3) (i : Nat) (hi : i < 6) {xs xi : Int32} (e0 : xs = nI s) (e1 : xi = nI i) : XP S (d + 3) 119 0 (xent [.ref 261, .int xs, .int xi] 7) [] (hh I J R) (rV (hh (xrow I 262 (w4 (I 262) (24 * s + 4 * i) (dK (J 261 14)) (dX cc con (J 261 14)) (dY cc con i (J 261 14)) (dF i (J 261 14)))) (xu J 261 14 (dS i (J 261 14))) R)) := by
  have h5 := dv_lt (dn (J 261 14)) (n := 5) (by decide)
  have h2 := dv_lt (dn (dn (dn (dn (J 261 14))))) (n := i + 2) (by omega)
  have e44 : ∀ t : Nat, (4 : Int32) + nI t = nI (4 + t) := fun t => by show nI 4 + nI t = _; rw [nI_add]
  have ek : nI (dv (dn (J 261 14)) 5) / 2 = nI (dv (dn (J 261 14)) 5 / 2) := pk_div (d := 2) (by omega) (by decide) (by decide)
  have hlt : ¬ xi ≤ nI (dv (dn (dn (dn (dn (J 261 14))))) (i + 2)) → dv (dn (dn (dn (dn (J 261 14))))) (i + 2) < i := fun h => Nat.lt_of_not_le (fun q => h (by rw [e1]; exact (nI_leI (by omega) (by omega)).mpr q))
  have hge : xi ≤ nI (dv (dn (dn (dn (dn (J 261 14))))) (i + 2)) → ¬ dv (dn (dn (dn (dn (J 261 14))))) (i + 2) < i := fun h => Nat.not_lt.mpr ((nI_leI (by omega) (by omega)).mp (by rw [← e1]; exact h))
  refine y_loc (pc' := 1) xD_119 rfl rfl rfl rfl ?_
  refine y_ci (pc' := 2) (5) xD_119 rfl rfl rfl rfl ?_
  refine y_callV xD_119 rfl rfl rfl rfl (by first | rfl | assumption) rfl rfl rfl rfl (s_mdraw 5 (by decide) (by decide) rfl) (fun v h' hq => ?_)
  obtain ⟨rfl, rfl⟩ := hq
  refine y_loc (pc' := 6) xD_119 rfl rfl rfl rfl ?_
  refine y_loc (pc' := 7) xD_119 rfl rfl rfl rfl ?_
  refine y_ci (pc' := 8) (4) xD_119 rfl rfl rfl rfl ?_
  refine y_icne (pt := 37) (pf := 11) xD_119 rfl rfl rfl (fun h8 => ?_) (fun h8 => ?_)
  · skip
    refine y_loc (pc' := 38) xD_119 rfl rfl rfl rfl ?_
    have hq : ¬ dv (dn (J 261 14)) 5 = 4 := fun q => h8 (by rw [q]; rfl)
    refine y_callV xD_119 rfl rfl rfl rfl (by first | rfl | assumption) rfl rfl rfl rfl (s_mdrawNumber (d := d) hR hL cc hcc con hcon) (fun v h' hq => ?_)
    obtain ⟨rfl, rfl⟩ := hq
    rw [xu_ii, xu_xu]
    refine y_loc (pc' := 43) xD_119 rfl rfl rfl rfl ?_
    refine y_loc (pc' := 44) xD_119 rfl rfl rfl rfl ?_
    refine y_loc (pc' := 45) xD_119 rfl rfl rfl rfl ?_
    refine y_ci (pc' := 46) (2) xD_119 rfl rfl rfl rfl ?_
    refine y_op (pc' := 47) xD_119 rfl rfl rfl rfl ?_
    refine y_callV xD_119 rfl rfl rfl rfl (by first | rfl | assumption) rfl rfl rfl rfl (s_mdraw (i + 2) (by omega) (by omega) (by rw [e1]; exact nI_add i 2)) (fun v h' hq => ?_)
    obtain ⟨rfl, rfl⟩ := hq
    rw [xu_ii, xu_xu]
    refine y_loc (pc' := 52) xD_119 rfl rfl rfl rfl ?_
    refine y_loc (pc' := 54) xD_119 rfl rfl rfl rfl ?_
    refine y_loc (pc' := 55) xD_119 rfl rfl rfl rfl ?_
    refine y_icge (pt := 62) (pf := 58) xD_119 rfl rfl rfl (fun h55 => ?_) (fun h55 => ?_)
    · skip
      refine y_loc (pc' := 63) xD_119 rfl rfl rfl rfl ?_
      refine y_callV xD_119 rfl rfl rfl rfl (by first | rfl | assumption) rfl rfl rfl rfl (s_mdrawNumber (d := d) hR hL cc hcc con hcon) (fun v h' hq => ?_)
      obtain ⟨rfl, rfl⟩ := hq
      rw [xu_ii, xu_xu]
      refine y_loc (pc' := 68) xD_119 rfl rfl rfl rfl ?_
      refine y_loc (pc' := 69) xD_119 rfl rfl rfl rfl ?_
      refine y_loc (pc' := 70) xD_119 rfl rfl rfl rfl ?_
      refine y_loc (pc' := 71) xD_119 rfl rfl rfl rfl ?_
      refine y_loc (pc' := 72) xD_119 rfl rfl rfl rfl ?_
      refine y_ci (pc' := 73) (2) xD_119 rfl rfl rfl rfl ?_
      refine y_op (pc' := 74) xD_119 rfl rfl (show (if (2 : Int32) = 0 then none else some _) = some _ from if_neg (by decide)) rfl ?_
      refine y_loc (pc' := 76) xD_119 rfl rfl rfl rfl ?_
      refine y_callV xD_119 rfl rfl rfl rfl (by first | rfl | assumption) rfl rfl rfl rfl (s_mwrite hR hs i hi e0 e1) (fun v h' hq => ?_)
      obtain ⟨rfl, rfl⟩ := hq
      refine y_loc (pc' := 80) xD_119 rfl rfl rfl rfl ?_
      refine y_loc (pc' := 81) xD_119 rfl rfl rfl rfl ?_
      refine y_loc (pc' := 82) xD_119 rfl rfl rfl rfl ?_
      refine y_loc (pc' := 84) xD_119 rfl rfl rfl rfl ?_
      refine y_loc (pc' := 86) xD_119 rfl rfl rfl rfl ?_
      refine y_loc (pc' := 87) xD_119 rfl rfl rfl rfl ?_
      refine y_icge (pt := 95) (pf := 90) xD_119 rfl rfl rfl (fun h87 => ?_) (fun h87 => ?_)
      · skip
        first
        | exact absurd h87 h55
        | (refine y_ci (pc' := 96) (-1) xD_119 rfl rfl rfl rfl ?_
           refine y_callV xD_119 rfl rfl rfl rfl rfl rfl rfl rfl rfl (s_msecond hR hs i hi e0 e1) (fun v h' hq' => ?_)
           obtain ⟨rfl, rfl⟩ := hq'
           refine y_retV xD_119 rfl rfl ?_
           refine ⟨rfl, ?_⟩
           rw [xrow_row, xrow_at, w2_w4]
           unfold dK dX dY dF dS
           simp only [if_neg hq, if_neg (hge h55), if_pos (show (-1 : Int32) < 0 by decide)]
           rw [← ek])
      · skip
        refine y_loc (pc' := 92) xD_119 rfl rfl rfl rfl ?_
        refine y_goto (pc' := 96) xD_119 rfl rfl ?_
        refine y_callV xD_119 rfl rfl rfl rfl (by first | rfl | assumption) rfl rfl rfl rfl (s_msecond hR hs i hi e0 e1) (fun v h' hq => ?_)
        obtain ⟨rfl, rfl⟩ := hq
        refine y_retV xD_119 rfl rfl ?_
        first
          | exact absurd h55 h87
          | exact absurd h87 h55
          | (refine ⟨rfl, ?_⟩
             rw [xrow_row, xrow_at, w2_w4]
             unfold dK dX dY dF dS
             simp only [if_neg hq, if_pos (hlt h55), ite_self]
             rw [← ek])
    · skip
      refine y_ci (pc' := 59) (0) xD_119 rfl rfl rfl rfl ?_
      refine y_goto (pc' := 66) xD_119 rfl rfl ?_
      refine y_loc (pc' := 68) xD_119 rfl rfl rfl rfl ?_
      refine y_loc (pc' := 69) xD_119 rfl rfl rfl rfl ?_
      refine y_loc (pc' := 70) xD_119 rfl rfl rfl rfl ?_
      refine y_loc (pc' := 71) xD_119 rfl rfl rfl rfl ?_
      refine y_loc (pc' := 72) xD_119 rfl rfl rfl rfl ?_
      refine y_ci (pc' := 73) (2) xD_119 rfl rfl rfl rfl ?_
      refine y_op (pc' := 74) xD_119 rfl rfl (show (if (2 : Int32) = 0 then none else some _) = some _ from if_neg (by decide)) rfl ?_
      refine y_loc (pc' := 76) xD_119 rfl rfl rfl rfl ?_
      refine y_callV xD_119 rfl rfl rfl rfl (by first | rfl | assumption) rfl rfl rfl rfl (s_mwrite hR hs i hi e0 e1) (fun v h' hq => ?_)
      obtain ⟨rfl, rfl⟩ := hq
      refine y_loc (pc' := 80) xD_119 rfl rfl rfl rfl ?_
      refine y_loc (pc' := 81) xD_119 rfl rfl rfl rfl ?_
      refine y_loc (pc' := 82) xD_119 rfl rfl rfl rfl ?_
      refine y_loc (pc' := 84) xD_119 rfl rfl rfl rfl ?_
      refine y_loc (pc' := 86) xD_119 rfl rfl rfl rfl ?_
      refine y_loc (pc' := 87) xD_119 rfl rfl rfl rfl ?_
      refine y_icge (pt := 95) (pf := 90) xD_119 rfl rfl rfl (fun h87 => ?_) (fun h87 => ?_)
      · skip
        first
        | exact absurd h87 h55
        | (refine y_ci (pc' := 96) (-1) xD_119 rfl rfl rfl rfl ?_
           refine y_callV xD_119 rfl rfl rfl rfl rfl rfl rfl rfl rfl (s_msecond hR hs i hi e0 e1) (fun v h' hq' => ?_)
           obtain ⟨rfl, rfl⟩ := hq'
           refine y_retV xD_119 rfl rfl ?_
           refine ⟨rfl, ?_⟩
           rw [xrow_row, xrow_at, w2_w4]
           unfold dK dX dY dF dS
           simp only [if_neg hq, if_neg (hge h55), if_pos (show (-1 : Int32) < 0 by decide)]
           rw [← ek])
      · skip
        refine y_loc (pc' := 92) xD_119 rfl rfl rfl rfl ?_
        refine y_goto (pc' := 96) xD_119 rfl rfl ?_
        refine y_callV xD_119 rfl rfl rfl rfl (by first | rfl | assumption) rfl rfl rfl rfl (s_msecond hR hs i hi e0 e1) (fun v h' hq => ?_)
        obtain ⟨rfl, rfl⟩ := hq
        refine y_retV xD_119 rfl rfl ?_
        first
          | exact absurd h55 h87
          | exact absurd h87 h55
          | (refine ⟨rfl, ?_⟩
             rw [xrow_row, xrow_at, w2_w4]
             unfold dK dX dY dF dS
             simp only [if_neg hq, if_pos (hlt h55), ite_self]
             rw [← ek])
  · skip
    refine y_ci (pc' := 12) (4) xD_119 rfl rfl rfl rfl ?_
    refine y_loc (pc' := 13) xD_119 rfl rfl rfl rfl ?_
    refine y_ci (pc' := 14) (4) xD_119 rfl rfl rfl rfl ?_
    have hq : dv (dn (J 261 14)) 5 = 4 := (nI_eq (b := 4) (by omega) (by decide)).mp h8
    refine y_callV xD_119 rfl rfl rfl rfl (by first | rfl | assumption) rfl rfl rfl rfl (s_mdraw 4 (by decide) (by decide) rfl) (fun v h' hq => ?_)
    obtain ⟨rfl, rfl⟩ := hq
    rw [xu_ii, xu_xu]
    refine y_op (pc' := 18) xD_119 rfl rfl rfl rfl ?_
    refine y_loc (pc' := 20) xD_119 rfl rfl rfl rfl ?_
    refine y_loc (pc' := 21) xD_119 rfl rfl rfl rfl ?_
    refine y_callV xD_119 rfl rfl rfl rfl (by first | rfl | assumption) rfl rfl rfl rfl (s_mdrawNumber (d := d) hR hL cc hcc con hcon) (fun v h' hq => ?_)
    obtain ⟨rfl, rfl⟩ := hq
    rw [xu_ii, xu_xu]
    refine y_loc (pc' := 26) xD_119 rfl rfl rfl rfl ?_
    refine y_loc (pc' := 27) xD_119 rfl rfl rfl rfl ?_
    refine y_loc (pc' := 28) xD_119 rfl rfl rfl rfl ?_
    refine y_loc (pc' := 29) xD_119 rfl rfl rfl rfl ?_
    refine y_loc (pc' := 31) xD_119 rfl rfl rfl rfl ?_
    refine y_loc (pc' := 33) xD_119 rfl rfl rfl rfl ?_
    refine y_callV xD_119 rfl rfl rfl rfl (by first | rfl | assumption) rfl rfl rfl rfl (s_mwrite hR hs i hi e0 e1) (fun v h' hq => ?_)
    obtain ⟨rfl, rfl⟩ := hq
    refine y_retV xD_119 rfl rfl ?_
    refine ⟨rfl, ?_⟩
    unfold dK dX dY dF dS
    simp only [if_pos hq]
    rw [← e44]
end MS
end
section
/-! Copies of cases. -/
theorem cpy_lt {α : Type} {f g : Nat → α} {n i : Nat} (h : i < n) : va_cpy f g 0 0 n i = f i := by
  rw [pk_cpy_in (Nat.zero_le _) (by omega)]
  congr 1
  omega
theorem case_1 {a o : Nat} (h : isCase a) (h' : isCase o) : o ≠ a + 1 ∧ o ≠ a + 2 ∧ o ≠ a + 3 := by
  unfold isCase at h h'
  omega
/-- slot s holds g -/
def sl1 (f : Nat → Int32) (s : Nat) (g : Nat → Int32) : Nat → Int32 := fun i => if i / 24 = s then g (i % 24) else f i
theorem sl1_at {f : Nat → Int32} {s : Nat} {g : Nat → Int32} {q : Nat} (hq : q < 24) : sl1 f s g (24 * s + q) = g q := by
  unfold sl1
  rw [if_pos (by omega)]
  congr 1
  omega
theorem sl1_ne {f : Nat → Int32} {s t : Nat} {g : Nat → Int32} {q : Nat} (hq : q < 24) (h : t ≠ s) : sl1 f s g (24 * t + q) = f (24 * t + q) := by
  unfold sl1
  rw [if_neg (by omega)]
theorem sl1_sl1 {f : Nat → Int32} {s : Nat} {g k : Nat → Int32} : sl1 (sl1 f s g) s k = sl1 f s k := by
  funext i
  unfold sl1
  by_cases h : i / 24 = s
  · rw [if_pos h, if_pos h]
  · rw [if_neg h, if_neg h, if_neg h]
theorem sl1_upd {f : Nat → Int32} {s q : Nat} {x : Int32} (hq : q < 24) : upd f (24 * s + q) x = sl1 f s (upd (fun j => f (24 * s + j)) q x) := by
  funext i
  unfold sl1
  by_cases h : i = 24 * s + q
  · subst h
    rw [pk_us, if_pos (by omega), show (24 * s + q) % 24 = q by omega, pk_us]
  · rw [pk_un h]
    by_cases h2 : i / 24 = s
    · rw [if_pos h2, pk_un (by omega)]
      congr 1
      omega
    · rw [if_neg h2]
theorem sl1_ext {f : Nat → Int32} {s : Nat} {g k : Nat → Int32} (h : ∀ q, q < 24 → g q = k q) : sl1 f s g = sl1 f s k := by
  funext i
  unfold sl1
  by_cases h2 : i / 24 = s
  · rw [if_pos h2, if_pos h2]; exact h _ (by omega)
  · rw [if_neg h2, if_neg h2]
theorem sl1_upd2 {f : Nat → Int32} {s q : Nat} {g : Nat → Int32} {x : Int32} (hq : q < 24) : upd (sl1 f s g) (24 * s + q) x = sl1 f s (upd g q x) := by
  rw [sl1_upd hq, sl1_sl1]
  refine sl1_ext (fun j hj => ?_)
  by_cases h : j = q
  · subst h; rw [pk_us, pk_us]
  · rw [pk_un h, pk_un h]; exact sl1_at hj
theorem w4_sl1 {f : Nat → Int32} {s j : Nat} {k x y r : Int32} (hj : j < 6) : w4 f (24 * s + 4 * j) k x y r = sl1 f s (w4 (fun q => f (24 * s + q)) (4 * j) k x y r) := by
  unfold w4
  rw [Nat.add_assoc, Nat.add_assoc, Nat.add_assoc, sl1_upd (show 4 * j < 24 by omega), sl1_upd2 (by omega), sl1_upd2 (by omega), sl1_upd2 (by omega)]
theorem w2_sl1 {f : Nat → Int32} {s j : Nat} {y r : Int32} (hj : j < 6) : w2 f (24 * s + 4 * j) y r = sl1 f s (w2 (fun q => f (24 * s + q)) (4 * j) y r) := by
  unfold w2
  rw [Nat.add_assoc, Nat.add_assoc, sl1_upd (show 4 * j + 2 < 24 by omega), sl1_upd2 (by omega)]
section CP
variable {S : XS} {d a o s t : Nat} {I : Nat → Nat → Int32} {J : Nat → Nat → Int64} {R : Nat → Nat → Option Nat}
/-- Case.copySteps -/
theorem s_copySteps (hR : RF R) (hc : isCase a) (ho : isCase o) : XP S (d + 1) 53 0 (xent [.ref a, .ref o] 2) [] (hh I J R) (rV (hh (xu (xrow I (a + 1) (va_cpy (I (o + 1)) (I (a + 1)) 0 0 24)) a 3 (I o 3)) J R)) := by
  have ka := (kCase hc).1
  have ka1 := (kCase hc).2.1
  have ko := (kCase ho).1
  have ko1 := (kCase ho).2.1
  have ra := (hR.2 a hc).1
  have ro := (hR.2 o ho).1
  have hne := (case_1 hc ho).1
  refine y_loc (pc' := 1) xD_53 rfl rfl rfl rfl ?_
  first | refine m_getR (pc' := 4) xD_53 rfl rfl rfl rfl (hR.1 _ _ _ rfl) rfl ?_ | refine m_getR (pc' := 4) xD_53 rfl rfl (by first | rfl | assumption) rfl (by assumption) rfl ?_
  refine y_ci (pc' := 5) (0) xD_53 rfl rfl rfl rfl ?_
  refine y_loc (pc' := 6) xD_53 rfl rfl rfl rfl ?_
  first | refine m_getR (pc' := 9) xD_53 rfl rfl rfl rfl (hR.1 _ _ _ rfl) rfl ?_ | refine m_getR (pc' := 9) xD_53 rfl rfl (by first | rfl | assumption) rfl (by assumption) rfl ?_
  refine y_ci (pc' := 10) (0) xD_53 rfl rfl rfl rfl ?_
  refine y_ci (pc' := 12) (24) xD_53 rfl rfl rfl rfl ?_
  refine m_cpyI (pc' := 15) 0 0 24 xD_53 rfl rfl rfl rfl ko1 ka1 (by decide) (by decide) (by decide) (by decide) rfl rfl rfl rfl ?_
  refine y_loc (pc' := 16) xD_53 rfl rfl rfl rfl ?_
  refine y_loc (pc' := 17) xD_53 rfl rfl rfl rfl ?_
  refine m_get (pc' := 20) xD_53 rfl rfl (by first | rfl | assumption) rfl rfl ?_
  refine m_putI (pc' := 23) xD_53 rfl rfl (by first | rfl | assumption) rfl rfl rfl ?_
  refine y_retV xD_53 rfl rfl ?_
  refine ⟨rfl, ?_⟩
  rw [xrow_ne hne]
/-- Case.copy -/
theorem s_copy (hR : RF R) (hc : isCase a) (ho : isCase o) : XP S (d + 2) 52 0 (xent [.ref a, .ref o] 2) [] (hh I J R) (rV (hh (xu (xu (xrow I (a + 1) (va_cpy (I (o + 1)) (I (a + 1)) 0 0 24)) a 3 (I o 3)) a 4 (I o 4)) (xrow (xrow J (a + 2) (va_cpy (J (o + 2)) (J (a + 2)) 0 0 6)) (a + 3) (va_cpy (J (o + 3)) (J (a + 3)) 0 0 24)) R)) := by
  have ka := (kCase hc).1
  have ka2 := (kCase hc).2.2.1
  have ka3 := (kCase hc).2.2.2
  have ko := (kCase ho).1
  have ko2 := (kCase ho).2.2.1
  have ko3 := (kCase ho).2.2.2
  have ra1 := (hR.2 a hc).2.1
  have ro1 := (hR.2 o ho).2.1
  have ra2 := (hR.2 a hc).2.2
  have ro2 := (hR.2 o ho).2.2
  have hne := (case_1 hc ho).1
  have hne2 := (case_1 ho hc).1
  refine y_loc (pc' := 1) xD_52 rfl rfl rfl rfl ?_
  refine y_loc (pc' := 2) xD_52 rfl rfl rfl rfl ?_
  refine y_callV xD_52 rfl rfl rfl rfl (by first | rfl | assumption) rfl rfl rfl rfl (s_copySteps (d := d) hR hc ho) (fun v h' hq => ?_)
  obtain ⟨rfl, rfl⟩ := hq
  refine y_loc (pc' := 6) xD_52 rfl rfl rfl rfl ?_
  first | refine m_getR (pc' := 9) xD_52 rfl rfl rfl rfl (hR.1 _ _ _ rfl) rfl ?_ | refine m_getR (pc' := 9) xD_52 rfl rfl (by first | rfl | assumption) rfl (by assumption) rfl ?_
  refine y_ci (pc' := 10) (0) xD_52 rfl rfl rfl rfl ?_
  refine y_loc (pc' := 11) xD_52 rfl rfl rfl rfl ?_
  first | refine m_getR (pc' := 14) xD_52 rfl rfl rfl rfl (hR.1 _ _ _ rfl) rfl ?_ | refine m_getR (pc' := 14) xD_52 rfl rfl (by first | rfl | assumption) rfl (by assumption) rfl ?_
  refine y_ci (pc' := 15) (0) xD_52 rfl rfl rfl rfl ?_
  refine y_ci (pc' := 17) (6) xD_52 rfl rfl rfl rfl ?_
  refine m_cpyJ (pc' := 20) 0 0 6 xD_52 rfl rfl rfl rfl ko2 ka2 (by decide) (by decide) (by decide) (by decide) rfl rfl rfl rfl ?_
  refine y_loc (pc' := 21) xD_52 rfl rfl rfl rfl ?_
  first | refine m_getR (pc' := 24) xD_52 rfl rfl rfl rfl (hR.1 _ _ _ rfl) rfl ?_ | refine m_getR (pc' := 24) xD_52 rfl rfl (by first | rfl | assumption) rfl (by assumption) rfl ?_
  refine y_ci (pc' := 25) (0) xD_52 rfl rfl rfl rfl ?_
  refine y_loc (pc' := 26) xD_52 rfl rfl rfl rfl ?_
  first | refine m_getR (pc' := 29) xD_52 rfl rfl rfl rfl (hR.1 _ _ _ rfl) rfl ?_ | refine m_getR (pc' := 29) xD_52 rfl rfl (by first | rfl | assumption) rfl (by assumption) rfl ?_
  refine y_ci (pc' := 30) (0) xD_52 rfl rfl rfl rfl ?_
  refine y_ci (pc' := 32) (24) xD_52 rfl rfl rfl rfl ?_
  refine m_cpyJ (pc' := 35) 0 0 24 xD_52 rfl rfl rfl rfl ko3 ka3 (by decide) (by decide) (by decide) (by decide) rfl rfl rfl rfl ?_
  refine y_loc (pc' := 36) xD_52 rfl rfl rfl rfl ?_
  refine y_loc (pc' := 37) xD_52 rfl rfl rfl rfl ?_
  refine m_get (pc' := 40) xD_52 rfl rfl (by first | rfl | assumption) rfl rfl ?_
  refine m_putI (pc' := 43) xD_52 rfl rfl (by first | rfl | assumption) rfl rfl rfl ?_
  refine y_retV xD_52 rfl rfl ?_
  refine ⟨rfl, ?_⟩
  have e1 : xu (xrow I (a + 1) (va_cpy (I (o + 1)) (I (a + 1)) 0 0 24)) a 3 (I o 3) o 4 = I o 4 := by
    unfold xu
    rw [if_neg (fun q => absurd q.2 (by decide)), xrow_ne hne]
  rw [e1, xrow_ne (show o + 3 ≠ a + 2 by omega), xrow_ne (show a + 3 ≠ a + 2 by omega)]
/-- the model's copy -/
theorem s_mcopy (hR : RF R) (hs : s < 67) (ht : t < 67) (hst : s ≠ t) {xs xt : Int32} (e0 : xs = nI s) (e1 : xt = nI t) : XP S d 130 0 (xent [.ref 261, .int xs, .int xt] 4) [] (hh I J R) (rV (hh (xu (xrow I 262 (sl1 (I 262) t (slM I s))) 263 t (I 263 s)) J R)) := by
  subst e0; subst e1
  have loop : ∀ (f k : Nat), k + f = 24 → XP S d 130 2 [some (.ref 261), some (.int (nI s)), some (.int (nI t)), some (.int (nI k))] [] (hh (xrow I 262 (fun i => if i / 24 = t ∧ i % 24 < k then slM I s (i % 24) else I 262 i)) J R) (rV (hh (xu (xrow I 262 (sl1 (I 262) t (slM I s))) 263 t (I 263 s)) J R)) := by
    intro f
    induction f with
    | zero =>
      intro k hk
      have hk : k = 24 := by omega
      subst hk
      refine y_loc (pc' := 3) xD_130 rfl rfl rfl rfl ?_
      refine y_ci (pc' := 5) (24) xD_130 rfl rfl rfl rfl ?_
      refine y_icge (pt := 36) (pf := 8) xD_130 rfl rfl rfl (fun h5 => ?_) (fun h5 => ?_)
      · skip
        refine y_loc (pc' := 37) xD_130 rfl rfl rfl rfl ?_
        first | refine m_getR (pc' := 40) xD_130 rfl rfl rfl rfl (hR.1 _ _ _ rfl) rfl ?_ | refine m_getR (pc' := 40) xD_130 rfl rfl (by first | rfl | assumption) rfl (by assumption) rfl ?_
        refine y_loc (pc' := 41) xD_130 rfl rfl rfl rfl ?_
        refine y_loc (pc' := 42) xD_130 rfl rfl rfl rfl ?_
        first | refine m_getR (pc' := 45) xD_130 rfl rfl rfl rfl (hR.1 _ _ _ rfl) rfl ?_ | refine m_getR (pc' := 45) xD_130 rfl rfl (by first | rfl | assumption) rfl (by assumption) rfl ?_
        refine y_loc (pc' := 46) xD_130 rfl rfl rfl rfl ?_
        refine m_iald (pc' := 47) (s) xD_130 rfl (by first | rfl | assumption) (by first | assumption | omega) (by first | decide | assumption) (by first | decide | omega) (by first | rfl | assumption) rfl ?_
        refine m_iast (pc' := 48) (t) xD_130 rfl (by first | rfl | assumption) (by first | assumption | omega) (by first | decide | assumption) (by first | rfl | assumption) rfl ?_
        refine y_retV xD_130 rfl rfl ?_
        refine ⟨rfl, ?_⟩
        rw [xrow_ne (show (263 : Nat) ≠ 262 by decide)]
        congr 3
        funext i
        unfold sl1
        by_cases h : i / 24 = t
        · rw [if_pos h, if_pos ⟨h, by omega⟩]
        · rw [if_neg h, if_neg (fun q => h q.1)]
      · skip
        exact absurd (Int32.le_refl _) h5
    | succ f ih =>
      intro k hk
      have e5 : nI k + 1 = nI (k + 1) := nI_1 k
      have step := ih (k + 1) (by omega)
      have ix : ∀ u : Nat, nI u * 24 + nI k = nI (24 * u + k) := fun u => by show nI u * nI 24 + nI k = _; rw [pk_mul, nI_add, Nat.mul_comm]
      have es : xu (xrow I 262 (fun i => if i / 24 = t ∧ i % 24 < k then slM I s (i % 24) else I 262 i)) 262 (24 * t + k) (xrow I 262 (fun i => if i / 24 = t ∧ i % 24 < k then slM I s (i % 24) else I 262 i) 262 (24 * s + k)) = xrow I 262 (fun i => if i / 24 = t ∧ i % 24 < k + 1 then slM I s (i % 24) else I 262 i) := by
        rw [xu_rowI, xrow_row, xrow_at]
        congr 1
        funext i
        by_cases h : i = 24 * t + k
        · subst h
          rw [pk_us, if_neg (by omega), if_pos (by omega), show (24 * t + k) % 24 = k by omega]
          rfl
        · rw [pk_un h]
          by_cases h2 : i / 24 = t ∧ i % 24 < k
          · rw [if_pos h2, if_pos (by omega)]
          · rw [if_neg h2, if_neg (by omega)]
      rw [← es] at step
      refine y_loc (pc' := 3) xD_130 rfl rfl rfl rfl ?_
      refine y_ci (pc' := 5) (24) xD_130 rfl rfl rfl rfl ?_
      refine y_icge (pt := 36) (pf := 8) xD_130 rfl rfl rfl (fun h5 => ?_) (fun h5 => ?_)
      · skip
        exact absurd h5 (nI_ge (b := 24) (by omega) (by decide))
      · skip
        refine y_loc (pc' := 9) xD_130 rfl rfl rfl rfl ?_
        first | refine m_getR (pc' := 12) xD_130 rfl rfl rfl rfl (hR.1 _ _ _ rfl) rfl ?_ | refine m_getR (pc' := 12) xD_130 rfl rfl (by first | rfl | assumption) rfl (by assumption) rfl ?_
        refine y_loc (pc' := 13) xD_130 rfl rfl rfl rfl ?_
        refine y_ci (pc' := 15) (24) xD_130 rfl rfl rfl rfl ?_
        refine y_op (pc' := 16) xD_130 rfl rfl rfl rfl ?_
        refine y_loc (pc' := 17) xD_130 rfl rfl rfl rfl ?_
        refine y_op (pc' := 18) xD_130 rfl rfl rfl rfl ?_
        refine y_loc (pc' := 19) xD_130 rfl rfl rfl rfl ?_
        first | refine m_getR (pc' := 22) xD_130 rfl rfl rfl rfl (hR.1 _ _ _ rfl) rfl ?_ | refine m_getR (pc' := 22) xD_130 rfl rfl (by first | rfl | assumption) rfl (by assumption) rfl ?_
        refine y_loc (pc' := 23) xD_130 rfl rfl rfl rfl ?_
        refine y_ci (pc' := 25) (24) xD_130 rfl rfl rfl rfl ?_
        refine y_op (pc' := 26) xD_130 rfl rfl rfl rfl ?_
        refine y_loc (pc' := 27) xD_130 rfl rfl rfl rfl ?_
        refine y_op (pc' := 28) xD_130 rfl rfl rfl rfl ?_
        refine m_iald (pc' := 29) (24 * s + k) xD_130 rfl (by first | rfl | assumption) (by first | assumption | omega) (by first | decide | assumption) (by first | decide | omega) (ix s) rfl ?_
        refine m_iast (pc' := 30) (24 * t + k) xD_130 rfl (by first | rfl | assumption) (by first | assumption | omega) (by first | decide | assumption) (ix t) rfl ?_
        refine y_inc (pc' := 33) (nI (k + 1)) xD_130 rfl rfl rfl e5 rfl rfl ?_
        refine y_goto (pc' := 2) xD_130 rfl rfl ?_
        exact step
        skip
  have key := loop 24 0 (by omega)
  have e : xrow I 262 (fun i => if i / 24 = t ∧ i % 24 < 0 then slM I s (i % 24) else I 262 i) = I := by
    refine Eq.trans ?_ (xrow_id (f := I) (a := 262))
    congr 1
    funext i
    rw [if_neg (by omega)]
  rw [e] at key
  refine y_ci (pc' := 1) (0) xD_130 rfl rfl rfl rfl ?_
  refine y_loc (pc' := 2) xD_130 rfl rfl rfl rfl ?_
  exact key
end CP
end
section
/-! A step taken out. -/
section YO
variable {S : XS} {d k pc pc' a j ci idx : Nat} {L : XL} {r : List Value} {Q : Option Value → XH → Prop} {T : List (Nat × Instr × Nat)} {x z v : Int32} {h : XH} {I : Nat → Nat → Int32} {J : Nat → Nat → Int64} {R : Nat → Nat → Option Nat}
theorem y_isub (hD : XDec k T) (hd : xat T pc = some (.isub, 1)) (e : x - z = v) (hp : pc + 1 = pc') (K : XP S d k pc' L (.int v :: r) h Q) : XP S d k pc L (.int z :: .int x :: r) h Q := by
  subst e
  exact y_op hD hd rfl rfl hp K
theorem y_iadd (hD : XDec k T) (hd : xat T pc = some (.iadd, 1)) (e : x + z = v) (hp : pc + 1 = pc') (K : XP S d k pc' L (.int v :: r) h Q) : XP S d k pc L (.int z :: .int x :: r) h Q := by
  subst e
  exact y_op hD hd rfl rfl hp K
theorem y_imul (hD : XDec k T) (hd : xat T pc = some (.imul, 1)) (e : x * z = v) (hp : pc + 1 = pc') (K : XP S d k pc' L (.int v :: r) h Q) : XP S d k pc L (.int z :: .int x :: r) h Q := by
  subst e
  exact y_op hD hd rfl rfl hp K
theorem m_getI (hD : XDec k T) (hd : xat T pc = some (.getfield idx, 3)) (hf : xfld (xkc k) idx = some (ci, j)) (hk1 : xft ci j = .int) (hk : kq a = (ci, xnf ci)) (e : I a j = v) (hp : pc + 3 = pc') (K : XP S d k pc' L (.int v :: r) (hh I J R) Q) : XP S d k pc L (.ref a :: r) (hh I J R) Q :=
  m_get hD hd hf hk (by rw [hk1, ← e]; rfl) hp K
end YO
def VT (f : Nat → Int32) (j : Nat) : Prop := (∃ t, t < 8 ∧ ¬ t = 2 ∧ ¬ t = 3 ∧ f (4 * j) = nI t) ∧ (f (4 * j + 3) = -1 ∨ ∃ r, r < j ∧ f (4 * j + 3) = nI r ∧ f (4 * j + 2) = 0)
theorem VT.s {f : Nat → Int32} {j : Nat} (h : VT f j) : VS f j := ⟨h.1, fun _ => h.2.elim Or.inl (fun ⟨r, h1, h2, _⟩ => Or.inr ⟨r, h1, h2⟩)⟩
theorem upd4 {g : Nat → Int32} {k p : Nat} {v : Int32} (hp : p < 4) {i q : Nat} (hq : q < 4) : upd g (4 * k + p) v (4 * i + q) = if i = k ∧ q = p then v else g (4 * i + q) := by
  by_cases h : i = k ∧ q = p
  · rw [if_pos h, h.1, h.2, pk_us]
  · rw [if_neg h, pk_un (by omega)]
theorem w4_pt {g : Nat → Int32} {k : Nat} {a b y r : Int32} {i q : Nat} (hq : q < 4) : w4 g (4 * k) a b y r (4 * i + q) = if i = k then (if q = 0 then a else if q = 1 then b else if q = 2 then y else r) else g (4 * i + q) := by
  have e0 : 4 * k = 4 * k + 0 := rfl
  unfold w4
  rw [upd4 (by decide) hq, upd4 (by decide) hq, upd4 (by decide) hq]
  rw [show upd g (4 * k) a = upd g (4 * k + 0) a from rfl, upd4 (by decide) hq]
  by_cases hi : i = k
  · by_cases h0 : q = 0
    · rw [if_neg (by omega), if_neg (by omega), if_neg (by omega), if_pos ⟨hi, h0⟩, if_pos hi, if_pos h0]
    · by_cases h1 : q = 1
      · rw [if_neg (by omega), if_neg (by omega), if_pos ⟨hi, h1⟩, if_pos hi, if_neg h0, if_pos h1]
      · by_cases h2 : q = 2
        · rw [if_neg (by omega), if_pos ⟨hi, h2⟩, if_pos hi, if_neg h0, if_neg h1, if_pos h2]
        · rw [if_pos ⟨hi, by omega⟩, if_pos hi, if_neg h0, if_neg h1, if_neg h2]
  · rw [if_neg (fun e => hi e.1), if_neg (fun e => hi e.1), if_neg (fun e => hi e.1), if_neg (fun e => hi e.1), if_neg hi]
def tkO (f : Nat → Int32) (p j q : Nat) : Int32 :=
  if j < p then f (4 * j + q) else if q < 2 then f (4 * (j + 1) + q) else if q = 2 then (if f (4 * (j + 1) + 3) = nI p then 0 else f (4 * (j + 1) + 2)) else (if f (4 * (j + 1) + 3) = nI p then -1 else if nI p < f (4 * (j + 1) + 3) then f (4 * (j + 1) + 3) - 1 else f (4 * (j + 1) + 3))
theorem slM_row {I : Nat → Nat → Int32} {F g : Nat → Int32} {s q : Nat} (hq : q < 24) : slM (xrow I 262 (sl1 F s g)) s q = g q := by
  unfold slM
  rw [xrow_at]
  exact sl1_at hq
section TK
variable {S : XS} {d a s : Nat} {I : Nat → Nat → Int32} {J : Nat → Nat → Int64} {R : Nat → Nat → Option Nat}
/-- Case.takeOut -/
theorem s_takeOut (hR : RF R) (hc : isCase a) (n p : Nat) (hn : I a 3 = nI (n + 1)) (hn6 : n + 1 ≤ 6) (hp : p ≤ n) (hV : ∀ j, j < n + 1 → VT (I (a + 1)) j) {xp : Int32} (e1 : xp = nI p) :
    XP S (d + 1) 75 0 (xent [.ref a, .int xp] 4) [] (hh I J R) (fun v h' => v = none ∧ ∃ g, (∀ i q, i < n → q < 4 → g (4 * i + q) = tkO (I (a + 1)) p i q) ∧ h' = hh (xrow (xu I a 3 (nI n)) (a + 1) g) J R) := by
  subst e1
  have ka := (kCase hc).1
  have ka1 := (kCase hc).2.1
  have ra := (hR.2 a hc).1
  have en : I a 3 - 1 = nI n := by rw [hn]; exact pk_sub (b := 1) (by omega)
  have loop : ∀ (f k : Nat) (g : Nat → Int32) (q3 : Option Value), k + f = n → p ≤ k → (∀ i q, i < n → q < 4 → g (4 * i + q) = if i < k then tkO (I (a + 1)) p i q else I (a + 1) (4 * (i + 1) + q)) →
      XP S (d + 1) 75 39 [some (.ref a), some (.int (nI p)), some (.int (nI k)), q3] [] (hh (xrow (xu I a 3 (nI n)) (a + 1) g) J R) (fun v h' => v = none ∧ ∃ g, (∀ i q, i < n → q < 4 → g (4 * i + q) = tkO (I (a + 1)) p i q) ∧ h' = hh (xrow (xu I a 3 (nI n)) (a + 1) g) J R) := by
    intro f
    induction f with
    | zero =>
      intro k g q3 hk hpk hg
      have hk : k = n := by omega
      subst hk
      have ea : xrow (xu I a 3 (nI k)) (a + 1) g a 3 = nI k := by rw [xrow_ne (by omega), xu_ii]
      refine y_loc (pc' := 40) xD_75 rfl rfl rfl rfl ?_
      refine y_loc (pc' := 41) xD_75 rfl rfl rfl rfl ?_
      refine m_getI (pc' := 44) xD_75 rfl rfl rfl (by first | rfl | assumption) (ea) rfl ?_
      refine y_icge (pt := 97) (pf := 47) xD_75 rfl rfl rfl (fun h44 => ?_) (fun h44 => ?_)
      · skip
        refine y_retV xD_75 rfl rfl ?_
        exact ⟨rfl, g, fun i q hi hq => by rw [hg i q hi hq, if_pos hi], rfl⟩
      · exact absurd (Int32.le_refl _) h44
    | succ f ih =>
      intro k g q3 hk hpk hg
      have ea : xrow (xu I a 3 (nI n)) (a + 1) g a 3 = nI n := by rw [xrow_ne (by omega), xu_ii]
      have e5 : nI k + 1 = nI (k + 1) := nI_1 k
      have hr : g (4 * k + 3) = I (a + 1) (4 * (k + 1) + 3) := by rw [hg k 3 (by omega) (by decide), if_neg (by omega)]
      have ix : nI k * 4 + 3 = nI (4 * k + 3) := by show nI k * nI 4 + nI 3 = _; rw [pk_mul, nI_add, Nat.mul_comm]
      have hy : I (a + 1) (4 * (k + 1) + 3) = nI p → I (a + 1) (4 * (k + 1) + 2) = 0 := fun e => by
        rcases (hV (k + 1) (by omega)).2 with h | ⟨r, _, _, h⟩
        · rw [e] at h; exact absurd h (nI_m1 (by omega))
        · exact h
      have up : ∀ v : Int32, v = tkO (I (a + 1)) p k 3 → ∀ i q, i < n → q < 4 → upd g (4 * k + 3) v (4 * i + q) = if i < k + 1 then tkO (I (a + 1)) p i q else I (a + 1) (4 * (i + 1) + q) := by
        intro v hv i q hi hq
        rw [upd4 (by decide) hq]
        by_cases h : i = k ∧ q = 3
        · rw [if_pos h, if_pos (by omega), h.1, h.2]; exact hv
        · rw [if_neg h, hg i q hi hq]
          by_cases h1 : i < k
          · rw [if_pos h1, if_pos (by omega)]
          · rw [if_neg h1]
            by_cases h2 : i = k
            · subst h2
              rw [if_pos (by omega)]
              unfold tkO
              rw [if_neg (by omega)]
              by_cases h3 : q < 2
              · rw [if_pos h3]
              · have h4 : q = 2 := by omega
                rw [if_neg h3, if_pos h4, h4]
                by_cases h5 : I (a + 1) (4 * (i + 1) + 3) = nI p
                · rw [if_pos h5]; exact hy h5
                · rw [if_neg h5]
            · rw [if_neg (by omega)]
      have nu : g = upd g (4 * k + 3) (g (4 * k + 3)) := by
        funext i
        by_cases h : i = 4 * k + 3
        · subst h; rw [pk_us]
        · rw [pk_un h]
      have t3 : tkO (I (a + 1)) p k 3 = if I (a + 1) (4 * (k + 1) + 3) = nI p then -1 else if nI p < I (a + 1) (4 * (k + 1) + 3) then I (a + 1) (4 * (k + 1) + 3) - 1 else I (a + 1) (4 * (k + 1) + 3) := by
        unfold tkO
        rw [if_neg (by omega), if_neg (by decide), if_neg (by decide)]
      refine y_loc (pc' := 40) xD_75 rfl rfl rfl rfl ?_
      refine y_loc (pc' := 41) xD_75 rfl rfl rfl rfl ?_
      refine m_getI (pc' := 44) xD_75 rfl rfl rfl (by first | rfl | assumption) (ea) rfl ?_
      refine y_icge (pt := 97) (pf := 47) xD_75 rfl rfl rfl (fun h44 => ?_) (fun h44 => ?_)
      · exact absurd h44 (nI_ge (by omega) (by omega))
      · skip
        refine y_loc (pc' := 48) xD_75 rfl rfl rfl rfl ?_
        refine y_loc (pc' := 49) xD_75 rfl rfl rfl rfl ?_
        refine y_ci (pc' := 50) (3) xD_75 rfl rfl rfl rfl ?_
        refine y_callV xD_75 rfl rfl rfl rfl (by first | rfl | assumption) rfl rfl rfl rfl (s_part hR hc k 3 (by omega) (by decide) rfl rfl) (fun v h' hq => ?_)
        obtain ⟨rfl, rfl⟩ := hq
        rw [xrow_at, hr]
        refine y_loc (pc' := 54) xD_75 rfl rfl rfl rfl ?_
        refine y_loc (pc' := 55) xD_75 rfl rfl rfl rfl ?_
        refine y_loc (pc' := 56) xD_75 rfl rfl rfl rfl ?_
        refine y_icne (pt := 73) (pf := 59) xD_75 rfl rfl rfl (fun h56 => ?_) (fun h56 => ?_)
        · skip
          refine y_loc (pc' := 74) xD_75 rfl rfl rfl rfl ?_
          refine y_loc (pc' := 75) xD_75 rfl rfl rfl rfl ?_
          refine y_icle (pt := 91) (pf := 78) xD_75 rfl rfl rfl (fun h75 => ?_) (fun h75 => ?_)
          · skip
            refine y_inc (pc' := 94) (nI (k + 1)) xD_75 rfl rfl rfl e5 rfl rfl ?_
            refine y_goto (pc' := 39) xD_75 rfl rfl ?_
            first
              | exact ih (k + 1) _ _ (by omega) (by omega) (up _ (by rw [t3, if_pos h56]))
              | exact ih (k + 1) _ _ (by omega) (by omega) (up _ (by rw [t3, if_neg h56, if_pos (Int32.not_le.mp h75)]))
              | exact ih (k + 1) g _ (by omega) (by omega) (by rw [nu]; exact up _ (by rw [t3, if_neg h56, if_neg (Int32.not_lt.mpr h75), hr]))
            skip
          · skip
            refine y_loc (pc' := 79) xD_75 rfl rfl rfl rfl ?_
            first | refine m_getR (pc' := 82) xD_75 rfl rfl rfl rfl (hR.1 _ _ _ rfl) rfl ?_ | refine m_getR (pc' := 82) xD_75 rfl rfl (by first | rfl | assumption) rfl (by assumption) rfl ?_
            refine y_loc (pc' := 83) xD_75 rfl rfl rfl rfl ?_
            refine y_ci (pc' := 84) (4) xD_75 rfl rfl rfl rfl ?_
            refine y_op (pc' := 85) xD_75 rfl rfl rfl rfl ?_
            refine y_ci (pc' := 86) (3) xD_75 rfl rfl rfl rfl ?_
            refine y_op (pc' := 87) xD_75 rfl rfl rfl rfl ?_
            refine y_loc (pc' := 88) xD_75 rfl rfl rfl rfl ?_
            refine y_ci (pc' := 89) (1) xD_75 rfl rfl rfl rfl ?_
            refine y_op (pc' := 90) xD_75 rfl rfl rfl rfl ?_
            refine m_iast (pc' := 91) (4 * k + 3) xD_75 rfl (by first | rfl | assumption) (by first | assumption | omega) (by first | decide | assumption) ix rfl ?_
            rw [xu_rowI, xrow_row, xrow_at]
            refine y_inc (pc' := 94) (nI (k + 1)) xD_75 rfl rfl rfl e5 rfl rfl ?_
            refine y_goto (pc' := 39) xD_75 rfl rfl ?_
            first
              | exact ih (k + 1) _ _ (by omega) (by omega) (up _ (by rw [t3, if_pos h56]))
              | exact ih (k + 1) _ _ (by omega) (by omega) (up _ (by rw [t3, if_neg h56, if_pos (Int32.not_le.mp h75)]))
              | exact ih (k + 1) g _ (by omega) (by omega) (by rw [nu]; exact up _ (by rw [t3, if_neg h56, if_neg (Int32.not_lt.mpr h75), hr]))
            skip
        · skip
          refine y_loc (pc' := 60) xD_75 rfl rfl rfl rfl ?_
          first | refine m_getR (pc' := 63) xD_75 rfl rfl rfl rfl (hR.1 _ _ _ rfl) rfl ?_ | refine m_getR (pc' := 63) xD_75 rfl rfl (by first | rfl | assumption) rfl (by assumption) rfl ?_
          refine y_loc (pc' := 64) xD_75 rfl rfl rfl rfl ?_
          refine y_ci (pc' := 65) (4) xD_75 rfl rfl rfl rfl ?_
          refine y_op (pc' := 66) xD_75 rfl rfl rfl rfl ?_
          refine y_ci (pc' := 67) (3) xD_75 rfl rfl rfl rfl ?_
          refine y_op (pc' := 68) xD_75 rfl rfl rfl rfl ?_
          refine y_ci (pc' := 69) (-1) xD_75 rfl rfl rfl rfl ?_
          refine m_iast (pc' := 70) (4 * k + 3) xD_75 rfl (by first | rfl | assumption) (by first | assumption | omega) (by first | decide | assumption) ix rfl ?_
          rw [xu_rowI, xrow_row, xrow_at]
          refine y_goto (pc' := 91) xD_75 rfl rfl ?_
          refine y_inc (pc' := 94) (nI (k + 1)) xD_75 rfl rfl rfl e5 rfl rfl ?_
          refine y_goto (pc' := 39) xD_75 rfl rfl ?_
          first
            | exact ih (k + 1) _ _ (by omega) (by omega) (up _ (by rw [t3, if_pos h56]))
            | exact ih (k + 1) _ _ (by omega) (by omega) (up _ (by rw [t3, if_neg h56, if_pos (Int32.not_le.mp h75)]))
            | exact ih (k + 1) g _ (by omega) (by omega) (by rw [nu]; exact up _ (by rw [t3, if_neg h56, if_neg (Int32.not_lt.mpr h75), hr]))
          skip
  refine y_loc (pc' := 1) xD_75 rfl rfl rfl rfl ?_
  refine y_op (pc' := 2) xD_75 rfl rfl rfl rfl ?_
  refine m_get (pc' := 5) xD_75 rfl rfl (by first | rfl | assumption) rfl rfl ?_
  refine y_ci (pc' := 6) (1) xD_75 rfl rfl rfl rfl ?_
  refine y_isub (pc' := 7) xD_75 rfl (en) rfl ?_
  refine m_putI (pc' := 10) xD_75 rfl rfl (by first | rfl | assumption) rfl rfl rfl ?_
  refine y_loc (pc' := 11) xD_75 rfl rfl rfl rfl ?_
  first | refine m_getR (pc' := 14) xD_75 rfl rfl rfl rfl (hR.1 _ _ _ rfl) rfl ?_ | refine m_getR (pc' := 14) xD_75 rfl rfl (by first | rfl | assumption) rfl (by assumption) rfl ?_
  refine y_loc (pc' := 15) xD_75 rfl rfl rfl rfl ?_
  refine y_ci (pc' := 16) (1) xD_75 rfl rfl rfl rfl ?_
  refine y_op (pc' := 17) xD_75 rfl rfl rfl rfl ?_
  refine y_ci (pc' := 18) (4) xD_75 rfl rfl rfl rfl ?_
  refine y_op (pc' := 19) xD_75 rfl rfl rfl rfl ?_
  refine y_loc (pc' := 20) xD_75 rfl rfl rfl rfl ?_
  first | refine m_getR (pc' := 23) xD_75 rfl rfl rfl rfl (hR.1 _ _ _ rfl) rfl ?_ | refine m_getR (pc' := 23) xD_75 rfl rfl (by first | rfl | assumption) rfl (by assumption) rfl ?_
  refine y_loc (pc' := 24) xD_75 rfl rfl rfl rfl ?_
  refine y_ci (pc' := 25) (4) xD_75 rfl rfl rfl rfl ?_
  refine y_op (pc' := 26) xD_75 rfl rfl rfl rfl ?_
  refine y_loc (pc' := 27) xD_75 rfl rfl rfl rfl ?_
  refine m_get (pc' := 30) xD_75 rfl rfl (by first | rfl | assumption) rfl rfl ?_
  refine y_loc (pc' := 31) xD_75 rfl rfl rfl rfl ?_
  refine y_op (pc' := 32) xD_75 rfl rfl rfl rfl ?_
  refine y_ci (pc' := 33) (4) xD_75 rfl rfl rfl rfl ?_
  refine y_op (pc' := 34) xD_75 rfl rfl rfl rfl ?_
  refine m_cpyI (pc' := 37) (4 * (p + 1)) (4 * p) (4 * (n - p)) xD_75 rfl rfl rfl rfl ka1 ka1 (by omega) (by omega) (by decide) (by decide) (by show (nI p + nI 1) * nI 4 = _; rw [nI_add, pk_mul, Nat.mul_comm]) (by show nI p * nI 4 = _; rw [pk_mul, Nat.mul_comm]) (by show (xu I a 3 (nI n) a 3 - nI p) * nI 4 = _; rw [xu_ii, pk_sub hp, pk_mul, Nat.mul_comm]) rfl ?_
  refine y_loc (pc' := 38) xD_75 rfl rfl rfl rfl ?_
  refine y_loc (pc' := 39) xD_75 rfl rfl rfl rfl ?_
  refine loop (n - p) p _ _ (by omega) (Nat.le_refl _) (fun i q hi hq => ?_)
  have ef : xu I a 3 (nI n) (a + 1) = I (a + 1) := by funext y; unfold xu; rw [if_neg (by omega)]
  rw [ef]
  by_cases h : i < p
  · rw [if_pos h, pk_cpy_out (by omega)]
    unfold tkO
    rw [if_pos h]
  · rw [if_neg h, pk_cpy_in (by omega) (by omega)]
    congr 1
    omega
end TK
end
section
/-! A step taken out of a slot. -/
section MT
variable {S : XS} {d s : Nat} {I : Nat → Nat → Int32} {J : Nat → Nat → Int64} {R : Nat → Nat → Option Nat}
theorem sl1_pt {I : Nat → Nat → Int32} {g : Nat → Int32} {s : Nat} : slM (xrow I 262 (sl1 (I 262) s g)) s = fun q => sl1 (I 262) s g (24 * s + q) := by
  unfold slM; rw [xrow_at]
/-- write, on a slot's row -/
theorem s_swrite (hR : RF R) (hs : s < 67) (g : Nat → Int32) (j : Nat) (hj : j < 6) {xs xj k x : Int32} (e0 : xs = nI s) (e1 : xj = nI j) : XP S d 105 0 (xent [.ref 261, .int xs, .int xj, .int k, .int x] 6) [] (hh (xrow I 262 (sl1 (I 262) s g)) J R) (rV (hh (xrow I 262 (sl1 (I 262) s (w4 g (4 * j) k x 0 (-1)))) J R)) := by
  have := s_mwrite (S := S) (d := d) (I := xrow I 262 (sl1 (I 262) s g)) (J := J) hR hs j hj (k := k) (x := x) e0 e1
  have e : sl1 (I 262) s (w4 (fun q => sl1 (I 262) s g (24 * s + q)) (4 * j) k x 0 (-1)) = sl1 (I 262) s (w4 g (4 * j) k x 0 (-1)) := sl1_ext (fun q hq => by
    have hm : q % 4 < 4 := by omega
    rw [show q = 4 * (q / 4) + q % 4 by omega, w4_pt hm, w4_pt hm, sl1_at (by omega)])
  rw [xrow_row, xrow_at, w4_sl1 hj, sl1_sl1, e] at this
  exact this
theorem s_ssecond (hR : RF R) (hs : s < 67) (g : Nat → Int32) (j : Nat) (hj : j < 6) {xs xj y r : Int32} (e0 : xs = nI s) (e1 : xj = nI j) : XP S d 106 0 (xent [.ref 261, .int xs, .int xj, .int y, .int r] 5) [] (hh (xrow I 262 (sl1 (I 262) s g)) J R) (rV (hh (xrow I 262 (sl1 (I 262) s (w2 g (4 * j) (if r < 0 then y else 0) r))) J R)) := by
  have := s_msecond (S := S) (d := d) (I := xrow I 262 (sl1 (I 262) s g)) (J := J) hR hs j hj (y := y) (r := r) e0 e1
  have e : sl1 (I 262) s (w2 (fun q => sl1 (I 262) s g (24 * s + q)) (4 * j) (if r < 0 then y else 0) r) = sl1 (I 262) s (w2 g (4 * j) (if r < 0 then y else 0) r) := sl1_ext (fun q hq => by
    have hm : q % 4 < 4 := by omega
    unfold w2
    rw [show q = 4 * (q / 4) + q % 4 by omega, upd4 (p := 3) (by decide) hm, upd4 (p := 2) (by decide) hm, upd4 (p := 3) (by decide) hm, upd4 (p := 2) (by decide) hm, sl1_at (by omega)])
  rw [xrow_row, xrow_at, w2_sl1 hj, sl1_sl1, e] at this
  exact this
theorem s_spart (hR : RF R) (hs : s < 67) (g : Nat → Int32) (j q : Nat) (hj : j < 6) (hq : q < 4) {xs xj xq : Int32} (e1 : xs = nI s) (e2 : xj = nI j) (e3 : xq = nI q) : XP S d 125 0 (xent [.ref 261, .int xs, .int xj, .int xq] 4) [] (hh (xrow I 262 (sl1 (I 262) s g)) J R) (rI (g (4 * j + q)) (hh (xrow I 262 (sl1 (I 262) s g)) J R)) := by
  have := s_mpart (S := S) (d := d) (I := xrow I 262 (sl1 (I 262) s g)) (J := J) hR hs j q hj hq e1 e2 e3
  rw [slM_row (by omega)] at this
  exact this
/-- the model's takeOut -/
theorem s_mtakeOut (hR : RF R) (hs : s < 67) (n p : Nat) (hn : I 263 s = nI (n + 1)) (hn6 : n + 1 ≤ 6) (hp : p ≤ n) (hV : ∀ j, j < n + 1 → VT (slM I s) j) {xs xp : Int32} (e0 : xs = nI s) (e1 : xp = nI p) :
    XP S (d + 1) 145 0 (xent [.ref 261, .int xs, .int xp] 6) [] (hh I J R) (fun v h' => v = none ∧ ∃ g, (∀ i q, i < n → q < 4 → g (4 * i + q) = tkO (slM I s) p i q) ∧ h' = hh (xu (xrow I 262 (sl1 (I 262) s g)) 263 s (nI n)) J R) := by
  subst e1
  have loop : ∀ (f k : Nat) (g : Nat → Int32) (q4 q5 : Option Value), k + f = n + 1 → p < k → (∀ i q, i < n + 1 → q < 4 → (i + 1 < k → g (4 * i + q) = tkO (slM I s) p i q) ∧ (k ≤ i → g (4 * i + q) = slM I s (4 * i + q))) →
      XP S (d + 1) 145 4 [some (.ref 261), some (.int xs), some (.int (nI p)), some (.int (nI k)), q4, q5] [] (hh (xrow I 262 (sl1 (I 262) s g)) J R) (fun v h' => v = none ∧ ∃ g, (∀ i q, i < n → q < 4 → g (4 * i + q) = tkO (slM I s) p i q) ∧ h' = hh (xu (xrow I 262 (sl1 (I 262) s g)) 263 s (nI n)) J R) := by
    intro f
    induction f with
    | zero =>
      intro k g q4 q5 hk hpk hg
      have hk : k = n + 1 := by omega
      subst hk
      have ea : xrow I 262 (sl1 (I 262) s g) 263 s = nI (n + 1) := by rw [xrow_ne (by decide), hn]
      have en : nI (n + 1) - 1 = nI n := pk_sub (a := n + 1) (b := 1) (by omega)
      refine y_loc (pc' := 5) xD_145 rfl rfl rfl rfl ?_
      refine y_loc (pc' := 6) xD_145 rfl rfl rfl rfl ?_
      first | refine m_getR (pc' := 9) xD_145 rfl rfl rfl rfl (hR.1 _ _ _ rfl) rfl ?_ | refine m_getR (pc' := 9) xD_145 rfl rfl (by first | rfl | assumption) rfl (by assumption) rfl ?_
      refine y_loc (pc' := 10) xD_145 rfl rfl rfl rfl ?_
      refine m_iald (pc' := 11) (s) xD_145 rfl (by first | rfl | assumption) (by first | assumption | omega) (by first | decide | assumption) (by first | decide | omega) (by first | rfl | assumption) rfl ?_
      rw [ea]
      refine y_icge (pt := 105) (pf := 14) xD_145 rfl rfl rfl (fun h11 => ?_) (fun h11 => ?_)
      · skip
        refine y_loc (pc' := 106) xD_145 rfl rfl rfl rfl ?_
        first | refine m_getR (pc' := 109) xD_145 rfl rfl rfl rfl (hR.1 _ _ _ rfl) rfl ?_ | refine m_getR (pc' := 109) xD_145 rfl rfl (by first | rfl | assumption) rfl (by assumption) rfl ?_
        refine y_loc (pc' := 110) xD_145 rfl rfl rfl rfl ?_
        refine y_op (pc' := 111) xD_145 rfl rfl rfl rfl ?_
        refine m_iald (pc' := 112) (s) xD_145 rfl (by first | rfl | assumption) (by first | assumption | omega) (by first | decide | assumption) (by first | decide | omega) (by first | rfl | assumption) rfl ?_
        rw [ea]
        refine y_ci (pc' := 113) (1) xD_145 rfl rfl rfl rfl ?_
        refine y_isub (pc' := 114) xD_145 rfl (en) rfl ?_
        refine m_iast (pc' := 115) (s) xD_145 rfl (by first | rfl | assumption) (by first | assumption | omega) (by first | decide | assumption) (by first | rfl | assumption) rfl ?_
        refine y_retV xD_145 rfl rfl ?_
        exact ⟨rfl, g, fun i q hi hq => (hg i q (by omega) hq).1 (by omega), rfl⟩
      · exact absurd (Int32.le_refl _) h11
    | succ f ih =>
      intro k g q4 q5 hk hpk hg
      have ea : xrow I 262 (sl1 (I 262) s g) 263 s = nI (n + 1) := by rw [xrow_ne (by decide), hn]
      have e5 : nI k + 1 = nI (k + 1) := nI_1 k
      have k6 : k < 6 := by omega
      have km : nI k - 1 = nI (k - 1) := pk_sub (b := 1) (by omega)
      have r3 := (hg k 3 (by omega) (by decide)).2 (Nat.le_refl _)
      have r2 := (hg k 2 (by omega) (by decide)).2 (Nat.le_refl _)
      have r1 := (hg k 1 (by omega) (by decide)).2 (Nat.le_refl _)
      have r0 := (hg k 0 (by omega) (by decide)).2 (Nat.le_refl _)
      have hy : ¬ slM I s (4 * k + 3) < 0 → slM I s (4 * k + 2) = 0 := fun h => by
        rcases (hV k (by omega)).2 with e | ⟨r, _, _, e⟩
        · rw [e] at h; exact absurd (by decide) h
        · exact e
      have y1 : nI p < slM I s (4 * k + 3) → (if slM I s (4 * k + 3) - 1 < 0 then slM I s (4 * k + 2) else 0) = slM I s (4 * k + 2) := fun h => by
        rw [hy (fun q => absurd (Int32.lt_trans h q) (nI_pos (by omega))), ite_self]
      have y2 : (if slM I s (4 * k + 3) < 0 then slM I s (4 * k + 2) else 0) = slM I s (4 * k + 2) := by
        by_cases hz : slM I s (4 * k + 3) < 0
        · rw [if_pos hz]
        · rw [if_neg hz, hy hz]
      have fin : ∀ (y r : Int32), r = tkO (slM I s) p (k - 1) 3 → (if r < 0 then y else 0) = tkO (slM I s) p (k - 1) 2 → ∀ i q, i < n + 1 → q < 4 → (i + 1 < k + 1 → w2 (w4 g (4 * (k - 1)) (g (4 * k + 0)) (g (4 * k + 1)) 0 (-1)) (4 * (k - 1)) (if r < 0 then y else 0) r (4 * i + q) = tkO (slM I s) p i q) ∧ (k + 1 ≤ i → w2 (w4 g (4 * (k - 1)) (g (4 * k + 0)) (g (4 * k + 1)) 0 (-1)) (4 * (k - 1)) (if r < 0 then y else 0) r (4 * i + q) = slM I s (4 * i + q)) := by
        intro y r h3 h2 i q hi hq
        rw [w2_w4, w4_pt hq, r0, r1]
        refine ⟨fun h => ?_, fun h => ?_⟩
        · by_cases hik : i = k - 1
          · rw [if_pos hik, hik]
            by_cases q0 : q = 0
            · rw [if_pos q0, q0]; unfold tkO; rw [if_neg (by omega), if_pos (by decide), show k - 1 + 1 = k by omega]
            · by_cases q1 : q = 1
              · rw [if_neg q0, if_pos q1, q1]; unfold tkO; rw [if_neg (by omega), if_pos (by decide), show k - 1 + 1 = k by omega]
              · by_cases q2 : q = 2
                · rw [if_neg q0, if_neg q1, if_pos q2, q2]; exact h2
                · rw [if_neg q0, if_neg q1, if_neg q2, show q = 3 by omega]; exact h3
          · rw [if_neg hik]; exact (hg i q hi hq).1 (by omega)
        · rw [if_neg (by omega)]; exact (hg i q hi hq).2 (by omega)
      have t3 : tkO (slM I s) p (k - 1) 3 = if slM I s (4 * k + 3) = nI p then -1 else if nI p < slM I s (4 * k + 3) then slM I s (4 * k + 3) - 1 else slM I s (4 * k + 3) := by
        unfold tkO
        rw [if_neg (by omega), if_neg (by decide), if_neg (by decide), show k - 1 + 1 = k by omega]
      have t2 : tkO (slM I s) p (k - 1) 2 = if slM I s (4 * k + 3) = nI p then 0 else slM I s (4 * k + 2) := by
        unfold tkO
        rw [if_neg (by omega), if_neg (by decide), if_pos rfl, show k - 1 + 1 = k by omega]
      refine y_loc (pc' := 5) xD_145 rfl rfl rfl rfl ?_
      refine y_loc (pc' := 6) xD_145 rfl rfl rfl rfl ?_
      first | refine m_getR (pc' := 9) xD_145 rfl rfl rfl rfl (hR.1 _ _ _ rfl) rfl ?_ | refine m_getR (pc' := 9) xD_145 rfl rfl (by first | rfl | assumption) rfl (by assumption) rfl ?_
      refine y_loc (pc' := 10) xD_145 rfl rfl rfl rfl ?_
      refine m_iald (pc' := 11) (s) xD_145 rfl (by first | rfl | assumption) (by first | assumption | omega) (by first | decide | assumption) (by first | decide | omega) (by first | rfl | assumption) rfl ?_
      rw [ea]
      refine y_icge (pt := 105) (pf := 14) xD_145 rfl rfl rfl (fun h11 => ?_) (fun h11 => ?_)
      · exact absurd h11 (nI_ge (by omega) (by omega))
      · skip
        refine y_loc (pc' := 15) xD_145 rfl rfl rfl rfl ?_
        refine y_loc (pc' := 16) xD_145 rfl rfl rfl rfl ?_
        refine y_loc (pc' := 17) xD_145 rfl rfl rfl rfl ?_
        refine y_ci (pc' := 18) (3) xD_145 rfl rfl rfl rfl ?_
        refine y_callV xD_145 rfl rfl rfl rfl (by first | rfl | assumption) rfl rfl rfl rfl (s_spart hR hs g k 3 k6 (by decide) e0 rfl rfl) (fun v h' hq => ?_)
        obtain ⟨rfl, rfl⟩ := hq
        refine y_loc (pc' := 23) xD_145 rfl rfl rfl rfl ?_
        refine y_loc (pc' := 24) xD_145 rfl rfl rfl rfl ?_
        refine y_loc (pc' := 25) xD_145 rfl rfl rfl rfl ?_
        refine y_loc (pc' := 26) xD_145 rfl rfl rfl rfl ?_
        refine y_ci (pc' := 27) (2) xD_145 rfl rfl rfl rfl ?_
        refine y_callV xD_145 rfl rfl rfl rfl (by first | rfl | assumption) rfl rfl rfl rfl (s_spart hR hs g k 2 k6 (by decide) e0 rfl rfl) (fun v h' hq => ?_)
        obtain ⟨rfl, rfl⟩ := hq
        refine y_loc (pc' := 32) xD_145 rfl rfl rfl rfl ?_
        refine y_loc (pc' := 33) xD_145 rfl rfl rfl rfl ?_
        refine y_loc (pc' := 34) xD_145 rfl rfl rfl rfl ?_
        refine y_loc (pc' := 35) xD_145 rfl rfl rfl rfl ?_
        refine y_ci (pc' := 36) (1) xD_145 rfl rfl rfl rfl ?_
        refine y_isub (pc' := 37) xD_145 rfl (km) rfl ?_
        refine y_loc (pc' := 38) xD_145 rfl rfl rfl rfl ?_
        refine y_loc (pc' := 39) xD_145 rfl rfl rfl rfl ?_
        refine y_loc (pc' := 40) xD_145 rfl rfl rfl rfl ?_
        refine y_ci (pc' := 41) (0) xD_145 rfl rfl rfl rfl ?_
        refine y_callV xD_145 rfl rfl rfl rfl (by first | rfl | assumption) rfl rfl rfl rfl (s_spart hR hs g k 0 k6 (by decide) e0 rfl rfl) (fun v h' hq => ?_)
        obtain ⟨rfl, rfl⟩ := hq
        refine y_loc (pc' := 45) xD_145 rfl rfl rfl rfl ?_
        refine y_loc (pc' := 46) xD_145 rfl rfl rfl rfl ?_
        refine y_loc (pc' := 47) xD_145 rfl rfl rfl rfl ?_
        refine y_ci (pc' := 48) (1) xD_145 rfl rfl rfl rfl ?_
        refine y_callV xD_145 rfl rfl rfl rfl (by first | rfl | assumption) rfl rfl rfl rfl (s_spart hR hs g k 1 k6 (by decide) e0 rfl rfl) (fun v h' hq => ?_)
        obtain ⟨rfl, rfl⟩ := hq
        skip
        refine y_callV xD_145 rfl rfl rfl rfl (by first | rfl | assumption) rfl rfl rfl rfl (s_swrite hR hs g (k - 1) (by omega) e0 rfl) (fun v h' hq => ?_)
        obtain ⟨rfl, rfl⟩ := hq
        refine y_loc (pc' := 55) xD_145 rfl rfl rfl rfl ?_
        refine y_loc (pc' := 56) xD_145 rfl rfl rfl rfl ?_
        refine y_loc (pc' := 57) xD_145 rfl rfl rfl rfl ?_
        refine y_ci (pc' := 58) (1) xD_145 rfl rfl rfl rfl ?_
        refine y_isub (pc' := 59) xD_145 rfl (km) rfl ?_
        refine y_loc (pc' := 61) xD_145 rfl rfl rfl rfl ?_
        refine y_loc (pc' := 62) xD_145 rfl rfl rfl rfl ?_
        refine y_icne (pt := 69) (pf := 65) xD_145 rfl rfl rfl (fun h62 => ?_) (fun h62 => ?_)
        · skip
          refine y_loc (pc' := 71) xD_145 rfl rfl rfl rfl ?_
          refine y_loc (pc' := 73) xD_145 rfl rfl rfl rfl ?_
          refine y_loc (pc' := 74) xD_145 rfl rfl rfl rfl ?_
          refine y_icne (pt := 81) (pf := 77) xD_145 rfl rfl rfl (fun h74 => ?_) (fun h74 => ?_)
          · skip
            refine y_loc (pc' := 83) xD_145 rfl rfl rfl rfl ?_
            refine y_loc (pc' := 84) xD_145 rfl rfl rfl rfl ?_
            refine y_icle (pt := 94) (pf := 87) xD_145 rfl rfl rfl (fun h84 => ?_) (fun h84 => ?_)
            · skip
              refine y_loc (pc' := 96) xD_145 rfl rfl rfl rfl ?_
              refine y_callV xD_145 rfl rfl rfl rfl (by first | rfl | assumption) rfl rfl rfl rfl (s_ssecond hR hs _ (k - 1) (by omega) e0 rfl) (fun v h' hq => ?_)
              obtain ⟨rfl, rfl⟩ := hq
              refine y_inc (pc' := 102) (nI (k + 1)) xD_145 rfl rfl rfl e5 rfl rfl ?_
              refine y_goto (pc' := 4) xD_145 rfl rfl ?_
              rw [r3] at h62
              first
                | exact absurd h74 h62
                | exact absurd h62 h74
                | (rw [r3] at h74; exact absurd h74 h62)
                | (rw [r3] at h74; exact absurd h62 h74)
                | exact ih (k + 1) _ _ _ (by omega) (by omega) (fin _ _ (by rw [t3, if_pos h62]) (by rw [t2, if_pos h62]; rfl))
                | (rw [r3] at h84; exact ih (k + 1) _ _ _ (by omega) (by omega) (fin _ _ (by rw [t3, if_neg h62, if_pos (Int32.not_le.mp h84), r3]) (by rw [t2, if_neg h62, r2, r3]; exact y1 (Int32.not_le.mp h84))))
                | (rw [r3] at h84; exact ih (k + 1) _ _ _ (by omega) (by omega) (fin _ _ (by rw [t3, if_neg h62, if_neg (Int32.not_lt.mpr h84), r3]) (by rw [t2, if_neg h62, r2, r3]; exact y2)))
              skip
            · skip
              refine y_loc (pc' := 89) xD_145 rfl rfl rfl rfl ?_
              refine y_ci (pc' := 90) (1) xD_145 rfl rfl rfl rfl ?_
              refine y_op (pc' := 91) xD_145 rfl rfl rfl rfl ?_
              refine y_goto (pc' := 96) xD_145 rfl rfl ?_
              refine y_callV xD_145 rfl rfl rfl rfl (by first | rfl | assumption) rfl rfl rfl rfl (s_ssecond hR hs _ (k - 1) (by omega) e0 rfl) (fun v h' hq => ?_)
              obtain ⟨rfl, rfl⟩ := hq
              refine y_inc (pc' := 102) (nI (k + 1)) xD_145 rfl rfl rfl e5 rfl rfl ?_
              refine y_goto (pc' := 4) xD_145 rfl rfl ?_
              rw [r3] at h62
              first
                | exact absurd h74 h62
                | exact absurd h62 h74
                | (rw [r3] at h74; exact absurd h74 h62)
                | (rw [r3] at h74; exact absurd h62 h74)
                | exact ih (k + 1) _ _ _ (by omega) (by omega) (fin _ _ (by rw [t3, if_pos h62]) (by rw [t2, if_pos h62]; rfl))
                | (rw [r3] at h84; exact ih (k + 1) _ _ _ (by omega) (by omega) (fin _ _ (by rw [t3, if_neg h62, if_pos (Int32.not_le.mp h84), r3]) (by rw [t2, if_neg h62, r2, r3]; exact y1 (Int32.not_le.mp h84))))
                | (rw [r3] at h84; exact ih (k + 1) _ _ _ (by omega) (by omega) (fin _ _ (by rw [t3, if_neg h62, if_neg (Int32.not_lt.mpr h84), r3]) (by rw [t2, if_neg h62, r2, r3]; exact y2)))
              skip
          · skip
            refine y_ci (pc' := 78) (-1) xD_145 rfl rfl rfl rfl ?_
            refine y_goto (pc' := 96) xD_145 rfl rfl ?_
            refine y_callV xD_145 rfl rfl rfl rfl (by first | rfl | assumption) rfl rfl rfl rfl (s_ssecond hR hs _ (k - 1) (by omega) e0 rfl) (fun v h' hq => ?_)
            obtain ⟨rfl, rfl⟩ := hq
            refine y_inc (pc' := 102) (nI (k + 1)) xD_145 rfl rfl rfl e5 rfl rfl ?_
            refine y_goto (pc' := 4) xD_145 rfl rfl ?_
            rw [r3] at h62
            first
              | exact absurd h74 h62
              | exact absurd h62 h74
              | (rw [r3] at h74; exact absurd h74 h62)
              | (rw [r3] at h74; exact absurd h62 h74)
              | exact ih (k + 1) _ _ _ (by omega) (by omega) (fin _ _ (by rw [t3, if_pos h62]) (by rw [t2, if_pos h62]; rfl))
              | (rw [r3] at h84; exact ih (k + 1) _ _ _ (by omega) (by omega) (fin _ _ (by rw [t3, if_neg h62, if_pos (Int32.not_le.mp h84), r3]) (by rw [t2, if_neg h62, r2, r3]; exact y1 (Int32.not_le.mp h84))))
              | (rw [r3] at h84; exact ih (k + 1) _ _ _ (by omega) (by omega) (fin _ _ (by rw [t3, if_neg h62, if_neg (Int32.not_lt.mpr h84), r3]) (by rw [t2, if_neg h62, r2, r3]; exact y2)))
            skip
        · skip
          refine y_ci (pc' := 66) (0) xD_145 rfl rfl rfl rfl ?_
          refine y_goto (pc' := 71) xD_145 rfl rfl ?_
          refine y_loc (pc' := 73) xD_145 rfl rfl rfl rfl ?_
          refine y_loc (pc' := 74) xD_145 rfl rfl rfl rfl ?_
          refine y_icne (pt := 81) (pf := 77) xD_145 rfl rfl rfl (fun h74 => ?_) (fun h74 => ?_)
          · skip
            refine y_loc (pc' := 83) xD_145 rfl rfl rfl rfl ?_
            refine y_loc (pc' := 84) xD_145 rfl rfl rfl rfl ?_
            refine y_icle (pt := 94) (pf := 87) xD_145 rfl rfl rfl (fun h84 => ?_) (fun h84 => ?_)
            · skip
              refine y_loc (pc' := 96) xD_145 rfl rfl rfl rfl ?_
              refine y_callV xD_145 rfl rfl rfl rfl (by first | rfl | assumption) rfl rfl rfl rfl (s_ssecond hR hs _ (k - 1) (by omega) e0 rfl) (fun v h' hq => ?_)
              obtain ⟨rfl, rfl⟩ := hq
              refine y_inc (pc' := 102) (nI (k + 1)) xD_145 rfl rfl rfl e5 rfl rfl ?_
              refine y_goto (pc' := 4) xD_145 rfl rfl ?_
              rw [r3] at h62
              first
                | exact absurd h74 h62
                | exact absurd h62 h74
                | (rw [r3] at h74; exact absurd h74 h62)
                | (rw [r3] at h74; exact absurd h62 h74)
                | exact ih (k + 1) _ _ _ (by omega) (by omega) (fin _ _ (by rw [t3, if_pos h62]) (by rw [t2, if_pos h62]; rfl))
                | (rw [r3] at h84; exact ih (k + 1) _ _ _ (by omega) (by omega) (fin _ _ (by rw [t3, if_neg h62, if_pos (Int32.not_le.mp h84), r3]) (by rw [t2, if_neg h62, r2, r3]; exact y1 (Int32.not_le.mp h84))))
                | (rw [r3] at h84; exact ih (k + 1) _ _ _ (by omega) (by omega) (fin _ _ (by rw [t3, if_neg h62, if_neg (Int32.not_lt.mpr h84), r3]) (by rw [t2, if_neg h62, r2, r3]; exact y2)))
              skip
            · skip
              refine y_loc (pc' := 89) xD_145 rfl rfl rfl rfl ?_
              refine y_ci (pc' := 90) (1) xD_145 rfl rfl rfl rfl ?_
              refine y_op (pc' := 91) xD_145 rfl rfl rfl rfl ?_
              refine y_goto (pc' := 96) xD_145 rfl rfl ?_
              refine y_callV xD_145 rfl rfl rfl rfl (by first | rfl | assumption) rfl rfl rfl rfl (s_ssecond hR hs _ (k - 1) (by omega) e0 rfl) (fun v h' hq => ?_)
              obtain ⟨rfl, rfl⟩ := hq
              refine y_inc (pc' := 102) (nI (k + 1)) xD_145 rfl rfl rfl e5 rfl rfl ?_
              refine y_goto (pc' := 4) xD_145 rfl rfl ?_
              rw [r3] at h62
              first
                | exact absurd h74 h62
                | exact absurd h62 h74
                | (rw [r3] at h74; exact absurd h74 h62)
                | (rw [r3] at h74; exact absurd h62 h74)
                | exact ih (k + 1) _ _ _ (by omega) (by omega) (fin _ _ (by rw [t3, if_pos h62]) (by rw [t2, if_pos h62]; rfl))
                | (rw [r3] at h84; exact ih (k + 1) _ _ _ (by omega) (by omega) (fin _ _ (by rw [t3, if_neg h62, if_pos (Int32.not_le.mp h84), r3]) (by rw [t2, if_neg h62, r2, r3]; exact y1 (Int32.not_le.mp h84))))
                | (rw [r3] at h84; exact ih (k + 1) _ _ _ (by omega) (by omega) (fin _ _ (by rw [t3, if_neg h62, if_neg (Int32.not_lt.mpr h84), r3]) (by rw [t2, if_neg h62, r2, r3]; exact y2)))
              skip
          · skip
            refine y_ci (pc' := 78) (-1) xD_145 rfl rfl rfl rfl ?_
            refine y_goto (pc' := 96) xD_145 rfl rfl ?_
            refine y_callV xD_145 rfl rfl rfl rfl (by first | rfl | assumption) rfl rfl rfl rfl (s_ssecond hR hs _ (k - 1) (by omega) e0 rfl) (fun v h' hq => ?_)
            obtain ⟨rfl, rfl⟩ := hq
            refine y_inc (pc' := 102) (nI (k + 1)) xD_145 rfl rfl rfl e5 rfl rfl ?_
            refine y_goto (pc' := 4) xD_145 rfl rfl ?_
            rw [r3] at h62
            first
              | exact absurd h74 h62
              | exact absurd h62 h74
              | (rw [r3] at h74; exact absurd h74 h62)
              | (rw [r3] at h74; exact absurd h62 h74)
              | exact ih (k + 1) _ _ _ (by omega) (by omega) (fin _ _ (by rw [t3, if_pos h62]) (by rw [t2, if_pos h62]; rfl))
              | (rw [r3] at h84; exact ih (k + 1) _ _ _ (by omega) (by omega) (fin _ _ (by rw [t3, if_neg h62, if_pos (Int32.not_le.mp h84), r3]) (by rw [t2, if_neg h62, r2, r3]; exact y1 (Int32.not_le.mp h84))))
              | (rw [r3] at h84; exact ih (k + 1) _ _ _ (by omega) (by omega) (fin _ _ (by rw [t3, if_neg h62, if_neg (Int32.not_lt.mpr h84), r3]) (by rw [t2, if_neg h62, r2, r3]; exact y2)))
            skip
  refine y_loc (pc' := 1) xD_145 rfl rfl rfl rfl ?_
  refine y_ci (pc' := 2) (1) xD_145 rfl rfl rfl rfl ?_
  refine y_iadd (pc' := 3) xD_145 rfl (nI_1 p) rfl ?_
  refine y_loc (pc' := 4) xD_145 rfl rfl rfl rfl ?_
  have e : xrow I 262 (sl1 (I 262) s (slM I s)) = I := by
    refine Eq.trans ?_ (xrow_id (f := I) (a := 262))
    congr 1
    funext i
    unfold sl1 slM
    by_cases h : i / 24 = s
    · rw [if_pos h]; congr 1; omega
    · rw [if_neg h]
  have key := loop (n - p) (p + 1) (slM I s) none none (by omega) (by omega) (fun i q hi hq => ⟨fun h => by unfold tkO; rw [if_pos (by omega)], fun _ => rfl⟩)
  rw [e] at key
  exact key
end MT
end
section
/-! Room made for a step. -/
theorem xu_row_c {α : Type} {f : Nat → Nat → α} {x y i : Nat} {g : Nat → α} {v : α} (h : x ≠ y) : xu (xrow f y g) x i v = xrow (xu f x i v) y g := by
  funext b j
  unfold xu xrow
  by_cases h1 : b = y
  · rw [if_pos h1, if_neg (fun q => h (by rw [← q.1, h1])), if_pos h1]
  · rw [if_neg h1, if_neg h1]
def mkR (f : Nat → Int32) (p j q : Nat) : Int32 :=
  if j < p then f (4 * j + q) else if q < 3 then f (4 * (j - 1) + q) else if f (4 * (j - 1) + 3) < nI p then f (4 * (j - 1) + 3) else f (4 * (j - 1) + 3) + 1
section MR
variable {S : XS} {d a s : Nat} {I : Nat → Nat → Int32} {J : Nat → Nat → Int64} {R : Nat → Nat → Option Nat}
/-- Case.makeRoom -/
theorem s_makeRoom (hR : RF R) (hc : isCase a) (n p : Nat) (hn : I a 3 = nI n) (hn6 : n < 6) (hp : p ≤ n) {xp : Int32} (e1 : xp = nI p) :
    XP S (d + 1) 74 0 (xent [.ref a, .int xp] 3) [] (hh I J R) (fun v h' => v = none ∧ ∃ g, (∀ i q, i < n + 1 → i ≠ p → q < 4 → g (4 * i + q) = mkR (I (a + 1)) p i q) ∧ h' = hh (xrow (xu I a 3 (nI (n + 1))) (a + 1) g) J R) := by
  subst e1
  have ka := (kCase hc).1
  have ka1 := (kCase hc).2.1
  have ra := (hR.2 a hc).1
  have loop : ∀ (f k : Nat) (g : Nat → Int32), k + f = n + 1 → p < k → (∀ i q, i < n + 1 → i ≠ p → q < 4 → g (4 * i + q) = if i < k then mkR (I (a + 1)) p i q else I (a + 1) (4 * (i - 1) + q)) →
      XP S (d + 1) 74 41 [some (.ref a), some (.int (nI p)), some (.int (nI k))] [] (hh (xrow (xu I a 3 (nI (n + 1))) (a + 1) g) J R) (fun v h' => v = none ∧ ∃ g, (∀ i q, i < n + 1 → i ≠ p → q < 4 → g (4 * i + q) = mkR (I (a + 1)) p i q) ∧ h' = hh (xrow (xu I a 3 (nI (n + 1))) (a + 1) g) J R) := by
    intro f
    induction f with
    | zero =>
      intro k g hk hpk hg
      have hk : k = n + 1 := by omega
      subst hk
      have ea : xrow (xu I a 3 (nI (n + 1))) (a + 1) g a 3 = nI (n + 1) := by rw [xrow_ne (by omega), xu_ii]
      refine y_loc (pc' := 42) xD_74 rfl rfl rfl rfl ?_
      refine y_loc (pc' := 43) xD_74 rfl rfl rfl rfl ?_
      refine m_getI (pc' := 46) xD_74 rfl rfl rfl (by first | rfl | assumption) (ea) rfl ?_
      refine y_icge (pt := 79) (pf := 49) xD_74 rfl rfl rfl (fun h46 => ?_) (fun h46 => ?_)
      · skip
        refine y_retV xD_74 rfl rfl ?_
        exact ⟨rfl, g, fun i q hi hip hq => by rw [hg i q hi hip hq, if_pos hi], rfl⟩
      · exact absurd (Int32.le_refl _) h46
    | succ f ih =>
      intro k g hk hpk hg
      have ea : xrow (xu I a 3 (nI (n + 1))) (a + 1) g a 3 = nI (n + 1) := by rw [xrow_ne (by omega), xu_ii]
      have e5 : nI k + 1 = nI (k + 1) := nI_1 k
      have hr : g (4 * k + 3) = I (a + 1) (4 * (k - 1) + 3) := by rw [hg k 3 (by omega) (by omega) (by decide), if_neg (by omega)]
      have ix : nI k * 4 + 3 = nI (4 * k + 3) := by show nI k * nI 4 + nI 3 = _; rw [pk_mul, nI_add, Nat.mul_comm]
      have up : ∀ v : Int32, v = mkR (I (a + 1)) p k 3 → ∀ i q, i < n + 1 → i ≠ p → q < 4 → upd g (4 * k + 3) v (4 * i + q) = if i < k + 1 then mkR (I (a + 1)) p i q else I (a + 1) (4 * (i - 1) + q) := by
        intro v hv i q hi hip hq
        rw [upd4 (by decide) hq]
        by_cases h : i = k ∧ q = 3
        · rw [if_pos h, if_pos (by omega), h.1, h.2]; exact hv
        · rw [if_neg h, hg i q hi hip hq]
          by_cases h1 : i < k
          · rw [if_pos h1, if_pos (by omega)]
          · rw [if_neg h1]
            by_cases h2 : i = k
            · subst h2
              rw [if_pos (by omega)]
              unfold mkR
              rw [if_neg (by omega), if_pos (by omega)]
            · rw [if_neg (by omega)]
      have nu : g = upd g (4 * k + 3) (g (4 * k + 3)) := by
        funext i
        by_cases h : i = 4 * k + 3
        · subst h; rw [pk_us]
        · rw [pk_un h]
      have t3 : mkR (I (a + 1)) p k 3 = if I (a + 1) (4 * (k - 1) + 3) < nI p then I (a + 1) (4 * (k - 1) + 3) else I (a + 1) (4 * (k - 1) + 3) + 1 := by
        unfold mkR
        rw [if_neg (by omega), if_neg (by decide)]
      refine y_loc (pc' := 42) xD_74 rfl rfl rfl rfl ?_
      refine y_loc (pc' := 43) xD_74 rfl rfl rfl rfl ?_
      refine m_getI (pc' := 46) xD_74 rfl rfl rfl (by first | rfl | assumption) (ea) rfl ?_
      refine y_icge (pt := 79) (pf := 49) xD_74 rfl rfl rfl (fun h46 => ?_) (fun h46 => ?_)
      · exact absurd h46 (nI_ge (by omega) (by omega))
      · skip
        refine y_loc (pc' := 50) xD_74 rfl rfl rfl rfl ?_
        refine y_loc (pc' := 51) xD_74 rfl rfl rfl rfl ?_
        refine y_ci (pc' := 52) (3) xD_74 rfl rfl rfl rfl ?_
        refine y_callV xD_74 rfl rfl rfl rfl (by first | rfl | assumption) rfl rfl rfl rfl (s_part hR hc k 3 (by omega) (by decide) rfl rfl) (fun v h' hq => ?_)
        obtain ⟨rfl, rfl⟩ := hq
        rw [xrow_at, hr]
        refine y_loc (pc' := 56) xD_74 rfl rfl rfl rfl ?_
        refine y_iclt (pt := 73) (pf := 59) xD_74 rfl rfl rfl (fun h56 => ?_) (fun h56 => ?_)
        · skip
          refine y_inc (pc' := 76) (nI (k + 1)) xD_74 rfl rfl rfl e5 rfl rfl ?_
          refine y_goto (pc' := 41) xD_74 rfl rfl ?_
          first
            | exact ih (k + 1) _ (by omega) (by omega) (up _ (by rw [t3, if_neg h56]))
            | exact ih (k + 1) g (by omega) (by omega) (by rw [nu]; exact up _ (by rw [t3, if_pos h56, hr]))
          skip
        · skip
          refine y_loc (pc' := 60) xD_74 rfl rfl rfl rfl ?_
          first | refine m_getR (pc' := 63) xD_74 rfl rfl rfl rfl (hR.1 _ _ _ rfl) rfl ?_ | refine m_getR (pc' := 63) xD_74 rfl rfl (by first | rfl | assumption) rfl (by assumption) rfl ?_
          refine y_loc (pc' := 64) xD_74 rfl rfl rfl rfl ?_
          refine y_ci (pc' := 65) (4) xD_74 rfl rfl rfl rfl ?_
          refine y_op (pc' := 66) xD_74 rfl rfl rfl rfl ?_
          refine y_ci (pc' := 67) (3) xD_74 rfl rfl rfl rfl ?_
          refine y_op (pc' := 68) xD_74 rfl rfl rfl rfl ?_
          refine y_op (pc' := 69) xD_74 rfl rfl rfl rfl ?_
          refine m_iald (pc' := 70) (4 * k + 3) xD_74 rfl (by first | rfl | assumption) (by first | assumption | omega) (by first | decide | assumption) (by first | decide | omega) ix rfl ?_
          rw [xrow_at, hr]
          refine y_ci (pc' := 71) (1) xD_74 rfl rfl rfl rfl ?_
          refine y_op (pc' := 72) xD_74 rfl rfl rfl rfl ?_
          refine m_iast (pc' := 73) (4 * k + 3) xD_74 rfl (by first | rfl | assumption) (by first | assumption | omega) (by first | decide | assumption) ix rfl ?_
          rw [xu_rowI, xrow_row, xrow_at]
          refine y_inc (pc' := 76) (nI (k + 1)) xD_74 rfl rfl rfl e5 rfl rfl ?_
          refine y_goto (pc' := 41) xD_74 rfl rfl ?_
          first
            | exact ih (k + 1) _ (by omega) (by omega) (up _ (by rw [t3, if_neg h56]))
            | exact ih (k + 1) g (by omega) (by omega) (by rw [nu]; exact up _ (by rw [t3, if_pos h56, hr]))
          skip
  refine y_loc (pc' := 1) xD_74 rfl rfl rfl rfl ?_
  first | refine m_getR (pc' := 4) xD_74 rfl rfl rfl rfl (hR.1 _ _ _ rfl) rfl ?_ | refine m_getR (pc' := 4) xD_74 rfl rfl (by first | rfl | assumption) rfl (by assumption) rfl ?_
  refine y_loc (pc' := 5) xD_74 rfl rfl rfl rfl ?_
  refine y_ci (pc' := 6) (4) xD_74 rfl rfl rfl rfl ?_
  refine y_op (pc' := 7) xD_74 rfl rfl rfl rfl ?_
  refine y_loc (pc' := 8) xD_74 rfl rfl rfl rfl ?_
  first | refine m_getR (pc' := 11) xD_74 rfl rfl rfl rfl (hR.1 _ _ _ rfl) rfl ?_ | refine m_getR (pc' := 11) xD_74 rfl rfl (by first | rfl | assumption) rfl (by assumption) rfl ?_
  refine y_loc (pc' := 12) xD_74 rfl rfl rfl rfl ?_
  refine y_ci (pc' := 13) (1) xD_74 rfl rfl rfl rfl ?_
  refine y_op (pc' := 14) xD_74 rfl rfl rfl rfl ?_
  refine y_ci (pc' := 15) (4) xD_74 rfl rfl rfl rfl ?_
  refine y_op (pc' := 16) xD_74 rfl rfl rfl rfl ?_
  refine y_loc (pc' := 17) xD_74 rfl rfl rfl rfl ?_
  refine m_get (pc' := 20) xD_74 rfl rfl (by first | rfl | assumption) rfl rfl ?_
  refine y_loc (pc' := 21) xD_74 rfl rfl rfl rfl ?_
  refine y_op (pc' := 22) xD_74 rfl rfl rfl rfl ?_
  refine y_ci (pc' := 23) (4) xD_74 rfl rfl rfl rfl ?_
  refine y_op (pc' := 24) xD_74 rfl rfl rfl rfl ?_
  refine m_cpyI (pc' := 27) (4 * p) (4 * (p + 1)) (4 * (n - p)) xD_74 rfl rfl rfl rfl ka1 ka1 (by omega) (by omega) (by decide) (by decide) (by show nI p * nI 4 = _; rw [pk_mul, Nat.mul_comm]) (by show (nI p + nI 1) * nI 4 = _; rw [nI_add, pk_mul, Nat.mul_comm]) (by show (I a 3 - nI p) * nI 4 = _; rw [hn, pk_sub hp, pk_mul, Nat.mul_comm]) rfl ?_
  refine y_loc (pc' := 28) xD_74 rfl rfl rfl rfl ?_
  refine y_op (pc' := 29) xD_74 rfl rfl rfl rfl ?_
  refine m_getI (pc' := 32) xD_74 rfl rfl rfl (by first | rfl | assumption) ((show xrow I (a + 1) _ a 3 = nI n by rw [xrow_ne (by omega), hn])) rfl ?_
  refine y_ci (pc' := 33) (1) xD_74 rfl rfl rfl rfl ?_
  refine y_iadd (pc' := 34) xD_74 rfl (nI_1 n) rfl ?_
  refine m_putI (pc' := 37) xD_74 rfl rfl (by first | rfl | assumption) rfl rfl rfl ?_
  rw [xu_row_c (show a ≠ a + 1 by omega)]
  refine y_loc (pc' := 38) xD_74 rfl rfl rfl rfl ?_
  refine y_ci (pc' := 39) (1) xD_74 rfl rfl rfl rfl ?_
  refine y_iadd (pc' := 40) xD_74 rfl (nI_1 p) rfl ?_
  refine y_loc (pc' := 41) xD_74 rfl rfl rfl rfl ?_
  refine loop (n - p) (p + 1) _ (by omega) (by omega) (fun i q hi hip hq => ?_)
  by_cases h : i < p
  · rw [if_pos (by omega), pk_cpy_out (by omega)]
    unfold mkR
    rw [if_pos h]
  · rw [if_neg (by omega), pk_cpy_in (by omega) (by omega)]
    congr 1
    omega
/-- the model's makeRoom -/
theorem s_mmakeRoom (hR : RF R) (hs : s < 67) (n p : Nat) (hn : I 263 s = nI n) (hn6 : n < 6) (hp : p ≤ n) (hV : ∀ j, j < n → VT (slM I s) j) {xs xp : Int32} (e0 : xs = nI s) (e1 : xp = nI p) :
    XP S (d + 1) 144 0 (xent [.ref 261, .int xs, .int xp] 6) [] (hh I J R) (fun v h' => v = none ∧ ∃ g, (∀ i q, i < n + 1 → i ≠ p → q < 4 → g (4 * i + q) = mkR (slM I s) p i q) ∧ h' = hh (xu (xrow I 262 (sl1 (I 262) s g)) 263 s (nI (n + 1))) J R) := by
  subst e1
  have hdc : ∀ p, p < 7 → nI p - 1 < nI p := by decide
  have loop : ∀ (f k : Nat) (g : Nat → Int32) (xj : Int32) (q4 q5 : Option Value), k = p + f → k ≤ n → xj = nI k - 1 → (∀ i q, i < n + 1 → q < 4 → (k < i → g (4 * i + q) = mkR (slM I s) p i q) ∧ (i < k → g (4 * i + q) = slM I s (4 * i + q))) →
      XP S (d + 1) 144 9 [some (.ref 261), some (.int xs), some (.int (nI p)), some (.int xj), q4, q5] [] (hh (xrow I 262 (sl1 (I 262) s g)) J R) (fun v h' => v = none ∧ ∃ g, (∀ i q, i < n + 1 → i ≠ p → q < 4 → g (4 * i + q) = mkR (slM I s) p i q) ∧ h' = hh (xu (xrow I 262 (sl1 (I 262) s g)) 263 s (nI (n + 1))) J R) := by
    intro f
    induction f with
    | zero =>
      intro k g xj q4 q5 hk hkn hj hg
      have hk : k = p := by omega
      subst hk
      have ea : xrow I 262 (sl1 (I 262) s g) 263 s = nI n := by rw [xrow_ne (by decide), hn]
      refine y_loc (pc' := 10) xD_144 rfl rfl rfl rfl ?_
      refine y_loc (pc' := 11) xD_144 rfl rfl rfl rfl ?_
      refine y_iclt (pt := 85) (pf := 14) xD_144 rfl rfl rfl (fun h11 => ?_) (fun h11 => ?_)
      · skip
        refine y_loc (pc' := 86) xD_144 rfl rfl rfl rfl ?_
        first | refine m_getR (pc' := 89) xD_144 rfl rfl rfl rfl (hR.1 _ _ _ rfl) rfl ?_ | refine m_getR (pc' := 89) xD_144 rfl rfl (by first | rfl | assumption) rfl (by assumption) rfl ?_
        refine y_loc (pc' := 90) xD_144 rfl rfl rfl rfl ?_
        refine y_op (pc' := 91) xD_144 rfl rfl rfl rfl ?_
        refine m_iald (pc' := 92) (s) xD_144 rfl (by first | rfl | assumption) (by first | assumption | omega) (by first | decide | assumption) (by first | decide | omega) (by first | rfl | assumption) rfl ?_
        rw [ea]
        refine y_ci (pc' := 93) (1) xD_144 rfl rfl rfl rfl ?_
        refine y_iadd (pc' := 94) xD_144 rfl (nI_1 n) rfl ?_
        refine m_iast (pc' := 95) (s) xD_144 rfl (by first | rfl | assumption) (by first | assumption | omega) (by first | decide | assumption) (by first | rfl | assumption) rfl ?_
        refine y_retV xD_144 rfl rfl ?_
        refine ⟨rfl, g, fun i q hi hip hq => ?_, rfl⟩
        by_cases h : i < k
        · rw [(hg i q hi hq).2 h]
          unfold mkR
          rw [if_pos h]
        · exact (hg i q hi hq).1 (by omega)
      · exact absurd (by rw [hj]; exact hdc k (by omega)) h11
    | succ f ih =>
      intro k g xj q4 q5 hk hkn hj hg
      obtain ⟨m, rfl⟩ : ∃ m, k = m + 1 := ⟨p + f, by omega⟩
      have hj : xj = nI m := by rw [hj]; exact pk_sub (a := m + 1) (b := 1) (by omega)
      subst hj
      have m6 : m < 6 := by omega
      have e6 : nI m + (-1) = nI m - 1 := by rw [Int32.sub_eq_add_neg]
      have r3 := (hg m 3 (by omega) (by decide)).2 (by omega)
      have r2 := (hg m 2 (by omega) (by decide)).2 (by omega)
      have r1 := (hg m 1 (by omega) (by decide)).2 (by omega)
      have r0 := (hg m 0 (by omega) (by decide)).2 (by omega)
      have hy : ∀ z : Int32, (z = slM I s (4 * m + 3) ∨ z = slM I s (4 * m + 3) + 1 ∧ ¬ slM I s (4 * m + 3) < nI p) → (if z < 0 then slM I s (4 * m + 2) else 0) = slM I s (4 * m + 2) := fun z hz => by
        rcases (hV m (by omega)).2 with e | ⟨r, _, _, e⟩
        · rcases hz with hz | ⟨_, hz⟩
          · rw [hz, e, if_pos (by decide)]
          · rw [e] at hz
            have h0 := Int32.not_lt.mp hz
            exact absurd (Int32.lt_of_le_of_lt h0 (by decide)) (nI_pos (by omega))
        · rw [e, ite_self]
      have fin : ∀ (r : Int32), r = mkR (slM I s) p (m + 1) 3 → (if r < 0 then g (4 * m + 2) else 0) = slM I s (4 * m + 2) → ∀ i q, i < n + 1 → q < 4 → (m < i → w2 (w4 g (4 * (m + 1)) (g (4 * m + 0)) (g (4 * m + 1)) 0 (-1)) (4 * (m + 1)) (if r < 0 then g (4 * m + 2) else 0) r (4 * i + q) = mkR (slM I s) p i q) ∧ (i < m → w2 (w4 g (4 * (m + 1)) (g (4 * m + 0)) (g (4 * m + 1)) 0 (-1)) (4 * (m + 1)) (if r < 0 then g (4 * m + 2) else 0) r (4 * i + q) = slM I s (4 * i + q)) := by
        intro r h3 h2 i q hi hq
        rw [w2_w4, w4_pt hq, r0, r1, h2]
        refine ⟨fun h => ?_, fun h => ?_⟩
        · by_cases hik : i = m + 1
          · rw [if_pos hik, hik]
            by_cases q0 : q = 0
            · rw [if_pos q0, q0]; unfold mkR; rw [if_neg (by omega), if_pos (by decide)]; rfl
            · by_cases q1 : q = 1
              · rw [if_neg q0, if_pos q1, q1]; unfold mkR; rw [if_neg (by omega), if_pos (by decide)]; rfl
              · by_cases q2 : q = 2
                · rw [if_neg q0, if_neg q1, if_pos q2, q2]; unfold mkR; rw [if_neg (by omega), if_pos (by decide)]; rfl
                · rw [if_neg q0, if_neg q1, if_neg q2, show q = 3 by omega]; exact h3
          · rw [if_neg hik]; exact (hg i q hi hq).1 (by omega)
        · rw [if_neg (by omega)]; exact (hg i q hi hq).2 (by omega)
      have t3 : mkR (slM I s) p (m + 1) 3 = if slM I s (4 * m + 3) < nI p then slM I s (4 * m + 3) else slM I s (4 * m + 3) + 1 := by
        unfold mkR
        rw [if_neg (by omega), if_neg (by decide)]
        rfl
      refine y_loc (pc' := 10) xD_144 rfl rfl rfl rfl ?_
      refine y_loc (pc' := 11) xD_144 rfl rfl rfl rfl ?_
      refine y_iclt (pt := 85) (pf := 14) xD_144 rfl rfl rfl (fun h11 => ?_) (fun h11 => ?_)
      · exact absurd h11 (Int32.not_lt.mpr ((nI_leI (by omega) (by omega)).mpr (by omega)))
      · skip
        refine y_loc (pc' := 15) xD_144 rfl rfl rfl rfl ?_
        refine y_loc (pc' := 16) xD_144 rfl rfl rfl rfl ?_
        refine y_loc (pc' := 17) xD_144 rfl rfl rfl rfl ?_
        refine y_ci (pc' := 18) (3) xD_144 rfl rfl rfl rfl ?_
        refine y_callV xD_144 rfl rfl rfl rfl (by first | rfl | assumption) rfl rfl rfl rfl (s_spart hR hs g m 3 m6 (by decide) e0 rfl rfl) (fun v h' hq => ?_)
        obtain ⟨rfl, rfl⟩ := hq
        refine y_loc (pc' := 23) xD_144 rfl rfl rfl rfl ?_
        refine y_loc (pc' := 24) xD_144 rfl rfl rfl rfl ?_
        refine y_loc (pc' := 25) xD_144 rfl rfl rfl rfl ?_
        refine y_loc (pc' := 26) xD_144 rfl rfl rfl rfl ?_
        refine y_ci (pc' := 27) (2) xD_144 rfl rfl rfl rfl ?_
        refine y_callV xD_144 rfl rfl rfl rfl (by first | rfl | assumption) rfl rfl rfl rfl (s_spart hR hs g m 2 m6 (by decide) e0 rfl rfl) (fun v h' hq => ?_)
        obtain ⟨rfl, rfl⟩ := hq
        refine y_loc (pc' := 32) xD_144 rfl rfl rfl rfl ?_
        refine y_loc (pc' := 33) xD_144 rfl rfl rfl rfl ?_
        refine y_loc (pc' := 34) xD_144 rfl rfl rfl rfl ?_
        refine y_loc (pc' := 35) xD_144 rfl rfl rfl rfl ?_
        refine y_ci (pc' := 36) (1) xD_144 rfl rfl rfl rfl ?_
        refine y_iadd (pc' := 37) xD_144 rfl (nI_1 m) rfl ?_
        refine y_loc (pc' := 38) xD_144 rfl rfl rfl rfl ?_
        refine y_loc (pc' := 39) xD_144 rfl rfl rfl rfl ?_
        refine y_loc (pc' := 40) xD_144 rfl rfl rfl rfl ?_
        refine y_ci (pc' := 41) (0) xD_144 rfl rfl rfl rfl ?_
        refine y_callV xD_144 rfl rfl rfl rfl (by first | rfl | assumption) rfl rfl rfl rfl (s_spart hR hs g m 0 m6 (by decide) e0 rfl rfl) (fun v h' hq => ?_)
        obtain ⟨rfl, rfl⟩ := hq
        refine y_loc (pc' := 45) xD_144 rfl rfl rfl rfl ?_
        refine y_loc (pc' := 46) xD_144 rfl rfl rfl rfl ?_
        refine y_loc (pc' := 47) xD_144 rfl rfl rfl rfl ?_
        refine y_ci (pc' := 48) (1) xD_144 rfl rfl rfl rfl ?_
        refine y_callV xD_144 rfl rfl rfl rfl (by first | rfl | assumption) rfl rfl rfl rfl (s_spart hR hs g m 1 m6 (by decide) e0 rfl rfl) (fun v h' hq => ?_)
        obtain ⟨rfl, rfl⟩ := hq
        skip
        refine y_callV xD_144 rfl rfl rfl rfl (by first | rfl | assumption) rfl rfl rfl rfl (s_swrite hR hs g (m + 1) (by omega) e0 rfl) (fun v h' hq => ?_)
        obtain ⟨rfl, rfl⟩ := hq
        refine y_loc (pc' := 55) xD_144 rfl rfl rfl rfl ?_
        refine y_loc (pc' := 56) xD_144 rfl rfl rfl rfl ?_
        refine y_loc (pc' := 57) xD_144 rfl rfl rfl rfl ?_
        refine y_ci (pc' := 58) (1) xD_144 rfl rfl rfl rfl ?_
        refine y_iadd (pc' := 59) xD_144 rfl (nI_1 m) rfl ?_
        refine y_loc (pc' := 61) xD_144 rfl rfl rfl rfl ?_
        refine y_loc (pc' := 63) xD_144 rfl rfl rfl rfl ?_
        refine y_loc (pc' := 64) xD_144 rfl rfl rfl rfl ?_
        refine y_iclt (pt := 74) (pf := 67) xD_144 rfl rfl rfl (fun h64 => ?_) (fun h64 => ?_)
        · skip
          refine y_loc (pc' := 76) xD_144 rfl rfl rfl rfl ?_
          refine y_callV xD_144 rfl rfl rfl rfl (by first | rfl | assumption) rfl rfl rfl rfl (s_ssecond hR hs _ (m + 1) (by omega) e0 rfl) (fun v h' hq => ?_)
          obtain ⟨rfl, rfl⟩ := hq
          refine y_inc (pc' := 82) (nI m - 1) xD_144 rfl rfl rfl e6 rfl rfl ?_
          refine y_goto (pc' := 9) xD_144 rfl rfl ?_
          rw [r3] at h64
          first
            | exact ih m _ _ _ _ (by omega) (by omega) rfl (fin _ (by rw [t3, if_neg h64, r3]) (by rw [r2, r3]; exact hy _ (Or.inr ⟨rfl, h64⟩)))
            | exact ih m _ _ _ _ (by omega) (by omega) rfl (fin _ (by rw [t3, if_pos h64, r3]) (by rw [r2, r3]; exact hy _ (Or.inl rfl)))
          skip
        · skip
          refine y_loc (pc' := 69) xD_144 rfl rfl rfl rfl ?_
          refine y_ci (pc' := 70) (1) xD_144 rfl rfl rfl rfl ?_
          refine y_op (pc' := 71) xD_144 rfl rfl rfl rfl ?_
          refine y_goto (pc' := 76) xD_144 rfl rfl ?_
          refine y_callV xD_144 rfl rfl rfl rfl (by first | rfl | assumption) rfl rfl rfl rfl (s_ssecond hR hs _ (m + 1) (by omega) e0 rfl) (fun v h' hq => ?_)
          obtain ⟨rfl, rfl⟩ := hq
          refine y_inc (pc' := 82) (nI m - 1) xD_144 rfl rfl rfl e6 rfl rfl ?_
          refine y_goto (pc' := 9) xD_144 rfl rfl ?_
          rw [r3] at h64
          first
            | exact ih m _ _ _ _ (by omega) (by omega) rfl (fin _ (by rw [t3, if_neg h64, r3]) (by rw [r2, r3]; exact hy _ (Or.inr ⟨rfl, h64⟩)))
            | exact ih m _ _ _ _ (by omega) (by omega) rfl (fin _ (by rw [t3, if_pos h64, r3]) (by rw [r2, r3]; exact hy _ (Or.inl rfl)))
          skip
  refine y_loc (pc' := 1) xD_144 rfl rfl rfl rfl ?_
  first | refine m_getR (pc' := 4) xD_144 rfl rfl rfl rfl (hR.1 _ _ _ rfl) rfl ?_ | refine m_getR (pc' := 4) xD_144 rfl rfl (by first | rfl | assumption) rfl (by assumption) rfl ?_
  refine y_loc (pc' := 5) xD_144 rfl rfl rfl rfl ?_
  refine m_iald (pc' := 6) (s) xD_144 rfl (by first | rfl | assumption) (by first | assumption | omega) (by first | decide | assumption) (by first | decide | omega) (by first | rfl | assumption) rfl ?_
  rw [hn]
  refine y_ci (pc' := 7) (1) xD_144 rfl rfl rfl rfl ?_
  refine y_op (pc' := 8) xD_144 rfl rfl rfl rfl ?_
  refine y_loc (pc' := 9) xD_144 rfl rfl rfl rfl ?_
  have e : xrow I 262 (sl1 (I 262) s (slM I s)) = I := by
    refine Eq.trans ?_ (xrow_id (f := I) (a := 262))
    congr 1
    funext i
    unfold sl1 slM
    by_cases h : i / 24 = s
    · rw [if_pos h]; congr 1; omega
    · rw [if_neg h]
  have key := loop (n - p) n (slM I s) (nI n - 1) none none (by omega) (Nat.le_refl _) rfl (fun i q hi hq => ⟨fun h => by omega, fun _ => rfl⟩)
  rw [e] at key
  exact key
end MR
end
section
/-! Two cases joined. -/
def jnO (f e : Nat → Int32) (s t j q : Nat) : Int32 :=
  if j < s then f (4 * j + q) else if q < 2 then e (4 * (j - s + t) + q) else if q = 2 then e (4 * (j - s + t) + 2) else if e (4 * (j - s + t) + 3) < nI t then -1 else e (4 * (j - s + t) + 3) - nI t + nI s
section JN
variable {S : XS} {d a b o : Nat} {I : Nat → Nat → Int32} {J : Nat → Nat → Int64} {R : Nat → Nat → Option Nat}
/-- Case.join -/
theorem s_join (hR : RF R) (ha : isCase a) (hb : isCase b) (ho : isCase o) (hab : a ≠ b) (hao : a ≠ o) (n s t : Nat) (hs : s < 6) (ht : t < n) (hn : I o 3 = nI n) (hn6 : n ≤ 6) {xs xt : Int32} (e0 : xs = nI s) (e1 : xt = nI t) {k : Nat} (hk : k = if s + n - t ≤ 6 then s + n - t else 6) :
    XP S (d + 1) 72 0 (xent [.ref a, .ref b, .int xs, .ref o, .int xt] 7) [] (hh I J R) (fun v h' => v = none ∧ ∃ g, (∀ i q, i < k → q < 4 → g (4 * i + q) = jnO (I (b + 1)) (I (o + 1)) s t i q) ∧ h' = hh (xrow (xu I a 3 (nI k)) (a + 1) g) J R) := by
  subst e0; subst e1
  have ka := (kCase ha).1
  have ka1 := (kCase ha).2.1
  have ra := (hR.2 a ha).1
  have kb := (kCase hb).1
  have kb1 := (kCase hb).2.1
  have rb := (hR.2 b hb).1
  have ko := (kCase ho).1
  have ko1 := (kCase ho).2.1
  have ro := (hR.2 o ho).1
  have hk6 : k ≤ 6 ∧ s ≤ k ∧ k + t ≤ s + n := by rw [hk]; split <;> omega
  have cab := case_1 ha hb
  have cao := case_1 ha ho
  have loop : ∀ (f j : Nat) (g : Nat → Int32) (q6 : Option Value), j + f = k → s ≤ j → (∀ i q, i < k → q < 4 → g (4 * i + q) = if i < j then jnO (I (b + 1)) (I (o + 1)) s t i q else I (o + 1) (4 * (i - s + t) + q)) →
      XP S (d + 1) 72 63 [some (.ref a), some (.ref b), some (.int (nI s)), some (.ref o), some (.int (nI t)), some (.int (nI j)), q6] [] (hh (xrow (xu I a 3 (nI k)) (a + 1) g) J R) (fun v h' => v = none ∧ ∃ g, (∀ i q, i < k → q < 4 → g (4 * i + q) = jnO (I (b + 1)) (I (o + 1)) s t i q) ∧ h' = hh (xrow (xu I a 3 (nI k)) (a + 1) g) J R) := by
    intro f
    induction f with
    | zero =>
      intro j g q6 hj hsj hg
      have hj : j = k := by omega
      subst hj
      have ea : xrow (xu I a 3 (nI j)) (a + 1) g a 3 = nI j := by rw [xrow_ne (by omega), xu_ii]
      refine y_loc (pc' := 65) xD_72 rfl rfl rfl rfl ?_
      refine y_loc (pc' := 66) xD_72 rfl rfl rfl rfl ?_
      refine m_getI (pc' := 69) xD_72 rfl rfl rfl (by first | rfl | assumption) (ea) rfl ?_
      refine y_icge (pt := 116) (pf := 72) xD_72 rfl rfl rfl (fun h69 => ?_) (fun h69 => ?_)
      · skip
        refine y_retV xD_72 rfl rfl ?_
        exact ⟨rfl, g, fun i q hi hq => by rw [hg i q hi hq, if_pos hi], rfl⟩
      · exact absurd (Int32.le_refl _) h69
    | succ f ih =>
      intro j g q6 hj hsj hg
      have ea : xrow (xu I a 3 (nI k)) (a + 1) g a 3 = nI k := by rw [xrow_ne (by omega), xu_ii]
      have e5 : nI j + 1 = nI (j + 1) := nI_1 j
      have hr : g (4 * j + 3) = I (o + 1) (4 * (j - s + t) + 3) := by rw [hg j 3 (by omega) (by decide), if_neg (by omega)]
      have ix : nI j * 4 + 3 = nI (4 * j + 3) := by show nI j * nI 4 + nI 3 = _; rw [pk_mul, nI_add, Nat.mul_comm]
      have up : ∀ v : Int32, v = jnO (I (b + 1)) (I (o + 1)) s t j 3 → ∀ i q, i < k → q < 4 → upd g (4 * j + 3) v (4 * i + q) = if i < j + 1 then jnO (I (b + 1)) (I (o + 1)) s t i q else I (o + 1) (4 * (i - s + t) + q) := by
        intro v hv i q hi hq
        rw [upd4 (by decide) hq]
        by_cases h : i = j ∧ q = 3
        · rw [if_pos h, if_pos (by omega), h.1, h.2]; exact hv
        · rw [if_neg h, hg i q hi hq]
          by_cases h1 : i < j
          · rw [if_pos h1, if_pos (by omega)]
          · rw [if_neg h1]
            by_cases h2 : i = j
            · subst h2
              rw [if_pos (by omega)]
              unfold jnO
              rw [if_neg (by omega)]
              by_cases h3 : q < 2
              · rw [if_pos h3]
              · rw [if_neg h3, if_pos (by omega), show q = 2 by omega]
            · rw [if_neg (by omega)]
      have t3 : jnO (I (b + 1)) (I (o + 1)) s t j 3 = if I (o + 1) (4 * (j - s + t) + 3) < nI t then -1 else I (o + 1) (4 * (j - s + t) + 3) - nI t + nI s := by
        unfold jnO
        rw [if_neg (by omega), if_neg (by decide), if_neg (by decide)]
      refine y_loc (pc' := 65) xD_72 rfl rfl rfl rfl ?_
      refine y_loc (pc' := 66) xD_72 rfl rfl rfl rfl ?_
      refine m_getI (pc' := 69) xD_72 rfl rfl rfl (by first | rfl | assumption) (ea) rfl ?_
      refine y_icge (pt := 116) (pf := 72) xD_72 rfl rfl rfl (fun h69 => ?_) (fun h69 => ?_)
      · exact absurd h69 (nI_ge (by omega) (by omega))
      · skip
        refine y_loc (pc' := 73) xD_72 rfl rfl rfl rfl ?_
        refine y_loc (pc' := 75) xD_72 rfl rfl rfl rfl ?_
        refine y_ci (pc' := 76) (3) xD_72 rfl rfl rfl rfl ?_
        refine y_callV xD_72 rfl rfl rfl rfl (by first | rfl | assumption) rfl rfl rfl rfl (s_part hR ha j 3 (by omega) (by decide) rfl rfl) (fun v h' hq => ?_)
        obtain ⟨rfl, rfl⟩ := hq
        rw [xrow_at, hr]
        refine y_loc (pc' := 81) xD_72 rfl rfl rfl rfl ?_
        refine y_loc (pc' := 82) xD_72 rfl rfl rfl rfl ?_
        first | refine m_getR (pc' := 85) xD_72 rfl rfl rfl rfl (hR.1 _ _ _ rfl) rfl ?_ | refine m_getR (pc' := 85) xD_72 rfl rfl (by first | rfl | assumption) rfl (by assumption) rfl ?_
        refine y_loc (pc' := 87) xD_72 rfl rfl rfl rfl ?_
        refine y_ci (pc' := 88) (4) xD_72 rfl rfl rfl rfl ?_
        refine y_op (pc' := 89) xD_72 rfl rfl rfl rfl ?_
        refine y_ci (pc' := 90) (3) xD_72 rfl rfl rfl rfl ?_
        refine y_op (pc' := 91) xD_72 rfl rfl rfl rfl ?_
        refine y_loc (pc' := 93) xD_72 rfl rfl rfl rfl ?_
        refine y_loc (pc' := 95) xD_72 rfl rfl rfl rfl ?_
        refine y_icge (pt := 102) (pf := 98) xD_72 rfl rfl rfl (fun h95 => ?_) (fun h95 => ?_)
        · skip
          refine y_loc (pc' := 104) xD_72 rfl rfl rfl rfl ?_
          refine y_loc (pc' := 106) xD_72 rfl rfl rfl rfl ?_
          refine y_op (pc' := 107) xD_72 rfl rfl rfl rfl ?_
          refine y_loc (pc' := 108) xD_72 rfl rfl rfl rfl ?_
          refine y_op (pc' := 109) xD_72 rfl rfl rfl rfl ?_
          refine m_iast (pc' := 110) (4 * j + 3) xD_72 rfl (by first | rfl | assumption) (by first | assumption | omega) (by first | decide | assumption) ix rfl ?_
          rw [xu_rowI, xrow_row, xrow_at]
          refine y_inc (pc' := 113) (nI (j + 1)) xD_72 rfl rfl rfl e5 rfl rfl ?_
          refine y_goto (pc' := 63) xD_72 rfl rfl ?_
          first
            | exact ih (j + 1) _ _ (by omega) (by omega) (up _ (by rw [t3, if_neg (Int32.not_lt.mpr h95)]))
            | exact ih (j + 1) _ _ (by omega) (by omega) (up _ (by rw [t3, if_pos (Int32.not_le.mp h95)]))
          skip
        · skip
          refine y_ci (pc' := 99) (-1) xD_72 rfl rfl rfl rfl ?_
          refine y_goto (pc' := 109) xD_72 rfl rfl ?_
          refine m_iast (pc' := 110) (4 * j + 3) xD_72 rfl (by first | rfl | assumption) (by first | assumption | omega) (by first | decide | assumption) ix rfl ?_
          rw [xu_rowI, xrow_row, xrow_at]
          refine y_inc (pc' := 113) (nI (j + 1)) xD_72 rfl rfl rfl e5 rfl rfl ?_
          refine y_goto (pc' := 63) xD_72 rfl rfl ?_
          first
            | exact ih (j + 1) _ _ (by omega) (by omega) (up _ (by rw [t3, if_neg (Int32.not_lt.mpr h95)]))
            | exact ih (j + 1) _ _ (by omega) (by omega) (up _ (by rw [t3, if_pos (Int32.not_le.mp h95)]))
          skip
  have en : (if nI (s + n - t) ≤ nI 6 then nI (s + n - t) else nI 6) = nI k := by
    rw [hk]
    by_cases h : s + n - t ≤ 6
    · rw [if_pos h, if_pos ((nI_leI (by omega) (by omega)).mpr h)]
    · rw [if_neg h, if_neg (fun q => h ((nI_leI (by omega) (by omega)).mp q))]
  refine y_loc (pc' := 1) xD_72 rfl rfl rfl rfl ?_
  first | refine m_getR (pc' := 4) xD_72 rfl rfl rfl rfl (hR.1 _ _ _ rfl) rfl ?_ | refine m_getR (pc' := 4) xD_72 rfl rfl (by first | rfl | assumption) rfl (by assumption) rfl ?_
  refine y_ci (pc' := 5) (0) xD_72 rfl rfl rfl rfl ?_
  refine y_loc (pc' := 6) xD_72 rfl rfl rfl rfl ?_
  first | refine m_getR (pc' := 9) xD_72 rfl rfl rfl rfl (hR.1 _ _ _ rfl) rfl ?_ | refine m_getR (pc' := 9) xD_72 rfl rfl (by first | rfl | assumption) rfl (by assumption) rfl ?_
  refine y_ci (pc' := 10) (0) xD_72 rfl rfl rfl rfl ?_
  refine y_loc (pc' := 11) xD_72 rfl rfl rfl rfl ?_
  refine y_ci (pc' := 12) (4) xD_72 rfl rfl rfl rfl ?_
  refine y_op (pc' := 13) xD_72 rfl rfl rfl rfl ?_
  refine m_cpyI (pc' := 16) 0 0 (4 * s) xD_72 rfl rfl rfl rfl kb1 ka1 (by omega) (by omega) (by decide) (by decide) rfl rfl (by show nI s * nI 4 = _; rw [pk_mul, Nat.mul_comm]) rfl ?_
  refine y_loc (pc' := 17) xD_72 rfl rfl rfl rfl ?_
  refine y_loc (pc' := 18) xD_72 rfl rfl rfl rfl ?_
  refine y_loc (pc' := 19) xD_72 rfl rfl rfl rfl ?_
  refine m_getI (pc' := 22) xD_72 rfl rfl rfl (by first | rfl | assumption) ((show xrow I (a + 1) _ o 3 = nI n by rw [xrow_ne cao.1, hn])) rfl ?_
  refine y_iadd (pc' := 23) xD_72 rfl (nI_add s n) rfl ?_
  refine y_loc (pc' := 25) xD_72 rfl rfl rfl rfl ?_
  refine y_isub (pc' := 26) xD_72 rfl ((pk_sub (a := s + n) (b := t) (by omega))) rfl ?_
  refine y_ci (pc' := 28) (6) xD_72 rfl rfl rfl rfl ?_
  refine y_callS xD_72 rfl rfl rfl rfl rfl rfl rfl rfl (s_min) (fun v h' hq => ?_)
  obtain ⟨rfl, rfl⟩ := hq
  rw [show (6 : Int32) = nI 6 from rfl, en]
  refine m_putI (pc' := 34) xD_72 rfl rfl (by first | rfl | assumption) rfl rfl rfl ?_
  rw [xu_row_c (show a ≠ a + 1 by omega)]
  refine y_loc (pc' := 35) xD_72 rfl rfl rfl rfl ?_
  first | refine m_getR (pc' := 38) xD_72 rfl rfl rfl rfl (hR.1 _ _ _ rfl) rfl ?_ | refine m_getR (pc' := 38) xD_72 rfl rfl (by first | rfl | assumption) rfl (by assumption) rfl ?_
  refine y_loc (pc' := 40) xD_72 rfl rfl rfl rfl ?_
  refine y_ci (pc' := 41) (4) xD_72 rfl rfl rfl rfl ?_
  refine y_op (pc' := 42) xD_72 rfl rfl rfl rfl ?_
  refine y_loc (pc' := 43) xD_72 rfl rfl rfl rfl ?_
  first | refine m_getR (pc' := 46) xD_72 rfl rfl rfl rfl (hR.1 _ _ _ rfl) rfl ?_ | refine m_getR (pc' := 46) xD_72 rfl rfl (by first | rfl | assumption) rfl (by assumption) rfl ?_
  refine y_loc (pc' := 47) xD_72 rfl rfl rfl rfl ?_
  refine y_ci (pc' := 48) (4) xD_72 rfl rfl rfl rfl ?_
  refine y_op (pc' := 49) xD_72 rfl rfl rfl rfl ?_
  refine y_loc (pc' := 50) xD_72 rfl rfl rfl rfl ?_
  refine m_getI (pc' := 53) xD_72 rfl rfl rfl (by first | rfl | assumption) ((show xrow (xu I a 3 (nI k)) (a + 1) _ a 3 = nI k by rw [xrow_ne (by omega), xu_ii])) rfl ?_
  refine y_loc (pc' := 54) xD_72 rfl rfl rfl rfl ?_
  refine y_op (pc' := 55) xD_72 rfl rfl rfl rfl ?_
  refine y_ci (pc' := 56) (4) xD_72 rfl rfl rfl rfl ?_
  refine y_op (pc' := 57) xD_72 rfl rfl rfl rfl ?_
  refine m_cpyI (pc' := 60) (4 * t) (4 * s) (4 * (k - s)) xD_72 rfl rfl rfl rfl ko1 ka1 (by omega) (by omega) (by decide) (by decide) (by show nI t * nI 4 = _; rw [pk_mul, Nat.mul_comm]) (by show nI s * nI 4 = _; rw [pk_mul, Nat.mul_comm]) (by show (nI k - nI s) * nI 4 = _; rw [pk_sub hk6.2.1, pk_mul, Nat.mul_comm]) rfl ?_
  rw [xrow_row]
  refine y_loc (pc' := 61) xD_72 rfl rfl rfl rfl ?_
  refine y_loc (pc' := 63) xD_72 rfl rfl rfl rfl ?_
  have coa := (case_1 ho ha).1
  have eo : xu I a 3 (nI k) (o + 1) = I (o + 1) := by funext y; unfold xu; rw [if_neg (by omega)]
  rw [xrow_at, xrow_ne (show o + 1 ≠ a + 1 by omega), eo]
  refine loop (k - s) s _ _ (by omega) (Nat.le_refl _) (fun i q hi hq => ?_)
  by_cases h : i < s
  · rw [if_pos h, pk_cpy_out (by omega), cpy_lt (by omega)]
    unfold jnO
    rw [if_pos h]
  · rw [if_neg h, pk_cpy_in (by omega) (by omega)]
    congr 1
    omega
end JN
end
section
/-! Two slots joined. -/
section MJ
variable {S : XS} {d fr0 to : Nat} {I : Nat → Nat → Int32} {J : Nat → Nat → Int64} {R : Nat → Nat → Option Nat}
theorem s_fpart (hR : RF R) (hf : fr0 < 67) (hne : fr0 ≠ to) (g : Nat → Int32) (j q : Nat) (hj : j < 6) (hq : q < 4) {xs xj xq : Int32} (e1 : xs = nI fr0) (e2 : xj = nI j) (e3 : xq = nI q) : XP S d 125 0 (xent [.ref 261, .int xs, .int xj, .int xq] 4) [] (hh (xrow I 262 (sl1 (I 262) to g)) J R) (rI (slM I fr0 (4 * j + q)) (hh (xrow I 262 (sl1 (I 262) to g)) J R)) := by
  have := s_mpart (S := S) (d := d) (I := xrow I 262 (sl1 (I 262) to g)) (J := J) hR hf j q hj hq e1 e2 e3
  have e : slM (xrow I 262 (sl1 (I 262) to g)) fr0 (4 * j + q) = slM I fr0 (4 * j + q) := by
    unfold slM
    rw [xrow_at]
    exact sl1_ne (by omega) hne
  rw [e] at this
  exact this
/-- the model's move -/
theorem s_move (hR : RF R) (hf : fr0 < 67) (ht : to < 67) (hne : fr0 ≠ to) (g : Nat → Int32) (j i : Nat) (hj : j < 6) (hi : i < 6) (hV : VT (slM I fr0) j) {x1 x2 x3 x4 least bye : Int32} (e1 : x1 = nI fr0) (e2 : x2 = nI j) (e3 : x3 = nI to) (e4 : x4 = nI i) :
    XP S (d + 1) 142 0 (xent [.ref 261, .int x1, .int x2, .int x3, .int x4, .int least, .int bye] 10) [] (hh (xrow I 262 (sl1 (I 262) to g)) J R) (rV (hh (xrow I 262 (sl1 (I 262) to (w4 g (4 * i) (slM I fr0 (4 * j)) (slM I fr0 (4 * j + 1)) (slM I fr0 (4 * j + 2)) (if slM I fr0 (4 * j + 3) < 0 ∨ slM I fr0 (4 * j + 3) < least then -1 else slM I fr0 (4 * j + 3) + bye)))) J R)) := by
  have hy : ¬ slM I fr0 (4 * j + 3) < 0 → slM I fr0 (4 * j + 2) = 0 := fun h => by
    rcases hV.2 with e | ⟨r, _, _, e⟩
    · rw [e] at h; exact absurd (by decide) h
    · exact e
  refine y_loc (pc' := 1) xD_142 rfl rfl rfl rfl ?_
  refine y_loc (pc' := 2) xD_142 rfl rfl rfl rfl ?_
  refine y_loc (pc' := 3) xD_142 rfl rfl rfl rfl ?_
  refine y_ci (pc' := 4) (2) xD_142 rfl rfl rfl rfl ?_
  refine y_callV xD_142 rfl rfl rfl rfl (by first | rfl | assumption) rfl rfl rfl rfl (s_fpart hR hf hne g j 2 hj (by decide) e1 e2 rfl) (fun v h' hq => ?_)
  obtain ⟨rfl, rfl⟩ := hq
  refine y_loc (pc' := 9) xD_142 rfl rfl rfl rfl ?_
  refine y_loc (pc' := 10) xD_142 rfl rfl rfl rfl ?_
  refine y_loc (pc' := 11) xD_142 rfl rfl rfl rfl ?_
  refine y_loc (pc' := 12) xD_142 rfl rfl rfl rfl ?_
  refine y_ci (pc' := 13) (3) xD_142 rfl rfl rfl rfl ?_
  refine y_callV xD_142 rfl rfl rfl rfl (by first | rfl | assumption) rfl rfl rfl rfl (s_fpart hR hf hne g j 3 hj (by decide) e1 e2 rfl) (fun v h' hq => ?_)
  obtain ⟨rfl, rfl⟩ := hq
  refine y_loc (pc' := 18) xD_142 rfl rfl rfl rfl ?_
  refine y_loc (pc' := 20) xD_142 rfl rfl rfl rfl ?_
  refine y_iflt (pt := 34) (pf := 23) xD_142 rfl rfl rfl (fun h20 => ?_) (fun h20 => ?_)
  · skip
    refine y_ci (pc' := 35) (0) xD_142 rfl rfl rfl rfl ?_
    refine y_loc (pc' := 37) xD_142 rfl rfl rfl rfl ?_
    refine y_loc (pc' := 38) xD_142 rfl rfl rfl rfl ?_
    refine y_loc (pc' := 39) xD_142 rfl rfl rfl rfl ?_
    refine y_loc (pc' := 41) xD_142 rfl rfl rfl rfl ?_
    refine y_loc (pc' := 42) xD_142 rfl rfl rfl rfl ?_
    refine y_loc (pc' := 43) xD_142 rfl rfl rfl rfl ?_
    refine y_loc (pc' := 44) xD_142 rfl rfl rfl rfl ?_
    refine y_ci (pc' := 45) (0) xD_142 rfl rfl rfl rfl ?_
    refine y_callV xD_142 rfl rfl rfl rfl (by first | rfl | assumption) rfl rfl rfl rfl (s_fpart hR hf hne g j 0 hj (by decide) e1 e2 rfl) (fun v h' hq => ?_)
    obtain ⟨rfl, rfl⟩ := hq
    refine y_loc (pc' := 49) xD_142 rfl rfl rfl rfl ?_
    refine y_loc (pc' := 50) xD_142 rfl rfl rfl rfl ?_
    refine y_loc (pc' := 51) xD_142 rfl rfl rfl rfl ?_
    refine y_ci (pc' := 52) (1) xD_142 rfl rfl rfl rfl ?_
    refine y_callV xD_142 rfl rfl rfl rfl (by first | rfl | assumption) rfl rfl rfl rfl (s_fpart hR hf hne g j 1 hj (by decide) e1 e2 rfl) (fun v h' hq => ?_)
    obtain ⟨rfl, rfl⟩ := hq
    refine y_callV xD_142 rfl rfl rfl rfl (by first | rfl | assumption) rfl rfl rfl rfl (s_swrite hR ht g i hi e3 e4) (fun v h' hq => ?_)
    obtain ⟨rfl, rfl⟩ := hq
    refine y_loc (pc' := 59) xD_142 rfl rfl rfl rfl ?_
    refine y_loc (pc' := 60) xD_142 rfl rfl rfl rfl ?_
    refine y_loc (pc' := 62) xD_142 rfl rfl rfl rfl ?_
    refine y_loc (pc' := 64) xD_142 rfl rfl rfl rfl ?_
    refine y_ifeq (pt := 71) (pf := 67) xD_142 rfl rfl rfl (fun h64 => ?_) (fun h64 => ?_)
    · skip
      first
      | exact absurd h64 (by decide)
      | (refine y_loc (pc' := 73) xD_142 rfl rfl rfl rfl ?_
         refine y_loc (pc' := 75) xD_142 rfl rfl rfl rfl ?_
         refine y_ifne (pt := 83) (pf := 78) xD_142 rfl rfl rfl (fun h75 => absurd rfl h75) (fun h75 => ?_)
         refine y_loc (pc' := 80) xD_142 rfl rfl rfl rfl ?_
         refine y_ifge (pt := 87) (pf := 83) xD_142 rfl rfl rfl (fun h80 => ?_) (fun h80 => ?_)
         · refine y_loc (pc' := 89) xD_142 rfl rfl rfl rfl ?_
           refine y_loc (pc' := 91) xD_142 rfl rfl rfl rfl ?_
           refine y_op (pc' := 92) xD_142 rfl rfl rfl rfl ?_
           refine y_callV xD_142 rfl rfl rfl rfl rfl rfl rfl rfl rfl (s_ssecond hR ht _ i hi e3 e4) (fun v h' hq => ?_)
           obtain ⟨rfl, rfl⟩ := hq
           refine y_retV xD_142 rfl rfl ?_
           refine ⟨rfl, ?_⟩
           first
             | exact absurd h80 (Int32.not_le.mpr h20)
             | (rw [w2_w4, if_neg (show ¬ (slM I fr0 (4 * j + 3) < 0 ∨ slM I fr0 (4 * j + 3) < least) from fun q => q.elim h20 (fun r => absurd h27 (Int32.not_le.mpr r))), hy h20, ite_self]; rfl)
         · refine y_ci (pc' := 84) (-1) xD_142 rfl rfl rfl rfl ?_
           refine y_goto (pc' := 92) xD_142 rfl rfl ?_
           refine y_callV xD_142 rfl rfl rfl rfl rfl rfl rfl rfl rfl (s_ssecond hR ht _ i hi e3 e4) (fun v h' hq => ?_)
           obtain ⟨rfl, rfl⟩ := hq
           refine y_retV xD_142 rfl rfl ?_
           refine ⟨rfl, ?_⟩
           rw [w2_w4, if_pos (Or.inl (Int32.not_le.mp h80)), if_pos (by decide)]
           rfl)
    · skip
      first
      | exact absurd (show (0 : Int32) = 0 from rfl) h64
      | (refine y_ci (pc' := 68) (0) xD_142 rfl rfl rfl rfl ?_
         refine y_goto (pc' := 73) xD_142 rfl rfl ?_
         refine y_loc (pc' := 75) xD_142 rfl rfl rfl rfl ?_
         refine y_ifne (pt := 83) (pf := 78) xD_142 rfl rfl rfl (fun h75 => ?_) (fun h75 => absurd h75 (by decide))
         refine y_ci (pc' := 84) (-1) xD_142 rfl rfl rfl rfl ?_
         refine y_goto (pc' := 92) xD_142 rfl rfl ?_
         refine y_callV xD_142 rfl rfl rfl rfl rfl rfl rfl rfl rfl (s_ssecond hR ht _ i hi e3 e4) (fun v h' hq => ?_)
         obtain ⟨rfl, rfl⟩ := hq
         refine y_retV xD_142 rfl rfl ?_
         refine ⟨rfl, ?_⟩
         rw [w2_w4, if_pos (Or.inr (Int32.not_le.mp h27)), if_pos (by decide), hy h20]
         rfl)
  · skip
    refine y_loc (pc' := 25) xD_142 rfl rfl rfl rfl ?_
    refine y_loc (pc' := 27) xD_142 rfl rfl rfl rfl ?_
    refine y_icge (pt := 34) (pf := 30) xD_142 rfl rfl rfl (fun h27 => ?_) (fun h27 => ?_)
    · skip
      refine y_ci (pc' := 35) (0) xD_142 rfl rfl rfl rfl ?_
      refine y_loc (pc' := 37) xD_142 rfl rfl rfl rfl ?_
      refine y_loc (pc' := 38) xD_142 rfl rfl rfl rfl ?_
      refine y_loc (pc' := 39) xD_142 rfl rfl rfl rfl ?_
      refine y_loc (pc' := 41) xD_142 rfl rfl rfl rfl ?_
      refine y_loc (pc' := 42) xD_142 rfl rfl rfl rfl ?_
      refine y_loc (pc' := 43) xD_142 rfl rfl rfl rfl ?_
      refine y_loc (pc' := 44) xD_142 rfl rfl rfl rfl ?_
      refine y_ci (pc' := 45) (0) xD_142 rfl rfl rfl rfl ?_
      refine y_callV xD_142 rfl rfl rfl rfl (by first | rfl | assumption) rfl rfl rfl rfl (s_fpart hR hf hne g j 0 hj (by decide) e1 e2 rfl) (fun v h' hq => ?_)
      obtain ⟨rfl, rfl⟩ := hq
      refine y_loc (pc' := 49) xD_142 rfl rfl rfl rfl ?_
      refine y_loc (pc' := 50) xD_142 rfl rfl rfl rfl ?_
      refine y_loc (pc' := 51) xD_142 rfl rfl rfl rfl ?_
      refine y_ci (pc' := 52) (1) xD_142 rfl rfl rfl rfl ?_
      refine y_callV xD_142 rfl rfl rfl rfl (by first | rfl | assumption) rfl rfl rfl rfl (s_fpart hR hf hne g j 1 hj (by decide) e1 e2 rfl) (fun v h' hq => ?_)
      obtain ⟨rfl, rfl⟩ := hq
      refine y_callV xD_142 rfl rfl rfl rfl (by first | rfl | assumption) rfl rfl rfl rfl (s_swrite hR ht g i hi e3 e4) (fun v h' hq => ?_)
      obtain ⟨rfl, rfl⟩ := hq
      refine y_loc (pc' := 59) xD_142 rfl rfl rfl rfl ?_
      refine y_loc (pc' := 60) xD_142 rfl rfl rfl rfl ?_
      refine y_loc (pc' := 62) xD_142 rfl rfl rfl rfl ?_
      refine y_loc (pc' := 64) xD_142 rfl rfl rfl rfl ?_
      refine y_ifeq (pt := 71) (pf := 67) xD_142 rfl rfl rfl (fun h64 => ?_) (fun h64 => ?_)
      · skip
        first
        | exact absurd h64 (by decide)
        | (refine y_loc (pc' := 73) xD_142 rfl rfl rfl rfl ?_
           refine y_loc (pc' := 75) xD_142 rfl rfl rfl rfl ?_
           refine y_ifne (pt := 83) (pf := 78) xD_142 rfl rfl rfl (fun h75 => absurd rfl h75) (fun h75 => ?_)
           refine y_loc (pc' := 80) xD_142 rfl rfl rfl rfl ?_
           refine y_ifge (pt := 87) (pf := 83) xD_142 rfl rfl rfl (fun h80 => ?_) (fun h80 => ?_)
           · refine y_loc (pc' := 89) xD_142 rfl rfl rfl rfl ?_
             refine y_loc (pc' := 91) xD_142 rfl rfl rfl rfl ?_
             refine y_op (pc' := 92) xD_142 rfl rfl rfl rfl ?_
             refine y_callV xD_142 rfl rfl rfl rfl rfl rfl rfl rfl rfl (s_ssecond hR ht _ i hi e3 e4) (fun v h' hq => ?_)
             obtain ⟨rfl, rfl⟩ := hq
             refine y_retV xD_142 rfl rfl ?_
             refine ⟨rfl, ?_⟩
             first
               | exact absurd h80 (Int32.not_le.mpr h20)
               | (rw [w2_w4, if_neg (show ¬ (slM I fr0 (4 * j + 3) < 0 ∨ slM I fr0 (4 * j + 3) < least) from fun q => q.elim h20 (fun r => absurd h27 (Int32.not_le.mpr r))), hy h20, ite_self]; rfl)
           · refine y_ci (pc' := 84) (-1) xD_142 rfl rfl rfl rfl ?_
             refine y_goto (pc' := 92) xD_142 rfl rfl ?_
             refine y_callV xD_142 rfl rfl rfl rfl rfl rfl rfl rfl rfl (s_ssecond hR ht _ i hi e3 e4) (fun v h' hq => ?_)
             obtain ⟨rfl, rfl⟩ := hq
             refine y_retV xD_142 rfl rfl ?_
             refine ⟨rfl, ?_⟩
             rw [w2_w4, if_pos (Or.inl (Int32.not_le.mp h80)), if_pos (by decide)]
             rfl)
      · skip
        first
        | exact absurd (show (0 : Int32) = 0 from rfl) h64
        | (refine y_ci (pc' := 68) (0) xD_142 rfl rfl rfl rfl ?_
           refine y_goto (pc' := 73) xD_142 rfl rfl ?_
           refine y_loc (pc' := 75) xD_142 rfl rfl rfl rfl ?_
           refine y_ifne (pt := 83) (pf := 78) xD_142 rfl rfl rfl (fun h75 => ?_) (fun h75 => absurd h75 (by decide))
           refine y_ci (pc' := 84) (-1) xD_142 rfl rfl rfl rfl ?_
           refine y_goto (pc' := 92) xD_142 rfl rfl ?_
           refine y_callV xD_142 rfl rfl rfl rfl rfl rfl rfl rfl rfl (s_ssecond hR ht _ i hi e3 e4) (fun v h' hq => ?_)
           obtain ⟨rfl, rfl⟩ := hq
           refine y_retV xD_142 rfl rfl ?_
           refine ⟨rfl, ?_⟩
           rw [w2_w4, if_pos (Or.inr (Int32.not_le.mp h27)), if_pos (by decide), hy h20]
           rfl)
    · skip
      refine y_ci (pc' := 31) (1) xD_142 rfl rfl rfl rfl ?_
      refine y_goto (pc' := 35) xD_142 rfl rfl ?_
      refine y_loc (pc' := 37) xD_142 rfl rfl rfl rfl ?_
      refine y_loc (pc' := 38) xD_142 rfl rfl rfl rfl ?_
      refine y_loc (pc' := 39) xD_142 rfl rfl rfl rfl ?_
      refine y_loc (pc' := 41) xD_142 rfl rfl rfl rfl ?_
      refine y_loc (pc' := 42) xD_142 rfl rfl rfl rfl ?_
      refine y_loc (pc' := 43) xD_142 rfl rfl rfl rfl ?_
      refine y_loc (pc' := 44) xD_142 rfl rfl rfl rfl ?_
      refine y_ci (pc' := 45) (0) xD_142 rfl rfl rfl rfl ?_
      refine y_callV xD_142 rfl rfl rfl rfl (by first | rfl | assumption) rfl rfl rfl rfl (s_fpart hR hf hne g j 0 hj (by decide) e1 e2 rfl) (fun v h' hq => ?_)
      obtain ⟨rfl, rfl⟩ := hq
      refine y_loc (pc' := 49) xD_142 rfl rfl rfl rfl ?_
      refine y_loc (pc' := 50) xD_142 rfl rfl rfl rfl ?_
      refine y_loc (pc' := 51) xD_142 rfl rfl rfl rfl ?_
      refine y_ci (pc' := 52) (1) xD_142 rfl rfl rfl rfl ?_
      refine y_callV xD_142 rfl rfl rfl rfl (by first | rfl | assumption) rfl rfl rfl rfl (s_fpart hR hf hne g j 1 hj (by decide) e1 e2 rfl) (fun v h' hq => ?_)
      obtain ⟨rfl, rfl⟩ := hq
      refine y_callV xD_142 rfl rfl rfl rfl (by first | rfl | assumption) rfl rfl rfl rfl (s_swrite hR ht g i hi e3 e4) (fun v h' hq => ?_)
      obtain ⟨rfl, rfl⟩ := hq
      refine y_loc (pc' := 59) xD_142 rfl rfl rfl rfl ?_
      refine y_loc (pc' := 60) xD_142 rfl rfl rfl rfl ?_
      refine y_loc (pc' := 62) xD_142 rfl rfl rfl rfl ?_
      refine y_loc (pc' := 64) xD_142 rfl rfl rfl rfl ?_
      refine y_ifeq (pt := 71) (pf := 67) xD_142 rfl rfl rfl (fun h64 => ?_) (fun h64 => ?_)
      · skip
        first
        | exact absurd h64 (by decide)
        | (refine y_loc (pc' := 73) xD_142 rfl rfl rfl rfl ?_
           refine y_loc (pc' := 75) xD_142 rfl rfl rfl rfl ?_
           refine y_ifne (pt := 83) (pf := 78) xD_142 rfl rfl rfl (fun h75 => absurd rfl h75) (fun h75 => ?_)
           refine y_loc (pc' := 80) xD_142 rfl rfl rfl rfl ?_
           refine y_ifge (pt := 87) (pf := 83) xD_142 rfl rfl rfl (fun h80 => ?_) (fun h80 => ?_)
           · refine y_loc (pc' := 89) xD_142 rfl rfl rfl rfl ?_
             refine y_loc (pc' := 91) xD_142 rfl rfl rfl rfl ?_
             refine y_op (pc' := 92) xD_142 rfl rfl rfl rfl ?_
             refine y_callV xD_142 rfl rfl rfl rfl rfl rfl rfl rfl rfl (s_ssecond hR ht _ i hi e3 e4) (fun v h' hq => ?_)
             obtain ⟨rfl, rfl⟩ := hq
             refine y_retV xD_142 rfl rfl ?_
             refine ⟨rfl, ?_⟩
             first
               | exact absurd h80 (Int32.not_le.mpr h20)
               | (rw [w2_w4, if_neg (show ¬ (slM I fr0 (4 * j + 3) < 0 ∨ slM I fr0 (4 * j + 3) < least) from fun q => q.elim h20 (fun r => absurd h27 (Int32.not_le.mpr r))), hy h20, ite_self]; rfl)
           · refine y_ci (pc' := 84) (-1) xD_142 rfl rfl rfl rfl ?_
             refine y_goto (pc' := 92) xD_142 rfl rfl ?_
             refine y_callV xD_142 rfl rfl rfl rfl rfl rfl rfl rfl rfl (s_ssecond hR ht _ i hi e3 e4) (fun v h' hq => ?_)
             obtain ⟨rfl, rfl⟩ := hq
             refine y_retV xD_142 rfl rfl ?_
             refine ⟨rfl, ?_⟩
             rw [w2_w4, if_pos (Or.inl (Int32.not_le.mp h80)), if_pos (by decide)]
             rfl)
      · skip
        first
        | exact absurd (show (0 : Int32) = 0 from rfl) h64
        | (refine y_ci (pc' := 68) (0) xD_142 rfl rfl rfl rfl ?_
           refine y_goto (pc' := 73) xD_142 rfl rfl ?_
           refine y_loc (pc' := 75) xD_142 rfl rfl rfl rfl ?_
           refine y_ifne (pt := 83) (pf := 78) xD_142 rfl rfl rfl (fun h75 => ?_) (fun h75 => absurd h75 (by decide))
           refine y_ci (pc' := 84) (-1) xD_142 rfl rfl rfl rfl ?_
           refine y_goto (pc' := 92) xD_142 rfl rfl ?_
           refine y_callV xD_142 rfl rfl rfl rfl rfl rfl rfl rfl rfl (s_ssecond hR ht _ i hi e3 e4) (fun v h' hq => ?_)
           obtain ⟨rfl, rfl⟩ := hq
           refine y_retV xD_142 rfl rfl ?_
           refine ⟨rfl, ?_⟩
           rw [w2_w4, if_pos (Or.inr (Int32.not_le.mp h27)), if_pos (by decide), hy h20]
           rfl)
/-- the model's join -/
theorem s_mjoin (hR : RF R) {p q0 : Nat} (hp : p < 67) (hq0 : q0 < 67) (ht : to < 67) (hpt : p ≠ to) (hqt : q0 ≠ to) (np n s t : Nat) (hs : s < np) (hnp : np ≤ 6) (htn : t < n) (hn : I 263 q0 = nI n) (hn6 : n ≤ 6) (hV : ∀ j, j < np → VT (slM I p) j) (hW : ∀ j, j < n → VT (slM I q0) j) {x1 x2 x3 x4 x5 : Int32} (e1 : x1 = nI to) (e2 : x2 = nI p) (e3 : x3 = nI s) (e4 : x4 = nI q0) (e5 : x5 = nI t) {k : Nat} (hk : k = if s + n - t ≤ 6 then s + n - t else 6) :
    XP S (d + 2) 141 0 (xent [.ref 261, .int x1, .int x2, .int x3, .int x4, .int x5] 8) [] (hh I J R) (fun v h' => v = none ∧ ∃ g, (∀ i q, i < k → q < 4 → g (4 * i + q) = jnO (slM I p) (slM I q0) s t i q) ∧ h' = hh (xu (xrow I 262 (sl1 (I 262) to g)) 263 to (nI k)) J R) := by
  subst e3; subst e5
  have hk6 : k ≤ 6 ∧ s ≤ k ∧ k + t ≤ s + n ∧ (k = 6 ∨ k + t = s + n) := by rw [hk]; split <;> omega
  have b3 : ∀ g : Nat → Int32, xrow I 262 (sl1 (I 262) to g) 263 q0 = nI n := fun g => by rw [xrow_ne (by decide), hn]
  have loop2 : ∀ (f i : Nat) (g : Nat → Int32), i + f = k → s ≤ i → (∀ i' q, i' < i → q < 4 → g (4 * i' + q) = jnO (slM I p) (slM I q0) s t i' q) →
      XP S (d + 2) 141 34 [some (.ref 261), some (.int x1), some (.int x2), some (.int (nI s)), some (.int x4), some (.int (nI t)), some (.int (nI i)), some (.int (nI (i - s + t)))] [] (hh (xrow I 262 (sl1 (I 262) to g)) J R) (fun v h' => v = none ∧ ∃ g, (∀ i q, i < k → q < 4 → g (4 * i + q) = jnO (slM I p) (slM I q0) s t i q) ∧ h' = hh (xu (xrow I 262 (sl1 (I 262) to g)) 263 to (nI k)) J R) := by
    intro f
    induction f with
    | zero =>
      intro i g hi hsi hg
      have hi : i = k := by omega
      subst hi
      refine y_loc (pc' := 36) xD_141 rfl rfl rfl rfl ?_
      refine y_loc (pc' := 37) xD_141 rfl rfl rfl rfl ?_
      first | refine m_getR (pc' := 40) xD_141 rfl rfl rfl rfl (hR.1 _ _ _ rfl) rfl ?_ | refine m_getR (pc' := 40) xD_141 rfl rfl (by first | rfl | assumption) rfl (by assumption) rfl ?_
      refine y_loc (pc' := 42) xD_141 rfl rfl rfl rfl ?_
      refine m_iald (pc' := 43) (q0) xD_141 rfl (by first | rfl | assumption) (by first | assumption | omega) (by first | decide | assumption) (by first | decide | omega) (by first | rfl | assumption) rfl ?_
      rw [b3]
      refine y_icge (pt := 79) (pf := 46) xD_141 rfl rfl rfl (fun h43 => ?_) (fun h43 => ?_)
      · skip
        refine y_loc (pc' := 80) xD_141 rfl rfl rfl rfl ?_
        first | refine m_getR (pc' := 83) xD_141 rfl rfl rfl rfl (hR.1 _ _ _ rfl) rfl ?_ | refine m_getR (pc' := 83) xD_141 rfl rfl (by first | rfl | assumption) rfl (by assumption) rfl ?_
        refine y_loc (pc' := 84) xD_141 rfl rfl rfl rfl ?_
        refine y_loc (pc' := 86) xD_141 rfl rfl rfl rfl ?_
        refine m_iast (pc' := 87) (to) xD_141 rfl (by first | rfl | assumption) (by first | assumption | omega) (by first | decide | assumption) (by first | rfl | assumption) rfl ?_
        refine y_retV xD_141 rfl rfl ?_
        exact ⟨rfl, g, hg, rfl⟩
      · skip
        refine y_loc (pc' := 48) xD_141 rfl rfl rfl rfl ?_
        refine y_ci (pc' := 50) (6) xD_141 rfl rfl rfl rfl ?_
        refine y_icge (pt := 79) (pf := 53) xD_141 rfl rfl rfl (fun h50 => ?_) (fun h50 => ?_)
        · skip
          refine y_loc (pc' := 80) xD_141 rfl rfl rfl rfl ?_
          first | refine m_getR (pc' := 83) xD_141 rfl rfl rfl rfl (hR.1 _ _ _ rfl) rfl ?_ | refine m_getR (pc' := 83) xD_141 rfl rfl (by first | rfl | assumption) rfl (by assumption) rfl ?_
          refine y_loc (pc' := 84) xD_141 rfl rfl rfl rfl ?_
          refine y_loc (pc' := 86) xD_141 rfl rfl rfl rfl ?_
          refine m_iast (pc' := 87) (to) xD_141 rfl (by first | rfl | assumption) (by first | assumption | omega) (by first | decide | assumption) (by first | rfl | assumption) rfl ?_
          refine y_retV xD_141 rfl rfl ?_
          exact ⟨rfl, g, hg, rfl⟩
        · skip
          exact (hk6.2.2.2.elim (fun h => absurd (show (6 : Int32) ≤ nI i by rw [h]; decide) h50) (fun h => absurd ((nI_leI (by omega) (by omega)).mpr (by omega)) h43))
    | succ f ih =>
      intro i g hi hsi hg
      have a5 : nI i + 1 = nI (i + 1) := nI_1 i
      have a6 : nI (i - s + t) + 1 = nI (i + 1 - s + t) := by rw [nI_1]; congr 1; omega
      have up : ∀ w : Int32, w = jnO (slM I p) (slM I q0) s t i 3 → ∀ i' q, i' < i + 1 → q < 4 → w4 g (4 * i) (slM I q0 (4 * (i - s + t))) (slM I q0 (4 * (i - s + t) + 1)) (slM I q0 (4 * (i - s + t) + 2)) w (4 * i' + q) = jnO (slM I p) (slM I q0) s t i' q := by
        intro w hw i' q hi' hq
        rw [w4_pt hq]
        by_cases h : i' = i
        · subst h
          rw [if_pos rfl]
          by_cases q0' : q = 0
          · rw [if_pos q0', q0']; unfold jnO; rw [if_neg (by omega), if_pos (by decide)]; rfl
          · by_cases q1 : q = 1
            · rw [if_neg q0', if_pos q1, q1]; unfold jnO; rw [if_neg (by omega), if_pos (by decide)]
            · by_cases q2 : q = 2
              · rw [if_neg q0', if_neg q1, if_pos q2, q2]; unfold jnO; rw [if_neg (by omega), if_neg (by decide), if_pos rfl]
              · rw [if_neg q0', if_neg q1, if_neg q2, show q = 3 by omega]; exact hw
        · rw [if_neg h]; exact hg i' q (by omega) hq
      have t3 : (if slM I q0 (4 * (i - s + t) + 3) < 0 ∨ slM I q0 (4 * (i - s + t) + 3) < nI t then -1 else slM I q0 (4 * (i - s + t) + 3) + (nI s - nI t)) = jnO (slM I p) (slM I q0) s t i 3 := by
        unfold jnO
        rw [if_neg (show ¬ i < s by omega), if_neg (show ¬ (3 : Nat) < 2 by decide), if_neg (show ¬ (3 : Nat) = 2 by decide)]
        by_cases h : slM I q0 (4 * (i - s + t) + 3) < nI t
        · rw [if_pos (Or.inr h), if_pos h]
        · have h0 : ¬ slM I q0 (4 * (i - s + t) + 3) < 0 := fun q => h (Int32.lt_of_lt_of_le q (Int32.not_lt.mp (nI_pos (by omega))))
          rw [if_neg (show ¬ (slM I q0 (4 * (i - s + t) + 3) < 0 ∨ slM I q0 (4 * (i - s + t) + 3) < nI t) from fun q => q.elim h0 h), if_neg h, Int32.sub_eq_add_neg, Int32.sub_eq_add_neg, Int32.add_assoc, Int32.add_comm (nI s)]
      refine y_loc (pc' := 36) xD_141 rfl rfl rfl rfl ?_
      refine y_loc (pc' := 37) xD_141 rfl rfl rfl rfl ?_
      first | refine m_getR (pc' := 40) xD_141 rfl rfl rfl rfl (hR.1 _ _ _ rfl) rfl ?_ | refine m_getR (pc' := 40) xD_141 rfl rfl (by first | rfl | assumption) rfl (by assumption) rfl ?_
      refine y_loc (pc' := 42) xD_141 rfl rfl rfl rfl ?_
      refine m_iald (pc' := 43) (q0) xD_141 rfl (by first | rfl | assumption) (by first | assumption | omega) (by first | decide | assumption) (by first | decide | omega) (by first | rfl | assumption) rfl ?_
      rw [b3]
      refine y_icge (pt := 79) (pf := 46) xD_141 rfl rfl rfl (fun h43 => ?_) (fun h43 => ?_)
      · skip
        first | exact absurd h50 (nI_ge (b := 6) (by omega) (by decide)) | exact absurd h43 (nI_ge (by omega) (by omega))
      · skip
        refine y_loc (pc' := 48) xD_141 rfl rfl rfl rfl ?_
        refine y_ci (pc' := 50) (6) xD_141 rfl rfl rfl rfl ?_
        refine y_icge (pt := 79) (pf := 53) xD_141 rfl rfl rfl (fun h50 => ?_) (fun h50 => ?_)
        · skip
          first | exact absurd h50 (nI_ge (b := 6) (by omega) (by decide)) | exact absurd h43 (nI_ge (by omega) (by omega))
        · skip
          refine y_loc (pc' := 54) xD_141 rfl rfl rfl rfl ?_
          refine y_loc (pc' := 56) xD_141 rfl rfl rfl rfl ?_
          refine y_loc (pc' := 58) xD_141 rfl rfl rfl rfl ?_
          refine y_loc (pc' := 59) xD_141 rfl rfl rfl rfl ?_
          refine y_loc (pc' := 61) xD_141 rfl rfl rfl rfl ?_
          refine y_loc (pc' := 63) xD_141 rfl rfl rfl rfl ?_
          refine y_loc (pc' := 64) xD_141 rfl rfl rfl rfl ?_
          refine y_loc (pc' := 66) xD_141 rfl rfl rfl rfl ?_
          refine y_op (pc' := 67) xD_141 rfl rfl rfl rfl ?_
          refine y_callV xD_141 rfl rfl rfl rfl (by first | rfl | assumption) rfl rfl rfl rfl (s_move (d := d) hR hq0 ht hqt g (i - s + t) i (by omega) (by omega) (hW _ (by omega)) e4 rfl e1 rfl) (fun v h' hq => ?_)
          obtain ⟨rfl, rfl⟩ := hq
          refine y_inc (pc' := 73) (nI (i + 1)) xD_141 rfl rfl rfl a5 rfl rfl ?_
          refine y_inc (pc' := 76) (nI (i + 1 - s + t)) xD_141 rfl rfl rfl a6 rfl rfl ?_
          refine y_goto (pc' := 34) xD_141 rfl rfl ?_
          exact ih (i + 1) _ (by omega) (by omega) (up _ t3)
          skip
  have loop1 : ∀ (f i : Nat) (g : Nat → Int32), i + f = s → (∀ i' q, i' < i → q < 4 → g (4 * i' + q) = jnO (slM I p) (slM I q0) s t i' q) →
      XP S (d + 2) 141 3 [some (.ref 261), some (.int x1), some (.int x2), some (.int (nI s)), some (.int x4), some (.int (nI t)), some (.int (nI i)), none] [] (hh (xrow I 262 (sl1 (I 262) to g)) J R) (fun v h' => v = none ∧ ∃ g, (∀ i q, i < k → q < 4 → g (4 * i + q) = jnO (slM I p) (slM I q0) s t i q) ∧ h' = hh (xu (xrow I 262 (sl1 (I 262) to g)) 263 to (nI k)) J R) := by
    intro f
    induction f with
    | zero =>
      intro i g hi hg
      have hi : i = s := by omega
      subst hi
      refine y_loc (pc' := 5) xD_141 rfl rfl rfl rfl ?_
      refine y_loc (pc' := 6) xD_141 rfl rfl rfl rfl ?_
      refine y_icge (pt := 27) (pf := 9) xD_141 rfl rfl rfl (fun h6 => ?_) (fun h6 => ?_)
      · skip
        refine y_loc (pc' := 28) xD_141 rfl rfl rfl rfl ?_
        refine y_loc (pc' := 30) xD_141 rfl rfl rfl rfl ?_
        refine y_loc (pc' := 32) xD_141 rfl rfl rfl rfl ?_
        refine y_loc (pc' := 34) xD_141 rfl rfl rfl rfl ?_
        have := loop2 (k - i) i g (by omega) (Nat.le_refl _) hg
        rw [show i - i + t = t by omega] at this
        exact this
      · exact absurd (Int32.le_refl _) h6
    | succ f ih =>
      intro i g hi hg
      have a5 : nI i + 1 = nI (i + 1) := nI_1 i
      have h3 : (if slM I p (4 * i + 3) < 0 ∨ slM I p (4 * i + 3) < 0 then -1 else slM I p (4 * i + 3) + 0) = slM I p (4 * i + 3) := by
        rcases (hV i (by omega)).2 with e | ⟨r, _, e, _⟩
        · rw [e]; decide
        · rw [if_neg (by rw [e]; exact fun q => q.elim (nI_pos (by omega)) (nI_pos (by omega))), Int32.add_zero]
      refine y_loc (pc' := 5) xD_141 rfl rfl rfl rfl ?_
      refine y_loc (pc' := 6) xD_141 rfl rfl rfl rfl ?_
      refine y_icge (pt := 27) (pf := 9) xD_141 rfl rfl rfl (fun h6 => ?_) (fun h6 => ?_)
      · skip
        exact absurd h6 (nI_ge (by omega) (by omega))
      · skip
        refine y_loc (pc' := 10) xD_141 rfl rfl rfl rfl ?_
        refine y_loc (pc' := 11) xD_141 rfl rfl rfl rfl ?_
        refine y_loc (pc' := 13) xD_141 rfl rfl rfl rfl ?_
        refine y_loc (pc' := 14) xD_141 rfl rfl rfl rfl ?_
        refine y_loc (pc' := 16) xD_141 rfl rfl rfl rfl ?_
        refine y_ci (pc' := 17) (0) xD_141 rfl rfl rfl rfl ?_
        refine y_ci (pc' := 18) (0) xD_141 rfl rfl rfl rfl ?_
        refine y_callV xD_141 rfl rfl rfl rfl (by first | rfl | assumption) rfl rfl rfl rfl (s_move (d := d) hR hp ht hpt g i i (by omega) (by omega) (hV _ (by omega)) e2 rfl e1 rfl) (fun v h' hq => ?_)
        obtain ⟨rfl, rfl⟩ := hq
        refine y_inc (pc' := 24) (nI (i + 1)) xD_141 rfl rfl rfl a5 rfl rfl ?_
        refine y_goto (pc' := 3) xD_141 rfl rfl ?_
        refine ih (i + 1) _ (by omega) (fun i' q hi' hq => ?_)
        rw [h3, w4_pt hq]
        have hjn : jnO (slM I p) (slM I q0) s t i' q = slM I p (4 * i' + q) := by unfold jnO; rw [if_pos (by omega)]
        by_cases h : i' = i
        · rw [if_pos h, hjn, h]
          by_cases q0' : q = 0
          · rw [if_pos q0', q0']; rfl
          · by_cases q1 : q = 1
            · rw [if_neg q0', if_pos q1, q1]
            · by_cases q2 : q = 2
              · rw [if_neg q0', if_neg q1, if_pos q2, q2]
              · rw [if_neg q0', if_neg q1, if_neg q2, show q = 3 by omega]
        · rw [if_neg h]; exact hg i' q (by omega) hq
        skip
  refine y_ci (pc' := 1) (0) xD_141 rfl rfl rfl rfl ?_
  refine y_loc (pc' := 3) xD_141 rfl rfl rfl rfl ?_
  have e : xrow I 262 (sl1 (I 262) to (slM I to)) = I := by
    refine Eq.trans ?_ (xrow_id (f := I) (a := 262))
    congr 1
    funext i
    unfold sl1 slM
    by_cases h : i / 24 = to
    · rw [if_pos h]; congr 1; omega
    · rw [if_neg h]
  have key := loop1 s 0 (slM I to) (by omega) (fun i' q hi' _ => by omega)
  rw [e] at key
  exact key
end MJ
end
section
/-! Whether a step is referred to. -/
def rfd (f : Nat → Int32) (p : Nat) : Nat → Bool
  | 0 => false
  | j + 1 => rfd f p j || decide (f (4 * j + 3) = nI p)
theorem rfd_t {f : Nat → Int32} {p k : Nat} (h : rfd f p k = true) : ∀ m, rfd f p (k + m) = true
  | 0 => h
  | m + 1 => by
    show (rfd f p (k + m) || _) = true
    rw [rfd_t h m]; rfl
theorem rfd_f {f : Nat → Int32} {p : Nat} : ∀ k, (∀ j, j < k → ¬ f (4 * j + 3) = nI p) → rfd f p k = false
  | 0, _ => rfl
  | k + 1, h => by
    show (rfd f p k || decide (f (4 * k + 3) = nI p)) = false
    rw [rfd_f k (fun j hj => h j (by omega)), decide_eq_false (h k (by omega))]; rfl
theorem rfd_lo {f : Nat → Int32} {p : Nat} (hp : p < 6) : ∀ k, k ≤ p + 1 → (∀ j, j < k → VT f j) → rfd f p k = false := fun k hk hV => rfd_f k (fun j hj e => by
  rcases (hV j hj).2 with h | ⟨r, hr, h, _⟩
  · rw [e] at h; exact nI_m1 (by omega) h
  · rw [e] at h
    have := (nI_eq (by omega) (by omega)).mp h
    omega)
section RF
variable {S : XS} {d a s : Nat} {I : Nat → Nat → Int32} {J : Nat → Nat → Int64} {R : Nat → Nat → Option Nat}
theorem s_isReferredTo (hR : RF R) (hc : isCase a) (n p : Nat) (hn : I a 3 = nI n) (hn6 : n ≤ 6) (hp : p < n) (hV : ∀ j, j < n → VT (I (a + 1)) j) {xp : Int32} (e1 : xp = nI p) :
    XP S (d + 1) 83 0 (xent [.ref a, .int xp] 3) [] (hh I J R) (rI (zB (rfd (I (a + 1)) p n)) (hh I J R)) := by
  subst e1
  have ka := (kCase hc).1
  have ka1 := (kCase hc).2.1
  have loop : ∀ (f k : Nat), k + f = n → rfd (I (a + 1)) p k = false → XP S (d + 1) 83 4 [some (.ref a), some (.int (nI p)), some (.int (nI k))] [] (hh I J R) (rI (zB (rfd (I (a + 1)) p n)) (hh I J R)) := by
    intro f
    induction f with
    | zero =>
      intro k hk h0
      have hk : k = n := by omega
      subst hk
      refine y_loc (pc' := 5) xD_83 rfl rfl rfl rfl ?_
      refine y_loc (pc' := 6) xD_83 rfl rfl rfl rfl ?_
      refine m_getI (pc' := 9) xD_83 rfl rfl rfl (by first | rfl | assumption) (hn) rfl ?_
      refine y_icge (pt := 30) (pf := 12) xD_83 rfl rfl rfl (fun h9 => ?_) (fun h9 => ?_)
      · skip
        refine y_ci (pc' := 31) (0) xD_83 rfl rfl rfl rfl ?_
        refine y_retZ xD_83 rfl rfl (by first | decide | assumption) ?_
        refine rI_e ?_
        rw [h0]; rfl
      · exact absurd (Int32.le_refl _) h9
    | succ f ih =>
      intro k hk h0
      have e5 : nI k + 1 = nI (k + 1) := nI_1 k
      refine y_loc (pc' := 5) xD_83 rfl rfl rfl rfl ?_
      refine y_loc (pc' := 6) xD_83 rfl rfl rfl rfl ?_
      refine m_getI (pc' := 9) xD_83 rfl rfl rfl (by first | rfl | assumption) (hn) rfl ?_
      refine y_icge (pt := 30) (pf := 12) xD_83 rfl rfl rfl (fun h9 => ?_) (fun h9 => ?_)
      · exact absurd h9 (nI_ge (by omega) (by omega))
      · skip
        refine y_loc (pc' := 13) xD_83 rfl rfl rfl rfl ?_
        refine y_loc (pc' := 14) xD_83 rfl rfl rfl rfl ?_
        refine y_ci (pc' := 15) (3) xD_83 rfl rfl rfl rfl ?_
        refine y_callV xD_83 rfl rfl rfl rfl (by first | rfl | assumption) rfl rfl rfl rfl (s_part hR hc k 3 (by omega) (by decide) rfl rfl) (fun v h' hq => ?_)
        obtain ⟨rfl, rfl⟩ := hq
        refine y_loc (pc' := 19) xD_83 rfl rfl rfl rfl ?_
        refine y_icne (pt := 24) (pf := 22) xD_83 rfl rfl rfl (fun h19 => ?_) (fun h19 => ?_)
        · skip
          refine y_inc (pc' := 27) (nI (k + 1)) xD_83 rfl rfl rfl e5 rfl rfl ?_
          refine y_goto (pc' := 4) xD_83 rfl rfl ?_
          exact ih (k + 1) (by omega) (by show (rfd (I (a + 1)) p k || decide (I (a + 1) (4 * k + 3) = nI p)) = false; rw [h0, decide_eq_false h19]; rfl)
          skip
        · skip
          refine y_ci (pc' := 23) (1) xD_83 rfl rfl rfl rfl ?_
          refine y_retZ xD_83 rfl rfl (by first | decide | assumption) ?_
          refine rI_e ?_
          rw [show n = (k + 1) + f by omega, rfd_t (f := I (a + 1)) (p := p) (k := k + 1) (show (rfd (I (a + 1)) p k || decide (I (a + 1) (4 * k + 3) = nI p)) = true by rw [decide_eq_true h19, Bool.or_true]) f]
          rfl
  refine y_loc (pc' := 1) xD_83 rfl rfl rfl rfl ?_
  refine y_ci (pc' := 2) (1) xD_83 rfl rfl rfl rfl ?_
  refine y_iadd (pc' := 3) xD_83 rfl (nI_1 p) rfl ?_
  refine y_loc (pc' := 4) xD_83 rfl rfl rfl rfl ?_
  exact loop (n - (p + 1)) (p + 1) (by omega) (rfd_lo (by omega) (p + 1) (Nat.le_refl _) (fun j hj => hV j (by omega)))
theorem s_referred (hR : RF R) (hs : s < 67) (n p : Nat) (hn : I 263 s = nI n) (hn6 : n ≤ 6) {xs xp : Int32} (e0 : xs = nI s) (e1 : xp = nI p) :
    XP S (d + 1) 150 0 (xent [.ref 261, .int xs, .int xp] 5) [] (hh I J R) (rI (zB (rfd (slM I s) p n)) (hh I J R)) := by
  subst e1
  have loop : ∀ (f k : Nat), k + f = n → XP S (d + 1) 150 5 [some (.ref 261), some (.int xs), some (.int (nI p)), some (.int (zB (rfd (slM I s) p k))), some (.int (nI k))] [] (hh I J R) (rI (zB (rfd (slM I s) p n)) (hh I J R)) := by
    intro f
    induction f with
    | zero =>
      intro k hk
      have hk : k = n := by omega
      subst hk
      refine y_loc (pc' := 7) xD_150 rfl rfl rfl rfl ?_
      refine y_loc (pc' := 8) xD_150 rfl rfl rfl rfl ?_
      first | refine m_getR (pc' := 11) xD_150 rfl rfl rfl rfl (hR.1 _ _ _ rfl) rfl ?_ | refine m_getR (pc' := 11) xD_150 rfl rfl (by first | rfl | assumption) rfl (by assumption) rfl ?_
      refine y_loc (pc' := 12) xD_150 rfl rfl rfl rfl ?_
      refine m_iald (pc' := 13) (s) xD_150 rfl (by first | rfl | assumption) (by first | assumption | omega) (by first | decide | assumption) (by first | decide | omega) (by first | rfl | assumption) rfl ?_
      rw [hn]
      refine y_icge (pt := 44) (pf := 16) xD_150 rfl rfl rfl (fun h13 => ?_) (fun h13 => ?_)
      · skip
        refine y_loc (pc' := 45) xD_150 rfl rfl rfl rfl ?_
        refine y_retZ xD_150 rfl rfl (zB_or _) ?_
        exact rI_e rfl
      · exact absurd (Int32.le_refl _) h13
    | succ f ih =>
      intro k hk
      have e5 : nI k + 1 = nI (k + 1) := nI_1 k
      have step := ih (k + 1) (by omega)
      have er : rfd (slM I s) p (k + 1) = (rfd (slM I s) p k || decide (slM I s (4 * k + 3) = nI p)) := rfl
      rw [er] at step
      refine y_loc (pc' := 7) xD_150 rfl rfl rfl rfl ?_
      refine y_loc (pc' := 8) xD_150 rfl rfl rfl rfl ?_
      first | refine m_getR (pc' := 11) xD_150 rfl rfl rfl rfl (hR.1 _ _ _ rfl) rfl ?_ | refine m_getR (pc' := 11) xD_150 rfl rfl (by first | rfl | assumption) rfl (by assumption) rfl ?_
      refine y_loc (pc' := 12) xD_150 rfl rfl rfl rfl ?_
      refine m_iald (pc' := 13) (s) xD_150 rfl (by first | rfl | assumption) (by first | assumption | omega) (by first | decide | assumption) (by first | decide | omega) (by first | rfl | assumption) rfl ?_
      rw [hn]
      refine y_icge (pt := 44) (pf := 16) xD_150 rfl rfl rfl (fun h13 => ?_) (fun h13 => ?_)
      · exact absurd h13 (nI_ge (by omega) (by omega))
      · skip
        refine y_loc (pc' := 17) xD_150 rfl rfl rfl rfl ?_
        refine y_ifne (pt := 32) (pf := 20) xD_150 rfl rfl rfl (fun h17 => ?_) (fun h17 => ?_)
        · skip
          refine y_ci (pc' := 33) (1) xD_150 rfl rfl rfl rfl ?_
          refine y_goto (pc' := 37) xD_150 rfl rfl ?_
          refine y_loc (pc' := 38) xD_150 rfl rfl rfl rfl ?_
          refine y_inc (pc' := 41) (nI (k + 1)) xD_150 rfl rfl rfl e5 rfl rfl ?_
          refine y_goto (pc' := 5) xD_150 rfl rfl ?_
          cases hb : rfd (slM I s) p k with
          | true => first | (rw [hb] at h17; exact absurd h17 (by decide)) | (rw [hb, Bool.true_or] at step; exact step)
          | false => first | (rw [hb] at h17; exact absurd rfl h17) | (rw [hb, Bool.false_or, decide_eq_true h29] at step; exact step) | (rw [hb, Bool.false_or, decide_eq_false h29] at step; exact step)
          skip
        · skip
          refine y_loc (pc' := 21) xD_150 rfl rfl rfl rfl ?_
          refine y_loc (pc' := 22) xD_150 rfl rfl rfl rfl ?_
          refine y_loc (pc' := 24) xD_150 rfl rfl rfl rfl ?_
          refine y_ci (pc' := 25) (3) xD_150 rfl rfl rfl rfl ?_
          refine y_callV xD_150 rfl rfl rfl rfl (by first | rfl | assumption) rfl rfl rfl rfl (s_mpart hR hs k 3 (by omega) (by decide) e0 rfl rfl) (fun v h' hq => ?_)
          obtain ⟨rfl, rfl⟩ := hq
          refine y_loc (pc' := 29) xD_150 rfl rfl rfl rfl ?_
          refine y_icne (pt := 36) (pf := 32) xD_150 rfl rfl rfl (fun h29 => ?_) (fun h29 => ?_)
          · skip
            refine y_ci (pc' := 37) (0) xD_150 rfl rfl rfl rfl ?_
            refine y_loc (pc' := 38) xD_150 rfl rfl rfl rfl ?_
            refine y_inc (pc' := 41) (nI (k + 1)) xD_150 rfl rfl rfl e5 rfl rfl ?_
            refine y_goto (pc' := 5) xD_150 rfl rfl ?_
            cases hb : rfd (slM I s) p k with
            | true => first | (rw [hb] at h17; exact absurd h17 (by decide)) | (rw [hb, Bool.true_or] at step; exact step)
            | false => first | (rw [hb] at h17; exact absurd rfl h17) | (rw [hb, Bool.false_or, decide_eq_true h29] at step; exact step) | (rw [hb, Bool.false_or, decide_eq_false h29] at step; exact step)
            skip
          · skip
            refine y_ci (pc' := 33) (1) xD_150 rfl rfl rfl rfl ?_
            refine y_goto (pc' := 37) xD_150 rfl rfl ?_
            refine y_loc (pc' := 38) xD_150 rfl rfl rfl rfl ?_
            refine y_inc (pc' := 41) (nI (k + 1)) xD_150 rfl rfl rfl e5 rfl rfl ?_
            refine y_goto (pc' := 5) xD_150 rfl rfl ?_
            cases hb : rfd (slM I s) p k with
            | true => first | (rw [hb] at h17; exact absurd h17 (by decide)) | (rw [hb, Bool.true_or] at step; exact step)
            | false => first | (rw [hb] at h17; exact absurd rfl h17) | (rw [hb, Bool.false_or, decide_eq_true h29] at step; exact step) | (rw [hb, Bool.false_or, decide_eq_false h29] at step; exact step)
            skip
  refine y_ci (pc' := 1) (0) xD_150 rfl rfl rfl rfl ?_
  refine y_loc (pc' := 2) xD_150 rfl rfl rfl rfl ?_
  refine y_ci (pc' := 3) (0) xD_150 rfl rfl rfl rfl ?_
  refine y_loc (pc' := 5) xD_150 rfl rfl rfl rfl ?_
  exact loop n 0 (by omega)
end RF
end
section
/-! One step changed. -/
def csB (f : Nat → Int32) (p : Nat) (b : Int64) : Int64 := if dv (dn b) 3 = 0 then dn (dn (dn b)) else if dv (dn b) 3 = 1 then dn (dn b) else if f (4 * p) < 2 then dn (dn (dn b)) else dn b
def csG (cc : Nat) (con f : Nat → Int32) (p : Nat) (b : Int64) (i q : Nat) : Int32 :=
  if dv (dn b) 3 = 0 then (if i = p ∧ q = 1 then dnum (dn b) cc con else f (4 * i + q))
  else if dv (dn b) 3 = 1 then (if i = p ∧ q = 1 then f (4 * p + 1) + (nI (dv (dn (dn b)) 9) - 4) else f (4 * i + q))
  else if f (4 * p) < 2 then (if i = p ∧ q = 2 then dnum (dn b) cc con else if i = p ∧ q = 3 then -1 else f (4 * i + q)) else f (4 * i + q)
section CS
variable {S : XS} {d a s : Nat} {I : Nat → Nat → Int32} {J : Nat → Nat → Int64} {R : Nat → Nat → Option Nat}
theorem s_changeStep (hR : RF R) (hc : isCase a) (cc : Nat) (hcc : I 18 1 = nI cc) (hcc2 : cc ≤ 20) (p : Nat) (hp : p < 6) (hV : VT (I (a + 1)) p) {xp : Int32} (e1 : xp = nI p) :
    XP S (d + 2) 76 0 (xent [.ref 18, .ref a, .int xp] 5) [] (hh I J R) (fun v h' => v = none ∧ ∃ g, (∀ i q, q < 4 → g (4 * i + q) = csG cc (I 19) (I (a + 1)) p (J 18 2) i q) ∧ h' = hh (xrow I (a + 1) g) (xu J 18 2 (csB (I (a + 1)) p (J 18 2))) R) := by
  subst e1
  have ka := (kCase hc).1
  have ka1 := (kCase hc).2.1
  have ra := (hR.2 a hc).1
  have h3 := dv_lt (dn (J 18 2)) (n := 3) (by decide)
  have i0 : nI p * 4 = nI (4 * p) := by show nI p * nI 4 = _; rw [pk_mul, Nat.mul_comm]
  have ix : ∀ q : Nat, nI (4 * p) + nI q = nI (4 * p + q) := fun q => nI_add _ _
  have hne : (18 : Nat) ≠ a + 1 := by unfold isCase at hc; omega
  have hne2 : (19 : Nat) ≠ a + 1 := by unfold isCase at hc; omega
  have kp : 0 ≤ I (a + 1) (4 * p) := by
    obtain ⟨t, ht, _, _, e⟩ := hV.1
    rw [e]
    exact Int32.not_lt.mp (nI_pos (by omega))
  have fin0 : dv (dn (J 18 2)) 3 = 0 → ∀ i q, q < 4 → upd (I (a + 1)) (4 * p + 1) (dnum (dn (J 18 2)) cc (I 19)) (4 * i + q) = csG cc (I 19) (I (a + 1)) p (J 18 2) i q := fun u0 i q hq => by
    unfold csG
    rw [upd4 (p := 1) (by decide) hq, if_pos u0]
  have fin1 : ¬ dv (dn (J 18 2)) 3 = 0 → dv (dn (J 18 2)) 3 = 1 → ∀ i q, q < 4 → upd (I (a + 1)) (4 * p + 1) (I (a + 1) (4 * p + 1) + (nI (dv (dn (dn (J 18 2))) 9) - 4)) (4 * i + q) = csG cc (I 19) (I (a + 1)) p (J 18 2) i q := fun u0 u1 i q hq => by
    unfold csG
    rw [upd4 (p := 1) (by decide) hq, if_neg u0, if_pos u1]
  have fin2 : ¬ dv (dn (J 18 2)) 3 = 0 → ¬ dv (dn (J 18 2)) 3 = 1 → I (a + 1) (4 * p) < 2 → ∀ i q, q < 4 → upd (upd (I (a + 1)) (4 * p + 3) (-1)) (4 * p + 2) (dnum (dn (J 18 2)) cc (I 19)) (4 * i + q) = csG cc (I 19) (I (a + 1)) p (J 18 2) i q := fun u0 u1 u2 i q hq => by
    unfold csG
    rw [upd4 (p := 2) (by decide) hq, upd4 (p := 3) (by decide) hq, if_neg u0, if_neg u1, if_pos u2]
  refine y_loc (pc' := 1) xD_76 rfl rfl rfl rfl ?_
  refine y_ci (pc' := 2) (3) xD_76 rfl rfl rfl rfl ?_
  refine y_callV xD_76 rfl rfl rfl rfl (by first | rfl | assumption) rfl rfl rfl rfl (s_draw 3 (by decide) (by decide) rfl) (fun v h' hq => ?_)
  obtain ⟨rfl, rfl⟩ := hq
  refine y_loc (pc' := 6) xD_76 rfl rfl rfl rfl ?_
  refine y_loc (pc' := 7) xD_76 rfl rfl rfl rfl ?_
  refine y_ci (pc' := 8) (4) xD_76 rfl rfl rfl rfl ?_
  refine y_imul (pc' := 9) xD_76 rfl (i0) rfl ?_
  refine y_loc (pc' := 11) xD_76 rfl rfl rfl rfl ?_
  refine y_loc (pc' := 12) xD_76 rfl rfl rfl rfl ?_
  refine y_ifne (pt := 31) (pf := 15) xD_76 rfl rfl rfl (fun h12 => ?_) (fun h12 => ?_)
  · skip
    refine y_loc (pc' := 32) xD_76 rfl rfl rfl rfl ?_
    refine y_ci (pc' := 33) (1) xD_76 rfl rfl rfl rfl ?_
    refine y_icne (pt := 59) (pf := 36) xD_76 rfl rfl rfl (fun h33 => ?_) (fun h33 => ?_)
    · skip
      refine y_loc (pc' := 60) xD_76 rfl rfl rfl rfl ?_
      first | refine m_getR (pc' := 63) xD_76 rfl rfl rfl rfl (hR.1 _ _ _ rfl) rfl ?_ | refine m_getR (pc' := 63) xD_76 rfl rfl (by first | rfl | assumption) rfl (by assumption) rfl ?_
      refine y_loc (pc' := 65) xD_76 rfl rfl rfl rfl ?_
      refine y_ci (pc' := 66) (0) xD_76 rfl rfl rfl rfl ?_
      refine y_op (pc' := 67) xD_76 rfl rfl rfl rfl ?_
      refine m_iald (pc' := 68) (4 * p) xD_76 rfl (by first | rfl | assumption) (by first | assumption | omega) (by first | decide | assumption) (by first | decide | omega) (ix 0) rfl ?_
      refine y_callS xD_76 rfl rfl rfl rfl rfl rfl rfl rfl (s_isMethod) (fun v h' hq => ?_)
      obtain ⟨rfl, rfl⟩ := hq
      refine y_ifeq (pt := 97) (pf := 74) xD_76 rfl rfl rfl (fun h71 => ?_) (fun h71 => ?_)
      · skip
        refine y_retV xD_76 rfl rfl ?_
        first
          | (have u0 : dv (dn (J 18 2)) 3 = 0 := (nI_z (by omega)).mp h12
             refine ⟨rfl, upd (I (a + 1)) (4 * p + 1) (dnum (dn (J 18 2)) cc (I 19)), fun i q hq => ?_, ?_⟩
             · exact fin0 u0 i q hq
             · unfold csB
               rw [if_pos u0])
          | (have u0 : ¬ dv (dn (J 18 2)) 3 = 0 := fun q => h12 ((nI_z (by omega)).mpr q)
             have u1 : dv (dn (J 18 2)) 3 = 1 := (nI_eq (b := 1) (by omega) (by decide)).mp h33
             refine ⟨rfl, upd (I (a + 1)) (4 * p + 1) (I (a + 1) (4 * p + 1) + (nI (dv (dn (dn (J 18 2))) 9) - 4)), fun i q hq => ?_, ?_⟩
             · exact fin1 u0 u1 i q hq
             · unfold csB
               rw [if_neg u0, if_pos u1])
          | (have u0 : ¬ dv (dn (J 18 2)) 3 = 0 := fun q => h12 ((nI_z (by omega)).mpr q)
             have u1 : ¬ dv (dn (J 18 2)) 3 = 1 := fun q => h33 (by rw [q]; rfl)
             have u2 := (zB_n0.mp h71).2
             refine ⟨rfl, upd (upd (I (a + 1)) (4 * p + 3) (-1)) (4 * p + 2) (dnum (dn (J 18 2)) cc (I 19)), fun i q hq => ?_, ?_⟩
             · exact fin2 u0 u1 u2 i q hq
             · unfold csB
               rw [if_neg u0, if_neg u1, if_pos u2])
          | (have u0 : ¬ dv (dn (J 18 2)) 3 = 0 := fun q => h12 ((nI_z (by omega)).mpr q)
             have u1 : ¬ dv (dn (J 18 2)) 3 = 1 := fun q => h33 (by rw [q]; rfl)
             have u2 : ¬ I (a + 1) (4 * p) < 2 := fun q => zB_0.mp h71 ⟨kp, q⟩
             refine ⟨rfl, I (a + 1), fun i q hq => ?_, ?_⟩
             · unfold csG
               rw [if_neg u0, if_neg u1, if_neg u2]
             · unfold csB
               rw [if_neg u0, if_neg u1, if_neg u2, xrow_id])
      · skip
        refine y_loc (pc' := 75) xD_76 rfl rfl rfl rfl ?_
        first | refine m_getR (pc' := 78) xD_76 rfl rfl rfl rfl (hR.1 _ _ _ rfl) rfl ?_ | refine m_getR (pc' := 78) xD_76 rfl rfl (by first | rfl | assumption) rfl (by assumption) rfl ?_
        refine y_loc (pc' := 80) xD_76 rfl rfl rfl rfl ?_
        refine y_ci (pc' := 81) (3) xD_76 rfl rfl rfl rfl ?_
        refine y_op (pc' := 82) xD_76 rfl rfl rfl rfl ?_
        refine y_ci (pc' := 83) (-1) xD_76 rfl rfl rfl rfl ?_
        refine m_iast (pc' := 84) (4 * p + 3) xD_76 rfl (by first | rfl | assumption) (by first | assumption | omega) (by first | decide | assumption) (ix 3) rfl ?_
        rw [xu_rowI]
        refine y_loc (pc' := 85) xD_76 rfl rfl rfl rfl ?_
        first | refine m_getR (pc' := 88) xD_76 rfl rfl rfl rfl (hR.1 _ _ _ rfl) rfl ?_ | refine m_getR (pc' := 88) xD_76 rfl rfl (by first | rfl | assumption) rfl (by assumption) rfl ?_
        refine y_loc (pc' := 90) xD_76 rfl rfl rfl rfl ?_
        refine y_ci (pc' := 91) (2) xD_76 rfl rfl rfl rfl ?_
        refine y_op (pc' := 92) xD_76 rfl rfl rfl rfl ?_
        refine y_loc (pc' := 93) xD_76 rfl rfl rfl rfl ?_
        refine y_callV xD_76 rfl rfl rfl rfl (by first | rfl | assumption) rfl rfl rfl rfl (s_drawNumber (d := d) hR cc (by rw [xrow_ne hne]; exact hcc) hcc2) (fun v h' hq => ?_)
        obtain ⟨rfl, rfl⟩ := hq
        rw [xu_ii, xu_xu, xrow_ne hne2]
        refine m_iast (pc' := 97) (4 * p + 2) xD_76 rfl (by first | rfl | assumption) (by first | assumption | omega) (by first | decide | assumption) (ix 2) rfl ?_
        rw [xu_rowI, xrow_row, xrow_at]
        refine y_retV xD_76 rfl rfl ?_
        first
          | (have u0 : dv (dn (J 18 2)) 3 = 0 := (nI_z (by omega)).mp h12
             refine ⟨rfl, upd (I (a + 1)) (4 * p + 1) (dnum (dn (J 18 2)) cc (I 19)), fun i q hq => ?_, ?_⟩
             · exact fin0 u0 i q hq
             · unfold csB
               rw [if_pos u0])
          | (have u0 : ¬ dv (dn (J 18 2)) 3 = 0 := fun q => h12 ((nI_z (by omega)).mpr q)
             have u1 : dv (dn (J 18 2)) 3 = 1 := (nI_eq (b := 1) (by omega) (by decide)).mp h33
             refine ⟨rfl, upd (I (a + 1)) (4 * p + 1) (I (a + 1) (4 * p + 1) + (nI (dv (dn (dn (J 18 2))) 9) - 4)), fun i q hq => ?_, ?_⟩
             · exact fin1 u0 u1 i q hq
             · unfold csB
               rw [if_neg u0, if_pos u1])
          | (have u0 : ¬ dv (dn (J 18 2)) 3 = 0 := fun q => h12 ((nI_z (by omega)).mpr q)
             have u1 : ¬ dv (dn (J 18 2)) 3 = 1 := fun q => h33 (by rw [q]; rfl)
             have u2 := (zB_n0.mp h71).2
             refine ⟨rfl, upd (upd (I (a + 1)) (4 * p + 3) (-1)) (4 * p + 2) (dnum (dn (J 18 2)) cc (I 19)), fun i q hq => ?_, ?_⟩
             · exact fin2 u0 u1 u2 i q hq
             · unfold csB
               rw [if_neg u0, if_neg u1, if_pos u2])
          | (have u0 : ¬ dv (dn (J 18 2)) 3 = 0 := fun q => h12 ((nI_z (by omega)).mpr q)
             have u1 : ¬ dv (dn (J 18 2)) 3 = 1 := fun q => h33 (by rw [q]; rfl)
             have u2 : ¬ I (a + 1) (4 * p) < 2 := fun q => zB_0.mp h71 ⟨kp, q⟩
             refine ⟨rfl, I (a + 1), fun i q hq => ?_, ?_⟩
             · unfold csG
               rw [if_neg u0, if_neg u1, if_neg u2]
             · unfold csB
               rw [if_neg u0, if_neg u1, if_neg u2, xrow_id])
    · skip
      refine y_loc (pc' := 37) xD_76 rfl rfl rfl rfl ?_
      first | refine m_getR (pc' := 40) xD_76 rfl rfl rfl rfl (hR.1 _ _ _ rfl) rfl ?_ | refine m_getR (pc' := 40) xD_76 rfl rfl (by first | rfl | assumption) rfl (by assumption) rfl ?_
      refine y_loc (pc' := 42) xD_76 rfl rfl rfl rfl ?_
      refine y_ci (pc' := 43) (1) xD_76 rfl rfl rfl rfl ?_
      refine y_op (pc' := 44) xD_76 rfl rfl rfl rfl ?_
      refine y_op (pc' := 45) xD_76 rfl rfl rfl rfl ?_
      refine m_iald (pc' := 46) (4 * p + 1) xD_76 rfl (by first | rfl | assumption) (by first | assumption | omega) (by first | decide | assumption) (by first | decide | omega) (ix 1) rfl ?_
      refine y_loc (pc' := 47) xD_76 rfl rfl rfl rfl ?_
      refine y_ci (pc' := 49) (9) xD_76 rfl rfl rfl rfl ?_
      refine y_callV xD_76 rfl rfl rfl rfl (by first | rfl | assumption) rfl rfl rfl rfl (s_draw 9 (by decide) (by decide) rfl) (fun v h' hq => ?_)
      obtain ⟨rfl, rfl⟩ := hq
      rw [xu_ii, xu_xu]
      refine y_ci (pc' := 53) (4) xD_76 rfl rfl rfl rfl ?_
      refine y_op (pc' := 54) xD_76 rfl rfl rfl rfl ?_
      refine y_op (pc' := 55) xD_76 rfl rfl rfl rfl ?_
      refine m_iast (pc' := 56) (4 * p + 1) xD_76 rfl (by first | rfl | assumption) (by first | assumption | omega) (by first | decide | assumption) (ix 1) rfl ?_
      rw [xu_rowI]
      refine y_goto (pc' := 97) xD_76 rfl rfl ?_
      refine y_retV xD_76 rfl rfl ?_
      first
        | (have u0 : dv (dn (J 18 2)) 3 = 0 := (nI_z (by omega)).mp h12
           refine ⟨rfl, upd (I (a + 1)) (4 * p + 1) (dnum (dn (J 18 2)) cc (I 19)), fun i q hq => ?_, ?_⟩
           · exact fin0 u0 i q hq
           · unfold csB
             rw [if_pos u0])
        | (have u0 : ¬ dv (dn (J 18 2)) 3 = 0 := fun q => h12 ((nI_z (by omega)).mpr q)
           have u1 : dv (dn (J 18 2)) 3 = 1 := (nI_eq (b := 1) (by omega) (by decide)).mp h33
           refine ⟨rfl, upd (I (a + 1)) (4 * p + 1) (I (a + 1) (4 * p + 1) + (nI (dv (dn (dn (J 18 2))) 9) - 4)), fun i q hq => ?_, ?_⟩
           · exact fin1 u0 u1 i q hq
           · unfold csB
             rw [if_neg u0, if_pos u1])
        | (have u0 : ¬ dv (dn (J 18 2)) 3 = 0 := fun q => h12 ((nI_z (by omega)).mpr q)
           have u1 : ¬ dv (dn (J 18 2)) 3 = 1 := fun q => h33 (by rw [q]; rfl)
           have u2 := (zB_n0.mp h71).2
           refine ⟨rfl, upd (upd (I (a + 1)) (4 * p + 3) (-1)) (4 * p + 2) (dnum (dn (J 18 2)) cc (I 19)), fun i q hq => ?_, ?_⟩
           · exact fin2 u0 u1 u2 i q hq
           · unfold csB
             rw [if_neg u0, if_neg u1, if_pos u2])
        | (have u0 : ¬ dv (dn (J 18 2)) 3 = 0 := fun q => h12 ((nI_z (by omega)).mpr q)
           have u1 : ¬ dv (dn (J 18 2)) 3 = 1 := fun q => h33 (by rw [q]; rfl)
           have u2 : ¬ I (a + 1) (4 * p) < 2 := fun q => zB_0.mp h71 ⟨kp, q⟩
           refine ⟨rfl, I (a + 1), fun i q hq => ?_, ?_⟩
           · unfold csG
             rw [if_neg u0, if_neg u1, if_neg u2]
           · unfold csB
             rw [if_neg u0, if_neg u1, if_neg u2, xrow_id])
  · skip
    refine y_loc (pc' := 16) xD_76 rfl rfl rfl rfl ?_
    first | refine m_getR (pc' := 19) xD_76 rfl rfl rfl rfl (hR.1 _ _ _ rfl) rfl ?_ | refine m_getR (pc' := 19) xD_76 rfl rfl (by first | rfl | assumption) rfl (by assumption) rfl ?_
    refine y_loc (pc' := 21) xD_76 rfl rfl rfl rfl ?_
    refine y_ci (pc' := 22) (1) xD_76 rfl rfl rfl rfl ?_
    refine y_op (pc' := 23) xD_76 rfl rfl rfl rfl ?_
    refine y_loc (pc' := 24) xD_76 rfl rfl rfl rfl ?_
    refine y_callV xD_76 rfl rfl rfl rfl (by first | rfl | assumption) rfl rfl rfl rfl (s_drawNumber (d := d) hR cc hcc hcc2) (fun v h' hq => ?_)
    obtain ⟨rfl, rfl⟩ := hq
    rw [xu_ii, xu_xu]
    refine m_iast (pc' := 28) (4 * p + 1) xD_76 rfl (by first | rfl | assumption) (by first | assumption | omega) (by first | decide | assumption) (ix 1) rfl ?_
    rw [xu_rowI]
    refine y_goto (pc' := 97) xD_76 rfl rfl ?_
    refine y_retV xD_76 rfl rfl ?_
    first
      | (have u0 : dv (dn (J 18 2)) 3 = 0 := (nI_z (by omega)).mp h12
         refine ⟨rfl, upd (I (a + 1)) (4 * p + 1) (dnum (dn (J 18 2)) cc (I 19)), fun i q hq => ?_, ?_⟩
         · exact fin0 u0 i q hq
         · unfold csB
           rw [if_pos u0])
      | (have u0 : ¬ dv (dn (J 18 2)) 3 = 0 := fun q => h12 ((nI_z (by omega)).mpr q)
         have u1 : dv (dn (J 18 2)) 3 = 1 := (nI_eq (b := 1) (by omega) (by decide)).mp h33
         refine ⟨rfl, upd (I (a + 1)) (4 * p + 1) (I (a + 1) (4 * p + 1) + (nI (dv (dn (dn (J 18 2))) 9) - 4)), fun i q hq => ?_, ?_⟩
         · exact fin1 u0 u1 i q hq
         · unfold csB
           rw [if_neg u0, if_pos u1])
      | (have u0 : ¬ dv (dn (J 18 2)) 3 = 0 := fun q => h12 ((nI_z (by omega)).mpr q)
         have u1 : ¬ dv (dn (J 18 2)) 3 = 1 := fun q => h33 (by rw [q]; rfl)
         have u2 := (zB_n0.mp h71).2
         refine ⟨rfl, upd (upd (I (a + 1)) (4 * p + 3) (-1)) (4 * p + 2) (dnum (dn (J 18 2)) cc (I 19)), fun i q hq => ?_, ?_⟩
         · exact fin2 u0 u1 u2 i q hq
         · unfold csB
           rw [if_neg u0, if_neg u1, if_pos u2])
      | (have u0 : ¬ dv (dn (J 18 2)) 3 = 0 := fun q => h12 ((nI_z (by omega)).mpr q)
         have u1 : ¬ dv (dn (J 18 2)) 3 = 1 := fun q => h33 (by rw [q]; rfl)
         have u2 : ¬ I (a + 1) (4 * p) < 2 := fun q => zB_0.mp h71 ⟨kp, q⟩
         refine ⟨rfl, I (a + 1), fun i q hq => ?_, ?_⟩
         · unfold csG
           rw [if_neg u0, if_neg u1, if_neg u2]
         · unfold csB
           rw [if_neg u0, if_neg u1, if_neg u2, xrow_id])
end CS
end
section
/-! A case changed. -/
def st4 (a b c e : Int32) (q : Nat) : Int32 := if q = 0 then a else if q = 1 then b else if q = 2 then c else e
def chN (n : Nat) (b : Int64) : Nat := if dv (dn b) 3 = 0 then (if n < 6 then n + 1 else n) else if dv (dn b) 3 = 1 then (if 1 < n then n - 1 else n) else n
def chB (f : Nat → Int32) (n : Nat) (b : Int64) : Int64 := if dv (dn b) 3 = 0 then (if n < 6 then dS (dv (dn (dn b)) (n + 1)) (dn (dn b)) else dn b) else if dv (dn b) 3 = 1 then (if 1 < n then dn (dn b) else dn b) else csB f (dv (dn (dn b)) n) (dn (dn b))
def chG (cc : Nat) (con f : Nat → Int32) (n : Nat) (b : Int64) (i q : Nat) : Int32 :=
  if dv (dn b) 3 = 0 then (if n < 6 then (if i = dv (dn (dn b)) (n + 1) then st4 (dK (dn (dn b))) (dX cc con (dn (dn b))) (dY cc con (dv (dn (dn b)) (n + 1)) (dn (dn b))) (dF (dv (dn (dn b)) (n + 1)) (dn (dn b))) q else mkR f (dv (dn (dn b)) (n + 1)) i q) else f (4 * i + q))
  else if dv (dn b) 3 = 1 then (if 1 < n then tkO f (dv (dn (dn b)) n) i q else f (4 * i + q))
  else csG cc con f (dv (dn (dn b)) n) (dn (dn b)) i q
theorem xu_same {α : Type} {f : Nat → Nat → α} {a i : Nat} {v : α} (h : f a i = v) : xu f a i v = f := by
  funext x y
  unfold xu
  by_cases hc : x = a ∧ y = i
  · rw [if_pos hc, hc.1, hc.2, h]
  · rw [if_neg hc]
section CH
variable {S : XS} {d a s : Nat} {I : Nat → Nat → Int32} {J : Nat → Nat → Int64} {R : Nat → Nat → Option Nat}
theorem s_change (hR : RF R) (hc : isCase a) (cc : Nat) (hcc : I 18 1 = nI cc) (hcc2 : cc ≤ 20) (n : Nat) (hn : I a 3 = nI n) (hn0 : 0 < n) (hn6 : n ≤ 6) (hV : ∀ j, j < n → VT (I (a + 1)) j) :
    XP S (d + 3) 73 0 (xent [.ref 18, .ref a] 4) [] (hh I J R) (fun v h' => v = none ∧ ∃ g, (∀ i q, i < chN n (J 18 2) → q < 4 → g (4 * i + q) = chG cc (I 19) (I (a + 1)) n (J 18 2) i q) ∧ h' = hh (xrow (xu I a 3 (nI (chN n (J 18 2)))) (a + 1) g) (xu J 18 2 (chB (I (a + 1)) n (J 18 2))) R) := by
  have ka := (kCase hc).1
  have ka1 := (kCase hc).2.1
  have ra := (hR.2 a hc).1
  have h3 := dv_lt (dn (J 18 2)) (n := 3) (by decide)
  have hp := dv_lt (dn (dn (J 18 2))) (n := n) hn0
  have hp1 := dv_lt (dn (dn (J 18 2))) (n := n + 1) (by omega)
  have hne : (18 : Nat) ≠ a + 1 ∧ (19 : Nat) ≠ a + 1 ∧ (18 : Nat) ≠ a ∧ (19 : Nat) ≠ a := by unfold isCase at hc; omega
  have same : xrow (xu I a 3 (nI n)) (a + 1) (I (a + 1)) = I := by rw [xu_same hn, xrow_id]
  refine y_loc (pc' := 1) xD_73 rfl rfl rfl rfl ?_
  refine y_ci (pc' := 2) (3) xD_73 rfl rfl rfl rfl ?_
  refine y_callV xD_73 rfl rfl rfl rfl (by first | rfl | assumption) rfl rfl rfl rfl (s_draw 3 (by decide) (by decide) rfl) (fun v h' hq => ?_)
  obtain ⟨rfl, rfl⟩ := hq
  refine y_loc (pc' := 6) xD_73 rfl rfl rfl rfl ?_
  refine y_loc (pc' := 7) xD_73 rfl rfl rfl rfl ?_
  refine y_ifne (pt := 44) (pf := 10) xD_73 rfl rfl rfl (fun h7 => ?_) (fun h7 => ?_)
  · skip
    have u0 : ¬ dv (dn (J 18 2)) 3 = 0 := fun q => h7 ((nI_z (by omega)).mpr q)
    refine y_loc (pc' := 45) xD_73 rfl rfl rfl rfl ?_
    refine y_ci (pc' := 46) (1) xD_73 rfl rfl rfl rfl ?_
    refine y_icne (pt := 72) (pf := 49) xD_73 rfl rfl rfl (fun h46 => ?_) (fun h46 => ?_)
    · skip
      have u1 : ¬ dv (dn (J 18 2)) 3 = 1 := fun q => h46 (by rw [q]; rfl)
      refine y_loc (pc' := 73) xD_73 rfl rfl rfl rfl ?_
      refine y_loc (pc' := 74) xD_73 rfl rfl rfl rfl ?_
      refine y_loc (pc' := 75) xD_73 rfl rfl rfl rfl ?_
      refine y_loc (pc' := 76) xD_73 rfl rfl rfl rfl ?_
      refine m_getI (pc' := 79) xD_73 rfl rfl rfl (by first | rfl | assumption) (hn) rfl ?_
      refine y_callV xD_73 rfl rfl rfl rfl (by first | rfl | assumption) rfl rfl rfl rfl (s_draw n hn0 (by omega) rfl) (fun v h' hq => ?_)
      obtain ⟨rfl, rfl⟩ := hq
      rw [xu_ii, xu_xu]
      skip
      refine y_callV xD_73 rfl rfl rfl rfl rfl rfl rfl rfl rfl (s_changeStep (d := d) hR hc cc hcc hcc2 _ (Nat.lt_of_lt_of_le hp hn6) (hV _ hp) rfl) (fun v h' hq => ?_)
      obtain ⟨rfl, g, hg, rfl⟩ := hq
      refine y_retV xD_73 rfl rfl ?_
      refine ⟨rfl, g, fun i q _ hq => ?_, ?_⟩
      · rw [hg i q hq, xu_ii]
        unfold chG
        rw [if_neg u0, if_neg u1]
      · rw [xu_ii, xu_xu]
        unfold chB chN
        rw [if_neg u0, if_neg u1, if_neg u0, if_neg u1, xu_same hn]
    · skip
      have u1 : dv (dn (J 18 2)) 3 = 1 := (nI_eq (b := 1) (by omega) (by decide)).mp h46
      refine y_loc (pc' := 50) xD_73 rfl rfl rfl rfl ?_
      refine m_getI (pc' := 53) xD_73 rfl rfl rfl (by first | rfl | assumption) (hn) rfl ?_
      refine y_ci (pc' := 54) (1) xD_73 rfl rfl rfl rfl ?_
      refine y_icle (pt := 85) (pf := 57) xD_73 rfl rfl rfl (fun h54 => ?_) (fun h54 => ?_)
      · skip
        have n1 : ¬ 1 < n := Nat.not_lt.mpr ((nI_leI (b := 1) (by omega) (by decide)).mp h54)
        refine y_retV xD_73 rfl rfl ?_
        refine ⟨rfl, I (a + 1), fun i q _ hq => ?_, ?_⟩
        · unfold chG
          rw [if_neg u0, if_pos u1, if_neg n1]
        · unfold chB chN
          rw [if_neg u0, if_pos u1, if_neg n1, if_neg u0, if_pos u1, if_neg n1, same]
      · skip
        have n1 : 1 < n := Nat.lt_of_not_le (fun q => h54 ((nI_leI (b := 1) (by omega) (by decide)).mpr q))
        obtain ⟨m, rfl⟩ : ∃ m, n = m + 1 := ⟨n - 1, by omega⟩
        refine y_loc (pc' := 58) xD_73 rfl rfl rfl rfl ?_
        refine y_loc (pc' := 59) xD_73 rfl rfl rfl rfl ?_
        refine y_loc (pc' := 60) xD_73 rfl rfl rfl rfl ?_
        refine m_getI (pc' := 63) xD_73 rfl rfl rfl (by first | rfl | assumption) (hn) rfl ?_
        refine y_callV xD_73 rfl rfl rfl rfl (by first | rfl | assumption) rfl rfl rfl rfl (s_draw (m + 1) hn0 (by omega) rfl) (fun v h' hq => ?_)
        obtain ⟨rfl, rfl⟩ := hq
        rw [xu_ii, xu_xu]
        refine y_callV xD_73 rfl rfl rfl rfl (by first | rfl | assumption) rfl rfl rfl rfl (s_takeOut (d := d + 1) hR hc m _ hn hn6 (Nat.le_of_lt_succ hp) hV rfl) (fun v h' hq => ?_)
        obtain ⟨rfl, g, hg, rfl⟩ := hq
        refine y_goto (pc' := 85) xD_73 rfl rfl ?_
        refine y_retV xD_73 rfl rfl ?_
        refine ⟨rfl, g, fun i q hi hq => ?_, ?_⟩
        · unfold chN at hi
          rw [if_neg u0, if_pos u1, if_pos n1] at hi
          unfold chG
          rw [if_neg u0, if_pos u1, if_pos n1]
          exact hg i q (by omega) hq
        · unfold chB chN
          rw [if_neg u0, if_pos u1, if_pos n1, if_neg u0, if_pos u1, if_pos n1]
          rfl
  · skip
    have u0 : dv (dn (J 18 2)) 3 = 0 := (nI_z (by omega)).mp h7
    refine y_loc (pc' := 11) xD_73 rfl rfl rfl rfl ?_
    refine m_getI (pc' := 14) xD_73 rfl rfl rfl (by first | rfl | assumption) (hn) rfl ?_
    refine y_ci (pc' := 16) (6) xD_73 rfl rfl rfl rfl ?_
    refine y_icge (pt := 85) (pf := 19) xD_73 rfl rfl rfl (fun h16 => ?_) (fun h16 => ?_)
    · skip
      have n6 : ¬ n < 6 := Nat.not_lt.mpr ((nI_leI (a := 6) (by decide) (by omega)).mp h16)
      refine y_retV xD_73 rfl rfl ?_
      refine ⟨rfl, I (a + 1), fun i q _ hq => ?_, ?_⟩
      · unfold chG
        rw [if_pos u0, if_neg n6]
      · unfold chB chN
        rw [if_pos u0, if_neg n6, if_pos u0, if_neg n6, same]
    · skip
      have n6 : n < 6 := Nat.lt_of_not_le (fun q => h16 ((nI_leI (a := 6) (by decide) (by omega)).mpr q))
      refine y_loc (pc' := 20) xD_73 rfl rfl rfl rfl ?_
      refine y_loc (pc' := 21) xD_73 rfl rfl rfl rfl ?_
      refine m_getI (pc' := 24) xD_73 rfl rfl rfl (by first | rfl | assumption) (hn) rfl ?_
      refine y_ci (pc' := 25) (1) xD_73 rfl rfl rfl rfl ?_
      refine y_iadd (pc' := 26) xD_73 rfl (nI_1 n) rfl ?_
      refine y_callV xD_73 rfl rfl rfl rfl (by first | rfl | assumption) rfl rfl rfl rfl (s_draw (n + 1) (by omega) (by omega) rfl) (fun v h' hq => ?_)
      obtain ⟨rfl, rfl⟩ := hq
      rw [xu_ii, xu_xu]
      refine y_loc (pc' := 30) xD_73 rfl rfl rfl rfl ?_
      refine y_loc (pc' := 31) xD_73 rfl rfl rfl rfl ?_
      refine y_loc (pc' := 32) xD_73 rfl rfl rfl rfl ?_
      refine y_callV xD_73 rfl rfl rfl rfl (by first | rfl | assumption) rfl rfl rfl rfl (s_makeRoom (d := d + 1) hR hc n _ hn n6 (Nat.le_of_lt_succ hp1) rfl) (fun v h' hq => ?_)
      obtain ⟨rfl, g, hg, rfl⟩ := hq
      refine y_loc (pc' := 36) xD_73 rfl rfl rfl rfl ?_
      refine y_loc (pc' := 37) xD_73 rfl rfl rfl rfl ?_
      refine y_loc (pc' := 38) xD_73 rfl rfl rfl rfl ?_
      have ec : xrow (xu I a 3 (nI (n + 1))) (a + 1) g 19 = I 19 := by rw [xrow_ne hne.2.1]; funext y; unfold xu; rw [if_neg (fun q => hne.2.2.2 q.1)]
      have ed : xrow (xu I a 3 (nI (n + 1))) (a + 1) g 18 1 = nI cc := by rw [xrow_ne hne.1]; unfold xu; rw [if_neg (fun q => hne.2.2.1 q.1)]; exact hcc
      refine y_callV xD_73 rfl rfl rfl rfl rfl rfl rfl rfl rfl (s_drawStep (d := d) hR hc cc ed hcc2 _ (Nat.lt_of_lt_of_le hp1 (by omega)) rfl) (fun v h' hq => ?_)
      obtain ⟨rfl, rfl⟩ := hq
      rw [ec, xrow_row, xrow_at, xu_ii, xu_xu]
      refine y_goto (pc' := 85) xD_73 rfl rfl ?_
      refine y_retV xD_73 rfl rfl ?_
      refine ⟨rfl, w4 g (4 * (dv (dn (dn (J 18 2))) (n + 1))) (dK (dn (dn (J 18 2)))) (dX cc (I 19) (dn (dn (J 18 2)))) (dY cc (I 19) (dv (dn (dn (J 18 2))) (n + 1)) (dn (dn (J 18 2)))) (dF (dv (dn (dn (J 18 2))) (n + 1)) (dn (dn (J 18 2)))), fun i q hi hq => ?_, by unfold chB chN; rw [if_pos u0, if_pos n6, if_pos u0, if_pos n6]⟩
      · unfold chN at hi
        rw [if_pos u0, if_pos n6] at hi
        unfold chG st4
        rw [if_pos u0, if_pos n6, w4_pt hq]
        by_cases h : i = dv (dn (dn (J 18 2))) (n + 1)
        · rw [if_pos h, if_pos h]
        · rw [if_neg h, if_neg h]
          exact hg i q hi h hq
end CH
end
section
/-! A slot changed. -/
theorem isS_c {I I' : Nat → Nat → Int32} (h4 : I' 264 = I 264) (h5 : I' 265 = I 265) : isS I' = isS I := by
  funext q
  unfold isS lnM cdM
  rw [h4, h5]
theorem scnt_c {I I' : Nat → Nat → Int32} (h4 : I' 264 = I 264) (h5 : I' 265 = I 265) : ∀ n, scnt I' n = scnt I n
  | 0 => rfl
  | n + 1 => by
    simp only [scnt]
    rw [isS_c h4 h5, scnt_c h4 h5 n]
theorem PL_c {I I' : Nat → Nat → Int32} (h5 : I' 265 = I 265) (h : PL I) : PL I' := by
  intro m hm
  have := h m hm
  unfold lnM at this ⊢
  rw [h5]
  exact this
section MC
variable {S : XS} {d s : Nat} {I : Nat → Nat → Int32} {J : Nat → Nat → Int64} {R : Nat → Nat → Option Nat}
theorem s_mchstep (hR : RF R) (hs : s < 67) (hL : PL I) (cc : Nat) (hcc : cc = scnt I 20) (con : Nat → Int32) (hcon : ∀ q, q < 20 → isS I q → con (scnt I q) = cdM I (q / 10) (q % 10) 3) (p : Nat) (p6 : p < 6) {xs : Int32} (e0 : xs = nI s) {q2 q3 q4 q5 q6 q7 : Option Value} :
    XP S (d + 4) 143 86 [some (.ref 261), some (.int xs), q2, q3, q4, q5, q6, q7] [.int (nI p)] (hh I J R) (fun v h' => v = none ∧ ∃ g, (∀ i q, q < 4 → g (4 * i + q) = csG cc con (slM I s) p (J 261 14) i q) ∧ h' = hh (xrow I 262 (sl1 (I 262) s g)) (xu J 261 14 (csB (slM I s) p (J 261 14))) R) := by
  have w3 := dv_lt (dn (J 261 14)) (n := 3) (by decide)
  have ix : xs * 24 + nI p * 4 + 1 = nI (24 * s + (4 * p + 1)) := by rw [e0]; show nI s * nI 24 + nI p * nI 4 + nI 1 = _; rw [pk_mul, pk_mul, nI_add, nI_add]; congr 1; omega
  have e : xrow I 262 (sl1 (I 262) s (slM I s)) = I := by
    refine Eq.trans ?_ (xrow_id (f := I) (a := 262))
    congr 1
    funext i
    unfold sl1 slM
    by_cases h : i / 24 = s
    · rw [if_pos h]; congr 1; omega
    · rw [if_neg h]
  refine y_loc (pc' := 88) xD_143 rfl rfl rfl rfl ?_
  refine y_loc (pc' := 89) xD_143 rfl rfl rfl rfl ?_
  refine y_ci (pc' := 90) (3) xD_143 rfl rfl rfl rfl ?_
  refine y_callV xD_143 rfl rfl rfl rfl (by first | rfl | assumption) rfl rfl rfl rfl (s_mdraw 3 (by decide) (by decide) rfl) (fun v h' hq => ?_)
  obtain ⟨rfl, rfl⟩ := hq
  refine y_loc (pc' := 95) xD_143 rfl rfl rfl rfl ?_
  refine y_loc (pc' := 96) xD_143 rfl rfl rfl rfl ?_
  refine y_loc (pc' := 97) xD_143 rfl rfl rfl rfl ?_
  refine y_loc (pc' := 99) xD_143 rfl rfl rfl rfl ?_
  refine y_ci (pc' := 100) (0) xD_143 rfl rfl rfl rfl ?_
  refine y_callV xD_143 rfl rfl rfl rfl (by first | rfl | assumption) rfl rfl rfl rfl (s_mpart hR hs p 0 p6 (by decide) e0 rfl rfl) (fun v h' hq => ?_)
  obtain ⟨rfl, rfl⟩ := hq
  refine y_loc (pc' := 105) xD_143 rfl rfl rfl rfl ?_
  refine y_loc (pc' := 107) xD_143 rfl rfl rfl rfl ?_
  refine y_ifne (pt := 133) (pf := 110) xD_143 rfl rfl rfl (fun h107 => ?_) (fun h107 => ?_)
  · skip
    refine y_loc (pc' := 135) xD_143 rfl rfl rfl rfl ?_
    refine y_ci (pc' := 136) (1) xD_143 rfl rfl rfl rfl ?_
    refine y_icne (pt := 169) (pf := 139) xD_143 rfl rfl rfl (fun h136 => ?_) (fun h136 => ?_)
    · skip
      refine y_loc (pc' := 171) xD_143 rfl rfl rfl rfl ?_
      refine y_ci (pc' := 172) (2) xD_143 rfl rfl rfl rfl ?_
      refine y_icge (pt := 191) (pf := 175) xD_143 rfl rfl rfl (fun h172 => ?_) (fun h172 => ?_)
      · skip
        refine y_retV xD_143 rfl rfl ?_
        first
          | (have v0 : dv (dn (J 261 14)) 3 = 0 := (nI_z (by omega)).mp h107
             refine ⟨rfl, upd (slM I s) (4 * p + 1) (dnum (dn (J 261 14)) cc con), fun i q hq => ?_, ?_⟩
             · unfold csG
               rw [upd4 (p := 1) (by decide) hq, if_pos v0]
             · unfold csB
               rw [if_pos v0]
               rfl)
          | (have v0 : ¬ dv (dn (J 261 14)) 3 = 0 := fun q => h107 ((nI_z (by omega)).mpr q)
             have v1 : dv (dn (J 261 14)) 3 = 1 := (nI_eq (b := 1) (by omega) (by decide)).mp h136
             refine ⟨rfl, upd (slM I s) (4 * p + 1) (slM I s (4 * p + 1) + (nI (dv (dn (dn (J 261 14))) 9) - 4)), fun i q hq => ?_, ?_⟩
             · unfold csG
               rw [upd4 (p := 1) (by decide) hq, if_neg v0, if_pos v1]
             · unfold csB
               rw [if_neg v0, if_pos v1]
               rfl)
          | (have v0 : ¬ dv (dn (J 261 14)) 3 = 0 := fun q => h107 ((nI_z (by omega)).mpr q)
             have v1 : ¬ dv (dn (J 261 14)) 3 = 1 := fun q => h136 (by rw [q]; rfl)
             have v2 : slM I s (4 * p) < 2 := Int32.not_le.mp h172
             refine ⟨rfl, w2 (slM I s) (4 * p) (dnum (dn (J 261 14)) cc con) (-1), fun i q hq => ?_, ?_⟩
             · unfold csG w2
               rw [upd4 (p := 3) (by decide) hq, upd4 (p := 2) (by decide) hq, if_neg v0, if_neg v1, if_pos v2]
               by_cases c3 : i = p ∧ q = 3
               · rw [if_pos c3, if_neg (show ¬ (i = p ∧ q = 2) by omega), if_pos c3]
               · rw [if_neg c3, if_neg c3]
             · unfold csB
               rw [if_neg v0, if_neg v1, if_pos v2]
               rfl)
          | (have v0 : ¬ dv (dn (J 261 14)) 3 = 0 := fun q => h107 ((nI_z (by omega)).mpr q)
             have v1 : ¬ dv (dn (J 261 14)) 3 = 1 := fun q => h136 (by rw [q]; rfl)
             have v2 : ¬ slM I s (4 * p) < 2 := Int32.not_lt.mpr h172
             refine ⟨rfl, slM I s, fun i q hq => ?_, ?_⟩
             · unfold csG
               rw [if_neg v0, if_neg v1, if_neg v2]
             · unfold csB
               rw [if_neg v0, if_neg v1, if_neg v2, e])
      · skip
        refine y_loc (pc' := 176) xD_143 rfl rfl rfl rfl ?_
        refine y_callV xD_143 rfl rfl rfl rfl (by first | rfl | assumption) rfl rfl rfl rfl (s_mdrawNumber (d := d + 1) hR hL cc hcc con hcon) (fun v h' hq => ?_)
        obtain ⟨rfl, rfl⟩ := hq
        rw [xu_ii, xu_xu]
        refine y_loc (pc' := 181) xD_143 rfl rfl rfl rfl ?_
        refine y_loc (pc' := 182) xD_143 rfl rfl rfl rfl ?_
        refine y_loc (pc' := 183) xD_143 rfl rfl rfl rfl ?_
        refine y_loc (pc' := 185) xD_143 rfl rfl rfl rfl ?_
        refine y_loc (pc' := 187) xD_143 rfl rfl rfl rfl ?_
        refine y_ci (pc' := 188) (-1) xD_143 rfl rfl rfl rfl ?_
        refine y_callV xD_143 rfl rfl rfl rfl (by first | rfl | assumption) rfl rfl rfl rfl (s_msecond hR hs p p6 e0 rfl) (fun v h' hq => ?_)
        obtain ⟨rfl, rfl⟩ := hq
        rw [w2_sl1 p6, if_pos (show (-1 : Int32) < 0 by decide)]
        refine y_retV xD_143 rfl rfl ?_
        first
          | (have v0 : dv (dn (J 261 14)) 3 = 0 := (nI_z (by omega)).mp h107
             refine ⟨rfl, upd (slM I s) (4 * p + 1) (dnum (dn (J 261 14)) cc con), fun i q hq => ?_, ?_⟩
             · unfold csG
               rw [upd4 (p := 1) (by decide) hq, if_pos v0]
             · unfold csB
               rw [if_pos v0]
               rfl)
          | (have v0 : ¬ dv (dn (J 261 14)) 3 = 0 := fun q => h107 ((nI_z (by omega)).mpr q)
             have v1 : dv (dn (J 261 14)) 3 = 1 := (nI_eq (b := 1) (by omega) (by decide)).mp h136
             refine ⟨rfl, upd (slM I s) (4 * p + 1) (slM I s (4 * p + 1) + (nI (dv (dn (dn (J 261 14))) 9) - 4)), fun i q hq => ?_, ?_⟩
             · unfold csG
               rw [upd4 (p := 1) (by decide) hq, if_neg v0, if_pos v1]
             · unfold csB
               rw [if_neg v0, if_pos v1]
               rfl)
          | (have v0 : ¬ dv (dn (J 261 14)) 3 = 0 := fun q => h107 ((nI_z (by omega)).mpr q)
             have v1 : ¬ dv (dn (J 261 14)) 3 = 1 := fun q => h136 (by rw [q]; rfl)
             have v2 : slM I s (4 * p) < 2 := Int32.not_le.mp h172
             refine ⟨rfl, w2 (slM I s) (4 * p) (dnum (dn (J 261 14)) cc con) (-1), fun i q hq => ?_, ?_⟩
             · unfold csG w2
               rw [upd4 (p := 3) (by decide) hq, upd4 (p := 2) (by decide) hq, if_neg v0, if_neg v1, if_pos v2]
               by_cases c3 : i = p ∧ q = 3
               · rw [if_pos c3, if_neg (show ¬ (i = p ∧ q = 2) by omega), if_pos c3]
               · rw [if_neg c3, if_neg c3]
             · unfold csB
               rw [if_neg v0, if_neg v1, if_pos v2]
               rfl)
          | (have v0 : ¬ dv (dn (J 261 14)) 3 = 0 := fun q => h107 ((nI_z (by omega)).mpr q)
             have v1 : ¬ dv (dn (J 261 14)) 3 = 1 := fun q => h136 (by rw [q]; rfl)
             have v2 : ¬ slM I s (4 * p) < 2 := Int32.not_lt.mpr h172
             refine ⟨rfl, slM I s, fun i q hq => ?_, ?_⟩
             · unfold csG
               rw [if_neg v0, if_neg v1, if_neg v2]
             · unfold csB
               rw [if_neg v0, if_neg v1, if_neg v2, e])
    · skip
      refine y_loc (pc' := 140) xD_143 rfl rfl rfl rfl ?_
      first | refine m_getR (pc' := 143) xD_143 rfl rfl rfl rfl (hR.1 _ _ _ rfl) rfl ?_ | refine m_getR (pc' := 143) xD_143 rfl rfl (by first | rfl | assumption) rfl (by assumption) rfl ?_
      refine y_loc (pc' := 144) xD_143 rfl rfl rfl rfl ?_
      refine y_ci (pc' := 146) (24) xD_143 rfl rfl rfl rfl ?_
      refine y_op (pc' := 147) xD_143 rfl rfl rfl rfl ?_
      refine y_loc (pc' := 149) xD_143 rfl rfl rfl rfl ?_
      refine y_ci (pc' := 150) (4) xD_143 rfl rfl rfl rfl ?_
      refine y_op (pc' := 151) xD_143 rfl rfl rfl rfl ?_
      refine y_op (pc' := 152) xD_143 rfl rfl rfl rfl ?_
      refine y_ci (pc' := 153) (1) xD_143 rfl rfl rfl rfl ?_
      refine y_op (pc' := 154) xD_143 rfl rfl rfl rfl ?_
      refine y_op (pc' := 155) xD_143 rfl rfl rfl rfl ?_
      refine m_iald (pc' := 156) (24 * s + (4 * p + 1)) xD_143 rfl (by first | rfl | assumption) (by first | assumption | omega) (by first | decide | assumption) (by first | decide | omega) ix rfl ?_
      refine y_loc (pc' := 157) xD_143 rfl rfl rfl rfl ?_
      refine y_ci (pc' := 159) (9) xD_143 rfl rfl rfl rfl ?_
      refine y_callV xD_143 rfl rfl rfl rfl (by first | rfl | assumption) rfl rfl rfl rfl (s_mdraw 9 (by decide) (by decide) rfl) (fun v h' hq => ?_)
      obtain ⟨rfl, rfl⟩ := hq
      rw [xu_ii, xu_xu]
      refine y_ci (pc' := 163) (4) xD_143 rfl rfl rfl rfl ?_
      refine y_op (pc' := 164) xD_143 rfl rfl rfl rfl ?_
      refine y_op (pc' := 165) xD_143 rfl rfl rfl rfl ?_
      refine m_iast (pc' := 166) (24 * s + (4 * p + 1)) xD_143 rfl (by first | rfl | assumption) (by first | assumption | omega) (by first | decide | assumption) ix rfl ?_
      rw [xu_rowI, sl1_upd (by omega)]
      refine y_goto (pc' := 191) xD_143 rfl rfl ?_
      refine y_retV xD_143 rfl rfl ?_
      first
        | (have v0 : dv (dn (J 261 14)) 3 = 0 := (nI_z (by omega)).mp h107
           refine ⟨rfl, upd (slM I s) (4 * p + 1) (dnum (dn (J 261 14)) cc con), fun i q hq => ?_, ?_⟩
           · unfold csG
             rw [upd4 (p := 1) (by decide) hq, if_pos v0]
           · unfold csB
             rw [if_pos v0]
             rfl)
        | (have v0 : ¬ dv (dn (J 261 14)) 3 = 0 := fun q => h107 ((nI_z (by omega)).mpr q)
           have v1 : dv (dn (J 261 14)) 3 = 1 := (nI_eq (b := 1) (by omega) (by decide)).mp h136
           refine ⟨rfl, upd (slM I s) (4 * p + 1) (slM I s (4 * p + 1) + (nI (dv (dn (dn (J 261 14))) 9) - 4)), fun i q hq => ?_, ?_⟩
           · unfold csG
             rw [upd4 (p := 1) (by decide) hq, if_neg v0, if_pos v1]
           · unfold csB
             rw [if_neg v0, if_pos v1]
             rfl)
        | (have v0 : ¬ dv (dn (J 261 14)) 3 = 0 := fun q => h107 ((nI_z (by omega)).mpr q)
           have v1 : ¬ dv (dn (J 261 14)) 3 = 1 := fun q => h136 (by rw [q]; rfl)
           have v2 : slM I s (4 * p) < 2 := Int32.not_le.mp h172
           refine ⟨rfl, w2 (slM I s) (4 * p) (dnum (dn (J 261 14)) cc con) (-1), fun i q hq => ?_, ?_⟩
           · unfold csG w2
             rw [upd4 (p := 3) (by decide) hq, upd4 (p := 2) (by decide) hq, if_neg v0, if_neg v1, if_pos v2]
             by_cases c3 : i = p ∧ q = 3
             · rw [if_pos c3, if_neg (show ¬ (i = p ∧ q = 2) by omega), if_pos c3]
             · rw [if_neg c3, if_neg c3]
           · unfold csB
             rw [if_neg v0, if_neg v1, if_pos v2]
             rfl)
        | (have v0 : ¬ dv (dn (J 261 14)) 3 = 0 := fun q => h107 ((nI_z (by omega)).mpr q)
           have v1 : ¬ dv (dn (J 261 14)) 3 = 1 := fun q => h136 (by rw [q]; rfl)
           have v2 : ¬ slM I s (4 * p) < 2 := Int32.not_lt.mpr h172
           refine ⟨rfl, slM I s, fun i q hq => ?_, ?_⟩
           · unfold csG
             rw [if_neg v0, if_neg v1, if_neg v2]
           · unfold csB
             rw [if_neg v0, if_neg v1, if_neg v2, e])
  · skip
    refine y_loc (pc' := 111) xD_143 rfl rfl rfl rfl ?_
    first | refine m_getR (pc' := 114) xD_143 rfl rfl rfl rfl (hR.1 _ _ _ rfl) rfl ?_ | refine m_getR (pc' := 114) xD_143 rfl rfl (by first | rfl | assumption) rfl (by assumption) rfl ?_
    refine y_loc (pc' := 115) xD_143 rfl rfl rfl rfl ?_
    refine y_ci (pc' := 117) (24) xD_143 rfl rfl rfl rfl ?_
    refine y_op (pc' := 118) xD_143 rfl rfl rfl rfl ?_
    refine y_loc (pc' := 120) xD_143 rfl rfl rfl rfl ?_
    refine y_ci (pc' := 121) (4) xD_143 rfl rfl rfl rfl ?_
    refine y_op (pc' := 122) xD_143 rfl rfl rfl rfl ?_
    refine y_op (pc' := 123) xD_143 rfl rfl rfl rfl ?_
    refine y_ci (pc' := 124) (1) xD_143 rfl rfl rfl rfl ?_
    refine y_op (pc' := 125) xD_143 rfl rfl rfl rfl ?_
    refine y_loc (pc' := 126) xD_143 rfl rfl rfl rfl ?_
    refine y_callV xD_143 rfl rfl rfl rfl (by first | rfl | assumption) rfl rfl rfl rfl (s_mdrawNumber (d := d + 1) hR hL cc hcc con hcon) (fun v h' hq => ?_)
    obtain ⟨rfl, rfl⟩ := hq
    rw [xu_ii, xu_xu]
    refine m_iast (pc' := 130) (24 * s + (4 * p + 1)) xD_143 rfl (by first | rfl | assumption) (by first | assumption | omega) (by first | decide | assumption) ix rfl ?_
    rw [xu_rowI, sl1_upd (by omega)]
    refine y_goto (pc' := 191) xD_143 rfl rfl ?_
    refine y_retV xD_143 rfl rfl ?_
    first
      | (have v0 : dv (dn (J 261 14)) 3 = 0 := (nI_z (by omega)).mp h107
         refine ⟨rfl, upd (slM I s) (4 * p + 1) (dnum (dn (J 261 14)) cc con), fun i q hq => ?_, ?_⟩
         · unfold csG
           rw [upd4 (p := 1) (by decide) hq, if_pos v0]
         · unfold csB
           rw [if_pos v0]
           rfl)
      | (have v0 : ¬ dv (dn (J 261 14)) 3 = 0 := fun q => h107 ((nI_z (by omega)).mpr q)
         have v1 : dv (dn (J 261 14)) 3 = 1 := (nI_eq (b := 1) (by omega) (by decide)).mp h136
         refine ⟨rfl, upd (slM I s) (4 * p + 1) (slM I s (4 * p + 1) + (nI (dv (dn (dn (J 261 14))) 9) - 4)), fun i q hq => ?_, ?_⟩
         · unfold csG
           rw [upd4 (p := 1) (by decide) hq, if_neg v0, if_pos v1]
         · unfold csB
           rw [if_neg v0, if_pos v1]
           rfl)
      | (have v0 : ¬ dv (dn (J 261 14)) 3 = 0 := fun q => h107 ((nI_z (by omega)).mpr q)
         have v1 : ¬ dv (dn (J 261 14)) 3 = 1 := fun q => h136 (by rw [q]; rfl)
         have v2 : slM I s (4 * p) < 2 := Int32.not_le.mp h172
         refine ⟨rfl, w2 (slM I s) (4 * p) (dnum (dn (J 261 14)) cc con) (-1), fun i q hq => ?_, ?_⟩
         · unfold csG w2
           rw [upd4 (p := 3) (by decide) hq, upd4 (p := 2) (by decide) hq, if_neg v0, if_neg v1, if_pos v2]
           by_cases c3 : i = p ∧ q = 3
           · rw [if_pos c3, if_neg (show ¬ (i = p ∧ q = 2) by omega), if_pos c3]
           · rw [if_neg c3, if_neg c3]
         · unfold csB
           rw [if_neg v0, if_neg v1, if_pos v2]
           rfl)
      | (have v0 : ¬ dv (dn (J 261 14)) 3 = 0 := fun q => h107 ((nI_z (by omega)).mpr q)
         have v1 : ¬ dv (dn (J 261 14)) 3 = 1 := fun q => h136 (by rw [q]; rfl)
         have v2 : ¬ slM I s (4 * p) < 2 := Int32.not_lt.mpr h172
         refine ⟨rfl, slM I s, fun i q hq => ?_, ?_⟩
         · unfold csG
           rw [if_neg v0, if_neg v1, if_neg v2]
         · unfold csB
           rw [if_neg v0, if_neg v1, if_neg v2, e])
theorem s_mchange (hR : RF R) (hs : s < 67) (hL : PL I) (cc : Nat) (hcc : cc = scnt I 20) (con : Nat → Int32) (hcon : ∀ q, q < 20 → isS I q → con (scnt I q) = cdM I (q / 10) (q % 10) 3) (n : Nat) (hn : I 263 s = nI n) (hn0 : 0 < n) (hn6 : n ≤ 6) (hV : ∀ j, j < n → VT (slM I s) j) {xs : Int32} (e0 : xs = nI s) :
    XP S (d + 4) 143 0 (xent [.ref 261, .int xs] 8) [] (hh I J R) (fun v h' => v = none ∧ ∃ g, (∀ i q, i < chN n (J 261 14) → q < 4 → g (4 * i + q) = chG cc con (slM I s) n (J 261 14) i q) ∧ h' = hh (xu (xrow I 262 (sl1 (I 262) s g)) 263 s (nI (chN n (J 261 14)))) (xu J 261 14 (chB (slM I s) n (J 261 14))) R) := by
  have h3 := dv_lt (dn (J 261 14)) (n := 3) (by decide)
  have hp := dv_lt (dn (dn (J 261 14))) (n := n) hn0
  have hp1 := dv_lt (dn (dn (J 261 14))) (n := n + 1) (by omega)
  have e : xrow I 262 (sl1 (I 262) s (slM I s)) = I := by
    refine Eq.trans ?_ (xrow_id (f := I) (a := 262))
    congr 1
    funext i
    unfold sl1 slM
    by_cases h : i / 24 = s
    · rw [if_pos h]; congr 1; omega
    · rw [if_neg h]
  have same : xu (xrow I 262 (sl1 (I 262) s (slM I s))) 263 s (nI n) = I := by rw [e, xu_same hn]
  refine y_loc (pc' := 1) xD_143 rfl rfl rfl rfl ?_
  refine y_ci (pc' := 2) (3) xD_143 rfl rfl rfl rfl ?_
  refine y_callV xD_143 rfl rfl rfl rfl (by first | rfl | assumption) rfl rfl rfl rfl (s_mdraw 3 (by decide) (by decide) rfl) (fun v h' hq => ?_)
  obtain ⟨rfl, rfl⟩ := hq
  refine y_loc (pc' := 6) xD_143 rfl rfl rfl rfl ?_
  refine y_loc (pc' := 7) xD_143 rfl rfl rfl rfl ?_
  first | refine m_getR (pc' := 10) xD_143 rfl rfl rfl rfl (hR.1 _ _ _ rfl) rfl ?_ | refine m_getR (pc' := 10) xD_143 rfl rfl (by first | rfl | assumption) rfl (by assumption) rfl ?_
  refine y_loc (pc' := 11) xD_143 rfl rfl rfl rfl ?_
  refine m_iald (pc' := 12) (s) xD_143 rfl (by first | rfl | assumption) (by first | assumption | omega) (by first | decide | assumption) (by first | decide | omega) (by first | rfl | assumption) rfl ?_
  rw [hn]
  refine y_loc (pc' := 13) xD_143 rfl rfl rfl rfl ?_
  refine y_loc (pc' := 14) xD_143 rfl rfl rfl rfl ?_
  refine y_ifne (pt := 49) (pf := 17) xD_143 rfl rfl rfl (fun h14 => ?_) (fun h14 => ?_)
  · skip
    have u0 : ¬ dv (dn (J 261 14)) 3 = 0 := fun q => h14 ((nI_z (by omega)).mpr q)
    refine y_loc (pc' := 50) xD_143 rfl rfl rfl rfl ?_
    refine y_ci (pc' := 51) (1) xD_143 rfl rfl rfl rfl ?_
    refine y_icne (pt := 76) (pf := 54) xD_143 rfl rfl rfl (fun h51 => ?_) (fun h51 => ?_)
    · skip
      have u1 : ¬ dv (dn (J 261 14)) 3 = 1 := fun q => h51 (by rw [q]; rfl)
      have hk : ∀ X : Nat → Int32, xu (xrow I 262 X) 263 s (nI n) = xrow I 262 X := fun X => xu_same (by rw [xrow_ne (by decide), hn])
      have hN : chN n (J 261 14) = n := by unfold chN; rw [if_neg u0, if_neg u1]
      have hB : chB (slM I s) n (J 261 14) = csB (slM I s) (dv (dn (dn (J 261 14))) n) (dn (dn (J 261 14))) := by unfold chB; rw [if_neg u0, if_neg u1]
      have hG : ∀ i q, chG cc con (slM I s) n (J 261 14) i q = csG cc con (slM I s) (dv (dn (dn (J 261 14))) n) (dn (dn (J 261 14))) i q := fun i q => by unfold chG; rw [if_neg u0, if_neg u1]
      have p6 : (dv (dn (dn (J 261 14))) n) < 6 := Nat.lt_of_lt_of_le hp hn6
      rw [hN, hB]
      simp only [hG]
      refine y_loc (pc' := 77) xD_143 rfl rfl rfl rfl ?_
      refine y_ci (pc' := 78) (2) xD_143 rfl rfl rfl rfl ?_
      refine y_icne (pt := 191) (pf := 81) xD_143 rfl rfl rfl (fun h78 => ?_) (fun h78 => ?_)
      · exact absurd (show nI (dv (dn (J 261 14)) 3) = 2 by rw [show dv (dn (J 261 14)) 3 = 2 by omega]; rfl) h78
      · skip
        refine y_loc (pc' := 82) xD_143 rfl rfl rfl rfl ?_
        refine y_loc (pc' := 83) xD_143 rfl rfl rfl rfl ?_
        refine y_callV xD_143 rfl rfl rfl rfl (by first | rfl | assumption) rfl rfl rfl rfl (s_mdraw n hn0 (by omega) rfl) (fun v h' hq => ?_)
        obtain ⟨rfl, rfl⟩ := hq
        rw [xu_ii, xu_xu]
        refine XP.conseq (s_mchstep (d := d) hR hs hL cc hcc con hcon _ p6 e0) (fun v h' hq => ?_)
        obtain ⟨hv, g, hg, hh'⟩ := hq
        refine ⟨hv, g, fun i q _ hq => ?_, ?_⟩
        · rw [hg i q hq, xu_ii]
        · rw [hh', xu_ii, xu_xu, hk]
    · skip
      have u1 : dv (dn (J 261 14)) 3 = 1 := (nI_eq (b := 1) (by omega) (by decide)).mp h51
      refine y_loc (pc' := 55) xD_143 rfl rfl rfl rfl ?_
      refine y_ci (pc' := 56) (1) xD_143 rfl rfl rfl rfl ?_
      refine y_icle (pt := 76) (pf := 59) xD_143 rfl rfl rfl (fun h56 => ?_) (fun h56 => ?_)
      · skip
        have n1 : ¬ 1 < n := Nat.not_lt.mpr ((nI_leI (b := 1) (by omega) (by decide)).mp h56)
        refine y_loc (pc' := 77) xD_143 rfl rfl rfl rfl ?_
        refine y_ci (pc' := 78) (2) xD_143 rfl rfl rfl rfl ?_
        refine y_icne (pt := 191) (pf := 81) xD_143 rfl rfl rfl (fun h78 => ?_) (fun h78 => ?_)
        · skip
          refine y_retV xD_143 rfl rfl ?_
          refine ⟨rfl, slM I s, fun i q _ hq => ?_, ?_⟩
          · unfold chG
            rw [if_neg u0, if_pos u1, if_neg n1]
          · unfold chB chN
            rw [if_neg u0, if_pos u1, if_neg n1, if_neg u0, if_pos u1, if_neg n1, same]
        · exact absurd (h51.symm.trans h78) (by decide)
      · skip
        have n1 : 1 < n := Nat.lt_of_not_le (fun q => h56 ((nI_leI (b := 1) (by omega) (by decide)).mpr q))
        obtain ⟨m, rfl⟩ : ∃ m, n = m + 1 := ⟨n - 1, by omega⟩
        refine y_loc (pc' := 60) xD_143 rfl rfl rfl rfl ?_
        refine y_loc (pc' := 61) xD_143 rfl rfl rfl rfl ?_
        refine y_callV xD_143 rfl rfl rfl rfl (by first | rfl | assumption) rfl rfl rfl rfl (s_mdraw (m + 1) hn0 (by omega) rfl) (fun v h' hq => ?_)
        obtain ⟨rfl, rfl⟩ := hq
        rw [xu_ii, xu_xu]
        refine y_loc (pc' := 66) xD_143 rfl rfl rfl rfl ?_
        refine y_loc (pc' := 67) xD_143 rfl rfl rfl rfl ?_
        refine y_loc (pc' := 68) xD_143 rfl rfl rfl rfl ?_
        refine y_loc (pc' := 70) xD_143 rfl rfl rfl rfl ?_
        refine y_callV xD_143 rfl rfl rfl rfl rfl rfl rfl rfl rfl (s_mtakeOut (d := d + 2) hR hs m _ hn hn6 (Nat.le_of_lt_succ hp) hV e0 rfl) (fun v h' hq => ?_)
        obtain ⟨rfl, g, hg, rfl⟩ := hq
        refine y_goto (pc' := 191) xD_143 rfl rfl ?_
        refine y_retV xD_143 rfl rfl ?_
        refine ⟨rfl, g, fun i q hi hq => ?_, ?_⟩
        · unfold chN at hi
          rw [if_neg u0, if_pos u1, if_pos n1] at hi
          unfold chG
          rw [if_neg u0, if_pos u1, if_pos n1]
          exact hg i q (by omega) hq
        · unfold chB chN
          rw [if_neg u0, if_pos u1, if_pos n1, if_neg u0, if_pos u1, if_pos n1]
          rfl
  · skip
    have u0 : dv (dn (J 261 14)) 3 = 0 := (nI_z (by omega)).mp h14
    refine y_loc (pc' := 18) xD_143 rfl rfl rfl rfl ?_
    refine y_ci (pc' := 20) (6) xD_143 rfl rfl rfl rfl ?_
    refine y_icge (pt := 49) (pf := 23) xD_143 rfl rfl rfl (fun h20 => ?_) (fun h20 => ?_)
    · skip
      have n6 : ¬ n < 6 := Nat.not_lt.mpr ((nI_leI (a := 6) (by decide) (by omega)).mp h20)
      refine y_loc (pc' := 50) xD_143 rfl rfl rfl rfl ?_
      refine y_ci (pc' := 51) (1) xD_143 rfl rfl rfl rfl ?_
      refine y_icne (pt := 76) (pf := 54) xD_143 rfl rfl rfl (fun h51 => ?_) (fun h51 => ?_)
      · skip
        refine y_loc (pc' := 77) xD_143 rfl rfl rfl rfl ?_
        refine y_ci (pc' := 78) (2) xD_143 rfl rfl rfl rfl ?_
        refine y_icne (pt := 191) (pf := 81) xD_143 rfl rfl rfl (fun h78 => ?_) (fun h78 => ?_)
        · skip
          refine y_retV xD_143 rfl rfl ?_
          refine ⟨rfl, slM I s, fun i q _ hq => ?_, ?_⟩
          · unfold chG
            rw [if_pos u0, if_neg n6]
          · unfold chB chN
            rw [if_pos u0, if_neg n6, if_pos u0, if_neg n6, same]
        · exact absurd (h14.symm.trans h78) (by decide)
      · exact absurd (h14.symm.trans h51) (by decide)
    · skip
      have n6 : n < 6 := Nat.lt_of_not_le (fun q => h20 ((nI_leI (a := 6) (by decide) (by omega)).mpr q))
      refine y_loc (pc' := 24) xD_143 rfl rfl rfl rfl ?_
      refine y_loc (pc' := 25) xD_143 rfl rfl rfl rfl ?_
      refine y_ci (pc' := 26) (1) xD_143 rfl rfl rfl rfl ?_
      refine y_iadd (pc' := 27) xD_143 rfl (nI_1 n) rfl ?_
      refine y_callV xD_143 rfl rfl rfl rfl (by first | rfl | assumption) rfl rfl rfl rfl (s_mdraw (n + 1) (by omega) (by omega) rfl) (fun v h' hq => ?_)
      obtain ⟨rfl, rfl⟩ := hq
      rw [xu_ii, xu_xu]
      refine y_loc (pc' := 32) xD_143 rfl rfl rfl rfl ?_
      refine y_loc (pc' := 33) xD_143 rfl rfl rfl rfl ?_
      refine y_loc (pc' := 34) xD_143 rfl rfl rfl rfl ?_
      refine y_loc (pc' := 36) xD_143 rfl rfl rfl rfl ?_
      refine y_callV xD_143 rfl rfl rfl rfl rfl rfl rfl rfl rfl (s_mmakeRoom (d := d + 2) hR hs n _ hn n6 (Nat.le_of_lt_succ hp1) hV e0 rfl) (fun v h' hq => ?_)
      obtain ⟨rfl, g, hg, rfl⟩ := hq
      refine y_loc (pc' := 40) xD_143 rfl rfl rfl rfl ?_
      refine y_loc (pc' := 41) xD_143 rfl rfl rfl rfl ?_
      refine y_loc (pc' := 43) xD_143 rfl rfl rfl rfl ?_
      have c4 : xu (xrow I 262 (sl1 (I 262) s g)) 263 s (nI (n + 1)) 264 = I 264 := by funext y; unfold xu; rw [if_neg (fun q => absurd q.1 (by decide)), xrow_ne (by decide)]
      have c5 : xu (xrow I 262 (sl1 (I 262) s g)) 263 s (nI (n + 1)) 265 = I 265 := by funext y; unfold xu; rw [if_neg (fun q => absurd q.1 (by decide)), xrow_ne (by decide)]
      have c2 : xu (xrow I 262 (sl1 (I 262) s g)) 263 s (nI (n + 1)) 262 = sl1 (I 262) s g := by funext y; unfold xu; rw [if_neg (fun q => absurd q.1 (by decide)), xrow_at]
      refine y_callV xD_143 rfl rfl rfl rfl rfl rfl rfl rfl rfl (s_mdrawStep (d := d) hR hs (PL_c c5 hL) cc (by rw [scnt_c c4 c5]; exact hcc) con (fun q hq hS => by rw [scnt_c c4 c5]; unfold cdM; rw [c4]; exact hcon q hq (by rw [isS_c c4 c5] at hS; exact hS)) _ (Nat.lt_of_lt_of_le hp1 (by omega)) e0 rfl) (fun v h' hq => ?_)
      obtain ⟨rfl, rfl⟩ := hq
      rw [c2, xu_ii, xu_xu, w4_sl1 (Nat.lt_of_lt_of_le hp1 (by omega)), sl1_sl1]
      refine y_goto (pc' := 191) xD_143 rfl rfl ?_
      refine y_retV xD_143 rfl rfl ?_
      refine ⟨rfl, w4 (fun q => sl1 (I 262) s g (24 * s + q)) (4 * (dv (dn (dn (J 261 14))) (n + 1))) (dK (dn (dn (J 261 14)))) (dX cc con (dn (dn (J 261 14)))) (dY cc con (dv (dn (dn (J 261 14))) (n + 1)) (dn (dn (J 261 14)))) (dF (dv (dn (dn (J 261 14))) (n + 1)) (dn (dn (J 261 14)))), fun i q hi hq => ?_, ?_⟩
      · unfold chN at hi
        rw [if_pos u0, if_pos n6] at hi
        unfold chG st4
        rw [if_pos u0, if_pos n6, w4_pt hq]
        by_cases h : i = (dv (dn (dn (J 261 14))) (n + 1))
        · rw [if_pos h, if_pos h]
        · rw [if_neg h, if_neg h, sl1_at (by omega)]
          exact hg i q hi h hq
      · unfold chB chN
        rw [if_pos u0, if_pos n6, if_pos u0, if_pos n6, ← xu_row_c (show (263 : Nat) ≠ 262 by decide), xrow_row]
end MC
end
section
theorem xlaw : XLaw := sorry
theorem whole_start {p : Program} {e : Env} {s : State} {m : MethodId} {below : List Frame} {meth : Method} {c : Code} (l : Launch) {b L : Nat} {xs : Nat → Int32} (hL : L ≤ 3073) (C0 : lw_At p s m meth c b L xs) : W p l e room_1 s m #[Value.ref b] below meth c s.heap [] 0 0 (lw_Z below #[Value.ref b] s) (entryFrame m ([Value.ref b] : List Value).toArray 4) := whole_start_open xlaw l hL C0
-- ===== YOUR PART ENDS =====
set_option maxHeartbeats 4000000 in
theorem lw_walk (l : Launch) (b : Addr) (xs : List Int32) : MetFree l x (headSpec (Jvm.Cond.code x code maxLocals ret :: tables_1) room_1) (lw_P b xs) (fun _ _ _ _ _ => True) lw_Q := by
  refine MetFree.of_bodyS (code := code) (maxLocals := maxLocals) (ret := ret) (by decide) ?_ ?_
  · intro args s m h hn
    obtain ⟨meth, c, h1, h2, h3, h4, h5, h6, -, -⟩ := Cond.code_spec hn (atoms_spec (ws := Jvm.Cond.code x code maxLocals ret :: tables_1) h _ List.mem_cons_self)
    exact ⟨meth, c, h1, h2, h3, h4, h5, h6⟩
  · intro p e s m args below meth c s₁ B hml0 hP _
    obtain ⟨rfl, hx, hbd, hgv⟩ := hP
    obtain ⟨scr, harrAt, hlist, hof, hsmall⟩ := hx
    obtain ⟨hcb, hkn, -, -⟩ := State.arrayAt?_spec harrAt
    have hown : s.vm.findClass R_law = some m.cls := findClass_of_methodNamed B.named
    have hts0 : ∀ c ∈ (Jvm.Cond.code x code maxLocals ret :: tables_1), c.before #[Value.ref b] s = true := atoms_spec (ws := Jvm.Cond.code x code maxLocals ret :: tables_1) B.pre
    have hts : ∀ w ∈ lw_tbl, w.before #[Value.ref b] s = true := k2_hts_sels lw_privs (fun w hw => hts0 w (List.mem_cons_of_mem _ hw)) lw_privs_ok
    have hml : c.maxLocals = 4 := B.maxLocals_eq (hts0 _ List.mem_cons_self)
    have X₀ : Stand p l e room_1 s m #[Value.ref b] below meth c s₁ [] 0 0 := Stand.of_body B
    have hh0 : s₁.heap = s.heap := by rw [B.state]; rfl
    have hsz : scr.slots.size = xs.length := by rw [← Array.length_toList, hlist, List.length_map]
    have hval : ∀ j : Nat, j < xs.length → scr.slots[j]? = some (.int (xs.getD j 0)) := fun j hj => by
      rw [← Array.getElem?_toList, hlist]
      simp [hj]
    have hbl : b < s.heap.size := (Array.getElem?_eq_some_iff.mp hcb).1
    have hX : va_X b xs.length (fun j => xs.getD j 0) s s.heap := ⟨scr, hcb, hof, hkn, hsz, hval⟩
    have K : W p l e room_1 s m #[Value.ref b] below meth c s₁.heap [] 0 0 (lw_Z below #[Value.ref b] s) (entryFrame m ([Value.ref b] : List Value).toArray 4) := by
      rw [hh0]
      exact whole_start l hbd ⟨B.exec, B.bytes, B.returns, hml, hown, hts, hX, hbl, B.notSynchronized, hgv⟩
    obtain ⟨t, a1, o, b1, b2, b3⟩ := K s₁ rfl X₀
    exact ⟨t, o, a1, b1, b2, b3⟩
theorem lw_pre_spec {args : Array Value} {s : State} (h : (Jvm.Cond.and given_1 narrow_1).before args s = true) (hr : rest_1_c.before args s = true) : ∃ (b : Addr) (xs : List Int32), lw_P b xs args s := by
  have hs := flat_of_before _ h
  have hq := flat_of_before _ hr
  have hc : (Cond.count 1).before args s = true := hs _ (by decide +kernel)
  have harr : (Cond.arrayOf (.arg 0) .int).before args s = true := hs _ (by decide +kernel)
  have hle : (Cond.le (.length (.arg 0)) (.int 3073)).before args s = true := hs _ (by decide +kernel)
  have hlen : (Cond.isInt (.length (.arg 0))).before args s = true := hq _ (by decide +kernel)
  have hall : (Cond.all (.arg 0) (.isInt (.elem (.arg 0) (.index 0)))).before args s = true := hq _ (by decide +kernel)
  obtain ⟨b, xs, hb, hx⟩ := State.ints_of_pre rfl harr hlen hall
  have hsm : xs.length < 2 ^ 31 := hx.choose_spec.2.2.2
  have hev : (Term.length (.arg 0)).eval args s none [] s = some (.int xs.length.toInt32) := hx.length_eval hb
  have hv := Cond.le_ints hev (show (Term.int 3073).eval args s none [] s = some (.int 3073) from rfl)
  have hd : xs.length.toInt32 ≤ 3073 := by
    simpa [Cond.before, Cond.holds, hv] using hle
  have hN : xs.length ≤ 3073 := (Int32.ofNat_le_ofNat hsm (by decide)).mp (show Int32.ofNat xs.length ≤ Int32.ofNat 3073 from hd)
  exact ⟨b, xs, Cond.one_arg hc (show args[0]? = some (.ref b) from hb), hx, hN, h⟩
theorem lw_comes (l : Launch) : Comes l x (Jvm.Cond.code x code maxLocals ret :: tables_1) room_1 (fun tb e args s => Calls_1 tb e args s ∧ rest_1 tb e args s ∧ Pre_1 tb e args s)
    (fun _ _ args s o t => lw_Q args s o t) := by
  intro p e ha hc hk s m args below hf hfit hheap happ hpre
  obtain ⟨b, xs, hP⟩ := lw_pre_spec hpre.2.2 hpre.2.1
  obtain ⟨k, o, h1, h2, h3, hQ⟩ := lw_walk l b xs p e ha hc hk s m args below hf ((Spec.applies_iff_loose hf).mp happ).1 hP trivial
  exact ⟨k, o, h1, h2, h3, hQ⟩
theorem lw_frame {s t : State} {o : Outcome} {args : Array Value} (h : Framed s o t [] 600000 7302250) :
    Framed s o t (fieldLocs frame_1_writes args s ++ arrayLocs frame_1_arrays args s ++ staticLocs frame_1_statics s) 600000 7302250 := h
theorem lw_limb (L : Cond) (hL : ∀ (args : Array Value) (s t : State), L.after args s (.returned (some (.int 1))) t = true) :
    ArmFor flags0 classFile x code maxLocals ret World_1 tables_1 room_1 Calls_1 rest_1 Pre_1
      (fun tb e a s o t => postC L tb e a s o t ∧ Framed s o t (fieldLocs frame_1_writes a s ++ arrayLocs frame_1_arrays a s ++ staticLocs frame_1_statics s) 600000 7302250) := by
  intro l _ _ _ p e ha hc hk s m args below hf hfit hheap happ hpre
  obtain ⟨k, o, h1, h2, h3, rfl, hF⟩ := lw_comes l p e ha hc hk s m args below hf hfit hheap happ hpre
  exact ⟨k, _, h1, h2, h3, hL args s _, lw_frame hF⟩
theorem i_vc : Claimed_1_1 ∧ Claimed_1_2 := ⟨lw_limb limb_1_1 (fun args s t => by simp [limb_1_1, Cond.after, Cond.holds, Cond.value]), lw_limb limb_1_2 (fun args s t => Cond.after_iff.mpr (by
  first | (rw [show limb_1_2 = Cond.eq .result (.int 1) from rfl, Cond.eq_ints (x := 1) (y := 1) rfl rfl]; simp; done) | (simp [limb_1_2, Cond.value, Term.eval]; done)))⟩
end
