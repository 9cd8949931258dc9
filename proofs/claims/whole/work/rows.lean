section
-- ===== PART A: goes FIRST, ahead of the names: the tables' words, and 'selects' of the private methods out of them =====
/-- a private method of a class that the tables say can be made, by its rows of tables_1 -/
def lw_okq (q : MethodName × Nat) : Prop := (q.1.cls ≠ "java/lang/invoke/MethodHandle" ∧ q.1.cls ≠ "java/lang/invoke/VarHandle") ∧ Cond.instantiable q.1.cls q.2 ∈ tables_1 ∧ Cond.privateMethod q.1 ∈ tables_1 ∧ Cond.instanceMethod q.1 ∈ tables_1
theorem lw_p0 : lw_okq (⟨"BranchGoals$Program", "linkBranches", "(LBranchGoals$Method;)V"⟩, 4) := ⟨⟨by decide +kernel, by decide +kernel⟩, List.mem_of_getElem? (i := 24) (by decide +kernel), List.mem_of_getElem? (i := 294) (by decide +kernel), List.mem_of_getElem? (i := 295) (by decide +kernel)⟩
theorem lw_p1 : lw_okq (⟨"BranchGoals$Method", "placesReachingEnd", "(I)I"⟩, 7) := ⟨⟨by decide +kernel, by decide +kernel⟩, List.mem_of_getElem? (i := 31) (by decide +kernel), List.mem_of_getElem? (i := 303) (by decide +kernel), List.mem_of_getElem? (i := 304) (by decide +kernel)⟩
theorem lw_p2 : lw_okq (⟨"BranchGoals", "runAndArchive", "(LBranchGoals$Case;)V"⟩, 9) := ⟨⟨by decide +kernel, by decide +kernel⟩, List.mem_of_getElem? (i := 16) (by decide +kernel), List.mem_of_getElem? (i := 347) (by decide +kernel), List.mem_of_getElem? (i := 348) (by decide +kernel)⟩
theorem lw_p3 : lw_okq (⟨"BranchGoals$Runner", "doStep", "(LBranchGoals$Case;ILBranchGoals$Program;)J"⟩, 3) := ⟨⟨by decide +kernel, by decide +kernel⟩, List.mem_of_getElem? (i := 110) (by decide +kernel), List.mem_of_getElem? (i := 363) (by decide +kernel), List.mem_of_getElem? (i := 364) (by decide +kernel)⟩
theorem lw_p4 : lw_okq (⟨"BranchGoals$Runner", "callMethod", "(LBranchGoals$Method;)J"⟩, 3) := ⟨⟨by decide +kernel, by decide +kernel⟩, List.mem_of_getElem? (i := 110) (by decide +kernel), List.mem_of_getElem? (i := 375) (by decide +kernel), List.mem_of_getElem? (i := 376) (by decide +kernel)⟩
theorem lw_p5 : lw_okq (⟨"BranchGoals$Runner", "doLine", "(LBranchGoals$Method;I)I"⟩, 3) := ⟨⟨by decide +kernel, by decide +kernel⟩, List.mem_of_getElem? (i := 110) (by decide +kernel), List.mem_of_getElem? (i := 381) (by decide +kernel), List.mem_of_getElem? (i := 382) (by decide +kernel)⟩
theorem lw_p6 : lw_okq (⟨"BranchGoals$Runner", "decide", "(LBranchGoals$Method;I)I"⟩, 3) := ⟨⟨by decide +kernel, by decide +kernel⟩, List.mem_of_getElem? (i := 110) (by decide +kernel), List.mem_of_getElem? (i := 389) (by decide +kernel), List.mem_of_getElem? (i := 390) (by decide +kernel)⟩
theorem lw_p7 : lw_okq (⟨"BranchGoals$Runner", "fitnessFor", "(ILBranchGoals$Program;)J"⟩, 3) := ⟨⟨by decide +kernel, by decide +kernel⟩, List.mem_of_getElem? (i := 110) (by decide +kernel), List.mem_of_getElem? (i := 405) (by decide +kernel), List.mem_of_getElem? (i := 406) (by decide +kernel)⟩
theorem lw_p8 : lw_okq (⟨"BranchGoals$Runner", "leastNearest", "(II)J"⟩, 3) := ⟨⟨by decide +kernel, by decide +kernel⟩, List.mem_of_getElem? (i := 110) (by decide +kernel), List.mem_of_getElem? (i := 409) (by decide +kernel), List.mem_of_getElem? (i := 410) (by decide +kernel)⟩
theorem lw_p9 : lw_okq (⟨"BranchGoals$Population", "placeFronts", "(II)V"⟩, 2) := ⟨⟨by decide +kernel, by decide +kernel⟩, List.mem_of_getElem? (i := 193) (by decide +kernel), List.mem_of_getElem? (i := 445) (by decide +kernel), List.mem_of_getElem? (i := 446) (by decide +kernel)⟩
theorem lw_p10 : lw_okq (⟨"BranchGoals$Population", "preferredFor", "(II)LBranchGoals$Case;"⟩, 2) := ⟨⟨by decide +kernel, by decide +kernel⟩, List.mem_of_getElem? (i := 193) (by decide +kernel), List.mem_of_getElem? (i := 450) (by decide +kernel), List.mem_of_getElem? (i := 451) (by decide +kernel)⟩
theorem lw_p11 : lw_okq (⟨"BranchGoals$Population", "isBeaten", "(LBranchGoals$Case;III)Z"⟩, 2) := ⟨⟨by decide +kernel, by decide +kernel⟩, List.mem_of_getElem? (i := 193) (by decide +kernel), List.mem_of_getElem? (i := 454) (by decide +kernel), List.mem_of_getElem? (i := 455) (by decide +kernel)⟩
theorem lw_p12 : lw_okq (⟨"BranchGoals$Population", "crowdOf", "(LBranchGoals$Case;II)I"⟩, 2) := ⟨⟨by decide +kernel, by decide +kernel⟩, List.mem_of_getElem? (i := 193) (by decide +kernel), List.mem_of_getElem? (i := 461) (by decide +kernel), List.mem_of_getElem? (i := 462) (by decide +kernel)⟩
theorem lw_p13 : lw_okq (⟨"BranchGoals$Population", "sort", "(I)V"⟩, 2) := ⟨⟨by decide +kernel, by decide +kernel⟩, List.mem_of_getElem? (i := 193) (by decide +kernel), List.mem_of_getElem? (i := 468) (by decide +kernel), List.mem_of_getElem? (i := 469) (by decide +kernel)⟩
theorem lw_p14 : lw_okq (⟨"BranchGoals", "isGoal", "(I)Z"⟩, 9) := ⟨⟨by decide +kernel, by decide +kernel⟩, List.mem_of_getElem? (i := 16) (by decide +kernel), List.mem_of_getElem? (i := 485) (by decide +kernel), List.mem_of_getElem? (i := 486) (by decide +kernel)⟩
theorem lw_p15 : lw_okq (⟨"BranchGoals", "drawParent", "()LBranchGoals$Case;"⟩, 9) := ⟨⟨by decide +kernel, by decide +kernel⟩, List.mem_of_getElem? (i := 16) (by decide +kernel), List.mem_of_getElem? (i := 507) (by decide +kernel), List.mem_of_getElem? (i := 508) (by decide +kernel)⟩
def lw_privs_1 : List (MethodName × Nat) := [(⟨"BranchGoals$Program", "linkBranches", "(LBranchGoals$Method;)V"⟩, 4), (⟨"BranchGoals$Method", "placesReachingEnd", "(I)I"⟩, 7), (⟨"BranchGoals", "runAndArchive", "(LBranchGoals$Case;)V"⟩, 9), (⟨"BranchGoals$Runner", "doStep", "(LBranchGoals$Case;ILBranchGoals$Program;)J"⟩, 3), (⟨"BranchGoals$Runner", "callMethod", "(LBranchGoals$Method;)J"⟩, 3), (⟨"BranchGoals$Runner", "doLine", "(LBranchGoals$Method;I)I"⟩, 3), (⟨"BranchGoals$Runner", "decide", "(LBranchGoals$Method;I)I"⟩, 3), (⟨"BranchGoals$Runner", "fitnessFor", "(ILBranchGoals$Program;)J"⟩, 3), (⟨"BranchGoals$Runner", "leastNearest", "(II)J"⟩, 3), (⟨"BranchGoals$Population", "placeFronts", "(II)V"⟩, 2), (⟨"BranchGoals$Population", "preferredFor", "(II)LBranchGoals$Case;"⟩, 2), (⟨"BranchGoals$Population", "isBeaten", "(LBranchGoals$Case;III)Z"⟩, 2), (⟨"BranchGoals$Population", "crowdOf", "(LBranchGoals$Case;II)I"⟩, 2), (⟨"BranchGoals$Population", "sort", "(I)V"⟩, 2), (⟨"BranchGoals", "isGoal", "(I)Z"⟩, 9), (⟨"BranchGoals", "drawParent", "()LBranchGoals$Case;"⟩, 9)]
theorem lw_r1 : ∀ q ∈ lw_privs_1, lw_okq q := List.forall_mem_cons.mpr ⟨lw_p0, List.forall_mem_cons.mpr ⟨lw_p1, List.forall_mem_cons.mpr ⟨lw_p2, List.forall_mem_cons.mpr ⟨lw_p3, List.forall_mem_cons.mpr ⟨lw_p4, List.forall_mem_cons.mpr ⟨lw_p5, List.forall_mem_cons.mpr ⟨lw_p6, List.forall_mem_cons.mpr ⟨lw_p7, List.forall_mem_cons.mpr ⟨lw_p8, List.forall_mem_cons.mpr ⟨lw_p9, List.forall_mem_cons.mpr ⟨lw_p10, List.forall_mem_cons.mpr ⟨lw_p11, List.forall_mem_cons.mpr ⟨lw_p12, List.forall_mem_cons.mpr ⟨lw_p13, List.forall_mem_cons.mpr ⟨lw_p14, List.forall_mem_cons.mpr ⟨lw_p15, fun _ h => absurd h List.not_mem_nil⟩⟩⟩⟩⟩⟩⟩⟩⟩⟩⟩⟩⟩⟩⟩⟩
theorem lw_p16 : lw_okq (⟨"BranchGoals$Draws", "changeStep", "(LBranchGoals$Case;I)V"⟩, 3) := ⟨⟨by decide +kernel, by decide +kernel⟩, List.mem_of_getElem? (i := 91) (by decide +kernel), List.mem_of_getElem? (i := 531) (by decide +kernel), List.mem_of_getElem? (i := 532) (by decide +kernel)⟩
theorem lw_p17 : lw_okq (⟨"BranchGoals$Suite", "goalsOf", "(II)I"⟩, 3) := ⟨⟨by decide +kernel, by decide +kernel⟩, List.mem_of_getElem? (i := 209) (by decide +kernel), List.mem_of_getElem? (i := 554) (by decide +kernel), List.mem_of_getElem? (i := 555) (by decide +kernel)⟩
theorem lw_p18 : lw_okq (⟨"BranchGoals", "caseNamed", "(I)LBranchGoals$Case;"⟩, 9) := ⟨⟨by decide +kernel, by decide +kernel⟩, List.mem_of_getElem? (i := 16) (by decide +kernel), List.mem_of_getElem? (i := 591) (by decide +kernel), List.mem_of_getElem? (i := 592) (by decide +kernel)⟩
theorem lw_p19 : lw_okq (⟨"BranchGoalsModel", "goal", "(I)Z"⟩, 22) := ⟨⟨by decide +kernel, by decide +kernel⟩, List.mem_of_getElem? (i := 629) (by decide +kernel), List.mem_of_getElem? (i := 719) (by decide +kernel), List.mem_of_getElem? (i := 720) (by decide +kernel)⟩
theorem lw_p20 : lw_okq (⟨"BranchGoalsModel", "write", "(IIII)V"⟩, 22) := ⟨⟨by decide +kernel, by decide +kernel⟩, List.mem_of_getElem? (i := 629) (by decide +kernel), List.mem_of_getElem? (i := 727) (by decide +kernel), List.mem_of_getElem? (i := 728) (by decide +kernel)⟩
theorem lw_p21 : lw_okq (⟨"BranchGoalsModel", "second", "(IIII)V"⟩, 22) := ⟨⟨by decide +kernel, by decide +kernel⟩, List.mem_of_getElem? (i := 629) (by decide +kernel), List.mem_of_getElem? (i := 731) (by decide +kernel), List.mem_of_getElem? (i := 732) (by decide +kernel)⟩
theorem lw_p22 : lw_okq (⟨"BranchGoalsModel", "number", "(I)V"⟩, 22) := ⟨⟨by decide +kernel, by decide +kernel⟩, List.mem_of_getElem? (i := 629) (by decide +kernel), List.mem_of_getElem? (i := 748) (by decide +kernel), List.mem_of_getElem? (i := 749) (by decide +kernel)⟩
theorem lw_p23 : lw_okq (⟨"BranchGoalsModel", "branchAt", "(II)Z"⟩, 22) := ⟨⟨by decide +kernel, by decide +kernel⟩, List.mem_of_getElem? (i := 629) (by decide +kernel), List.mem_of_getElem? (i := 752) (by decide +kernel), List.mem_of_getElem? (i := 753) (by decide +kernel)⟩
theorem lw_p24 : lw_okq (⟨"BranchGoalsModel", "code", "(III)I"⟩, 22) := ⟨⟨by decide +kernel, by decide +kernel⟩, List.mem_of_getElem? (i := 629) (by decide +kernel), List.mem_of_getElem? (i := 756) (by decide +kernel), List.mem_of_getElem? (i := 757) (by decide +kernel)⟩
theorem lw_p25 : lw_okq (⟨"BranchGoalsModel", "relate", "(I)V"⟩, 22) := ⟨⟨by decide +kernel, by decide +kernel⟩, List.mem_of_getElem? (i := 629) (by decide +kernel), List.mem_of_getElem? (i := 760) (by decide +kernel), List.mem_of_getElem? (i := 761) (by decide +kernel)⟩
theorem lw_p26 : lw_okq (⟨"BranchGoalsModel", "must", "(III)Z"⟩, 22) := ⟨⟨by decide +kernel, by decide +kernel⟩, List.mem_of_getElem? (i := 629) (by decide +kernel), List.mem_of_getElem? (i := 764) (by decide +kernel), List.mem_of_getElem? (i := 765) (by decide +kernel)⟩
theorem lw_p27 : lw_okq (⟨"BranchGoalsModel", "way", "(III)Z"⟩, 22) := ⟨⟨by decide +kernel, by decide +kernel⟩, List.mem_of_getElem? (i := 629) (by decide +kernel), List.mem_of_getElem? (i := 768) (by decide +kernel), List.mem_of_getElem? (i := 769) (by decide +kernel)⟩
theorem lw_p28 : lw_okq (⟨"BranchGoalsModel", "lead", "(III)I"⟩, 22) := ⟨⟨by decide +kernel, by decide +kernel⟩, List.mem_of_getElem? (i := 629) (by decide +kernel), List.mem_of_getElem? (i := 772) (by decide +kernel), List.mem_of_getElem? (i := 773) (by decide +kernel)⟩
theorem lw_p29 : lw_okq (⟨"BranchGoalsModel", "drawCase", "(I)V"⟩, 22) := ⟨⟨by decide +kernel, by decide +kernel⟩, List.mem_of_getElem? (i := 629) (by decide +kernel), List.mem_of_getElem? (i := 776) (by decide +kernel), List.mem_of_getElem? (i := 777) (by decide +kernel)⟩
theorem lw_p30 : lw_okq (⟨"BranchGoalsModel", "draw", "(I)I"⟩, 22) := ⟨⟨by decide +kernel, by decide +kernel⟩, List.mem_of_getElem? (i := 629) (by decide +kernel), List.mem_of_getElem? (i := 780) (by decide +kernel), List.mem_of_getElem? (i := 781) (by decide +kernel)⟩
theorem lw_p31 : lw_okq (⟨"BranchGoalsModel", "drawStep", "(II)V"⟩, 22) := ⟨⟨by decide +kernel, by decide +kernel⟩, List.mem_of_getElem? (i := 629) (by decide +kernel), List.mem_of_getElem? (i := 785) (by decide +kernel), List.mem_of_getElem? (i := 786) (by decide +kernel)⟩
def lw_privs_2 : List (MethodName × Nat) := [(⟨"BranchGoals$Draws", "changeStep", "(LBranchGoals$Case;I)V"⟩, 3), (⟨"BranchGoals$Suite", "goalsOf", "(II)I"⟩, 3), (⟨"BranchGoals", "caseNamed", "(I)LBranchGoals$Case;"⟩, 9), (⟨"BranchGoalsModel", "goal", "(I)Z"⟩, 22), (⟨"BranchGoalsModel", "write", "(IIII)V"⟩, 22), (⟨"BranchGoalsModel", "second", "(IIII)V"⟩, 22), (⟨"BranchGoalsModel", "number", "(I)V"⟩, 22), (⟨"BranchGoalsModel", "branchAt", "(II)Z"⟩, 22), (⟨"BranchGoalsModel", "code", "(III)I"⟩, 22), (⟨"BranchGoalsModel", "relate", "(I)V"⟩, 22), (⟨"BranchGoalsModel", "must", "(III)Z"⟩, 22), (⟨"BranchGoalsModel", "way", "(III)Z"⟩, 22), (⟨"BranchGoalsModel", "lead", "(III)I"⟩, 22), (⟨"BranchGoalsModel", "drawCase", "(I)V"⟩, 22), (⟨"BranchGoalsModel", "draw", "(I)I"⟩, 22), (⟨"BranchGoalsModel", "drawStep", "(II)V"⟩, 22)]
theorem lw_r2 : ∀ q ∈ lw_privs_2, lw_okq q := List.forall_mem_cons.mpr ⟨lw_p16, List.forall_mem_cons.mpr ⟨lw_p17, List.forall_mem_cons.mpr ⟨lw_p18, List.forall_mem_cons.mpr ⟨lw_p19, List.forall_mem_cons.mpr ⟨lw_p20, List.forall_mem_cons.mpr ⟨lw_p21, List.forall_mem_cons.mpr ⟨lw_p22, List.forall_mem_cons.mpr ⟨lw_p23, List.forall_mem_cons.mpr ⟨lw_p24, List.forall_mem_cons.mpr ⟨lw_p25, List.forall_mem_cons.mpr ⟨lw_p26, List.forall_mem_cons.mpr ⟨lw_p27, List.forall_mem_cons.mpr ⟨lw_p28, List.forall_mem_cons.mpr ⟨lw_p29, List.forall_mem_cons.mpr ⟨lw_p30, List.forall_mem_cons.mpr ⟨lw_p31, fun _ h => absurd h List.not_mem_nil⟩⟩⟩⟩⟩⟩⟩⟩⟩⟩⟩⟩⟩⟩⟩⟩
theorem lw_p32 : lw_okq (⟨"BranchGoalsModel", "drawNumber", "()I"⟩, 22) := ⟨⟨by decide +kernel, by decide +kernel⟩, List.mem_of_getElem? (i := 629) (by decide +kernel), List.mem_of_getElem? (i := 789) (by decide +kernel), List.mem_of_getElem? (i := 790) (by decide +kernel)⟩
theorem lw_p33 : lw_okq (⟨"BranchGoalsModel", "setLine", "(I)Z"⟩, 22) := ⟨⟨by decide +kernel, by decide +kernel⟩, List.mem_of_getElem? (i := 629) (by decide +kernel), List.mem_of_getElem? (i := 793) (by decide +kernel), List.mem_of_getElem? (i := 794) (by decide +kernel)⟩
theorem lw_p34 : lw_okq (⟨"BranchGoalsModel", "archive", "(I)V"⟩, 22) := ⟨⟨by decide +kernel, by decide +kernel⟩, List.mem_of_getElem? (i := 629) (by decide +kernel), List.mem_of_getElem? (i := 797) (by decide +kernel), List.mem_of_getElem? (i := 798) (by decide +kernel)⟩
theorem lw_p35 : lw_okq (⟨"BranchGoalsModel", "reached", "(I)I"⟩, 22) := ⟨⟨by decide +kernel, by decide +kernel⟩, List.mem_of_getElem? (i := 629) (by decide +kernel), List.mem_of_getElem? (i := 801) (by decide +kernel), List.mem_of_getElem? (i := 802) (by decide +kernel)⟩
theorem lw_p36 : lw_okq (⟨"BranchGoalsModel", "perform", "(I)V"⟩, 22) := ⟨⟨by decide +kernel, by decide +kernel⟩, List.mem_of_getElem? (i := 629) (by decide +kernel), List.mem_of_getElem? (i := 805) (by decide +kernel), List.mem_of_getElem? (i := 806) (by decide +kernel)⟩
theorem lw_p37 : lw_okq (⟨"BranchGoalsModel", "part", "(III)I"⟩, 22) := ⟨⟨by decide +kernel, by decide +kernel⟩, List.mem_of_getElem? (i := 629) (by decide +kernel), List.mem_of_getElem? (i := 810) (by decide +kernel), List.mem_of_getElem? (i := 811) (by decide +kernel)⟩
theorem lw_p38 : lw_okq (⟨"BranchGoalsModel", "value", "(I)I"⟩, 22) := ⟨⟨by decide +kernel, by decide +kernel⟩, List.mem_of_getElem? (i := 629) (by decide +kernel), List.mem_of_getElem? (i := 815) (by decide +kernel), List.mem_of_getElem? (i := 816) (by decide +kernel)⟩
theorem lw_p39 : lw_okq (⟨"BranchGoalsModel", "call", "(I)J"⟩, 22) := ⟨⟨by decide +kernel, by decide +kernel⟩, List.mem_of_getElem? (i := 629) (by decide +kernel), List.mem_of_getElem? (i := 819) (by decide +kernel), List.mem_of_getElem? (i := 820) (by decide +kernel)⟩
theorem lw_p40 : lw_okq (⟨"BranchGoalsModel", "go", "(II)I"⟩, 22) := ⟨⟨by decide +kernel, by decide +kernel⟩, List.mem_of_getElem? (i := 629) (by decide +kernel), List.mem_of_getElem? (i := 825) (by decide +kernel), List.mem_of_getElem? (i := 826) (by decide +kernel)⟩
theorem lw_p41 : lw_okq (⟨"BranchGoalsModel", "note", "(IIII)V"⟩, 22) := ⟨⟨by decide +kernel, by decide +kernel⟩, List.mem_of_getElem? (i := 629) (by decide +kernel), List.mem_of_getElem? (i := 829) (by decide +kernel), List.mem_of_getElem? (i := 830) (by decide +kernel)⟩
theorem lw_p42 : lw_okq (⟨"BranchGoalsModel", "copy", "(II)V"⟩, 22) := ⟨⟨by decide +kernel, by decide +kernel⟩, List.mem_of_getElem? (i := 629) (by decide +kernel), List.mem_of_getElem? (i := 834) (by decide +kernel), List.mem_of_getElem? (i := 835) (by decide +kernel)⟩
theorem lw_p43 : lw_okq (⟨"BranchGoalsModel", "putInOrder", "(I)V"⟩, 22) := ⟨⟨by decide +kernel, by decide +kernel⟩, List.mem_of_getElem? (i := 629) (by decide +kernel), List.mem_of_getElem? (i := 838) (by decide +kernel), List.mem_of_getElem? (i := 839) (by decide +kernel)⟩
theorem lw_p44 : lw_okq (⟨"BranchGoalsModel", "level", "(I)J"⟩, 22) := ⟨⟨by decide +kernel, by decide +kernel⟩, List.mem_of_getElem? (i := 629) (by decide +kernel), List.mem_of_getElem? (i := 843) (by decide +kernel), List.mem_of_getElem? (i := 844) (by decide +kernel)⟩
theorem lw_p45 : lw_okq (⟨"BranchGoalsModel", "prefer", "(II)V"⟩, 22) := ⟨⟨by decide +kernel, by decide +kernel⟩, List.mem_of_getElem? (i := 629) (by decide +kernel), List.mem_of_getElem? (i := 849) (by decide +kernel), List.mem_of_getElem? (i := 850) (by decide +kernel)⟩
theorem lw_p46 : lw_okq (⟨"BranchGoalsModel", "fronts", "(II)V"⟩, 22) := ⟨⟨by decide +kernel, by decide +kernel⟩, List.mem_of_getElem? (i := 629) (by decide +kernel), List.mem_of_getElem? (i := 853) (by decide +kernel), List.mem_of_getElem? (i := 854) (by decide +kernel)⟩
theorem lw_p47 : lw_okq (⟨"BranchGoalsModel", "better", "(III)I"⟩, 22) := ⟨⟨by decide +kernel, by decide +kernel⟩, List.mem_of_getElem? (i := 629) (by decide +kernel), List.mem_of_getElem? (i := 857) (by decide +kernel), List.mem_of_getElem? (i := 858) (by decide +kernel)⟩
def lw_privs_3 : List (MethodName × Nat) := [(⟨"BranchGoalsModel", "drawNumber", "()I"⟩, 22), (⟨"BranchGoalsModel", "setLine", "(I)Z"⟩, 22), (⟨"BranchGoalsModel", "archive", "(I)V"⟩, 22), (⟨"BranchGoalsModel", "reached", "(I)I"⟩, 22), (⟨"BranchGoalsModel", "perform", "(I)V"⟩, 22), (⟨"BranchGoalsModel", "part", "(III)I"⟩, 22), (⟨"BranchGoalsModel", "value", "(I)I"⟩, 22), (⟨"BranchGoalsModel", "call", "(I)J"⟩, 22), (⟨"BranchGoalsModel", "go", "(II)I"⟩, 22), (⟨"BranchGoalsModel", "note", "(IIII)V"⟩, 22), (⟨"BranchGoalsModel", "copy", "(II)V"⟩, 22), (⟨"BranchGoalsModel", "putInOrder", "(I)V"⟩, 22), (⟨"BranchGoalsModel", "level", "(I)J"⟩, 22), (⟨"BranchGoalsModel", "prefer", "(II)V"⟩, 22), (⟨"BranchGoalsModel", "fronts", "(II)V"⟩, 22), (⟨"BranchGoalsModel", "better", "(III)I"⟩, 22)]
theorem lw_r3 : ∀ q ∈ lw_privs_3, lw_okq q := List.forall_mem_cons.mpr ⟨lw_p32, List.forall_mem_cons.mpr ⟨lw_p33, List.forall_mem_cons.mpr ⟨lw_p34, List.forall_mem_cons.mpr ⟨lw_p35, List.forall_mem_cons.mpr ⟨lw_p36, List.forall_mem_cons.mpr ⟨lw_p37, List.forall_mem_cons.mpr ⟨lw_p38, List.forall_mem_cons.mpr ⟨lw_p39, List.forall_mem_cons.mpr ⟨lw_p40, List.forall_mem_cons.mpr ⟨lw_p41, List.forall_mem_cons.mpr ⟨lw_p42, List.forall_mem_cons.mpr ⟨lw_p43, List.forall_mem_cons.mpr ⟨lw_p44, List.forall_mem_cons.mpr ⟨lw_p45, List.forall_mem_cons.mpr ⟨lw_p46, List.forall_mem_cons.mpr ⟨lw_p47, fun _ h => absurd h List.not_mem_nil⟩⟩⟩⟩⟩⟩⟩⟩⟩⟩⟩⟩⟩⟩⟩⟩
theorem lw_p48 : lw_okq (⟨"BranchGoalsModel", "rearrange", "(I)V"⟩, 22) := ⟨⟨by decide +kernel, by decide +kernel⟩, List.mem_of_getElem? (i := 629) (by decide +kernel), List.mem_of_getElem? (i := 861) (by decide +kernel), List.mem_of_getElem? (i := 862) (by decide +kernel)⟩
theorem lw_p49 : lw_okq (⟨"BranchGoalsModel", "before", "(II)Z"⟩, 22) := ⟨⟨by decide +kernel, by decide +kernel⟩, List.mem_of_getElem? (i := 629) (by decide +kernel), List.mem_of_getElem? (i := 865) (by decide +kernel), List.mem_of_getElem? (i := 866) (by decide +kernel)⟩
theorem lw_p50 : lw_okq (⟨"BranchGoalsModel", "lesser", "()I"⟩, 22) := ⟨⟨by decide +kernel, by decide +kernel⟩, List.mem_of_getElem? (i := 629) (by decide +kernel), List.mem_of_getElem? (i := 877) (by decide +kernel), List.mem_of_getElem? (i := 878) (by decide +kernel)⟩
theorem lw_p51 : lw_okq (⟨"BranchGoalsModel", "join", "(IIIII)V"⟩, 22) := ⟨⟨by decide +kernel, by decide +kernel⟩, List.mem_of_getElem? (i := 629) (by decide +kernel), List.mem_of_getElem? (i := 881) (by decide +kernel), List.mem_of_getElem? (i := 882) (by decide +kernel)⟩
theorem lw_p52 : lw_okq (⟨"BranchGoalsModel", "move", "(IIIIII)V"⟩, 22) := ⟨⟨by decide +kernel, by decide +kernel⟩, List.mem_of_getElem? (i := 629) (by decide +kernel), List.mem_of_getElem? (i := 885) (by decide +kernel), List.mem_of_getElem? (i := 886) (by decide +kernel)⟩
theorem lw_p53 : lw_okq (⟨"BranchGoalsModel", "change", "(I)V"⟩, 22) := ⟨⟨by decide +kernel, by decide +kernel⟩, List.mem_of_getElem? (i := 629) (by decide +kernel), List.mem_of_getElem? (i := 889) (by decide +kernel), List.mem_of_getElem? (i := 890) (by decide +kernel)⟩
theorem lw_p54 : lw_okq (⟨"BranchGoalsModel", "makeRoom", "(II)V"⟩, 22) := ⟨⟨by decide +kernel, by decide +kernel⟩, List.mem_of_getElem? (i := 629) (by decide +kernel), List.mem_of_getElem? (i := 893) (by decide +kernel), List.mem_of_getElem? (i := 894) (by decide +kernel)⟩
theorem lw_p55 : lw_okq (⟨"BranchGoalsModel", "takeOut", "(II)V"⟩, 22) := ⟨⟨by decide +kernel, by decide +kernel⟩, List.mem_of_getElem? (i := 629) (by decide +kernel), List.mem_of_getElem? (i := 897) (by decide +kernel), List.mem_of_getElem? (i := 898) (by decide +kernel)⟩
theorem lw_p56 : lw_okq (⟨"BranchGoalsModel", "others", "(I)I"⟩, 22) := ⟨⟨by decide +kernel, by decide +kernel⟩, List.mem_of_getElem? (i := 629) (by decide +kernel), List.mem_of_getElem? (i := 908) (by decide +kernel), List.mem_of_getElem? (i := 909) (by decide +kernel)⟩
theorem lw_p57 : lw_okq (⟨"BranchGoalsModel", "cut", "(II)V"⟩, 22) := ⟨⟨by decide +kernel, by decide +kernel⟩, List.mem_of_getElem? (i := 629) (by decide +kernel), List.mem_of_getElem? (i := 912) (by decide +kernel), List.mem_of_getElem? (i := 913) (by decide +kernel)⟩
theorem lw_p58 : lw_okq (⟨"BranchGoalsModel", "referred", "(II)Z"⟩, 22) := ⟨⟨by decide +kernel, by decide +kernel⟩, List.mem_of_getElem? (i := 629) (by decide +kernel), List.mem_of_getElem? (i := 916) (by decide +kernel), List.mem_of_getElem? (i := 917) (by decide +kernel)⟩
theorem lw_p59 : lw_okq (⟨"BranchGoalsModel", "slot", "(I)I"⟩, 22) := ⟨⟨by decide +kernel, by decide +kernel⟩, List.mem_of_getElem? (i := 629) (by decide +kernel), List.mem_of_getElem? (i := 928) (by decide +kernel), List.mem_of_getElem? (i := 929) (by decide +kernel)⟩
def lw_privs_4 : List (MethodName × Nat) := [(⟨"BranchGoalsModel", "rearrange", "(I)V"⟩, 22), (⟨"BranchGoalsModel", "before", "(II)Z"⟩, 22), (⟨"BranchGoalsModel", "lesser", "()I"⟩, 22), (⟨"BranchGoalsModel", "join", "(IIIII)V"⟩, 22), (⟨"BranchGoalsModel", "move", "(IIIIII)V"⟩, 22), (⟨"BranchGoalsModel", "change", "(I)V"⟩, 22), (⟨"BranchGoalsModel", "makeRoom", "(II)V"⟩, 22), (⟨"BranchGoalsModel", "takeOut", "(II)V"⟩, 22), (⟨"BranchGoalsModel", "others", "(I)I"⟩, 22), (⟨"BranchGoalsModel", "cut", "(II)V"⟩, 22), (⟨"BranchGoalsModel", "referred", "(II)Z"⟩, 22), (⟨"BranchGoalsModel", "slot", "(I)I"⟩, 22)]
theorem lw_r4 : ∀ q ∈ lw_privs_4, lw_okq q := List.forall_mem_cons.mpr ⟨lw_p48, List.forall_mem_cons.mpr ⟨lw_p49, List.forall_mem_cons.mpr ⟨lw_p50, List.forall_mem_cons.mpr ⟨lw_p51, List.forall_mem_cons.mpr ⟨lw_p52, List.forall_mem_cons.mpr ⟨lw_p53, List.forall_mem_cons.mpr ⟨lw_p54, List.forall_mem_cons.mpr ⟨lw_p55, List.forall_mem_cons.mpr ⟨lw_p56, List.forall_mem_cons.mpr ⟨lw_p57, List.forall_mem_cons.mpr ⟨lw_p58, List.forall_mem_cons.mpr ⟨lw_p59, fun _ h => absurd h List.not_mem_nil⟩⟩⟩⟩⟩⟩⟩⟩⟩⟩⟩⟩
def lw_privs : List (MethodName × Nat) := lw_privs_1 ++ (lw_privs_2 ++ (lw_privs_3 ++ (lw_privs_4)))
def lw_tbl : List Cond := k2_sels lw_privs ++ tables_1
theorem lw_privs_ok : ∀ q ∈ lw_privs, lw_okq q := by
  show ∀ q ∈ lw_privs_1 ++ (lw_privs_2 ++ (lw_privs_3 ++ (lw_privs_4))), lw_okq q
  exact List.forall_mem_append.mpr ⟨lw_r1, List.forall_mem_append.mpr ⟨lw_r2, List.forall_mem_append.mpr ⟨lw_r3, lw_r4⟩⟩⟩
end
section
/-! Written by a program (wip/gen/mk02.py) out of the claim's tables: classes, methods, pool entries by numbers. -/
def xcnT : List String := ["BranchGoals$Archive", "BranchGoals$Case", "BranchGoals$Draws", "BranchGoals$Method", "BranchGoals$Population", "BranchGoals$Program", "BranchGoals$Runner", "BranchGoals$Suite", "BranchGoals", "BranchGoalsModel", "BranchGoalsLaw", "java/lang/Math", "java/util/Arrays", "java/lang/Integer"]
def xcn (i : Nat) : String := xcnT.getD i ""
def xT0 : u_T := fun k => match k with
  | 0 => ("BranchGoals$Archive", "best", "[LBranchGoals$Case;", true)
  | _ => ("BranchGoals$Archive", "goals", "I", false)
def xT1 : u_T := fun k => match k with
  | 0 => ("BranchGoals$Case", "parts", "[I", true)
  | 1 => ("BranchGoals$Case", "results", "[J", true)
  | 2 => ("BranchGoals$Case", "fitnesses", "[J", true)
  | 3 => ("BranchGoals$Case", "steps", "I", false)
  | 4 => ("BranchGoals$Case", "goals", "I", false)
  | 5 => ("BranchGoals$Case", "front", "I", false)
  | _ => ("BranchGoals$Case", "crowd", "I", false)
def xT2 : u_T := fun k => match k with
  | 0 => ("BranchGoals$Draws", "constants", "[I", true)
  | 1 => ("BranchGoals$Draws", "constantCount", "I", false)
  | _ => ("BranchGoals$Draws", "bits", "J", false)
def xT3 : u_T := fun k => match k with
  | 0 => ("BranchGoals$Method", "ops", "[I", true)
  | 1 => ("BranchGoals$Method", "as", "[I", true)
  | 2 => ("BranchGoals$Method", "bs", "[I", true)
  | 3 => ("BranchGoals$Method", "cs", "[I", true)
  | 4 => ("BranchGoals$Method", "branchOf", "[I", true)
  | 5 => ("BranchGoals$Method", "lines", "I", false)
  | _ => ("BranchGoals$Method", "isWatched", "Z", false)
def xT4 : u_T := fun k => match k with
  | 0 => ("BranchGoals$Population", "cases", "[LBranchGoals$Case;", true)
  | _ => ("BranchGoals$Population", "size", "I", false)
def xT5 : u_T := fun k => match k with
  | 0 => ("BranchGoals$Program", "methods", "[LBranchGoals$Method;", true)
  | 1 => ("BranchGoals$Program", "needed", "[I", true)
  | 2 => ("BranchGoals$Program", "isOpen", "[Z", true)
  | _ => ("BranchGoals$Program", "branches", "I", false)
def xT6 : u_T := fun k => match k with
  | 0 => ("BranchGoals$Runner", "variables", "[I", true)
  | 1 => ("BranchGoals$Runner", "nearest", "[J", true)
  | _ => ("BranchGoals$Runner", "count", "I", false)
def xT7 : u_T := fun k => match k with
  | 0 => ("BranchGoals$Suite", "cases", "[LBranchGoals$Case;", true)
  | 1 => ("BranchGoals$Suite", "trial", "LBranchGoals$Case;", true)
  | _ => ("BranchGoals$Suite", "size", "I", false)
def xT8 : u_T := fun k => match k with
  | 0 => ("BranchGoals", "program", "LBranchGoals$Program;", true)
  | 1 => ("BranchGoals", "draws", "LBranchGoals$Draws;", true)
  | 2 => ("BranchGoals", "runner", "LBranchGoals$Runner;", true)
  | 3 => ("BranchGoals", "archive", "LBranchGoals$Archive;", true)
  | 4 => ("BranchGoals", "population", "LBranchGoals$Population;", true)
  | 5 => ("BranchGoals", "suite", "LBranchGoals$Suite;", true)
  | 6 => ("BranchGoals", "written", "LBranchGoals$Case;", true)
  | 7 => ("BranchGoals", "latest", "LBranchGoals$Case;", true)
  | _ => ("BranchGoals", "started", "Z", false)
def xT9 : u_T := fun k => match k with
  | 0 => ("BranchGoalsModel", "cells", "[I", true)
  | 1 => ("BranchGoalsModel", "size", "[I", true)
  | 2 => ("BranchGoalsModel", "code", "[I", true)
  | 3 => ("BranchGoalsModel", "lines", "[I", true)
  | 4 => ("BranchGoalsModel", "seen", "[Z", true)
  | 5 => ("BranchGoalsModel", "method", "[I", true)
  | 6 => ("BranchGoalsModel", "at", "[I", true)
  | 7 => ("BranchGoalsModel", "needs", "[I", true)
  | 8 => ("BranchGoalsModel", "always", "[Z", true)
  | 9 => ("BranchGoalsModel", "started", "Z", false)
  | 10 => ("BranchGoalsModel", "branches", "I", false)
  | 11 => ("BranchGoalsModel", "population", "I", false)
  | 12 => ("BranchGoalsModel", "suite", "I", false)
  | 13 => ("BranchGoalsModel", "runs", "I", false)
  | 14 => ("BranchGoalsModel", "state", "J", false)
  | 15 => ("BranchGoalsModel", "v", "[I", true)
  | 16 => ("BranchGoalsModel", "results", "[J", true)
  | 17 => ("BranchGoalsModel", "near", "[J", true)
  | 18 => ("BranchGoalsModel", "fit", "[J", true)
  | 19 => ("BranchGoalsModel", "front", "[I", true)
  | 20 => ("BranchGoalsModel", "crowd", "[I", true)
  | _ => ("BranchGoalsModel", "sets", "[I", true)
def xcls : List vw_C := [("BranchGoals$Archive", xT0, 2), ("BranchGoals$Case", xT1, 7), ("BranchGoals$Draws", xT2, 3), ("BranchGoals$Method", xT3, 7), ("BranchGoals$Population", xT4, 2), ("BranchGoals$Program", xT5, 4), ("BranchGoals$Runner", xT6, 3), ("BranchGoals$Suite", xT7, 3), ("BranchGoals", xT8, 9), ("BranchGoalsModel", xT9, 22)]
def xnfT : List Nat := [2, 7, 3, 7, 2, 4, 3, 3, 9, 22]
def xnf (i : Nat) : Nat := xnfT.getD i 0
def xftT : List (List FieldType) := [[.array (.object "BranchGoals$Case"), .int], [.array (.int), .array (.long), .array (.long), .int, .int, .int, .int], [.array (.int), .int, .long], [.array (.int), .array (.int), .array (.int), .array (.int), .array (.int), .int, .boolean], [.array (.object "BranchGoals$Case"), .int], [.array (.object "BranchGoals$Method"), .array (.int), .array (.boolean), .int], [.array (.int), .array (.long), .int], [.array (.object "BranchGoals$Case"), .object "BranchGoals$Case", .int], [.object "BranchGoals$Program", .object "BranchGoals$Draws", .object "BranchGoals$Runner", .object "BranchGoals$Archive", .object "BranchGoals$Population", .object "BranchGoals$Suite", .object "BranchGoals$Case", .object "BranchGoals$Case", .boolean], [.array (.int), .array (.int), .array (.int), .array (.int), .array (.boolean), .array (.int), .array (.int), .array (.int), .array (.boolean), .boolean, .int, .int, .int, .int, .long, .array (.int), .array (.long), .array (.long), .array (.long), .array (.int), .array (.int), .array (.int)]]
def xft (i j : Nat) : FieldType := (xftT.getD i []).getD j .int
def xatyT : List FieldType := [.int, .long, .boolean, .object "BranchGoals$Case", .object "BranchGoals$Method"]
def xaty (t : Nat) : FieldType := xatyT.getD t .int
def xnq : Nat := 2
def xqc (t : Nat) : Nat := ([1, 3] : List Nat).getD t 99
def xM : List (Nat × MethodName × ByteArray × Nat × Option FieldType) := [
  (8, ⟨"BranchGoals", "<init>", "(I)V"⟩, prog_1_method_1_code, 2, none),
  (5, ⟨"BranchGoals$Program", "<init>", "()V"⟩, prog_7_method_1_code, 1, none),
  (3, ⟨"BranchGoals$Method", "<init>", "()V"⟩, prog_5_method_1_code, 1, none),
  (2, ⟨"BranchGoals$Draws", "<init>", "(I)V"⟩, prog_4_method_1_code, 2, none),
  (6, ⟨"BranchGoals$Runner", "<init>", "()V"⟩, prog_8_method_1_code, 1, none),
  (0, ⟨"BranchGoals$Archive", "<init>", "()V"⟩, prog_2_method_1_code, 1, none),
  (8, ⟨"BranchGoals", "makeCases", "(I)[LBranchGoals$Case;"⟩, prog_1_method_27_code, 3, some ((FieldType.array (FieldType.object "BranchGoals$Case")))),
  (1, ⟨"BranchGoals$Case", "<init>", "()V"⟩, prog_3_method_1_code, 1, none),
  (4, ⟨"BranchGoals$Population", "<init>", "()V"⟩, prog_6_method_1_code, 1, none),
  (7, ⟨"BranchGoals$Suite", "<init>", "()V"⟩, prog_9_method_1_code, 1, none),
  (8, ⟨"BranchGoals", "line", "(IIIII)Z"⟩, prog_1_method_2_code, 6, some (FieldType.boolean)),
  (8, ⟨"BranchGoals", "isMethod", "(I)Z"⟩, prog_1_method_24_code, 1, some (FieldType.boolean)),
  (3, ⟨"BranchGoals$Method", "append", "(IIII)Z"⟩, prog_5_method_2_code, 5, some (FieldType.boolean)),
  (3, ⟨"BranchGoals$Method", "isAllowed", "(IIII)Z"⟩, prog_5_method_3_code, 4, some (FieldType.boolean)),
  (3, ⟨"BranchGoals$Method", "isVariable", "(I)Z"⟩, prog_5_method_4_code, 1, some (FieldType.boolean)),
  (3, ⟨"BranchGoals$Method", "isTarget", "(I)Z"⟩, prog_5_method_5_code, 1, some (FieldType.boolean)),
  (8, ⟨"BranchGoals", "start", "()I"⟩, prog_1_method_3_code, 3, some (FieldType.int)),
  (5, ⟨"BranchGoals$Program", "numberBranches", "()V"⟩, prog_7_method_3_code, 2, none),
  (3, ⟨"BranchGoals$Method", "numberBranches", "(I)I"⟩, prog_5_method_7_code, 5, some (FieldType.int)),
  (3, ⟨"BranchGoals$Method", "isBranch", "(I)Z"⟩, prog_5_method_6_code, 2, some (FieldType.boolean)),
  (5, ⟨"BranchGoals$Program", "linkBranches", "(LBranchGoals$Method;)V"⟩, prog_7_method_4_code, 5, none),
  (3, ⟨"BranchGoals$Method", "postDominatedBy", "(I)I"⟩, prog_5_method_9_code, 2, some (FieldType.int)),
  (3, ⟨"BranchGoals$Method", "placesReachingEnd", "(I)I"⟩, prog_5_method_10_code, 6, some (FieldType.int)),
  (3, ⟨"BranchGoals$Method", "placeAfter", "(II)I"⟩, prog_5_method_8_code, 3, some (FieldType.int)),
  (11, ⟨"java/lang/Math", "min", "(II)I"⟩, prog_13_method_69_code, 2, some (FieldType.int)),
  (5, ⟨"BranchGoals$Program", "goalsNeededAt", "(IILBranchGoals$Method;)I"⟩, prog_7_method_5_code, 6, some (FieldType.int)),
  (2, ⟨"BranchGoals$Draws", "gatherConstants", "(LBranchGoals$Program;)V"⟩, prog_4_method_2_code, 5, none),
  (4, ⟨"BranchGoals$Population", "child", "(I)LBranchGoals$Case;"⟩, prog_6_method_2_code, 2, some ((FieldType.object "BranchGoals$Case"))),
  (2, ⟨"BranchGoals$Draws", "drawCase", "(LBranchGoals$Case;)V"⟩, prog_4_method_6_code, 3, none),
  (2, ⟨"BranchGoals$Draws", "draw", "(I)I"⟩, prog_4_method_3_code, 2, some (FieldType.int)),
  (2, ⟨"BranchGoals$Draws", "drawStep", "(LBranchGoals$Case;I)V"⟩, prog_4_method_5_code, 6, none),
  (2, ⟨"BranchGoals$Draws", "drawNumber", "()I"⟩, prog_4_method_4_code, 2, some (FieldType.int)),
  (1, ⟨"BranchGoals$Case", "write", "(IIIII)V"⟩, prog_3_method_4_code, 6, none),
  (8, ⟨"BranchGoals", "runAndArchive", "(LBranchGoals$Case;)V"⟩, prog_1_method_20_code, 2, none),
  (6, ⟨"BranchGoals$Runner", "perform", "(LBranchGoals$Case;LBranchGoals$Program;)V"⟩, prog_8_method_2_code, 5, none),
  (12, ⟨"java/util/Arrays", "fill", "([II)V"⟩, prog_15_method_103_code, 4, none),
  (12, ⟨"java/util/Arrays", "fill", "([JJ)V"⟩, prog_15_method_101_code, 5, none),
  (6, ⟨"BranchGoals$Runner", "doStep", "(LBranchGoals$Case;ILBranchGoals$Program;)J"⟩, prog_8_method_3_code, 7, some (FieldType.long)),
  (1, ⟨"BranchGoals$Case", "part", "(II)I"⟩, prog_3_method_3_code, 3, some (FieldType.int)),
  (6, ⟨"BranchGoals$Runner", "valueOf", "(J)I"⟩, prog_8_method_4_code, 2, some (FieldType.int)),
  (6, ⟨"BranchGoals$Runner", "callMethod", "(LBranchGoals$Method;)J"⟩, prog_8_method_5_code, 5, some (FieldType.long)),
  (6, ⟨"BranchGoals$Runner", "doLine", "(LBranchGoals$Method;I)I"⟩, prog_8_method_6_code, 6, some (FieldType.int)),
  (6, ⟨"BranchGoals$Runner", "calculate", "(III)I"⟩, prog_8_method_7_code, 3, some (FieldType.int)),
  (6, ⟨"BranchGoals$Runner", "decide", "(LBranchGoals$Method;I)I"⟩, prog_8_method_8_code, 12, some (FieldType.int)),
  (11, ⟨"java/lang/Math", "abs", "(J)J"⟩, prog_13_method_61_code, 2, some (FieldType.long)),
  (11, ⟨"java/lang/Math", "min", "(JJ)J"⟩, prog_13_method_70_code, 4, some (FieldType.long)),
  (5, ⟨"BranchGoals$Program", "goalCount", "()I"⟩, prog_7_method_2_code, 1, some (FieldType.int)),
  (6, ⟨"BranchGoals$Runner", "fitnessFor", "(ILBranchGoals$Program;)J"⟩, prog_8_method_9_code, 7, some (FieldType.long)),
  (6, ⟨"BranchGoals$Runner", "leastNearest", "(II)J"⟩, prog_8_method_10_code, 6, some (FieldType.long)),
  (8, ⟨"BranchGoals", "hasGoal", "(II)Z"⟩, prog_1_method_26_code, 2, some (FieldType.boolean)),
  (5, ⟨"BranchGoals$Program", "goalsNeededBy", "(I)I"⟩, prog_7_method_6_code, 4, some (FieldType.int)),
  (0, ⟨"BranchGoals$Archive", "admit", "(LBranchGoals$Case;)V"⟩, prog_2_method_2_code, 3, none),
  (1, ⟨"BranchGoals$Case", "copy", "(LBranchGoals$Case;)V"⟩, prog_3_method_5_code, 2, none),
  (1, ⟨"BranchGoals$Case", "copySteps", "(LBranchGoals$Case;)V"⟩, prog_3_method_6_code, 2, none),
  (5, ⟨"BranchGoals$Program", "activeGoals", "(I)I"⟩, prog_7_method_7_code, 4, some (FieldType.int)),
  (4, ⟨"BranchGoals$Population", "takeInChildren", "(I)V"⟩, prog_6_method_3_code, 4, none),
  (4, ⟨"BranchGoals$Population", "placeFronts", "(II)V"⟩, prog_6_method_4_code, 5, none),
  (4, ⟨"BranchGoals$Population", "preferredFor", "(II)LBranchGoals$Case;"⟩, prog_6_method_5_code, 7, some ((FieldType.object "BranchGoals$Case"))),
  (4, ⟨"BranchGoals$Population", "isBeaten", "(LBranchGoals$Case;III)Z"⟩, prog_6_method_6_code, 6, some (FieldType.boolean)),
  (4, ⟨"BranchGoals$Population", "goalsNearer", "(LBranchGoals$Case;LBranchGoals$Case;I)I"⟩, prog_6_method_8_code, 5, some (FieldType.int)),
  (4, ⟨"BranchGoals$Population", "crowdOf", "(LBranchGoals$Case;II)I"⟩, prog_6_method_7_code, 6, some (FieldType.int)),
  (11, ⟨"java/lang/Math", "max", "(II)I"⟩, prog_13_method_65_code, 2, some (FieldType.int)),
  (4, ⟨"BranchGoals$Population", "sort", "(I)V"⟩, prog_6_method_9_code, 5, none),
  (4, ⟨"BranchGoals$Population", "goesBefore", "(LBranchGoals$Case;LBranchGoals$Case;)Z"⟩, prog_6_method_10_code, 2, some (FieldType.boolean)),
  (8, ⟨"BranchGoals", "watched", "(I)Z"⟩, prog_1_method_4_code, 2, some (FieldType.boolean)),
  (8, ⟨"BranchGoals", "depends", "(II)Z"⟩, prog_1_method_5_code, 3, some (FieldType.boolean)),
  (8, ⟨"BranchGoals", "isGoal", "(I)Z"⟩, prog_1_method_22_code, 2, some (FieldType.boolean)),
  (8, ⟨"BranchGoals", "put", "(IIII)Z"⟩, prog_1_method_6_code, 6, some (FieldType.boolean)),
  (8, ⟨"BranchGoals", "isField", "(I)Z"⟩, prog_1_method_25_code, 1, some (FieldType.boolean)),
  (8, ⟨"BranchGoals", "run", "()I"⟩, prog_1_method_7_code, 1, some (FieldType.int)),
  (8, ⟨"BranchGoals", "evolve", "()I"⟩, prog_1_method_8_code, 6, some (FieldType.int)),
  (8, ⟨"BranchGoals", "drawParent", "()LBranchGoals$Case;"⟩, prog_1_method_21_code, 3, some ((FieldType.object "BranchGoals$Case"))),
  (1, ⟨"BranchGoals$Case", "join", "(LBranchGoals$Case;ILBranchGoals$Case;I)V"⟩, prog_3_method_7_code, 7, none),
  (2, ⟨"BranchGoals$Draws", "change", "(LBranchGoals$Case;)V"⟩, prog_4_method_7_code, 4, none),
  (1, ⟨"BranchGoals$Case", "makeRoom", "(I)V"⟩, prog_3_method_8_code, 3, none),
  (1, ⟨"BranchGoals$Case", "takeOut", "(I)V"⟩, prog_3_method_9_code, 4, none),
  (2, ⟨"BranchGoals$Draws", "changeStep", "(LBranchGoals$Case;I)V"⟩, prog_4_method_8_code, 5, none),
  (13, ⟨"java/lang/Integer", "bitCount", "(I)I"⟩, prog_12_method_49_code, 1, some (FieldType.int)),
  (8, ⟨"BranchGoals", "finish", "()I"⟩, prog_1_method_9_code, 2, some (FieldType.int)),
  (7, ⟨"BranchGoals$Suite", "clear", "()V"⟩, prog_9_method_2_code, 1, none),
  (7, ⟨"BranchGoals$Suite", "goals", "()I"⟩, prog_9_method_3_code, 1, some (FieldType.int)),
  (7, ⟨"BranchGoals$Suite", "goalsOf", "(II)I"⟩, prog_9_method_4_code, 5, some (FieldType.int)),
  (7, ⟨"BranchGoals$Suite", "appendCut", "(LBranchGoals$Case;ILBranchGoals$Runner;LBranchGoals$Program;)V"⟩, prog_9_method_5_code, 7, none),
  (1, ⟨"BranchGoals$Case", "isReferredTo", "(I)Z"⟩, prog_3_method_10_code, 3, some (FieldType.boolean)),
  (7, ⟨"BranchGoals$Suite", "dropNeedless", "()V"⟩, prog_9_method_6_code, 5, none),
  (8, ⟨"BranchGoals", "found", "()I"⟩, prog_1_method_10_code, 1, some (FieldType.int)),
  (8, ⟨"BranchGoals", "active", "()I"⟩, prog_1_method_11_code, 1, some (FieldType.int)),
  (8, ⟨"BranchGoals", "reported", "()I"⟩, prog_1_method_12_code, 1, some (FieldType.int)),
  (8, ⟨"BranchGoals", "length", "(I)I"⟩, prog_1_method_13_code, 3, some (FieldType.int)),
  (8, ⟨"BranchGoals", "caseNamed", "(I)LBranchGoals$Case;"⟩, prog_1_method_23_code, 3, some ((FieldType.object "BranchGoals$Case"))),
  (8, ⟨"BranchGoals", "step", "(III)I"⟩, prog_1_method_14_code, 5, some (FieldType.int)),
  (1, ⟨"BranchGoals$Case", "hasStep", "(I)Z"⟩, prog_3_method_2_code, 2, some (FieldType.boolean)),
  (8, ⟨"BranchGoals", "covers", "(I)I"⟩, prog_1_method_15_code, 3, some (FieldType.int)),
  (8, ⟨"BranchGoals", "fitness", "(II)J"⟩, prog_1_method_16_code, 4, some (FieldType.long)),
  (8, ⟨"BranchGoals", "result", "(II)J"⟩, prog_1_method_17_code, 4, some (FieldType.long)),
  (8, ⟨"BranchGoals", "runs", "()I"⟩, prog_1_method_18_code, 1, some (FieldType.int)),
  (8, ⟨"BranchGoals", "state", "()J"⟩, prog_1_method_19_code, 1, some (FieldType.long)),
  (10, ⟨"BranchGoalsLaw", "cell", "([II)I"⟩, method_2_code, 2, some (FieldType.int)),
  (9, ⟨"BranchGoalsModel", "<init>", "(I)V"⟩, prog_11_method_1_code, 2, none),
  (9, ⟨"BranchGoalsModel", "line", "(IIIII)Z"⟩, prog_11_method_5_code, 11, some (FieldType.boolean)),
  (9, ⟨"BranchGoalsModel", "within", "(III)Z"⟩, prog_11_method_4_code, 3, some (FieldType.boolean)),
  (9, ⟨"BranchGoalsModel", "watched", "(I)Z"⟩, prog_11_method_11_code, 2, some (FieldType.boolean)),
  (9, ⟨"BranchGoalsModel", "depends", "(II)Z"⟩, prog_11_method_13_code, 3, some (FieldType.boolean)),
  (9, ⟨"BranchGoalsModel", "goal", "(I)Z"⟩, prog_11_method_12_code, 2, some (FieldType.boolean)),
  (9, ⟨"BranchGoalsModel", "put", "(IIII)Z"⟩, prog_11_method_28_code, 7, some (FieldType.boolean)),
  (9, ⟨"BranchGoalsModel", "write", "(IIII)V"⟩, prog_11_method_23_code, 6, none),
  (9, ⟨"BranchGoalsModel", "second", "(IIII)V"⟩, prog_11_method_24_code, 5, none),
  (9, ⟨"BranchGoalsModel", "found", "()I"⟩, prog_11_method_35_code, 3, some (FieldType.int)),
  (9, ⟨"BranchGoalsModel", "active", "()I"⟩, prog_11_method_36_code, 5, some (FieldType.int)),
  (9, ⟨"BranchGoalsModel", "start", "()I"⟩, prog_11_method_44_code, 2, some (FieldType.int)),
  (9, ⟨"BranchGoalsModel", "number", "(I)V"⟩, prog_11_method_9_code, 4, none),
  (9, ⟨"BranchGoalsModel", "branchAt", "(II)Z"⟩, prog_11_method_3_code, 3, some (FieldType.boolean)),
  (9, ⟨"BranchGoalsModel", "code", "(III)I"⟩, prog_11_method_2_code, 4, some (FieldType.int)),
  (9, ⟨"BranchGoalsModel", "relate", "(I)V"⟩, prog_11_method_10_code, 5, none),
  (9, ⟨"BranchGoalsModel", "must", "(III)Z"⟩, prog_11_method_8_code, 4, some (FieldType.boolean)),
  (9, ⟨"BranchGoalsModel", "way", "(III)Z"⟩, prog_11_method_7_code, 10, some (FieldType.boolean)),
  (9, ⟨"BranchGoalsModel", "lead", "(III)I"⟩, prog_11_method_6_code, 6, some (FieldType.int)),
  (9, ⟨"BranchGoalsModel", "drawCase", "(I)V"⟩, prog_11_method_43_code, 3, none),
  (9, ⟨"BranchGoalsModel", "draw", "(I)I"⟩, prog_11_method_29_code, 2, some (FieldType.int)),
  (9, ⟨"BranchGoalsModel", "drawStep", "(II)V"⟩, prog_11_method_32_code, 7, none),
  (9, ⟨"BranchGoalsModel", "drawNumber", "()I"⟩, prog_11_method_30_code, 5, some (FieldType.int)),
  (9, ⟨"BranchGoalsModel", "setLine", "(I)Z"⟩, prog_11_method_31_code, 2, some (FieldType.boolean)),
  (9, ⟨"BranchGoalsModel", "archive", "(I)V"⟩, prog_11_method_34_code, 5, none),
  (9, ⟨"BranchGoalsModel", "reached", "(I)I"⟩, prog_11_method_20_code, 4, some (FieldType.int)),
  (9, ⟨"BranchGoalsModel", "perform", "(I)V"⟩, prog_11_method_19_code, 6, none),
  (9, ⟨"BranchGoalsModel", "part", "(III)I"⟩, prog_11_method_14_code, 4, some (FieldType.int)),
  (9, ⟨"BranchGoalsModel", "value", "(I)I"⟩, prog_11_method_18_code, 2, some (FieldType.int)),
  (9, ⟨"BranchGoalsModel", "call", "(I)J"⟩, prog_11_method_17_code, 5, some (FieldType.long)),
  (9, ⟨"BranchGoalsModel", "go", "(II)I"⟩, prog_11_method_16_code, 9, some (FieldType.int)),
  (9, ⟨"BranchGoalsModel", "note", "(IIII)V"⟩, prog_11_method_15_code, 15, none),
  (9, ⟨"BranchGoalsModel", "copy", "(II)V"⟩, prog_11_method_22_code, 4, none),
  (9, ⟨"BranchGoalsModel", "putInOrder", "(I)V"⟩, prog_11_method_41_code, 6, none),
  (9, ⟨"BranchGoalsModel", "level", "(I)J"⟩, prog_11_method_21_code, 8, some (FieldType.long)),
  (9, ⟨"BranchGoalsModel", "prefer", "(II)V"⟩, prog_11_method_38_code, 9, none),
  (9, ⟨"BranchGoalsModel", "fronts", "(II)V"⟩, prog_11_method_39_code, 7, none),
  (9, ⟨"BranchGoalsModel", "better", "(III)I"⟩, prog_11_method_37_code, 6, some (FieldType.int)),
  (9, ⟨"BranchGoalsModel", "rearrange", "(I)V"⟩, prog_11_method_42_code, 5, none),
  (9, ⟨"BranchGoalsModel", "before", "(II)Z"⟩, prog_11_method_40_code, 3, some (FieldType.boolean)),
  (9, ⟨"BranchGoalsModel", "run", "()I"⟩, prog_11_method_45_code, 1, some (FieldType.int)),
  (9, ⟨"BranchGoalsModel", "evolve", "()I"⟩, prog_11_method_48_code, 5, some (FieldType.int)),
  (9, ⟨"BranchGoalsModel", "lesser", "()I"⟩, prog_11_method_46_code, 3, some (FieldType.int)),
  (9, ⟨"BranchGoalsModel", "join", "(IIIII)V"⟩, prog_11_method_47_code, 8, none),
  (9, ⟨"BranchGoalsModel", "move", "(IIIIII)V"⟩, prog_11_method_25_code, 10, none),
  (9, ⟨"BranchGoalsModel", "change", "(I)V"⟩, prog_11_method_33_code, 8, none),
  (9, ⟨"BranchGoalsModel", "makeRoom", "(II)V"⟩, prog_11_method_27_code, 6, none),
  (9, ⟨"BranchGoalsModel", "takeOut", "(II)V"⟩, prog_11_method_26_code, 6, none),
  (9, ⟨"BranchGoalsModel", "count", "(I)I"⟩, prog_11_method_49_code, 3, some (FieldType.int)),
  (9, ⟨"BranchGoalsModel", "finish", "()I"⟩, prog_11_method_53_code, 5, some (FieldType.int)),
  (9, ⟨"BranchGoalsModel", "others", "(I)I"⟩, prog_11_method_52_code, 4, some (FieldType.int)),
  (9, ⟨"BranchGoalsModel", "cut", "(II)V"⟩, prog_11_method_51_code, 4, none),
  (9, ⟨"BranchGoalsModel", "referred", "(II)Z"⟩, prog_11_method_50_code, 5, some (FieldType.boolean)),
  (9, ⟨"BranchGoalsModel", "reported", "()I"⟩, prog_11_method_54_code, 1, some (FieldType.int)),
  (9, ⟨"BranchGoalsModel", "length", "(I)I"⟩, prog_11_method_56_code, 3, some (FieldType.int)),
  (9, ⟨"BranchGoalsModel", "slot", "(I)I"⟩, prog_11_method_55_code, 2, some (FieldType.int)),
  (9, ⟨"BranchGoalsModel", "step", "(III)I"⟩, prog_11_method_57_code, 5, some (FieldType.int)),
  (9, ⟨"BranchGoalsModel", "covers", "(I)I"⟩, prog_11_method_58_code, 3, some (FieldType.int)),
  (9, ⟨"BranchGoalsModel", "fitness", "(II)J"⟩, prog_11_method_59_code, 4, some (FieldType.long)),
  (9, ⟨"BranchGoalsModel", "result", "(II)J"⟩, prog_11_method_60_code, 4, some (FieldType.long)),
  (9, ⟨"BranchGoalsModel", "runs", "()I"⟩, prog_11_method_61_code, 1, some (FieldType.int)),
  (9, ⟨"BranchGoalsModel", "state", "()J"⟩, prog_11_method_62_code, 1, some (FieldType.long)),
  (10, ⟨"BranchGoalsLaw", "law", "([I)Z"⟩, code, 4, some (FieldType.boolean))]
def xMd (k : Nat) : Nat × MethodName × ByteArray × Nat × Option FieldType := xM.getD k (99, ⟨"", "", ""⟩, ⟨#[]⟩, 0, none)
def xkc (k : Nat) : Nat := (xMd k).1
def xyn (k : Nat) : MethodName := (xMd k).2.1
def xcode (k : Nat) : ByteArray := (xMd k).2.2.1
def xml (k : Nat) : Nat := (xMd k).2.2.2.1
def xrty (k : Nat) : Option FieldType := (xMd k).2.2.2.2
def xmkT : List Nat := [2, 2, 2, 2, 2, 2, 0, 2, 2, 2, 1, 0, 1, 0, 0, 0, 1, 1, 1, 1, 1, 1, 1, 1, 0, 0, 1, 1, 1, 1, 1, 1, 1, 1, 1, 0, 0, 1, 1, 0, 1, 1, 0, 1, 0, 0, 1, 1, 1, 0, 1, 1, 1, 1, 1, 1, 1, 1, 1, 0, 1, 0, 1, 0, 1, 1, 1, 1, 0, 1, 1, 1, 1, 1, 1, 1, 1, 0, 1, 1, 1, 1, 1, 1, 1, 1, 1, 1, 1, 1, 1, 1, 1, 1, 1, 1, 1, 0, 2, 1, 0, 1, 1, 1, 1, 1, 1, 1, 1, 1, 1, 1, 1, 1, 1, 1, 1, 1, 1, 1, 1, 1, 1, 1, 1, 1, 1, 1, 1, 1, 1, 1, 1, 1, 1, 1, 1, 1, 1, 1, 1, 1, 1, 1, 1, 1, 0, 1, 1, 1, 1, 1, 1, 1, 1, 1, 1, 1, 1, 1, 1]
def xmk (k : Nat) : Nat := xmkT.getD k 9
def xrob (k : Nat) : Bool := match xrty k with
  | some (.object _) => true
  | some (.array _) => true
  | _ => false
def xfldT : List (Nat × Nat × Nat × Nat) := [(3, 9, 3, 0), (2, 38, 3, 0), (6, 91, 3, 0), (3, 15, 3, 1), (6, 94, 3, 1), (3, 18, 3, 2), (6, 108, 3, 2), (3, 21, 3, 3), (2, 41, 3, 3), (6, 99, 3, 3), (3, 24, 3, 4), (5, 56, 3, 4), (6, 130, 3, 4), (3, 27, 3, 5), (2, 33, 3, 5), (5, 42, 3, 5), (6, 86, 3, 5), (3, 31, 3, 6), (5, 34, 3, 6), (8, 114, 3, 6), (5, 12, 5, 0), (2, 27, 5, 0), (8, 71, 5, 0), (6, 78, 5, 0), (5, 18, 5, 1), (8, 120, 5, 1), (5, 22, 5, 2), (5, 26, 5, 3), (2, 9, 2, 0), (2, 15, 2, 1), (2, 23, 2, 2), (8, 204, 2, 2), (6, 9, 6, 0), (6, 15, 6, 1), (6, 19, 6, 2), (8, 201, 6, 2), (1, 9, 1, 0), (2, 77, 1, 0), (1, 15, 1, 1), (6, 39, 1, 1), (8, 198, 1, 1), (1, 19, 1, 2), (6, 59, 1, 2), (4, 61, 1, 2), (8, 192, 1, 2), (1, 22, 1, 3), (6, 34, 1, 3), (0, 30, 1, 3), (7, 41, 1, 3), (4, 65, 1, 3), (8, 128, 1, 3), (2, 60, 1, 3), (1, 26, 1, 4), (0, 23, 1, 4), (6, 50, 1, 4), (7, 34, 1, 4), (8, 141, 1, 4), (1, 29, 1, 5), (4, 46, 1, 5), (1, 32, 1, 6), (4, 31, 1, 6), (0, 13, 0, 0), (8, 166, 0, 0), (0, 19, 0, 1), (8, 99, 0, 1), (4, 13, 4, 0), (8, 216, 4, 0), (4, 19, 4, 1), (8, 215, 4, 1), (7, 13, 7, 0), (8, 224, 7, 0), (7, 22, 7, 1), (7, 26, 7, 2), (8, 177, 7, 2), (8, 12, 8, 0), (8, 21, 8, 1), (8, 28, 8, 2), (8, 35, 8, 3), (8, 42, 8, 4), (8, 49, 8, 5), (8, 56, 8, 6), (8, 60, 8, 7), (8, 63, 8, 8), (9, 7, 9, 0), (9, 13, 9, 1), (9, 16, 9, 2), (9, 19, 9, 3), (9, 22, 9, 4), (9, 26, 9, 5), (9, 29, 9, 6), (9, 32, 9, 7), (9, 35, 9, 8), (9, 71, 9, 9), (9, 89, 9, 10), (9, 198, 9, 11), (9, 236, 9, 12), (9, 168, 9, 13), (9, 64, 9, 14), (9, 38, 9, 15), (9, 41, 9, 16), (9, 45, 9, 17), (9, 48, 9, 18), (9, 51, 9, 19), (9, 54, 9, 20), (9, 57, 9, 21)]
def xcalL : List (Nat × Nat × Nat × Nat) := [(10, 15, 0, 1), (8, 18, 3, 1), (10, 21, 10, 5), (8, 67, 11, 1), (8, 75, 12, 4), (3, 35, 13, 4), (3, 39, 14, 1), (3, 43, 15, 1), (10, 26, 16, 0), (8, 81, 17, 0), (5, 30, 18, 1), (3, 46, 19, 1), (5, 38, 20, 1), (5, 45, 19, 1), (5, 49, 21, 1), (3, 55, 22, 1), (3, 59, 23, 2), (3, 49, 24, 2), (5, 52, 25, 3), (5, 59, 23, 2), (8, 84, 26, 1), (8, 88, 27, 1), (8, 92, 28, 1), (2, 46, 29, 1), (2, 63, 30, 2), (2, 50, 31, 0), (2, 54, 32, 5), (8, 96, 33, 1), (8, 208, 34, 2), (6, 23, 35, 2), (6, 31, 36, 2), (6, 44, 37, 3), (6, 66, 38, 2), (6, 74, 39, 1), (6, 82, 40, 1), (6, 104, 41, 2), (6, 111, 42, 3), (6, 115, 19, 1), (6, 118, 43, 2), (6, 124, 44, 1), (6, 133, 45, 2), (6, 121, 23, 2), (6, 53, 46, 0), (6, 62, 47, 2), (6, 137, 48, 2), (6, 141, 50, 1), (8, 212, 51, 1), (0, 33, 52, 1), (1, 35, 53, 1), (8, 103, 54, 1), (8, 107, 55, 1), (4, 23, 56, 2), (4, 53, 57, 2), (4, 57, 58, 4), (4, 68, 59, 3), (4, 27, 60, 3), (4, 72, 61, 2), (4, 36, 62, 1), (4, 75, 63, 2), (4, 40, 24, 2), (8, 110, 46, 0), (10, 31, 64, 1), (10, 36, 65, 2), (8, 117, 66, 1), (8, 124, 49, 2), (10, 41, 67, 4), (8, 131, 68, 1), (8, 134, 32, 5), (10, 46, 69, 0), (8, 138, 52, 1), (10, 50, 70, 0), (8, 142, 71, 0), (8, 146, 29, 1), (8, 219, 24, 2), (8, 149, 72, 4), (1, 45, 24, 2), (1, 51, 38, 2), (8, 153, 73, 1), (2, 67, 74, 1), (2, 71, 75, 1), (2, 74, 76, 2), (8, 156, 77, 1), (10, 54, 78, 0), (8, 161, 79, 0), (8, 164, 80, 0), (7, 30, 81, 2), (8, 170, 82, 4), (7, 37, 52, 1), (7, 44, 83, 1), (7, 48, 53, 1), (7, 51, 75, 1), (7, 55, 34, 2), (8, 174, 84, 0), (10, 58, 85, 0), (10, 62, 86, 0), (10, 66, 87, 0), (10, 70, 88, 1), (8, 180, 89, 1), (10, 75, 90, 3), (8, 183, 91, 1), (8, 186, 38, 2), (10, 80, 92, 1), (10, 84, 93, 2), (10, 89, 94, 2), (10, 93, 95, 0), (10, 97, 96, 0), (10, 9, 97, 2), (10, 20, 98, 1), (10, 25, 99, 5), (9, 75, 100, 3), (10, 35, 101, 1), (10, 40, 102, 2), (9, 96, 103, 1), (10, 45, 104, 4), (9, 137, 105, 4), (9, 140, 106, 4), (10, 61, 107, 0), (10, 65, 108, 0), (9, 174, 107, 0), (10, 30, 109, 0), (9, 204, 110, 1), (9, 79, 111, 2), (9, 68, 112, 3), (9, 207, 113, 1), (9, 93, 114, 3), (9, 86, 115, 3), (9, 83, 116, 3), (9, 210, 117, 1), (9, 145, 118, 1), (9, 159, 119, 2), (9, 151, 120, 0), (9, 148, 121, 1), (9, 201, 122, 1), (9, 165, 123, 1), (9, 129, 124, 1), (9, 118, 125, 3), (9, 121, 126, 1), (9, 125, 127, 1), (9, 108, 128, 2), (9, 100, 129, 4), (9, 171, 130, 2), (9, 213, 131, 1), (9, 180, 108, 0), (9, 183, 132, 1), (9, 186, 133, 2), (9, 189, 134, 2), (9, 177, 135, 3), (9, 192, 136, 1), (9, 195, 137, 2), (10, 49, 138, 0), (10, 53, 139, 0), (9, 220, 140, 0), (9, 223, 141, 5), (9, 216, 142, 6), (9, 227, 143, 1), (9, 155, 144, 2), (9, 162, 145, 2), (9, 230, 146, 1), (10, 57, 147, 0), (9, 239, 148, 1), (9, 242, 149, 2), (9, 233, 150, 2), (10, 69, 151, 0), (10, 74, 152, 1), (9, 245, 153, 1), (10, 79, 154, 3), (10, 83, 155, 1), (10, 88, 156, 2), (10, 92, 157, 2), (10, 96, 158, 0), (10, 101, 159, 0)]
def xcalN : List (Nat × Nat × Nat × Nat) := [(8, 11, 1, 0), (5, 11, 2, 0), (8, 27, 4, 0), (8, 34, 5, 0), (0, 9, 6, 1), (8, 55, 7, 0), (8, 41, 8, 0), (4, 9, 6, 1), (8, 48, 9, 0), (7, 9, 6, 1), (7, 21, 7, 0), (6, 70, 11, 1), (6, 147, 49, 2), (0, 26, 49, 2), (4, 49, 49, 2), (2, 80, 11, 1), (7, 61, 49, 2)]
def xcalT : List (Nat × Nat × Nat × Nat) := xcalL ++ xcalN
def xnatT : List (Nat × Nat × Nat) := [(8, 3, 0), (5, 3, 0), (3, 3, 0), (2, 3, 0), (6, 3, 0), (0, 3, 0), (1, 3, 0), (4, 3, 0), (7, 3, 0), (1, 39, 7), (9, 1, 0)]
def xnwcT : List (Nat × Nat × Nat) := [(10, 7, 8), (8, 9, 5), (5, 9, 3), (8, 16, 2), (8, 25, 6), (8, 32, 0), (8, 53, 1), (8, 39, 4), (8, 46, 7), (7, 19, 1), (10, 18, 9)]
def xanwT : List (Nat × Nat × Nat) := [(5, 9, 1), (8, 53, 0), (7, 19, 0)]
def xcstT : List (Nat × Nat × Value) := [(2, 19, .long (25214903917)), (2, 21, .long (281474976710655)), (2, 44, .long (11)), (6, 29, .long (8589934592)), (6, 42, .long (4294967296)), (6, 97, .long (4294967298)), (6, 102, .long (4294967297)), (6, 48, .long (4294967299)), (6, 145, .long (549755813888)), (13, 265, .int (1431655765)), (13, 266, .int (858993459)), (13, 267, .int (252645135)), (8, 190, .long (-1)), (8, 196, .long (4294967300)), (9, 60, .long (25214903917)), (9, 62, .long (281474976710655)), (9, 143, .long (11)), (9, 116, .long (-1)), (9, 114, .long (4294967296)), (9, 104, .long (4294967298)), (9, 106, .long (4294967297)), (9, 112, .long (4294967299)), (9, 133, .long (8589934592)), (9, 135, .long (549755813888)), (9, 248, .long (4294967300))]
def xfind {α : Type} (T : List (Nat × Nat × α)) (c i : Nat) : Option α := (T.find? (fun q => q.1 == c && q.2.1 == i)).map (fun q => q.2.2)
def xfld (c i : Nat) : Option (Nat × Nat) := xfind xfldT c i
def xcal (c i : Nat) : Option (Nat × Nat) := xfind xcalT c i
def xnat (c i : Nat) : Option (Nat) := xfind xnatT c i
def xnwc (c i : Nat) : Option (Nat) := xfind xnwcT c i
def xanw (c i : Nat) : Option (Nat) := xfind xanwT c i
def xcst (c i : Nat) : Option (Value) := xfind xcstT c i
def xpok (k ci j : Nat) : Bool := match xcls[ci]? with
  | some (_, T, _) => !(T j).2.2.2 || ((xyn k).name == "<init>" && xkc k == ci)
  | none => false
def xnest : List Cond := lw_tbl.filter (fun w => match w with
  | .methodLinkNest _ _ _ _ => true
  | _ => false)
def xgood : List Cond := lw_tbl.filter goodWord
end
section
/-! The small machine in which this claim is walked: a memory of three tables (ints, longs, references), locals by their places, the method's number. -/
abbrev XH : Type := Nat × Nat × (Nat → Nat × Nat) × (Nat → Nat → Int32) × (Nat → Nat → Int64) × (Nat → Nat → Option Nat)
abbrev XL : Type := List (Option Value)
abbrev XS : Type := Nat × (Nat → Int32)
def xhz (h : XH) : Nat := h.1
def xhs (h : XH) : Nat := h.2.1
def xhk (h : XH) : Nat → Nat × Nat := h.2.2.1
def xhI (h : XH) : Nat → Nat → Int32 := h.2.2.2.1
def xhJ (h : XH) : Nat → Nat → Int64 := h.2.2.2.2.1
def xhR (h : XH) : Nat → Nat → Option Nat := h.2.2.2.2.2
def xu {α : Type} (f : Nat → Nat → α) (a i : Nat) (v : α) : Nat → Nat → α := fun x y => if x = a ∧ y = i then v else f x y
def xrow {α : Type} (f : Nat → Nat → α) (a : Nat) (g : Nat → α) : Nat → Nat → α := fun x y => if x = a then g y else f x y
def xsI (h : XH) (f : Nat → Nat → Int32) : XH := (xhz h, xhs h, xhk h, f, xhJ h, xhR h)
def xsJ (h : XH) (f : Nat → Nat → Int64) : XH := (xhz h, xhs h, xhk h, xhI h, f, xhR h)
def xsR (h : XH) (f : Nat → Nat → Option Nat) : XH := (xhz h, xhs h, xhk h, xhI h, xhJ h, f)
def xnew (h : XH) (t n : Nat) : XH := (xhz h + 1, xhs h + n, (fun x => if x = xhz h then (t, n) else xhk h x), xrow (xhI h) (xhz h) (fun _ => 0), xrow (xhJ h) (xhz h) (fun _ => 0), xrow (xhR h) (xhz h) (fun _ => none))
-- locals
def xcat2 : Option Value → Bool
  | some v => v.category == 2
  | none => false
def xst1 : XL → Nat → Value → XL
  | [], _, _ => []
  | _ :: L, 0, v => some v :: L
  | x :: L, 1, v => (if xcat2 x then none else x) :: xst1 L 0 v
  | x :: L, i + 2, v => x :: xst1 L (i + 1) v
def xst2 : XL → Nat → Value → XL
  | _ :: _ :: L, 0, v => some v :: none :: L
  | x :: L, 1, v => (if xcat2 x then none else x) :: xst2 L 0 v
  | x :: L, i + 2, v => x :: xst2 L (i + 1) v
  | L, _, _ => L
def xld (L : XL) (i : Nat) : Option Value := (L[i]?).bind id
def xent : List Value → Nat → XL
  | _, 0 => []
  | [], n + 1 => none :: xent [] n
  | v :: vs, n + 1 => if v.category = 2 then (match n with | 0 => [none] | n + 1 => some v :: none :: xent vs n) else some v :: xent vs n
def xwid (vs : List Value) : Nat := (vs.map fun v => v.category).sum
-- fields
def xfv (ty : FieldType) (I : Nat → Int32) (J : Nat → Int64) (R : Nat → Option Nat) (j : Nat) : Value := match ty with
  | .long => .long (J j)
  | .object _ => va_rf (R j)
  | .array _ => va_rf (R j)
  | _ => .int (I j)
def xfp (ty : FieldType) (h : XH) (a j : Nat) (v : Value) : Option XH := match ty with
  | .int => (match v with | .int x => some (xsI h (xu (xhI h) a j x)) | _ => none)
  | .boolean => (match v with | .int x => if x = 0 ∨ x = 1 then some (xsI h (xu (xhI h) a j x)) else none | _ => none)
  | .long => (match v with | .long x => some (xsJ h (xu (xhJ h) a j x)) | _ => none)
  | .object _ => (match v with | .ref r => some (xsR h (xu (xhR h) a j (some r))) | .null => some (xsR h (xu (xhR h) a j none)) | _ => none)
  | .array _ => (match v with | .ref r => some (xsR h (xu (xhR h) a j (some r))) | .null => some (xsR h (xu (xhR h) a j none)) | _ => none)
  | _ => none
-- instructions on the stack alone
def xi1 (f : Int32 → Int32) : List Value → Option (List Value)
  | .int x :: r => some (.int (f x) :: r)
  | _ => none
def xi2 (f : Int32 → Int32 → Int32) : List Value → Option (List Value)
  | .int y :: .int x :: r => some (.int (f x y) :: r)
  | _ => none
def xi2z (f : Int32 → Int32 → Int32) : List Value → Option (List Value)
  | .int y :: .int x :: r => if y = 0 then none else some (.int (f x y) :: r)
  | _ => none
def xj1 (f : Int64 → Int64) : List Value → Option (List Value)
  | .long x :: r => some (.long (f x) :: r)
  | _ => none
def xj2 (f : Int64 → Int64 → Int64) : List Value → Option (List Value)
  | .long y :: .long x :: r => some (.long (f x y) :: r)
  | _ => none
def xj2z (f : Int64 → Int64 → Int64) : List Value → Option (List Value)
  | .long y :: .long x :: r => if y = 0 then none else some (.long (f x y) :: r)
  | _ => none
def xji (f : Int64 → Int32 → Int64) : List Value → Option (List Value)
  | .int y :: .long x :: r => some (.long (f x y) :: r)
  | _ => none
def xi2l : List Value → Option (List Value)
  | .int x :: r => some (.long x.toInt64 :: r)
  | _ => none
def xl2i : List Value → Option (List Value)
  | .long x :: r => some (.int x.toInt32 :: r)
  | _ => none
def xlcmp : List Value → Option (List Value)
  | .long y :: .long x :: r => some (.int (lg_cmp x y) :: r)
  | _ => none
def xdup : List Value → Option (List Value)
  | v :: r => if v.category = 1 then some (v :: v :: r) else none
  | _ => none
def xpop : List Value → Option (List Value)
  | v :: r => if v.category = 1 then some r else none
  | _ => none
def xpop2 : List Value → Option (List Value)
  | v :: r => if v.category = 2 then some r else (match r with | w :: r => if w.category = 1 then some r else none | _ => none)
  | _ => none
def xdupx1 : List Value → Option (List Value)
  | v :: w :: r => if v.category = 1 ∧ w.category = 1 then some (v :: w :: v :: r) else none
  | _ => none
def xdupx2 : List Value → Option (List Value)
  | v :: w :: u :: r => if v.category = 1 ∧ w.category = 1 ∧ u.category = 1 then some (v :: w :: u :: v :: r) else none
  | _ => none
def xdup2 : List Value → Option (List Value)
  | v :: r => if v.category = 2 then some (v :: v :: r) else (match r with | w :: r => if w.category = 1 then some (v :: w :: v :: w :: r) else none | _ => none)
  | _ => none
def xdup2x1 : List Value → Option (List Value)
  | v :: w :: r => if v.category = 2 ∧ w.category = 1 then some (v :: w :: v :: r) else none
  | _ => none
def xdup2x2 : List Value → Option (List Value)
  | v :: w :: u :: r => if v.category = 2 ∧ w.category = 1 ∧ u.category = 1 then some (v :: w :: u :: v :: r) else none
  | _ => none
def xop (i : Instr) (st : List Value) : Option (List Value) := match i with
  | .iconst n => some (.int (Int32.ofInt n) :: st)
  | .bipush n => some (.int (Int8.ofInt n).toInt32 :: st)
  | .sipush n => some (.int (Int16.ofInt n).toInt32 :: st)
  | .lconst n => some (.long (Int64.ofNat n) :: st)
  | .aconst_null => some (.null :: st)
  | .iadd => xi2 (fun x y => x + y) st
  | .isub => xi2 (fun x y => x - y) st
  | .imul => xi2 (fun x y => x * y) st
  | .iand => xi2 (fun x y => x &&& y) st
  | .ior => xi2 (fun x y => x ||| y) st
  | .ixor => xi2 (fun x y => x ^^^ y) st
  | .ishl => xi2 (fun x y => x <<< (y &&& 31)) st
  | .ishr => xi2 (fun x y => x >>> (y &&& 31)) st
  | .iushr => xi2 (fun x y => (x.toUInt32 >>> (y.toUInt32 &&& Int32.toUInt32 31)).toInt32) st
  | .idiv => xi2z (fun x y => x / y) st
  | .irem => xi2z (fun x y => x - x / y * y) st
  | .ineg => xi1 (fun x => -x) st
  | .ladd => xj2 (fun x y => x + y) st
  | .lsub => xj2 (fun x y => x - y) st
  | .lmul => xj2 (fun x y => x * y) st
  | .land => xj2 (fun x y => x &&& y) st
  | .lor => xj2 (fun x y => x ||| y) st
  | .lxor => xj2 (fun x y => x ^^^ y) st
  | .ldiv => xj2z (fun x y => x / y) st
  | .lrem => xj2z (fun x y => x - x / y * y) st
  | .lneg => xj1 (fun x => -x) st
  | .lshl => xji (fun x y => x <<< (y.toInt64 &&& 63)) st
  | .lshr => xji (fun x y => x >>> (y.toInt64 &&& 63)) st
  | .lushr => xji (fun x y => (x.toUInt64 >>> (y.toInt64.toUInt64 &&& Int64.toUInt64 63)).toInt64) st
  | .i2l => xi2l st
  | .l2i => xl2i st
  | .lcmp => xlcmp st
  | .dup => xdup st
  | .pop => xpop st
  | .pop2 => xpop2 st
  | .dup_x1 => xdupx1 st
  | .dup_x2 => xdupx2 st
  | .dup2 => xdup2 st
  | .dup2_x1 => xdup2x1 st
  | .dup2_x2 => xdup2x2 st
  | _ => none
end
section
-- jumps
def xtg (pc : Nat) (off : Int) : Option Nat := if 0 ≤ (pc : Int) + off then some ((pc : Int) + off).toNat else none
def xcnd (c : ClassFile.Cond) (x y : Int32) : Bool := match c with
  | .eq => decide (x = y)
  | .ne => decide (¬ x = y)
  | .lt => decide (x < y)
  | .ge => decide (y ≤ x)
  | .gt => decide (y < x)
  | .le => decide (x ≤ y)
def xrf : Value → Option (Option Nat)
  | .null => some none
  | .ref a => some (some a)
  | _ => none
def xjc (b : Bool) (pc : Nat) (off : Int) (r : List Value) : Option (Nat × List Value) := match xtg pc off with
  | none => none
  | some t => if b = true then some (t, r) else some (pc + 3, r)
def xjif (c : ClassFile.Cond) (pc : Nat) (off : Int) : List Value → Option (Nat × List Value)
  | .int x :: r => xjc (xcnd c x 0) pc off r
  | _ => none
def xjcmp (c : ClassFile.Cond) (pc : Nat) (off : Int) : List Value → Option (Nat × List Value)
  | .int y :: .int x :: r => xjc (xcnd c x y) pc off r
  | _ => none
def xjnull (b : Bool) (pc : Nat) (off : Int) : List Value → Option (Nat × List Value)
  | .null :: r => xjc b pc off r
  | .ref _ :: r => xjc (!b) pc off r
  | _ => none
def xjacmp (b : Bool) (pc : Nat) (off : Int) : List Value → Option (Nat × List Value)
  | y :: x :: r => (match xrf x, xrf y with
    | some rx, some ry => xjc (decide (rx = ry) == b) pc off r
    | _, _ => none)
  | _ => none
def xjtab (d lo hi : Int) (offs : Array Int) (pc : Nat) : List Value → Option (Nat × List Value)
  | .int x :: r => if x.toInt < lo ∨ hi < x.toInt then (xtg pc d).map (fun t => (t, r)) else (match offs[(x.toInt - lo).toNat]? with
    | some off => (xtg pc off).map (fun t => (t, r))
    | none => none)
  | _ => none
def xjlook (d : Int) (ps : Array (Int × Int)) (pc : Nat) : List Value → Option (Nat × List Value)
  | .int x :: r => if (ps.toList.zip (ps.toList.drop 1)).all (fun (a, next) => a.1 < next.1) = true then (xtg pc (Op.lookupswitch.offset ps.toList d x.toInt)).map (fun t => (t, r)) else none
  | _ => none
def xjmp (i : Instr) (len pc : Nat) (st : List Value) : Option (Nat × List Value) := match i with
  | .goto off => if len = 3 then (xtg pc off).map (fun t => (t, st)) else none
  | .ifCond c off => if len = 3 then xjif c pc off st else none
  | .if_icmp c off => if len = 3 then xjcmp c pc off st else none
  | .ifnull off => if len = 3 then xjnull true pc off st else none
  | .ifnonnull off => if len = 3 then xjnull false pc off st else none
  | .if_acmp c off => if len = 3 then xjacmp (match c with | .eq => true | .ne => false) pc off st else none
  | .tableswitch d lo hi offs => xjtab d lo hi offs pc st
  | .lookupswitch d ps => xjlook d ps pc st
  | _ => none
-- locals
def xlI (L : XL) (i : Nat) (st : List Value) : Option (XL × List Value) := match xld L i with
  | some (.int x) => some (L, .int x :: st)
  | _ => none
def xlJ (L : XL) (i : Nat) (st : List Value) : Option (XL × List Value) := match xld L i with
  | some (.long x) => some (L, .long x :: st)
  | _ => none
def xlA (L : XL) (i : Nat) (st : List Value) : Option (XL × List Value) := match xld L i with
  | some (.ref x) => some (L, .ref x :: st)
  | some .null => some (L, .null :: st)
  | _ => none
def xsI1 (L : XL) (i : Nat) : List Value → Option (XL × List Value)
  | .int x :: r => if i < L.length then some (xst1 L i (.int x), r) else none
  | _ => none
def xsJ1 (L : XL) (i : Nat) : List Value → Option (XL × List Value)
  | .long x :: r => if i + 1 < L.length then some (xst2 L i (.long x), r) else none
  | _ => none
def xsA1 (L : XL) (i : Nat) : List Value → Option (XL × List Value)
  | .ref x :: r => if i < L.length then some (xst1 L i (.ref x), r) else none
  | .null :: r => if i < L.length then some (xst1 L i .null, r) else none
  | _ => none
def xinc (L : XL) (i : Nat) (n : Int) (st : List Value) : Option (XL × List Value) := match xld L i with
  | some (.int x) => if i < L.length then some (xst1 L i (.int (x + Int32.ofInt n)), st) else none
  | _ => none
def xloc (i : Instr) (L : XL) (st : List Value) : Option (XL × List Value) := match i with
  | .iload i => xlI L i st
  | .iload_n i => xlI L i st
  | .lload i => xlJ L i st
  | .lload_n i => xlJ L i st
  | .aload i => xlA L i st
  | .aload_n i => xlA L i st
  | .istore i => xsI1 L i st
  | .istore_n i => xsI1 L i st
  | .lstore i => xsJ1 L i st
  | .lstore_n i => xsJ1 L i st
  | .astore i => xsA1 L i st
  | .astore_n i => xsA1 L i st
  | .iinc i n => xinc L i n st
  | _ => none
def xlen : Instr → Nat
  | .bipush _ => 2
  | .sipush _ => 3
  | .iload _ => 2
  | .lload _ => 2
  | .aload _ => 2
  | .istore _ => 2
  | .lstore _ => 2
  | .astore _ => 2
  | .iinc _ _ => 3
  | .ldc _ => 2
  | .ldc_w _ => 3
  | .ldc2_w _ => 3
  | .getfield _ => 3
  | .putfield _ => 3
  | .new _ => 3
  | .newarray _ => 2
  | .anewarray _ => 3
  | .invokespecial _ => 3
  | .invokestatic _ => 3
  | .invokevirtual _ => 3
  | .checkcast _ => 3
  | _ => 1
end
section
-- memory
def xkd (h : XH) (a : Nat) : Nat × Nat := if 1 ≤ a ∧ a < xhz h then xhk h a else (999, 0)
def xgetf (k idx : Nat) (h : XH) : List Value → Option (List Value × XH)
  | .ref a :: r => (match xfld (xkc k) idx with
    | some (ci, j) => if xkd h a = (ci, xnf ci) then some (xfv (xft ci j) (xhI h a) (xhJ h a) (xhR h a) j :: r, h) else none
    | none => none)
  | _ => none
def xputf (k idx : Nat) (h : XH) : List Value → Option (List Value × XH)
  | v :: .ref a :: r => (match xfld (xkc k) idx with
    | some (ci, j) => if xkd h a = (ci, xnf ci) ∧ xpok k ci j = true then (xfp (xft ci j) h a j v).map (fun h' => (r, h')) else none
    | none => none)
  | _ => none
def xin (i : Int32) (n : Nat) : Prop := ¬ (i < 0 ∨ n ≤ i.toNatClampNeg)
def xinb (i : Int32) (n : Nat) : Bool := decide (¬ (i < 0 ∨ n ≤ i.toNatClampNeg))
def xiald (S : XS) (h : XH) : List Value → Option (List Value × XH)
  | .int i :: .ref a :: r => if a = 0 then (if xinb i S.1 = true then some (.int (S.2 i.toNatClampNeg) :: r, h) else none)
    else if (xkd h a).1 = 100 ∧ xinb i (xkd h a).2 = true then some (.int (xhI h a i.toNatClampNeg) :: r, h) else none
  | _ => none
def xjald (h : XH) : List Value → Option (List Value × XH)
  | .int i :: .ref a :: r => if (xkd h a).1 = 101 ∧ xinb i (xkd h a).2 = true then some (.long (xhJ h a i.toNatClampNeg) :: r, h) else none
  | _ => none
def xzald (h : XH) : List Value → Option (List Value × XH)
  | .int i :: .ref a :: r => if (xkd h a).1 = 102 ∧ xinb i (xkd h a).2 = true then some (.int (xhI h a i.toNatClampNeg) :: r, h) else none
  | _ => none
def xaald (h : XH) : List Value → Option (List Value × XH)
  | .int i :: .ref a :: r => if 103 ≤ (xkd h a).1 ∧ (xkd h a).1 < 103 + xnq ∧ xinb i (xkd h a).2 = true then some (va_rf (xhR h a i.toNatClampNeg) :: r, h) else none
  | _ => none
def xiast (h : XH) : List Value → Option (List Value × XH)
  | .int x :: .int i :: .ref a :: r => if (xkd h a).1 = 100 ∧ xinb i (xkd h a).2 = true then some (r, xsI h (xu (xhI h) a i.toNatClampNeg x)) else none
  | _ => none
def xjast (h : XH) : List Value → Option (List Value × XH)
  | .long x :: .int i :: .ref a :: r => if (xkd h a).1 = 101 ∧ xinb i (xkd h a).2 = true then some (r, xsJ h (xu (xhJ h) a i.toNatClampNeg x)) else none
  | _ => none
def xzast (h : XH) : List Value → Option (List Value × XH)
  | .int x :: .int i :: .ref a :: r => if (xkd h a).1 = 102 ∧ xinb i (xkd h a).2 = true ∧ (x = 0 ∨ x = 1) then some (r, xsI h (xu (xhI h) a i.toNatClampNeg x)) else none
  | _ => none
def xaast (h : XH) : List Value → Option (List Value × XH)
  | .ref v :: .int i :: .ref a :: r => if 103 ≤ (xkd h a).1 ∧ (xkd h a).1 < 103 + xnq ∧ xinb i (xkd h a).2 = true ∧ xkd h v = (xqc ((xkd h a).1 - 103), xnf (xqc ((xkd h a).1 - 103))) then some (r, xsR h (xu (xhR h) a i.toNatClampNeg (some v))) else none
  | .null :: .int i :: .ref a :: r => if 103 ≤ (xkd h a).1 ∧ (xkd h a).1 < 103 + xnq ∧ xinb i (xkd h a).2 = true then some (r, xsR h (xu (xhR h) a i.toNatClampNeg none)) else none
  | _ => none
def xalen (S : XS) (h : XH) : List Value → Option (List Value × XH)
  | .ref a :: r => if a = 0 then some (.int (Int32.ofNat S.1) :: r, h) else if 100 ≤ (xkd h a).1 ∧ (xkd h a).1 < 103 + xnq then some (.int (Int32.ofNat (xkd h a).2) :: r, h) else none
  | _ => none
def xnwa (t : Nat) (h : XH) : List Value → Option (List Value × XH)
  | .int n :: r => if ¬ n < 0 ∧ n.toNatClampNeg ≤ 1000000 then some (.ref (xhz h) :: r, xnew h (100 + t) n.toNatClampNeg) else none
  | _ => none
def xnwo (ci : Nat) (h : XH) (st : List Value) : Option (List Value × XH) := some (.ref (xhz h) :: st, xnew h ci (xnf ci))
def xldc (k idx : Nat) (h : XH) (st : List Value) : Option (List Value × XH) := (xcst (xkc k) idx).bind (fun v => match v with
  | .int x => some (.int x :: st, h)
  | _ => none)
def xldc2 (k idx : Nat) (h : XH) (st : List Value) : Option (List Value × XH) := (xcst (xkc k) idx).bind (fun v => match v with
  | .long x => some (.long x :: st, h)
  | _ => none)
def xmem (S : XS) (k : Nat) (i : Instr) (st : List Value) (h : XH) : Option (List Value × XH) := match i with
  | .getfield idx => xgetf k idx h st
  | .putfield idx => xputf k idx h st
  | .iaload => xiald S h st
  | .laload => xjald h st
  | .baload => xzald h st
  | .aaload => xaald h st
  | .iastore => xiast h st
  | .lastore => xjast h st
  | .bastore => xzast h st
  | .aastore => xaast h st
  | .arraylength => xalen S h st
  | .newarray t => (match t with
    | .int => xnwa 0 h st
    | .long => xnwa 1 h st
    | .boolean => xnwa 2 h st
    | _ => none)
  | .anewarray idx => (xanw (xkc k) idx).bind (fun t => xnwa (3 + t) h st)
  | .new idx => (xnwc (xkc k) idx).bind (fun ci => xnwo ci h st)
  | .ldc idx => xldc k idx h st
  | .ldc_w idx => xldc k idx h st
  | .ldc2_w idx => xldc2 k idx h st
  | _ => none
-- members of the JDK that are done at once
def xcpy (h : XH) : List Value → Option (List Value × XH)
  | .int n :: .int dp :: .ref a :: .int sp :: .ref a0 :: r => if xwid r ≤ 8 ∧ ¬ sp < 0 ∧ ¬ dp < 0 ∧ ¬ n < 0 ∧ sp.toNatClampNeg + n.toNatClampNeg ≤ (xkd h a0).2 ∧ dp.toNatClampNeg + n.toNatClampNeg ≤ (xkd h a).2 then
      (if (xkd h a0).1 = 100 ∧ (xkd h a).1 = 100 then some (r, xsI h (xrow (xhI h) a (va_cpy (xhI h a0) (xhI h a) sp.toNatClampNeg dp.toNatClampNeg n.toNatClampNeg)))
      else if (xkd h a0).1 = 101 ∧ (xkd h a).1 = 101 then some (r, xsJ h (xrow (xhJ h) a (va_cpy (xhJ h a0) (xhJ h a) sp.toNatClampNeg dp.toNatClampNeg n.toNatClampNeg)))
      else none) else none
  | _ => none
def xn0 : List Value → Option (List Value)
  | .ref _ :: r => if xwid r ≤ 8 then some r else none
  | _ => none
def xnatS (t : Nat) (h : XH) (st : List Value) : Option (List Value × XH) := if t = 7 then xcpy h st else none
def xnatv (d k : Nat) (i : Instr) (st : List Value) (h : XH) : Option (List Value × XH) := if d = 0 then none else match i with
  | .invokespecial idx => if xnat (xkc k) idx = some 0 then (xn0 st).map (fun r => (r, h)) else none
  | .invokestatic idx => (xnat (xkc k) idx).bind (fun t => xnatS t h st)
  | _ => none
def x1 (S : XS) (d k : Nat) (i : Instr) (len pc : Nat) (L : XL) (st : List Value) (h : XH) : Option (Nat × XL × List Value × XH) := match xjmp i len pc st with
  | some q => some (q.1, L, q.2, h)
  | none => if len = xlen i then (match xop i st with
    | some st' => some (pc + len, L, st', h)
    | none => match xloc i L st with
      | some q => some (pc + len, q.1, q.2, h)
      | none => match xmem S k i st h with
        | some q => some (pc + len, L, q.1, q.2)
        | none => match xnatv d k i st h with
          | some q => some (pc + len, L, q.1, q.2)
          | none => none) else none
def xret (k : Nat) (i : Instr) (len : Nat) (st : List Value) : Option (Option Value) := if len = 1 then (match i with
  | .return_ => if xrty k = none ∧ st = [] then some none else none
  | .ireturn => (match st with
    | [.int x] => if xrty k = some .int ∨ (xrty k = some .boolean ∧ (x = 0 ∨ x = 1)) then some (some (.int x)) else none
    | _ => none)
  | .lreturn => (match st with
    | [.long x] => if xrty k = some .long then some (some (.long x)) else none
    | _ => none)
  | .areturn => (match st with
    | [.ref x] => if xrob k = true then some (some (.ref x)) else none
    | [.null] => if xrob k = true then some (some .null) else none
    | _ => none)
  | _ => none) else none
def xcall (k : Nat) (i : Instr) (len : Nat) (st : List Value) (h : XH) : Option (Nat × List Value × List Value) := if len = 3 then (match i with
  | .invokestatic idx => (match xcal (xkc k) idx with
    | some (y, n) => if xmk y = 0 ∧ n ≤ st.length ∧ xwid (st.drop n) ≤ 8 ∧ xwid (st.take n).reverse ≤ xml y then some (y, (st.take n).reverse, st.drop n) else none
    | none => none)
  | .invokevirtual idx => (match xcal (xkc k) idx with
    | some (y, n) => (match st.drop n with
      | .ref a :: r => if xmk y = 1 ∧ xwid r ≤ 8 ∧ xkd h a = (xkc y, xnf (xkc y)) ∧ n ≤ st.length ∧ xwid (.ref a :: (st.take n).reverse) ≤ xml y then some (y, .ref a :: (st.take n).reverse, r) else none
      | _ => none)
    | none => none)
  | .invokespecial idx => (match xcal (xkc k) idx with
    | some (y, n) => (match st.drop n with
      | .ref a :: r => if xmk y = 2 ∧ xwid r ≤ 8 ∧ n ≤ st.length ∧ xwid (.ref a :: (st.take n).reverse) ≤ xml y then some (y, .ref a :: (st.take n).reverse, r) else none
      | _ => none)
    | none => none)
  | _ => none) else none
def xrun (S : XS) : Nat → Nat → Nat → Nat → XL → List Value → XH → Option (Option Value × XH)
  | 0, _, _, _, _, _, _ => none
  | n + 1, d, k, pc, L, st, h => match decode (xcode k) pc with
    | .error _ => none
    | .ok (i, len) => match xret k i len st with
      | some r => some (r, h)
      | none => match xcall k i len st h with
        | some (y, as, r) => if d = 0 then none else (match xrun S n (d - 1) y 0 (xent as (xml y)) [] h with
          | none => none
          | some (v, h') => xrun S n d k (pc + 3) L (v.toList ++ r) h')
        | none => match x1 S d k i len pc L st h with
          | none => none
          | some (pc', L', st', h') => xrun S n d k pc' L' st' h'
theorem xnatv_mono {d d' k : Nat} {i : Instr} {st : List Value} {h : XH} {q : List Value × XH} (hd : d ≤ d') (e : xnatv d k i st h = some q) : xnatv d' k i st h = some q := by
  unfold xnatv at e ⊢
  split at e
  · cases e
  · rw [if_neg (by omega)]
    exact e
theorem x1_mono {S : XS} {d d' k len pc : Nat} {i : Instr} {L : XL} {st : List Value} {h : XH} {q : Nat × XL × List Value × XH} (hd : d ≤ d') (e : x1 S d k i len pc L st h = some q) : x1 S d' k i len pc L st h = some q := by
  unfold x1 at e ⊢
  split at e
  · exact e
  · split at e
    · rename_i hl
      rw [if_pos hl]
      split at e
      · exact e
      · split at e
        · exact e
        · split at e
          · exact e
          · split at e
            · rename_i q' hq'
              rw [xnatv_mono hd hq']
              exact e
            · cases e
    · cases e
theorem xrun_mono {S : XS} : ∀ (n d k pc : Nat) (L : XL) (st : List Value) (h : XH) (q : Option Value × XH), xrun S n d k pc L st h = some q → ∀ n' d', n ≤ n' → d ≤ d' → xrun S n' d' k pc L st h = some q := by
  intro n
  induction n with
  | zero => intro d k pc L st h q e; cases e
  | succ n ih =>
    intro d k pc L st h q e n' d' hn hd
    obtain ⟨n'', rfl⟩ : ∃ n'', n' = n'' + 1 := ⟨n' - 1, by omega⟩
    simp only [xrun] at e ⊢
    split at e
    · cases e
    · split at e
      · exact e
      · split at e
        · split at e
          · cases e
          · rename_i hz
            rw [if_neg (by omega)]
            split at e
            · cases e
            · rename_i v h' hc
              rw [ih _ _ _ _ _ _ _ hc n'' (d' - 1) (by omega) (by omega)]
              exact ih _ _ _ _ _ _ _ e n'' d' (by omega) hd
        · split at e
          · cases e
          · rename_i pc' L' st' h' hc
            rw [x1_mono hd hc]
            exact ih _ _ _ _ _ _ _ e n'' d' (by omega) hd
end
section
/-! Written by a program (wip/gen/mk15.py): the small tables are the claim's. -/
theorem xpl_in {ws : List Cond} {ps : List Nat} {big : List Cond} (e : ws = ps.filterMap (fun i => big[i]?)) {w : Cond} (h : w ∈ ws) : w ∈ big := by
  rw [e] at h
  obtain ⟨i, -, hi⟩ := List.mem_filterMap.mp h
  exact List.mem_of_getElem? hi
theorem xgood_of {w : Cond} (h : w ∈ lw_tbl) (hg : goodWord w = true) : w ∈ xgood := List.mem_filter.mpr ⟨h, hg⟩
theorem xgood_t {w : Cond} (h : w ∈ tables_1) (hg : goodWord w = true) : w ∈ xgood := xgood_of (List.mem_append_right _ h) hg
theorem xfind_mem {α : Type} {T : List (Nat × Nat × α)} {c i : Nat} {v : α} (h : xfind T c i = some v) : (c, i, v) ∈ T := by
  unfold xfind at h
  cases hf : T.find? (fun q => q.1 == c && q.2.1 == i) with
  | none => rw [hf] at h; cases h
  | some q =>
    rw [hf] at h
    have h1 := List.find?_some hf
    have h2 := List.mem_of_find?_eq_some hf
    simp only [Bool.and_eq_true, beq_iff_eq] at h1
    obtain ⟨q1, q2, q3⟩ := q
    cases h
    obtain ⟨rfl, rfl⟩ := h1
    exact h2
def xTT (ci : Nat) : u_T := (xcls.getD ci ("", xT0, 0)).2.1
def xkCl_p : List Nat := [187, 189, 168, 170, 172, 174, 176, 178, 180, 102, 104, 106, 56, 58, 60, 62, 64, 66, 68, 203, 205, 80, 82, 84, 86, 119, 121, 123, 222, 224, 226, 238, 240, 242, 244, 246, 248, 250, 252, 254, 658, 660, 662, 664, 666, 668, 670, 672, 674, 676, 678, 680, 682, 684, 686, 688, 690, 692, 694, 696, 698, 700]
set_option maxRecDepth 100000 in
set_option maxHeartbeats 4000000 in
theorem xkCl_e : (List.range 10).flatMap (fun ci => u_ws (xcn ci) (xTT ci) (xnf ci)) = xkCl_p.filterMap (fun i => tables_1[i]?) := by rfl
def xkIs_p : List Nat := [128, 138, 91, 31, 193, 24, 110, 209, 16, 629]
set_option maxRecDepth 100000 in
set_option maxHeartbeats 4000000 in
theorem xkIs_e : (List.range 10).map (fun ci => Cond.instantiable (xcn ci) (xnf ci)) = xkIs_p.filterMap (fun i => tables_1[i]?) := by rfl
def xkIn_p : List Nat := [6, 7, 4, 3, 8, 2, 5, 9, 1, 10, 0, 11, 12, 14]
set_option maxRecDepth 100000 in
set_option maxHeartbeats 4000000 in
theorem xkIn_e : (List.range 14).map (fun ci => Cond.initialized (xcn ci)) = xkIn_p.filterMap (fun i => tables_1[i]?) := by rfl
def xkFl_p : List Nat := [36, 37, 38, 39, 40, 41, 42, 43, 44, 45, 46, 47, 48, 49, 50, 51, 52, 53, 54, 55, 72, 73, 74, 75, 76, 77, 78, 79, 98, 99, 100, 101, 115, 116, 117, 118, 143, 144, 145, 146, 147, 148, 149, 150, 151, 152, 153, 154, 155, 156, 157, 158, 159, 160, 161, 162, 163, 164, 165, 166, 167, 183, 184, 185, 186, 199, 200, 201, 202, 217, 218, 219, 220, 221, 229, 230, 231, 232, 233, 234, 235, 236, 237, 636, 637, 638, 639, 640, 641, 642, 643, 644, 645, 646, 647, 648, 649, 650, 651, 652, 653, 654, 655, 656, 657]
set_option maxRecDepth 100000 in
set_option maxHeartbeats 4000000 in
theorem xkFl_e : xfldT.map (fun q => Cond.fieldLink (xcn q.1) q.2.1 (xTT q.2.2.1 q.2.2.2).1 (xTT q.2.2.1 q.2.2.2).2.1 (xTT q.2.2.1 q.2.2.2).2.2.1) = xkFl_p.filterMap (fun i => tables_1[i]?) := by rfl
def xkCo_p : List Nat := [19, 27, 34, 94, 113, 131, 135, 141, 196, 212, 260, 263, 267, 270, 273, 276, 280, 284, 288, 292, 296, 301, 305, 309, 312, 315, 320, 324, 328, 332, 337, 341, 345, 349, 353, 356, 360, 365, 369, 373, 377, 383, 386, 391, 394, 397, 403, 407, 411, 414, 418, 423, 428, 432, 439, 443, 447, 452, 456, 459, 463, 466, 470, 473, 479, 483, 487, 492, 495, 500, 505, 509, 515, 521, 525, 529, 533, 537, 544, 548, 552, 556, 560, 565, 573, 577, 581, 585, 589, 593, 597, 601, 606, 610, 615, 620, 624, 627, 632, 706, 709, 713, 717, 721, 725, 729, 733, 737, 741, 746, 750, 754, 758, 762, 766, 770, 774, 778, 782, 787, 791, 795, 799, 803, 807, 812, 817, 821, 827, 831, 836, 840, 845, 851, 855, 859, 863, 867, 871, 875, 879, 883, 887, 891, 895, 899, 902, 906, 910, 914, 918, 922, 926, 930, 934, 938, 942, 946, 951, 955]
set_option maxRecDepth 100000 in
set_option maxHeartbeats 4000000 in
theorem xkCo_e : (List.range 160).map (fun k => Cond.code (xyn k) (xcode k) (xml k) (xrty k)) = xkCo_p.filterMap (fun i => tables_1[i]?) := by rfl
def xK0 : List Nat := [6, 11, 13, 14, 15, 24, 25, 35, 36, 39, 42, 44, 45, 49, 59, 61, 63, 68, 77, 97, 100, 146]
def xK1 : List Nat := [10, 12, 16, 17, 18, 19, 20, 21, 22, 23, 26, 27, 28, 29, 30, 31, 32, 33, 34, 37, 38, 40, 41, 43, 46, 47, 48, 50, 51, 52, 53, 54, 55, 56, 57, 58, 60, 62, 64, 65, 66, 67, 69, 70, 71, 72, 73, 74, 75, 76, 78, 79, 80, 81, 82, 83, 84, 85, 86, 87, 88, 89, 90, 91, 92, 93, 94, 95, 96, 99, 101, 102, 103, 104, 105, 106, 107, 108, 109, 110, 111, 112, 113, 114, 115, 116, 117, 118, 119, 120, 121, 122, 123, 124, 125, 126, 127, 128, 129, 130, 131, 132, 133, 134, 135, 136, 137, 138, 139, 140, 141, 142, 143, 144, 145, 147, 148, 149, 150, 151, 152, 153, 154, 155, 156, 157, 158, 159]
def xK2 : List Nat := [0, 1, 2, 3, 4, 5, 7, 8, 9, 98]
def xkSt_p : List Nat := [134, 262, 269, 272, 275, 311, 314, 355, 359, 372, 385, 393, 396, 413, 458, 465, 472, 494, 536, 626, 708, 901]
set_option maxRecDepth 100000 in
set_option maxHeartbeats 4000000 in
theorem xkSt_e : xK0.map (fun k => Cond.static (xyn k)) = xkSt_p.filterMap (fun i => tables_1[i]?) := by rfl
def xkIm_p : List Nat := [258, 265, 278, 282, 286, 290, 295, 299, 304, 307, 318, 322, 326, 330, 335, 339, 343, 348, 351, 364, 367, 376, 382, 390, 401, 406, 410, 416, 421, 426, 430, 437, 441, 446, 451, 455, 462, 469, 477, 481, 486, 490, 498, 503, 508, 513, 519, 523, 527, 532, 542, 546, 550, 555, 558, 563, 571, 575, 579, 583, 587, 592, 595, 599, 604, 608, 613, 618, 622, 704, 711, 715, 720, 723, 728, 732, 735, 739, 744, 749, 753, 757, 761, 765, 769, 773, 777, 781, 786, 790, 794, 798, 802, 806, 811, 816, 820, 826, 830, 835, 839, 844, 850, 854, 858, 862, 866, 869, 873, 878, 882, 886, 890, 894, 898, 904, 909, 913, 917, 920, 924, 929, 932, 936, 940, 944, 949, 953, 18, 26, 33, 93, 112, 130, 140, 195, 211, 631]
set_option maxRecDepth 100000 in
set_option maxHeartbeats 4000000 in
theorem xkIm_e : (xK1 ++ xK2).map (fun k => Cond.instanceMethod (xyn k)) = xkIm_p.filterMap (fun i => tables_1[i]?) := by rfl
def xkSe_p : List Nat := [319, 326, 339, 343, 347, 351, 0, 360, 1, 368, 379, 383, 387, 391, 396, 400, 404, 2, 412, 3, 428, 4, 5, 6, 462, 7, 8, 477, 482, 487, 491, 498, 502, 9, 10, 11, 12, 13, 538, 542, 14, 551, 559, 564, 15, 574, 580, 584, 588, 16, 603, 607, 611, 17, 619, 624, 632, 636, 640, 644, 648, 18, 656, 660, 665, 669, 674, 679, 683, 765, 772, 776, 19, 784, 20, 21, 796, 800, 805, 22, 23, 24, 25, 26, 27, 28, 29, 30, 31, 32, 33, 34, 35, 36, 37, 38, 39, 40, 41, 42, 43, 44, 45, 46, 47, 48, 49, 930, 934, 50, 51, 52, 53, 54, 55, 965, 56, 57, 58, 981, 985, 59, 993, 997, 1001, 1005, 1010, 1014]
set_option maxRecDepth 100000 in
set_option maxHeartbeats 4000000 in
theorem xkSe_e : xK1.map (fun k => Cond.selects (xcn (xkc k)) (xyn k) (xyn k)) = xkSe_p.filterMap (fun i => lw_tbl[i]?) := by rfl
def xkLi_p : List Nat := [17, 92, 257, 261, 264, 268, 271, 274, 277, 281, 285, 289, 293, 297, 298, 302, 306, 310, 313, 316, 317, 321, 325, 329, 334, 338, 342, 346, 350, 354, 358, 362, 366, 371, 374, 380, 384, 387, 388, 392, 395, 398, 400, 404, 408, 415, 420, 425, 429, 436, 440, 444, 449, 453, 457, 460, 464, 467, 471, 474, 475, 476, 480, 484, 488, 489, 493, 496, 497, 501, 502, 506, 510, 511, 512, 516, 517, 518, 522, 526, 530, 535, 541, 545, 549, 553, 557, 561, 562, 566, 567, 568, 570, 574, 578, 582, 586, 590, 594, 598, 602, 603, 607, 612, 617, 621, 625, 630, 703, 707, 710, 714, 718, 722, 726, 730, 734, 738, 742, 743, 747, 751, 755, 759, 763, 767, 771, 775, 779, 784, 788, 792, 796, 800, 804, 809, 814, 818, 824, 828, 833, 837, 841, 842, 848, 852, 856, 860, 864, 868, 872, 876, 880, 884, 888, 892, 896, 900, 903, 907, 911, 915, 919, 923, 927, 931, 935, 939, 943, 948, 952]
set_option maxRecDepth 100000 in
set_option maxHeartbeats 4000000 in
theorem xkLi_e : xcalL.map (fun q => Cond.methodLink (xcn q.1) q.2.1 (xyn q.2.2.1)) = xkLi_p.filterMap (fun i => tables_1[i]?) := by rfl
def xkLn_p : List Nat := [25, 32, 111, 129, 133, 139, 194, 198, 210, 214, 216, 370, 412, 424, 448, 534, 569]
set_option maxRecDepth 100000 in
set_option maxHeartbeats 4000000 in
theorem xkLn_e : xcalN.map (fun q => Cond.methodLinkNest (xcn q.1) q.2.1 (xyn q.2.2.1) "BranchGoals") = xkLn_p.filterMap (fun i => tables_1[i]?) := by rfl
def xkNw_p : List Nat := [15, 23, 29, 90, 109, 127, 136, 192, 208, 215, 628]
set_option maxRecDepth 100000 in
set_option maxHeartbeats 4000000 in
theorem xkNw_e : xnwcT.map (fun q => Cond.classLink (xcn q.1) q.2.1 (xcn q.2.2)) = xkNw_p.filterMap (fun i => tables_1[i]?) := by rfl
def xkAn_p : List Nat := [29, 136, 215]
set_option maxRecDepth 100000 in
set_option maxHeartbeats 4000000 in
theorem xkAn_e : xanwT.map (fun q => Cond.classLink (xcn q.1) q.2.1 (xcn (xqc q.2.2))) = xkAn_p.filterMap (fun i => tables_1[i]?) := by rfl
def xcstC (q : Nat × Nat × Value) : Cond := match q.2.2 with
  | .int x => .constant (xcn q.1) q.2.1 x
  | .long x => .constantLong (xcn q.1) q.2.1 x
  | _ => .tt
def xkCs_p : List Nat := [96, 97, 333, 357, 361, 378, 379, 399, 419, 538, 539, 540, 611, 616, 634, 635, 783, 808, 813, 822, 823, 832, 846, 847, 947]
set_option maxRecDepth 100000 in
set_option maxHeartbeats 4000000 in
theorem xkCs_e : xcstT.map xcstC = xkCs_p.filterMap (fun i => tables_1[i]?) := by rfl
def xkNa_p : List Nat := [20, 28, 35, 95, 114, 132, 142, 197, 213, 433, 633]
set_option maxRecDepth 100000 in
set_option maxHeartbeats 4000000 in
theorem xkNa_e : xnatT.map (fun q => Cond.methodLink (xcn q.1) q.2.1 (if q.2.2 = 0 then objectInit else arraycopyName)) = xkNa_p.filterMap (fun i => tables_1[i]?) := by rfl
def xkG_p : List Nat := [21, 22, 435, 434, 13, 71, 126, 89]
set_option maxRecDepth 100000 in
set_option maxHeartbeats 4000000 in
theorem xkG_e : ([.instanceMethod objectInit, .code objectInit ⟨#[0xb1]⟩ 1 none, .native arraycopyName, .static arraycopyName, .initialized "java/lang/System", .arrayClass .int, .arrayClass .long, .arrayClass .boolean] : List Cond) = xkG_p.filterMap (fun i => tables_1[i]?) := by rfl
def xkO_p : List Nat := [137, 30]
set_option maxRecDepth 100000 in
set_option maxHeartbeats 4000000 in
theorem xkO_e : ([.arrayOver (.object "BranchGoals$Case"), .arrayOver (.object "BranchGoals$Method")] : List Cond) = xkO_p.filterMap (fun i => tables_1[i]?) := by rfl
set_option maxRecDepth 100000 in
theorem xkCl_g : (xkCl_p.filterMap (fun i => tables_1[i]?)).all goodWord = true := by decide +kernel
set_option maxRecDepth 100000 in
theorem xkIs_g : (xkIs_p.filterMap (fun i => tables_1[i]?)).all goodWord = true := by decide +kernel
set_option maxRecDepth 100000 in
theorem xkIn_g : (xkIn_p.filterMap (fun i => tables_1[i]?)).all goodWord = true := by decide +kernel
set_option maxRecDepth 100000 in
theorem xkFl_g : (xkFl_p.filterMap (fun i => tables_1[i]?)).all goodWord = true := by decide +kernel
set_option maxRecDepth 100000 in
theorem xkCo_g : (xkCo_p.filterMap (fun i => tables_1[i]?)).all goodWord = true := by decide +kernel
set_option maxRecDepth 100000 in
theorem xkSt_g : (xkSt_p.filterMap (fun i => tables_1[i]?)).all goodWord = true := by decide +kernel
set_option maxRecDepth 100000 in
theorem xkIm_g : (xkIm_p.filterMap (fun i => tables_1[i]?)).all goodWord = true := by decide +kernel
set_option maxRecDepth 100000 in
theorem xkSe_g : (xkSe_p.filterMap (fun i => lw_tbl[i]?)).all goodWord = true := by decide +kernel
set_option maxRecDepth 100000 in
theorem xkLi_g : (xkLi_p.filterMap (fun i => tables_1[i]?)).all goodWord = true := by decide +kernel
set_option maxRecDepth 100000 in
theorem xkNw_g : (xkNw_p.filterMap (fun i => tables_1[i]?)).all goodWord = true := by decide +kernel
set_option maxRecDepth 100000 in
theorem xkAn_g : (xkAn_p.filterMap (fun i => tables_1[i]?)).all goodWord = true := by decide +kernel
set_option maxRecDepth 100000 in
theorem xkCs_g : (xkCs_p.filterMap (fun i => tables_1[i]?)).all goodWord = true := by decide +kernel
set_option maxRecDepth 100000 in
theorem xkNa_g : (xkNa_p.filterMap (fun i => tables_1[i]?)).all goodWord = true := by decide +kernel
set_option maxRecDepth 100000 in
theorem xkG_g : (xkG_p.filterMap (fun i => tables_1[i]?)).all goodWord = true := by decide +kernel
set_option maxRecDepth 100000 in
theorem xkN1 : (xfldT.all (fun q => decide (q.2.2.1 < 10) && decide (q.2.2.2 < xnf q.2.2.1)) && (List.range 160).all (fun k => decide (xml k ≤ 20) && decide (xkc k < 14)) && xcalT.all (fun q => decide (q.2.2.1 < 160)) && (xK1).all (fun k => decide (xkc k < 10)) && (List.range 160).all (fun k => match xmk k with | 0 => xK0.contains k | 1 => xK1.contains k | 2 => xK2.contains k | _ => false) && xnwcT.all (fun q => decide (q.2.2 < 14)) && xanwT.all (fun q => decide (q.2.2 < 2)) && xnatT.all (fun q => q.2.2 == 0 || q.2.2 == 7)) = true := by decide +kernel
end
section
/-! What the small tables say, as the walk uses it. -/
set_option maxRecDepth 100000 in
theorem xs_cls : (List.range 161).map (fun k => (xyn k).cls) = (List.range 161).map (fun k => xcn (xkc k)) := by rfl
theorem xs_init : xK2.map (fun k => (xyn k).name) = xK2.map (fun _ => "<init>") := by rfl
theorem xs_ret : xK2.map (fun k => xrty k) = xK2.map (fun _ => none) := by rfl
set_option maxRecDepth 100000 in
theorem xs_fd : (List.range 10).all (fun ci => (List.range (xnf ci)).all (fun j => decide (parseFieldDescriptor (xTT ci j).2.2.1 = some (xft ci j)))) = true := by decide +kernel
set_option maxRecDepth 100000 in
theorem xs_nm : (List.range 10).all (fun ci => (List.range (xnf ci)).all (fun a => (List.range (xnf ci)).all (fun b => decide (a = b) || decide ((xTT ci a).2.1 ≠ (xTT ci b).2.1)))) = true := by decide +kernel
set_option maxRecDepth 100000 in
theorem xs_pm : xcalT.all (fun q => decide ((parseMethodDescriptor (xyn q.2.2.1).desc).map (fun d => d.parameters.length) = some q.2.2.2)) = true := by decide +kernel
set_option maxRecDepth 100000 in
theorem xs_pl : (List.range 14).all (fun c => decide (xcn c ≠ "java/lang/invoke/MethodHandle") && decide (xcn c ≠ "java/lang/invoke/VarHandle")) = true := by decide +kernel
set_option maxRecDepth 100000 in
theorem xs_pf : (List.range 160).all (fun k => plainFor (xyn k)) = true := by decide +kernel
set_option maxRecDepth 100000 in
theorem xs_dc : (List.range 10).all (fun ci => (List.range (xnf ci)).all (fun j => decide ((xTT ci j).1 = xcn ci))) = true := by decide +kernel
theorem xgd {ws : List Cond} {ps : List Nat} (e : ws = ps.filterMap (fun i => tables_1[i]?)) (g : (ps.filterMap (fun i => tables_1[i]?)).all goodWord = true) {w : Cond} (h : w ∈ ws) : w ∈ xgood := xgood_t (xpl_in e h) (List.all_eq_true.mp g w (by rw [← e]; exact h))
theorem xall_r {n : Nat} {f : Nat → Bool} (h : (List.range n).all f = true) {i : Nat} (hi : i < n) : f i = true := List.all_eq_true.mp h i (List.mem_range.mpr hi)
theorem xmap_r {α : Type} {n : Nat} {f g : Nat → α} (h : (List.range n).map f = (List.range n).map g) {i : Nat} (hi : i < n) : f i = g i := List.map_inj_left.mp h i (List.mem_range.mpr hi)
theorem xcls_at {ci : Nat} (h : ci < 10) : xcls[ci]? = some (xcn ci, xTT ci, xnf ci) := by
  match ci, h with
  | 0, _ => rfl
  | 1, _ => rfl
  | 2, _ => rfl
  | 3, _ => rfl
  | 4, _ => rfl
  | 5, _ => rfl
  | 6, _ => rfl
  | 7, _ => rfl
  | 8, _ => rfl
  | 9, _ => rfl
theorem xws_in {ci : Nat} (h : ci < 10) : ∀ w ∈ u_ws (xcn ci) (xTT ci) (xnf ci), w ∈ xgood := fun w hw => xgd xkCl_e xkCl_g (List.mem_flatMap.mpr ⟨ci, List.mem_range.mpr h, hw⟩)
theorem xf_ty {ci : Nat} (h : ci < 10) : ∀ j, j < xnf ci → parseFieldDescriptor (xTT ci j).2.2.1 = some (xft ci j) := fun j hj => of_decide_eq_true (xall_r (xall_r xs_fd h) hj)
theorem xf_dc {ci : Nat} (h : ci < 10) : ∀ j, j < xnf ci → (xTT ci j).1 = xcn ci := fun j hj => of_decide_eq_true (xall_r (xall_r xs_dc h) hj)
theorem xf_nm {ci : Nat} (h : ci < 10) : ∀ a, a < xnf ci → ∀ b, b < xnf ci → a ≠ b → (xTT ci a).2.1 ≠ (xTT ci b).2.1 := fun a ha b hb hne => by
  have h1 := xall_r (xall_r (xall_r xs_nm h) ha) hb
  simp only [Bool.or_eq_true, decide_eq_true_eq] at h1
  exact h1.resolve_left hne
theorem xk_all : (xfldT.all (fun q => decide (q.2.2.1 < 10) && decide (q.2.2.2 < xnf q.2.2.1)) = true) ∧ ((List.range 160).all (fun k => decide (xml k ≤ 20) && decide (xkc k < 14)) = true) ∧ (xcalT.all (fun q => decide (q.2.2.1 < 160)) = true) ∧ (xK1.all (fun k => decide (xkc k < 10)) = true) ∧ ((List.range 160).all (fun k => match xmk k with | 0 => xK0.contains k | 1 => xK1.contains k | 2 => xK2.contains k | _ => false) = true) ∧ (xnwcT.all (fun q => decide (q.2.2 < 14)) = true) ∧ (xanwT.all (fun q => decide (q.2.2 < 2)) = true) ∧ (xnatT.all (fun q => q.2.2 == 0 || q.2.2 == 7) = true) := by
  have h := xkN1
  simp only [Bool.and_eq_true] at h
  obtain ⟨⟨⟨⟨⟨⟨⟨h1, h2⟩, h3⟩, h4⟩, h5⟩, h6⟩, h7⟩, h8⟩ := h
  exact ⟨h1, h2, h3, h4, h5, h6, h7, h8⟩
theorem xfld_ok {kc idx ci j : Nat} (h : xfld kc idx = some (ci, j)) : ci < 10 ∧ j < xnf ci ∧ Cond.fieldLink (xcn kc) idx (xTT ci j).1 (xTT ci j).2.1 (xTT ci j).2.2.1 ∈ xgood := by
  have hm := xfind_mem h
  have h1 := List.all_eq_true.mp xk_all.1 _ hm
  simp only [Bool.and_eq_true, decide_eq_true_eq] at h1
  exact ⟨h1.1, h1.2, xgd xkFl_e xkFl_g (List.mem_map.mpr ⟨_, hm, rfl⟩)⟩
theorem xm_code {k : Nat} (h : k < 160) : Cond.code (xyn k) (xcode k) (xml k) (xrty k) ∈ xgood := xgd xkCo_e xkCo_g (List.mem_map.mpr ⟨k, List.mem_range.mpr h, rfl⟩)
theorem xm_kc {k : Nat} (h : k < 160) : xml k ≤ 20 ∧ xkc k < 14 := by
  have h1 := xall_r xk_all.2.1 h
  simpa only [Bool.and_eq_true, decide_eq_true_eq] using h1
theorem xm_cls {k : Nat} (h : k < 161) : (xyn k).cls = xcn (xkc k) := xmap_r xs_cls h
theorem xm_ini {k : Nat} (h : k < 160) : Cond.initialized (xyn k).cls ∈ xgood := by
  rw [xm_cls (by omega)]
  exact xgd xkIn_e xkIn_g (List.mem_map.mpr ⟨xkc k, List.mem_range.mpr (xm_kc h).2, rfl⟩)
theorem xm_pl {k : Nat} (h : k < 160) : plainFor (xyn k) = true ∧ (xyn k).cls ≠ "java/lang/invoke/MethodHandle" ∧ (xyn k).cls ≠ "java/lang/invoke/VarHandle" := by
  have h1 := xall_r xs_pl (xm_kc h).2
  simp only [Bool.and_eq_true, decide_eq_true_eq] at h1
  rw [xm_cls (by omega)]
  exact ⟨xall_r xs_pf h, h1.1, h1.2⟩
theorem xm_mem0 {k : Nat} (h : k < 160) (hn : xmk k = 0) : k ∈ xK0 := by
  have h1 := xall_r xk_all.2.2.2.2.1 h
  rw [hn] at h1
  exact List.contains_iff_mem.mp h1
theorem xm_mem1 {k : Nat} (h : k < 160) (hn : xmk k = 1) : k ∈ xK1 := by
  have h1 := xall_r xk_all.2.2.2.2.1 h
  rw [hn] at h1
  exact List.contains_iff_mem.mp h1
theorem xm_mem2 {k : Nat} (h : k < 160) (hn : xmk k = 2) : k ∈ xK2 := by
  have h1 := xall_r xk_all.2.2.2.2.1 h
  rw [hn] at h1
  exact List.contains_iff_mem.mp h1
theorem xm_k0 {k : Nat} (h : k < 160) (hn : xmk k = 0) : Cond.static (xyn k) ∈ xgood := xgd xkSt_e xkSt_g (List.mem_map.mpr ⟨k, xm_mem0 h hn, rfl⟩)
theorem xm_k1 {k : Nat} (h : k < 160) (hn : xmk k = 1) : Cond.instanceMethod (xyn k) ∈ xgood ∧ Cond.selects (xcn (xkc k)) (xyn k) (xyn k) ∈ xgood ∧ xkc k < 10 := by
  have hm := xm_mem1 h hn
  refine ⟨xgd xkIm_e xkIm_g (List.mem_map.mpr ⟨k, List.mem_append_left _ hm, rfl⟩), ?_, of_decide_eq_true (List.all_eq_true.mp xk_all.2.2.2.1 k hm)⟩
  have hw : Cond.selects (xcn (xkc k)) (xyn k) (xyn k) ∈ xK1.map (fun k => Cond.selects (xcn (xkc k)) (xyn k) (xyn k)) := List.mem_map.mpr ⟨k, hm, rfl⟩
  exact xgood_of (xpl_in xkSe_e hw) (List.all_eq_true.mp xkSe_g _ (by rw [← xkSe_e]; exact hw))
theorem xm_k2 {k : Nat} (h : k < 160) (hn : xmk k = 2) : Cond.instanceMethod (xyn k) ∈ xgood ∧ (xyn k).name = "<init>" ∧ xrty k = none := by
  have hm := xm_mem2 h hn
  exact ⟨xgd xkIm_e xkIm_g (List.mem_map.mpr ⟨k, List.mem_append_right _ hm, rfl⟩), List.map_inj_left.mp xs_init k hm, List.map_inj_left.mp xs_ret k hm⟩
theorem xcal_ok {kc idx y n : Nat} (h : xcal kc idx = some (y, n)) : y < 160 ∧ (parseMethodDescriptor (xyn y).desc).map (fun d => d.parameters.length) = some n ∧ (Cond.methodLink (xcn kc) idx (xyn y) ∈ xgood ∨ Cond.methodLinkNest (xcn kc) idx (xyn y) "BranchGoals" ∈ xnest) := by
  have hm : (kc, idx, y, n) ∈ xcalT := xfind_mem h
  have h1 := List.all_eq_true.mp xk_all.2.2.1 _ hm
  have h2 := List.all_eq_true.mp xs_pm _ hm
  simp only [decide_eq_true_eq] at h1 h2
  refine ⟨h1, h2, ?_⟩
  unfold xcalT at hm
  rcases List.mem_append.mp hm with hm | hm
  · exact Or.inl (xgd xkLi_e xkLi_g (List.mem_map.mpr ⟨_, hm, rfl⟩))
  · exact Or.inr (List.mem_filter.mpr ⟨List.mem_append_right _ (xpl_in xkLn_e (List.mem_map.mpr ⟨_, hm, rfl⟩)), rfl⟩)
theorem xnwc_ok {kc idx ci : Nat} (h : xnwc kc idx = some ci) : Cond.classLink (xcn kc) idx (xcn ci) ∈ xgood := xgd xkNw_e xkNw_g (List.mem_map.mpr ⟨_, xfind_mem h, rfl⟩)
theorem xanw_ok {kc idx t : Nat} (h : xanw kc idx = some t) : t < 2 ∧ Cond.classLink (xcn kc) idx (xcn (xqc t)) ∈ xgood := ⟨of_decide_eq_true (List.all_eq_true.mp xk_all.2.2.2.2.2.2.1 _ (xfind_mem h)), xgd xkAn_e xkAn_g (List.mem_map.mpr ⟨_, xfind_mem h, rfl⟩)⟩
theorem xcst_ok {kc idx : Nat} {v : Value} (h : xcst kc idx = some v) : xcstC (kc, idx, v) ∈ xgood := xgd xkCs_e xkCs_g (List.mem_map.mpr ⟨_, xfind_mem h, rfl⟩)
theorem xnat_ok {kc idx t : Nat} (h : xnat kc idx = some t) : (t = 0 ∧ Cond.methodLink (xcn kc) idx objectInit ∈ xgood) ∨ (t = 7 ∧ Cond.methodLink (xcn kc) idx arraycopyName ∈ xgood) := by
  have hm := xfind_mem h
  have h1 := List.all_eq_true.mp xk_all.2.2.2.2.2.2.2 _ hm
  have h2 := xgd xkNa_e xkNa_g (List.mem_map.mpr ⟨_, hm, rfl⟩)
  simp only [Bool.or_eq_true, beq_iff_eq] at h1
  rcases h1 with rfl | rfl
  · exact Or.inl ⟨rfl, h2⟩
  · exact Or.inr ⟨rfl, h2⟩
theorem xin_ci {ci : Nat} (h : ci < 10) : Cond.instantiable (xcn ci) (xnf ci) ∈ xgood ∧ Cond.initialized (xcn ci) ∈ xgood := ⟨xgd xkIs_e xkIs_g (List.mem_map.mpr ⟨ci, List.mem_range.mpr h, rfl⟩), xgd xkIn_e xkIn_g (List.mem_map.mpr ⟨ci, List.mem_range.mpr (by omega), rfl⟩)⟩
theorem xg_glob : Cond.instanceMethod objectInit ∈ xgood ∧ Cond.code objectInit ⟨#[0xb1]⟩ 1 none ∈ xgood ∧ Cond.native arraycopyName ∈ xgood ∧ Cond.static arraycopyName ∈ xgood ∧ Cond.initialized "java/lang/System" ∈ xgood ∧ Cond.arrayClass .int ∈ xgood ∧ Cond.arrayClass .long ∈ xgood ∧ Cond.arrayClass .boolean ∈ xgood :=
  ⟨xgd xkG_e xkG_g (by simp), xgd xkG_e xkG_g (by simp), xgd xkG_e xkG_g (by simp), xgd xkG_e xkG_g (by simp), xgd xkG_e xkG_g (by simp), xgd xkG_e xkG_g (by simp), xgd xkG_e xkG_g (by simp), xgd xkG_e xkG_g (by simp)⟩
end
section
/-! The small machine is sound: what it does the machine does. First the instructions on the stack alone, jumps, locals. -/
def xad (b scr : Nat) : Nat → Nat
  | 0 => scr
  | a + 1 => b + a
def xemb (ad : Nat → Nat) : Value → Value
  | .ref a => .ref (ad a)
  | v => v
theorem xemb_cat (ad : Nat → Nat) (v : Value) : (xemb ad v).category = v.category := by cases v <;> rfl
theorem xemb_rf (ad : Nat → Nat) (r : Option Nat) : xemb ad (va_rf r) = va_rf (r.map ad) := by cases r <;> rfl
def XLH (ad : Nat → Nat) (ls : Array Slot) (n : Nat) (L : XL) : Prop := ls.size = n ∧ L.length = n ∧ lv_wf ls ∧ ∀ (i : Nat) (v : Value), xld L i = some v → ls[i]? = some (.val (xemb ad v))
def xcl0 (ad : Nat → Nat) (ca : Nat → ClassId) (t : Nat × Nat) (I : Nat → Int32) (J : Nat → Int64) (R : Nat → Option Nat) : va_E :=
  if t.1 < 100 then .inr (t.1, (List.range t.2).map (fun j => xemb ad (xfv (xft t.1 j) I J R j)))
  else .inl (ca (t.1 - 100), t.2, if t.1 = 101 then .inr (.inl J) else if t.1 < 103 then .inl I else .inr (.inr (.inr (.inr (fun i => (R i).map ad)))))
def xcell (ad : Nat → Nat) (ca : Nat → ClassId) (h : XH) (a : Nat) : va_E := xcl0 ad ca (xhk h a) (xhI h a) (xhJ h a) (xhR h a)
def xw (ad : Nat → Nat) (ca : Nat → ClassId) (b : Nat) (h : XH) : va_W := (List.range (xhz h - 1)).map (fun a => (b + a, xcell ad ca h (a + 1)))
abbrev XG : Type := Program × Launch × Env × Room × State × MethodId × Array Value × List Frame × Method × Code × (State → Prop) × va_G × (Nat → ClassId) × Nat × Nat × Nat × Nat
def XW : XG → Nat → Nat → XL → List Value → XH → Prop
  | (p, l, e, R, s, m, args, below, meth, c, Q, D, ca, b, scr, z0, s0), k, pc, L, st, h =>
    ∀ (H : Heap) (locs : List Loc) (ls : Array Slot), va_P D xcls (xw (xad b scr) ca b h) H → va_S (fun q => b ≤ q) s.heap H locs → XLH (xad b scr) ls (xml k) L →
      W p l e R s m args below meth c H locs (xhz h - z0) (xhs h - s0) Q (F0 m pc ls (st.map (xemb (xad b scr))))
theorem xi1_inv {f : Int32 → Int32} {st st' : List Value} (h : xi1 f st = some st') : ∃ x r, st = .int x :: r ∧ st' = .int (f x) :: r := by
  unfold xi1 at h
  split at h
  · exact ⟨_, _, rfl, (Option.some.inj h).symm⟩
  · cases h
theorem xi2_inv {f : Int32 → Int32 → Int32} {st st' : List Value} (h : xi2 f st = some st') : ∃ x y r, st = .int y :: .int x :: r ∧ st' = .int (f x y) :: r := by
  unfold xi2 at h
  split at h
  · exact ⟨_, _, _, rfl, (Option.some.inj h).symm⟩
  · cases h
theorem xi2z_inv {f : Int32 → Int32 → Int32} {st st' : List Value} (h : xi2z f st = some st') : ∃ x y r, st = .int y :: .int x :: r ∧ st' = .int (f x y) :: r ∧ ¬ y = 0 := by
  unfold xi2z at h
  split at h
  · split at h
    · cases h
    · exact ⟨_, _, _, rfl, (Option.some.inj h).symm, by assumption⟩
  · cases h
theorem xj1_inv {f : Int64 → Int64} {st st' : List Value} (h : xj1 f st = some st') : ∃ x r, st = .long x :: r ∧ st' = .long (f x) :: r := by
  unfold xj1 at h
  split at h
  · exact ⟨_, _, rfl, (Option.some.inj h).symm⟩
  · cases h
theorem xj2_inv {f : Int64 → Int64 → Int64} {st st' : List Value} (h : xj2 f st = some st') : ∃ x y r, st = .long y :: .long x :: r ∧ st' = .long (f x y) :: r := by
  unfold xj2 at h
  split at h
  · exact ⟨_, _, _, rfl, (Option.some.inj h).symm⟩
  · cases h
theorem xj2z_inv {f : Int64 → Int64 → Int64} {st st' : List Value} (h : xj2z f st = some st') : ∃ x y r, st = .long y :: .long x :: r ∧ st' = .long (f x y) :: r ∧ ¬ y = 0 := by
  unfold xj2z at h
  split at h
  · split at h
    · cases h
    · exact ⟨_, _, _, rfl, (Option.some.inj h).symm, by assumption⟩
  · cases h
theorem xji_inv {f : Int64 → Int32 → Int64} {st st' : List Value} (h : xji f st = some st') : ∃ x y r, st = .int y :: .long x :: r ∧ st' = .long (f x y) :: r := by
  unfold xji at h
  split at h
  · exact ⟨_, _, _, rfl, (Option.some.inj h).symm⟩
  · cases h
theorem xi2l_inv {st st' : List Value} (h : xi2l st = some st') : ∃ x r, st = .int x :: r ∧ st' = .long x.toInt64 :: r := by
  unfold xi2l at h
  split at h
  · exact ⟨_, _, rfl, (Option.some.inj h).symm⟩
  · cases h
theorem xl2i_inv {st st' : List Value} (h : xl2i st = some st') : ∃ x r, st = .long x :: r ∧ st' = .int x.toInt32 :: r := by
  unfold xl2i at h
  split at h
  · exact ⟨_, _, rfl, (Option.some.inj h).symm⟩
  · cases h
theorem xlcmp_inv {st st' : List Value} (h : xlcmp st = some st') : ∃ x y r, st = .long y :: .long x :: r ∧ st' = .int (lg_cmp x y) :: r := by
  unfold xlcmp at h
  split at h
  · exact ⟨_, _, _, rfl, (Option.some.inj h).symm⟩
  · cases h
theorem xdup_inv {st st' : List Value} (h : xdup st = some st') : ∃ v r, st = v :: r ∧ st' = v :: v :: r ∧ v.category = 1 := by
  unfold xdup at h
  split at h
  · split at h
    · exact ⟨_, _, rfl, (Option.some.inj h).symm, by assumption⟩
    · cases h
  · cases h
theorem xpop_inv {st st' : List Value} (h : xpop st = some st') : ∃ v, st = v :: st' ∧ v.category = 1 := by
  unfold xpop at h
  split at h
  · split at h
    · cases h; exact ⟨_, rfl, by assumption⟩
    · cases h
  · cases h
theorem xcat_1 {v : Value} (h : ¬ v.category = 2) : v.category = 1 := by cases v <;> first | rfl | exact absurd rfl h
theorem xpop2_inv {st st' : List Value} (h : xpop2 st = some st') : (∃ v, st = v :: st' ∧ v.category = 2) ∨ ∃ v w, st = v :: w :: st' ∧ v.category = 1 ∧ w.category = 1 := by
  unfold xpop2 at h
  split at h
  · split at h
    · cases h; exact Or.inl ⟨_, rfl, by assumption⟩
    · split at h
      · split at h
        · cases h
          exact Or.inr ⟨_, _, rfl, xcat_1 (by assumption), by assumption⟩
        · cases h
      · cases h
  · cases h
theorem xdupx1_inv {st st' : List Value} (h : xdupx1 st = some st') : ∃ v w r, st = v :: w :: r ∧ st' = v :: w :: v :: r ∧ v.category = 1 ∧ w.category = 1 := by
  unfold xdupx1 at h
  split at h
  · split at h
    · exact ⟨_, _, _, rfl, (Option.some.inj h).symm, by assumption⟩
    · cases h
  · cases h
theorem xdupx2_inv {st st' : List Value} (h : xdupx2 st = some st') : ∃ v w u r, st = v :: w :: u :: r ∧ st' = v :: w :: u :: v :: r ∧ v.category = 1 ∧ w.category = 1 ∧ u.category = 1 := by
  unfold xdupx2 at h
  split at h
  · split at h
    · exact ⟨_, _, _, _, rfl, (Option.some.inj h).symm, by assumption⟩
    · cases h
  · cases h
theorem xdup2_inv {st st' : List Value} (h : xdup2 st = some st') : (∃ v r, st = v :: r ∧ st' = v :: v :: r ∧ v.category = 2) ∨ ∃ v w r, st = v :: w :: r ∧ st' = v :: w :: v :: w :: r ∧ v.category = 1 ∧ w.category = 1 := by
  unfold xdup2 at h
  split at h
  · split at h
    · cases h; exact Or.inl ⟨_, _, rfl, rfl, by assumption⟩
    · split at h
      · split at h
        · cases h
          exact Or.inr ⟨_, _, _, rfl, rfl, xcat_1 (by assumption), by assumption⟩
        · cases h
      · cases h
  · cases h
theorem xdup2x1_inv {st st' : List Value} (h : xdup2x1 st = some st') : ∃ v w r, st = v :: w :: r ∧ st' = v :: w :: v :: r ∧ v.category = 2 ∧ w.category = 1 := by
  unfold xdup2x1 at h
  split at h
  · split at h
    · exact ⟨_, _, _, rfl, (Option.some.inj h).symm, by assumption⟩
    · cases h
  · cases h
theorem xdup2x2_inv {st st' : List Value} (h : xdup2x2 st = some st') : ∃ v w u r, st = v :: w :: u :: r ∧ st' = v :: w :: u :: v :: r ∧ v.category = 2 ∧ w.category = 1 ∧ u.category = 1 := by
  unfold xdup2x2 at h
  split at h
  · split at h
    · exact ⟨_, _, _, _, rfl, (Option.some.inj h).symm, by assumption⟩
    · cases h
  · cases h
set_option maxHeartbeats 4000000 in
theorem xop_sound {G : XG} {k pc : Nat} {L : XL} {st st' : List Value} {h : XH} {i : Instr} (hx : G.1.tables.exec = Jvm.exec) (hb : G.2.2.2.2.2.2.2.2.2.1.code = xcode k)
    (hd : decode (xcode k) pc = .ok (i, xlen i)) (ho : xop i st = some st') (K : XW G k (pc + xlen i) L st' h) : XW G k pc L st h := by
  obtain ⟨p, l, e, R, s, m, args, below, meth, c, Q, D, ca, b, scr, z0, s0⟩ := G
  intro H locs ls hP hS hL
  have K := K H locs ls hP hS hL
  cases i with
  | iconst n => cases ho; exact lv_iconst hx hb hd rfl K
  | bipush n => cases ho; exact lv_bipush hx hb hd rfl K
  | sipush n => cases ho; exact lv_sipush hx hb hd rfl K
  | lconst n => cases ho; exact lv_lconst hx hb hd rfl K
  | aconst_null => cases ho; exact lv_null hx hb hd K
  | iadd => obtain ⟨x, y, r, rfl, rfl⟩ := xi2_inv ho; exact lv_iadd hx hb hd K
  | isub => obtain ⟨x, y, r, rfl, rfl⟩ := xi2_inv ho; exact lv_isub hx hb hd K
  | imul => obtain ⟨x, y, r, rfl, rfl⟩ := xi2_inv ho; exact lv_imul hx hb hd K
  | iand => obtain ⟨x, y, r, rfl, rfl⟩ := xi2_inv ho; exact lv_iand hx hb hd K
  | ior => obtain ⟨x, y, r, rfl, rfl⟩ := xi2_inv ho; exact lv_ior hx hb hd K
  | ixor => obtain ⟨x, y, r, rfl, rfl⟩ := xi2_inv ho; exact lv_ixor hx hb hd K
  | ishl => obtain ⟨x, y, r, rfl, rfl⟩ := xi2_inv ho; exact lv_ishl hx hb hd K
  | ishr => obtain ⟨x, y, r, rfl, rfl⟩ := xi2_inv ho; exact lv_ishr hx hb hd K
  | iushr => obtain ⟨x, y, r, rfl, rfl⟩ := xi2_inv ho; exact lv_iushr hx hb hd rfl K
  | idiv => obtain ⟨x, y, r, rfl, rfl, hy⟩ := xi2z_inv ho; exact lv_idiv hx hb hd hy K
  | irem => obtain ⟨x, y, r, rfl, rfl, hy⟩ := xi2z_inv ho; exact lv_irem hx hb hd hy K
  | ineg => obtain ⟨x, r, rfl, rfl⟩ := xi1_inv ho; exact lv_ineg hx hb hd K
  | ladd => obtain ⟨x, y, r, rfl, rfl⟩ := xj2_inv ho; exact lv_ladd hx hb hd K
  | lsub => obtain ⟨x, y, r, rfl, rfl⟩ := xj2_inv ho; exact lv_lsub hx hb hd K
  | lmul => obtain ⟨x, y, r, rfl, rfl⟩ := xj2_inv ho; exact lv_lmul hx hb hd K
  | land => obtain ⟨x, y, r, rfl, rfl⟩ := xj2_inv ho; exact lv_land hx hb hd K
  | lor => obtain ⟨x, y, r, rfl, rfl⟩ := xj2_inv ho; exact lv_lor hx hb hd K
  | lxor => obtain ⟨x, y, r, rfl, rfl⟩ := xj2_inv ho; exact lv_lxor hx hb hd K
  | ldiv => obtain ⟨x, y, r, rfl, rfl, hy⟩ := xj2z_inv ho; exact lv_ldiv hx hb hd hy K
  | lrem => obtain ⟨x, y, r, rfl, rfl, hy⟩ := xj2z_inv ho; exact lv_lrem hx hb hd hy K
  | lneg => obtain ⟨x, r, rfl, rfl⟩ := xj1_inv ho; exact lv_lneg hx hb hd K
  | lshl => obtain ⟨x, y, r, rfl, rfl⟩ := xji_inv ho; exact lv_lshl hx hb hd rfl K
  | lshr => obtain ⟨x, y, r, rfl, rfl⟩ := xji_inv ho; exact lv_lshr hx hb hd rfl K
  | lushr => obtain ⟨x, y, r, rfl, rfl⟩ := xji_inv ho; exact lv_lushr hx hb hd rfl K
  | i2l => obtain ⟨x, r, rfl, rfl⟩ := xi2l_inv ho; exact lv_i2l hx hb hd rfl K
  | l2i => obtain ⟨x, r, rfl, rfl⟩ := xl2i_inv ho; exact lv_l2i hx hb hd rfl K
  | lcmp => obtain ⟨x, y, r, rfl, rfl⟩ := xlcmp_inv ho; exact W.lcmp hx hb hd K
  | dup => obtain ⟨v, r, rfl, rfl, h1⟩ := xdup_inv ho; exact lv_dup hx hb hd ((xemb_cat _ v).trans h1) K
  | pop => obtain ⟨v, rfl, h1⟩ := xpop_inv ho; exact lv_pop hx hb hd ((xemb_cat _ v).trans h1) K
  | pop2 =>
    rcases xpop2_inv ho with ⟨v, rfl, h1⟩ | ⟨v, w, rfl, h1, h2⟩
    · exact lv_pop2_2 hx hb hd ((xemb_cat _ v).trans h1) K
    · exact lv_pop2_11 hx hb hd ((xemb_cat _ v).trans h1) ((xemb_cat _ w).trans h2) K
  | dup_x1 => obtain ⟨v, w, r, rfl, rfl, h1, h2⟩ := xdupx1_inv ho; exact lv_dup_x1 hx hb hd ((xemb_cat _ v).trans h1) ((xemb_cat _ w).trans h2) K
  | dup_x2 => obtain ⟨v, w, u, r, rfl, rfl, h1, h2, h3⟩ := xdupx2_inv ho; exact lv_dup_x2 hx hb hd ((xemb_cat _ v).trans h1) ((xemb_cat _ w).trans h2) ((xemb_cat _ u).trans h3) K
  | dup2 =>
    rcases xdup2_inv ho with ⟨v, r, rfl, rfl, h1⟩ | ⟨v, w, r, rfl, rfl, h1, h2⟩
    · exact lv_dup2_2 hx hb hd ((xemb_cat _ v).trans h1) K
    · exact lv_dup2_11 hx hb hd ((xemb_cat _ v).trans h1) ((xemb_cat _ w).trans h2) K
  | dup2_x1 => obtain ⟨v, w, r, rfl, rfl, h1, h2⟩ := xdup2x1_inv ho; exact lv_dup2_x1_2 hx hb hd ((xemb_cat _ v).trans h1) ((xemb_cat _ w).trans h2) K
  | dup2_x2 => obtain ⟨v, w, u, r, rfl, rfl, h1, h2, h3⟩ := xdup2x2_inv ho; exact lv_dup2_x2_2 hx hb hd ((xemb_cat _ v).trans h1) ((xemb_cat _ w).trans h2) ((xemb_cat _ u).trans h3) K
  | _ => cases ho
end
section
/-! Jumps and locals. -/
theorem xad_inj {b scr : Nat} (h : scr < b) {x y : Nat} (e : xad b scr x = xad b scr y) : x = y := by
  cases x with
  | zero => cases y with
    | zero => rfl
    | succ y => exfalso; simp only [xad] at e; omega
  | succ x => cases y with
    | zero => exfalso; simp only [xad] at e; omega
    | succ y => simp only [xad] at e; omega
theorem xad_injO {b scr : Nat} (h : scr < b) {x y : Option Nat} (e : x.map (xad b scr) = y.map (xad b scr)) : x = y := by
  cases x with
  | none => cases y with
    | none => rfl
    | some y => cases e
  | some x => cases y with
    | none => cases e
    | some y => exact congrArg some (xad_inj h (Option.some.inj e))
theorem xtg_inv {pc t : Nat} {off : Int} (h : xtg pc off = some t) : (pc : Int) + off = (t : Int) := by
  unfold xtg at h
  split at h
  · cases h; omega
  · cases h
theorem xjc_inv {b : Bool} {pc : Nat} {off : Int} {r : List Value} {q : Nat × List Value} (h : xjc b pc off r = some q) : ∃ t : Nat, (pc : Int) + off = (t : Int) ∧ ((b = true ∧ q = (t, r)) ∨ (b = false ∧ q = (pc + 3, r))) := by
  unfold xjc at h
  split at h
  · cases h
  · rename_i t ht
    refine ⟨t, xtg_inv ht, ?_⟩
    cases b
    · exact Or.inr ⟨rfl, (Option.some.inj h).symm⟩
    · exact Or.inl ⟨rfl, (Option.some.inj h).symm⟩
theorem xmap_inv {o : Option Nat} {r : List Value} {q : Nat × List Value} (h : o.map (fun t => (t, r)) = some q) : o = some q.1 ∧ q.2 = r := by
  cases o with
  | none => cases h
  | some t => cases h; exact ⟨rfl, rfl⟩
theorem xrf_inv {v : Value} {r : Option Nat} (h : xrf v = some r) : v = va_rf r := by
  cases v <;> first | (cases h; rfl) | cases h
section XJ
variable {p : Program} {l : Launch} {e : Env} {R : Room} {s : State} {m : MethodId} {args : Array Value} {below : List Frame} {meth : Method} {c : Code} {Q : State → Prop} {D : va_G} {ca : Nat → ClassId} {b scr z0 s0 k pc pc' len : Nat} {L L' : XL} {st st' r : List Value} {h : XH} {i : Instr}
theorem xjif_sound {cd : ClassFile.Cond} {off : Int} {x : Int32} (hx : p.tables.exec = Jvm.exec) (hb : c.code = xcode k) (hd : decode (xcode k) pc = .ok (.ifCond cd off, 3)) (ho : xjc (xcnd cd x 0) pc off r = some (pc', st')) (K : XW (p, l, e, R, s, m, args, below, meth, c, Q, D, ca, b, scr, z0, s0) k pc' L st' h) : XW (p, l, e, R, s, m, args, below, meth, c, Q, D, ca, b, scr, z0, s0) k pc L (.int x :: r) h := by
  intro H locs ls hP hS hL
  have K := K H locs ls hP hS hL
  obtain ⟨t, ht, hc⟩ := xjc_inv ho
  cases cd
  · refine lv_if_eq hx hb hd ht (fun q => ?_) (fun q => ?_) <;> rcases hc with ⟨h1, h2⟩ | ⟨h1, h2⟩ <;> simp only [xcnd, decide_eq_true_eq, decide_eq_false_iff_not] at h1 <;> first | (cases h2; exact K) | exact absurd q h1 | exact absurd h1 q
  · refine lv_if_ne hx hb hd ht (fun q => ?_) (fun q => ?_) <;> rcases hc with ⟨h1, h2⟩ | ⟨h1, h2⟩ <;> simp only [xcnd, decide_eq_true_eq, decide_eq_false_iff_not] at h1 <;> first | (cases h2; exact K) | exact absurd q h1 | exact absurd h1 q
  · refine lv_if_lt hx hb hd ht (fun q => ?_) (fun q => ?_) <;> rcases hc with ⟨h1, h2⟩ | ⟨h1, h2⟩ <;> simp only [xcnd, decide_eq_true_eq, decide_eq_false_iff_not] at h1 <;> first | (cases h2; exact K) | exact absurd q h1 | exact absurd h1 q
  · refine lv_if_ge hx hb hd ht (fun q => ?_) (fun q => ?_) <;> rcases hc with ⟨h1, h2⟩ | ⟨h1, h2⟩ <;> simp only [xcnd, decide_eq_true_eq, decide_eq_false_iff_not] at h1 <;> first | (cases h2; exact K) | exact absurd q h1 | exact absurd h1 q
  · refine lv_if_gt hx hb hd ht (fun q => ?_) (fun q => ?_) <;> rcases hc with ⟨h1, h2⟩ | ⟨h1, h2⟩ <;> simp only [xcnd, decide_eq_true_eq, decide_eq_false_iff_not] at h1 <;> first | (cases h2; exact K) | exact absurd q h1 | exact absurd h1 q
  · refine lv_if_le hx hb hd ht (fun q => ?_) (fun q => ?_) <;> rcases hc with ⟨h1, h2⟩ | ⟨h1, h2⟩ <;> simp only [xcnd, decide_eq_true_eq, decide_eq_false_iff_not] at h1 <;> first | (cases h2; exact K) | exact absurd q h1 | exact absurd h1 q
theorem xjcmp_sound {cd : ClassFile.Cond} {off : Int} {x y : Int32} (hx : p.tables.exec = Jvm.exec) (hb : c.code = xcode k) (hd : decode (xcode k) pc = .ok (.if_icmp cd off, 3)) (ho : xjc (xcnd cd x y) pc off r = some (pc', st')) (K : XW (p, l, e, R, s, m, args, below, meth, c, Q, D, ca, b, scr, z0, s0) k pc' L st' h) : XW (p, l, e, R, s, m, args, below, meth, c, Q, D, ca, b, scr, z0, s0) k pc L (.int y :: .int x :: r) h := by
  intro H locs ls hP hS hL
  have K := K H locs ls hP hS hL
  obtain ⟨t, ht, hc⟩ := xjc_inv ho
  cases cd
  · refine lv_icmp_eq hx hb hd ht (fun q => ?_) (fun q => ?_) <;> rcases hc with ⟨h1, h2⟩ | ⟨h1, h2⟩ <;> simp only [xcnd, decide_eq_true_eq, decide_eq_false_iff_not] at h1 <;> first | (cases h2; exact K) | exact absurd q h1 | exact absurd h1 q
  · refine lv_icmp_ne hx hb hd ht (fun q => ?_) (fun q => ?_) <;> rcases hc with ⟨h1, h2⟩ | ⟨h1, h2⟩ <;> simp only [xcnd, decide_eq_true_eq, decide_eq_false_iff_not] at h1 <;> first | (cases h2; exact K) | exact absurd q h1 | exact absurd h1 q
  · refine lv_icmp_lt hx hb hd ht (fun q => ?_) (fun q => ?_) <;> rcases hc with ⟨h1, h2⟩ | ⟨h1, h2⟩ <;> simp only [xcnd, decide_eq_true_eq, decide_eq_false_iff_not] at h1 <;> first | (cases h2; exact K) | exact absurd q h1 | exact absurd h1 q
  · refine lv_icmp_ge hx hb hd ht (fun q => ?_) (fun q => ?_) <;> rcases hc with ⟨h1, h2⟩ | ⟨h1, h2⟩ <;> simp only [xcnd, decide_eq_true_eq, decide_eq_false_iff_not] at h1 <;> first | (cases h2; exact K) | exact absurd q h1 | exact absurd h1 q
  · refine lv_icmp_gt hx hb hd ht (fun q => ?_) (fun q => ?_) <;> rcases hc with ⟨h1, h2⟩ | ⟨h1, h2⟩ <;> simp only [xcnd, decide_eq_true_eq, decide_eq_false_iff_not] at h1 <;> first | (cases h2; exact K) | exact absurd q h1 | exact absurd h1 q
  · refine lv_icmp_le hx hb hd ht (fun q => ?_) (fun q => ?_) <;> rcases hc with ⟨h1, h2⟩ | ⟨h1, h2⟩ <;> simp only [xcnd, decide_eq_true_eq, decide_eq_false_iff_not] at h1 <;> first | (cases h2; exact K) | exact absurd q h1 | exact absurd h1 q
theorem xjmp_sound (hsb : scr < b) (hx : p.tables.exec = Jvm.exec) (hb : c.code = xcode k) (hd : decode (xcode k) pc = .ok (i, len)) (ho : xjmp i len pc st = some (pc', st')) (K : XW (p, l, e, R, s, m, args, below, meth, c, Q, D, ca, b, scr, z0, s0) k pc' L st' h) : XW (p, l, e, R, s, m, args, below, meth, c, Q, D, ca, b, scr, z0, s0) k pc L st h := by
  cases i with
  | goto off =>
    simp only [xjmp] at ho
    split at ho
    · rename_i hl
      subst hl
      obtain ⟨h1, h2⟩ := xmap_inv ho
      cases h2
      intro H locs ls hP hS hL
      exact lv_goto hx hb hd (xtg_inv h1) (K H locs ls hP hS hL)
    · cases ho
  | ifCond cd off =>
    simp only [xjmp] at ho
    split at ho
    · rename_i hl
      subst hl
      unfold xjif at ho
      split at ho
      · exact xjif_sound hx hb hd ho K
      · cases ho
    · cases ho
  | if_icmp cd off =>
    simp only [xjmp] at ho
    split at ho
    · rename_i hl
      subst hl
      unfold xjcmp at ho
      split at ho
      · exact xjcmp_sound hx hb hd ho K
      · cases ho
    · cases ho
  | ifnull off =>
    simp only [xjmp] at ho
    split at ho
    · rename_i hl
      subst hl
      unfold xjnull at ho
      split at ho
      · obtain ⟨t, ht, ⟨h1, h2⟩ | ⟨h1, h2⟩⟩ := xjc_inv ho
        · cases h2
          intro H locs ls hP hS hL
          exact lv_ifnullN hx hb hd ht (K H locs ls hP hS hL)
        · cases h1
      · obtain ⟨t, ht, ⟨h1, h2⟩ | ⟨h1, h2⟩⟩ := xjc_inv ho
        · cases h1
        · cases h2
          intro H locs ls hP hS hL
          exact lv_ifnull hx hb hd (K H locs ls hP hS hL)
      · cases ho
    · cases ho
  | ifnonnull off =>
    simp only [xjmp] at ho
    split at ho
    · rename_i hl
      subst hl
      unfold xjnull at ho
      split at ho
      · obtain ⟨t, ht, ⟨h1, h2⟩ | ⟨h1, h2⟩⟩ := xjc_inv ho
        · cases h1
        · cases h2
          intro H locs ls hP hS hL
          exact lv_ifnonnullN hx hb hd (K H locs ls hP hS hL)
      · obtain ⟨t, ht, ⟨h1, h2⟩ | ⟨h1, h2⟩⟩ := xjc_inv ho
        · cases h2
          intro H locs ls hP hS hL
          exact lv_ifnonnull hx hb hd ht (K H locs ls hP hS hL)
        · cases h1
      · cases ho
    · cases ho
  | if_acmp cd off =>
    simp only [xjmp] at ho
    split at ho
    · rename_i hl
      subst hl
      unfold xjacmp at ho
      split at ho
      · rename_i y x r
        split at ho
        · rename_i rx ry hrx hry
          obtain ⟨t, ht, hc⟩ := xjc_inv ho
          intro H locs ls hP hS hL
          have K := K H locs ls hP hS hL
          rw [xrf_inv hrx, xrf_inv hry]
          show W _ _ _ _ _ _ _ _ _ _ _ _ _ _ _ (F0 m pc ls (xemb _ (va_rf ry) :: xemb _ (va_rf rx) :: List.map _ r))
          rw [xemb_rf, xemb_rf]
          cases cd
          · refine lv_acmp_eq hx hb hd ht (fun q => ?_) (fun q => ?_)
            · have q := xad_injO hsb q
              rcases hc with ⟨h1, h2⟩ | ⟨h1, h2⟩
              · cases h2; exact K
              · simp [q] at h1
            · have q : ¬ rx = ry := fun z => q (by rw [z])
              rcases hc with ⟨h1, h2⟩ | ⟨h1, h2⟩
              · simp [q] at h1
              · cases h2; exact K
          · refine lv_acmp_ne hx hb hd ht (fun q => ?_) (fun q => ?_)
            · have q : ¬ rx = ry := fun z => q (by rw [z])
              rcases hc with ⟨h1, h2⟩ | ⟨h1, h2⟩
              · cases h2; exact K
              · simp [q] at h1
            · have q := xad_injO hsb q
              rcases hc with ⟨h1, h2⟩ | ⟨h1, h2⟩
              · simp [q] at h1
              · cases h2; exact K
        · cases ho
      · cases ho
    · cases ho
  | tableswitch d lo hi offs =>
    simp only [xjmp] at ho
    unfold xjtab at ho
    split at ho
    · split at ho
      · rename_i hq
        obtain ⟨h1, h2⟩ := xmap_inv ho
        cases h2
        intro H locs ls hP hS hL
        exact lv_tableOut hx hb hd hq (xtg_inv h1) (K H locs ls hP hS hL)
      · rename_i hq
        split at ho
        · rename_i off hoff
          obtain ⟨h1, h2⟩ := xmap_inv ho
          cases h2
          intro H locs ls hP hS hL
          exact lv_tableIn hx hb hd (fun z => hq (Or.inl z)) (fun z => hq (Or.inr z)) hoff (xtg_inv h1) (K H locs ls hP hS hL)
        · cases ho
    · cases ho
  | lookupswitch d ps =>
    simp only [xjmp] at ho
    unfold xjlook at ho
    split at ho
    · split at ho
      · rename_i hq
        obtain ⟨h1, h2⟩ := xmap_inv ho
        cases h2
        intro H locs ls hP hS hL
        exact lv_lookup hx hb hd hq rfl (xtg_inv h1) (K H locs ls hP hS hL)
      · cases ho
    · cases ho
  | _ => cases ho
end XJ
end
section
/-! Locals. -/
theorem xst1_len : ∀ (L : XL) (i : Nat) (v : Value), (xst1 L i v).length = L.length
  | [], _, _ => rfl
  | _ :: _, 0, _ => rfl
  | x :: L, 1, v => by simp only [xst1, List.length_cons, xst1_len L 0 v]
  | x :: L, i + 2, v => by simp only [xst1, List.length_cons, xst1_len L (i + 1) v]
theorem xst2_len : ∀ (L : XL) (i : Nat) (v : Value), (xst2 L i v).length = L.length
  | [], 0, _ => rfl
  | [], _ + 1, _ => by simp [xst2]
  | [_], 0, _ => rfl
  | _ :: _ :: _, 0, _ => rfl
  | x :: L, 1, v => by simp only [xst2, List.length_cons, xst2_len L 0 v]
  | x :: L, i + 2, v => by simp only [xst2, List.length_cons, xst2_len L (i + 1) v]
theorem xld_cons0 (x : Option Value) (L : XL) : xld (x :: L) 0 = x := by simp [xld]
theorem xld_consS (x : Option Value) (L : XL) (j : Nat) : xld (x :: L) (j + 1) = xld L j := by simp [xld]
theorem xld_nil (j : Nat) : xld [] j = none := by simp [xld]
theorem xst1_ld : ∀ (L : XL) (i : Nat) (v : Value) (j : Nat) (w : Value), xld (xst1 L i v) j = some w → (j = i ∧ w = v) ∨ (j ≠ i ∧ xld L j = some w ∧ ¬ (j + 1 = i ∧ w.category = 2))
  | [], i, v, j, w, h => by simp only [xst1, xld_nil] at h; cases h
  | x :: L, 0, v, 0, w, h => by simp only [xst1, xld_cons0] at h; exact Or.inl ⟨rfl, (Option.some.inj h).symm⟩
  | x :: L, 0, v, j + 1, w, h => by
    simp only [xst1, xld_consS] at h
    refine Or.inr ⟨by omega, by rw [xld_consS]; exact h, fun q => by omega⟩
  | x :: L, 1, v, 0, w, h => by
    simp only [xst1, xld_cons0] at h
    split at h
    · cases h
    · rename_i hc
      refine Or.inr ⟨by omega, by rw [xld_cons0]; exact h, fun q => hc ?_⟩
      rw [h]
      simp [xcat2, q.2]
  | x :: L, 1, v, j + 1, w, h => by
    simp only [xst1, xld_consS] at h
    rcases xst1_ld L 0 v j w h with ⟨h1, h2⟩ | ⟨h1, h2, h3⟩
    · exact Or.inl ⟨by omega, h2⟩
    · exact Or.inr ⟨by omega, by rw [xld_consS]; exact h2, fun q => by omega⟩
  | x :: L, i + 2, v, 0, w, h => by
    simp only [xst1, xld_cons0] at h
    exact Or.inr ⟨by omega, by rw [xld_cons0]; exact h, fun q => by omega⟩
  | x :: L, i + 2, v, j + 1, w, h => by
    simp only [xst1, xld_consS] at h
    rcases xst1_ld L (i + 1) v j w h with ⟨h1, h2⟩ | ⟨h1, h2, h3⟩
    · exact Or.inl ⟨by omega, h2⟩
    · exact Or.inr ⟨by omega, by rw [xld_consS]; exact h2, fun q => h3 ⟨by omega, q.2⟩⟩
theorem xst2_ld : ∀ (L : XL) (i : Nat) (v : Value) (j : Nat) (w : Value), i + 1 < L.length → xld (xst2 L i v) j = some w → (j = i ∧ w = v) ∨ (j ≠ i ∧ j ≠ i + 1 ∧ xld L j = some w ∧ ¬ (j + 1 = i ∧ w.category = 2))
  | [], i, v, j, w, hl, h => by simp at hl
  | [x], i, v, j, w, hl, h => by simp at hl
  | x :: y :: L, 0, v, 0, w, hl, h => by simp only [xst2, xld_cons0] at h; exact Or.inl ⟨rfl, (Option.some.inj h).symm⟩
  | x :: y :: L, 0, v, 1, w, hl, h => by simp only [xst2, xld_consS, xld_cons0] at h; cases h
  | x :: y :: L, 0, v, j + 2, w, hl, h => by
    simp only [xst2, xld_consS] at h
    exact Or.inr ⟨by omega, by omega, by rw [xld_consS, xld_consS]; exact h, fun q => by omega⟩
  | x :: y :: L, 1, v, 0, w, hl, h => by
    simp only [xst2, xld_cons0] at h
    split at h
    · cases h
    · rename_i hc
      refine Or.inr ⟨by omega, by omega, by rw [xld_cons0]; exact h, fun q => hc ?_⟩
      rw [h]
      simp [xcat2, q.2]
  | x :: y :: L, 1, v, j + 1, w, hl, h => by
    simp only [xst2, xld_consS] at h
    rcases xst2_ld (y :: L) 0 v j w (by simp at hl ⊢; omega) h with ⟨h1, h2⟩ | ⟨h1, h2, h3, h4⟩
    · exact Or.inl ⟨by omega, h2⟩
    · exact Or.inr ⟨by omega, by omega, by rw [xld_consS]; exact h3, fun q => by omega⟩
  | x :: y :: L, i + 2, v, 0, w, hl, h => by
    simp only [xst2, xld_cons0] at h
    exact Or.inr ⟨by omega, by omega, by rw [xld_cons0]; exact h, fun q => by omega⟩
  | x :: y :: L, i + 2, v, j + 1, w, hl, h => by
    simp only [xst2, xld_consS] at h
    rcases xst2_ld (y :: L) (i + 1) v j w (by simp at hl ⊢; omega) h with ⟨h1, h2⟩ | ⟨h1, h2, h3, h4⟩
    · exact Or.inl ⟨by omega, h2⟩
    · exact Or.inr ⟨by omega, by omega, by rw [xld_consS]; exact h3, fun q => h4 ⟨by omega, q.2⟩⟩
def xfacts (ad : Nat → Nat) (L : XL) : List (Nat × Value) := (List.range L.length).filterMap (fun j => (xld L j).map (fun v => (j, xemb ad v)))
theorem xfacts_mem {ad : Nat → Nat} {L : XL} {j : Nat} {v : Value} (h : xld L j = some v) : (j, xemb ad v) ∈ xfacts ad L := by
  refine List.mem_filterMap.mpr ⟨j, List.mem_range.mpr ?_, by rw [h]; rfl⟩
  unfold xld at h
  cases hj : L[j]? with
  | none => rw [hj] at h; cases h
  | some q => exact (List.getElem?_eq_some_iff.mp hj).1
theorem XLH.has {ad : Nat → Nat} {ls : Array Slot} {n : Nat} {L : XL} (h : XLH ad ls n L) : lv_has ls n (xfacts ad L) := by
  refine ⟨h.1, h.2.2.1, fun q hq => ?_⟩
  obtain ⟨j, -, hj⟩ := List.mem_filterMap.mp hq
  cases hv : xld L j with
  | none => rw [hv] at hj; cases hj
  | some v =>
    rw [hv] at hj
    cases hj
    exact h.2.2.2 j v hv
theorem XLH.st1 {ad : Nat → Nat} {ls ls' : Array Slot} {n i : Nat} {L : XL} {v : Value} (h : XLH ad ls n L) (h' : lv_has ls' n ((i, xemb ad v) :: (xfacts ad L).filter (fun q => !(q.1 == i) && !(q.1 + 1 == i && q.2.category == 2)))) : XLH ad ls' n (xst1 L i v) := by
  refine ⟨h'.1, (xst1_len L i v).trans h.2.1, h'.2.1, fun j w hw => ?_⟩
  rcases xst1_ld L i v j w hw with ⟨rfl, rfl⟩ | ⟨h1, h2, h3⟩
  · exact h'.2.2 _ List.mem_cons_self
  · refine h'.2.2 (j, xemb ad w) (List.mem_cons_of_mem _ (List.mem_filter.mpr ⟨xfacts_mem h2, ?_⟩))
    simp only [Bool.and_eq_true, Bool.not_eq_true', beq_eq_false_iff_ne, xemb_cat]
    refine ⟨h1, ?_⟩
    cases hq : (j + 1 == i && w.category == 2) with
    | false => rfl
    | true => simp only [Bool.and_eq_true, beq_iff_eq] at hq; exact absurd hq h3
theorem XLH.st2 {ad : Nat → Nat} {ls ls' : Array Slot} {n i : Nat} {L : XL} {v : Value} (h : XLH ad ls n L) (hi : i + 1 < L.length) (h' : lv_has ls' n ((i, xemb ad v) :: (xfacts ad L).filter (fun q => !(q.1 == i) && (!(q.1 == i + 1) && !(q.1 + 1 == i && q.2.category == 2))))) : XLH ad ls' n (xst2 L i v) := by
  refine ⟨h'.1, (xst2_len L i v).trans h.2.1, h'.2.1, fun j w hw => ?_⟩
  rcases xst2_ld L i v j w hi hw with ⟨rfl, rfl⟩ | ⟨h1, h2, h3, h4⟩
  · exact h'.2.2 _ List.mem_cons_self
  · refine h'.2.2 (j, xemb ad w) (List.mem_cons_of_mem _ (List.mem_filter.mpr ⟨xfacts_mem h3, ?_⟩))
    simp only [Bool.and_eq_true, Bool.not_eq_true', beq_eq_false_iff_ne, xemb_cat]
    refine ⟨h1, h2, ?_⟩
    cases hq : (j + 1 == i && w.category == 2) with
    | false => rfl
    | true => simp only [Bool.and_eq_true, beq_iff_eq] at hq; exact absurd hq h4
theorem xlI_inv {L L' : XL} {i : Nat} {st st' : List Value} (h : xlI L i st = some (L', st')) : ∃ x, xld L i = some (.int x) ∧ L' = L ∧ st' = .int x :: st := by
  unfold xlI at h
  split at h
  · cases h; exact ⟨_, by assumption, rfl, rfl⟩
  · cases h
theorem xlJ_inv {L L' : XL} {i : Nat} {st st' : List Value} (h : xlJ L i st = some (L', st')) : ∃ x, xld L i = some (.long x) ∧ L' = L ∧ st' = .long x :: st := by
  unfold xlJ at h
  split at h
  · cases h; exact ⟨_, by assumption, rfl, rfl⟩
  · cases h
theorem xlA_inv {L L' : XL} {i : Nat} {st st' : List Value} (h : xlA L i st = some (L', st')) : L' = L ∧ ((∃ x, xld L i = some (.ref x) ∧ st' = .ref x :: st) ∨ (xld L i = some .null ∧ st' = .null :: st)) := by
  unfold xlA at h
  split at h
  · cases h; exact ⟨rfl, Or.inl ⟨_, by assumption, rfl⟩⟩
  · cases h; exact ⟨rfl, Or.inr ⟨by assumption, rfl⟩⟩
  · cases h
theorem xsI1_inv {L L' : XL} {i : Nat} {st st' : List Value} (h : xsI1 L i st = some (L', st')) : ∃ x, st = .int x :: st' ∧ L' = xst1 L i (.int x) ∧ i < L.length := by
  unfold xsI1 at h
  split at h
  · split at h
    · cases h; exact ⟨_, rfl, rfl, by assumption⟩
    · cases h
  · cases h
theorem xsJ1_inv {L L' : XL} {i : Nat} {st st' : List Value} (h : xsJ1 L i st = some (L', st')) : ∃ x, st = .long x :: st' ∧ L' = xst2 L i (.long x) ∧ i + 1 < L.length := by
  unfold xsJ1 at h
  split at h
  · split at h
    · cases h; exact ⟨_, rfl, rfl, by assumption⟩
    · cases h
  · cases h
theorem xsA1_inv {L L' : XL} {i : Nat} {st st' : List Value} (h : xsA1 L i st = some (L', st')) : i < L.length ∧ ((∃ x, st = .ref x :: st' ∧ L' = xst1 L i (.ref x)) ∨ (st = .null :: st' ∧ L' = xst1 L i .null)) := by
  unfold xsA1 at h
  split at h
  · split at h
    · cases h; exact ⟨by assumption, Or.inl ⟨_, rfl, rfl⟩⟩
    · cases h
  · split at h
    · cases h; exact ⟨by assumption, Or.inr ⟨rfl, rfl⟩⟩
    · cases h
  · cases h
theorem xinc_inv {L L' : XL} {i : Nat} {n : Int} {st st' : List Value} (h : xinc L i n st = some (L', st')) : ∃ x, xld L i = some (.int x) ∧ i < L.length ∧ L' = xst1 L i (.int (x + Int32.ofInt n)) ∧ st' = st := by
  unfold xinc at h
  split at h
  · split at h
    · cases h; exact ⟨_, by assumption, by assumption, rfl, rfl⟩
    · cases h
  · cases h
section XLO
variable {p : Program} {l : Launch} {e : Env} {R : Room} {s : State} {m : MethodId} {args : Array Value} {below : List Frame} {meth : Method} {c : Code} {Q : State → Prop} {D : va_G} {ca : Nat → ClassId} {b scr z0 s0 k pc pc' len : Nat} {L L' : XL} {st st' r : List Value} {h : XH} {i : Instr}
set_option maxHeartbeats 4000000 in
theorem xloc_sound (hx : p.tables.exec = Jvm.exec) (hb : c.code = xcode k) (hd : decode (xcode k) pc = .ok (i, xlen i)) (ho : xloc i L st = some (L', st')) (K : XW (p, l, e, R, s, m, args, below, meth, c, Q, D, ca, b, scr, z0, s0) k (pc + xlen i) L' st' h) : XW (p, l, e, R, s, m, args, below, meth, c, Q, D, ca, b, scr, z0, s0) k pc L st h := by
  intro H locs ls hP hS hL
  have hn := hL.2.1
  cases i with
  | iload i => obtain ⟨x, h1, rfl, rfl⟩ := xlI_inv ho; exact lv_iload hx hb hd (hL.2.2.2 _ _ h1) (K H locs ls hP hS hL)
  | iload_n i => obtain ⟨x, h1, rfl, rfl⟩ := xlI_inv ho; exact lv_iload_n hx hb hd rfl (hL.2.2.2 _ _ h1) (K H locs ls hP hS hL)
  | lload i => obtain ⟨x, h1, rfl, rfl⟩ := xlJ_inv ho; exact lv_lload hx hb hd (hL.2.2.2 _ _ h1) (K H locs ls hP hS hL)
  | lload_n i => obtain ⟨x, h1, rfl, rfl⟩ := xlJ_inv ho; exact lv_lload_n hx hb hd rfl (hL.2.2.2 _ _ h1) (K H locs ls hP hS hL)
  | aload i =>
    obtain ⟨rfl, ⟨x, h1, rfl⟩ | ⟨h1, rfl⟩⟩ := xlA_inv ho
    · exact lv_aload hx hb hd (hL.2.2.2 _ _ h1) (K H locs ls hP hS hL)
    · exact lv_aloadN hx hb hd (hL.2.2.2 _ _ h1) (K H locs ls hP hS hL)
  | aload_n i =>
    obtain ⟨rfl, ⟨x, h1, rfl⟩ | ⟨h1, rfl⟩⟩ := xlA_inv ho
    · exact lv_aload_n hx hb hd rfl (hL.2.2.2 _ _ h1) (K H locs ls hP hS hL)
    · exact lv_aload_nN hx hb hd rfl (hL.2.2.2 _ _ h1) (K H locs ls hP hS hL)
  | istore i =>
    obtain ⟨x, rfl, rfl, h1⟩ := xsI1_inv ho
    exact lv_istore hx hb hd hL.has (by omega) rfl (fun ls' h' => K H locs ls' hP hS (hL.st1 (v := .int x) h'))
  | istore_n i =>
    obtain ⟨x, rfl, rfl, h1⟩ := xsI1_inv ho
    exact lv_istore_n hx hb hd rfl hL.has (by omega) rfl (fun ls' h' => K H locs ls' hP hS (hL.st1 (v := .int x) h'))
  | lstore i =>
    obtain ⟨x, rfl, rfl, h1⟩ := xsJ1_inv ho
    exact lv_lstore hx hb hd hL.has (by omega) rfl (fun ls' h' => K H locs ls' hP hS (hL.st2 (v := .long x) h1 h'))
  | lstore_n i =>
    obtain ⟨x, rfl, rfl, h1⟩ := xsJ1_inv ho
    exact lv_lstore_n hx hb hd rfl hL.has (by omega) rfl (fun ls' h' => K H locs ls' hP hS (hL.st2 (v := .long x) h1 h'))
  | astore i =>
    obtain ⟨h1, ⟨x, rfl, rfl⟩ | ⟨rfl, rfl⟩⟩ := xsA1_inv ho
    · exact lv_astore hx hb hd hL.has (by omega) rfl (fun ls' h' => K H locs ls' hP hS (hL.st1 (v := .ref x) h'))
    · exact lv_astoreN hx hb hd hL.has (by omega) rfl (fun ls' h' => K H locs ls' hP hS (hL.st1 (v := .null) h'))
  | astore_n i =>
    obtain ⟨h1, ⟨x, rfl, rfl⟩ | ⟨rfl, rfl⟩⟩ := xsA1_inv ho
    · exact lv_astore_n hx hb hd rfl hL.has (by omega) rfl (fun ls' h' => K H locs ls' hP hS (hL.st1 (v := .ref x) h'))
    · exact lv_astore_nN hx hb hd rfl hL.has (by omega) rfl (fun ls' h' => K H locs ls' hP hS (hL.st1 (v := .null) h'))
  | iinc i n =>
    obtain ⟨x, h1, h2, rfl, rfl⟩ := xinc_inv ho
    obtain ⟨q, hq⟩ := List.getElem?_of_mem (xfacts_mem (ad := xad b scr) h1)
    exact lv_iinc hx hb hd hL.has hq rfl (by omega) rfl (fun ls' h' => K H locs ls' hP hS (hL.st1 (v := .int (x + Int32.ofInt n)) h'))
  | _ => cases ho
end XLO
end
section
/-! Memory: fields, arrays, new cells. -/
def xtys (ca : Nat → ClassId) : List (ClassId × FieldType) := [(ca 0, .int), (ca 1, .long), (ca 2, .boolean), (ca 3, .object "BranchGoals$Case"), (ca 4, .object "BranchGoals$Method")]
theorem xad_pos {b scr a : Nat} (h : 1 ≤ a) : xad b scr a = b + (a - 1) := by
  cases a with
  | zero => omega
  | succ a => rfl
theorem xkd_in {h : XH} {a : Nat} (ht : (xkd h a).1 ≠ 999) : 1 ≤ a ∧ a < xhz h ∧ xhk h a = xkd h a := by
  unfold xkd at ht ⊢
  by_cases hc : 1 ≤ a ∧ a < xhz h
  · rw [if_pos hc]; exact ⟨hc.1, hc.2, rfl⟩
  · rw [if_neg hc] at ht; exact absurd rfl ht
theorem xw_at {ad : Nat → Nat} {ca : Nat → ClassId} {b scr a : Nat} {h : XH} (h1 : 1 ≤ a) (h2 : a < xhz h) : (xw ad ca b h)[a - 1]? = some (xad b scr a, xcell ad ca h a) := by
  unfold xw
  rw [List.getElem?_map, List.getElem?_range (by omega)]
  simp only [Option.map_some]
  rw [xad_pos h1, Nat.sub_add_cancel h1]
theorem xw_D (ad : Nat → Nat) (ca : Nat → ClassId) (b : Nat) (h : XH) : va_D (fun q => b ≤ q) (xw ad ca b h) := by
  have key : ∀ (i : Nat) (q : Nat × va_E), (xw ad ca b h)[i]? = some q → q.1 = b + i := by
    intro i q hq
    unfold xw at hq
    rw [List.getElem?_map] at hq
    cases hr : (List.range (xhz h - 1))[i]? with
    | none => rw [hr] at hq; cases hq
    | some j =>
      rw [hr] at hq
      cases hq
      have := List.getElem?_eq_some_iff.mp hr
      obtain ⟨hl, he⟩ := this
      rw [List.getElem_range] at he
      show b + j = b + i
      omega
  refine ⟨fun i j p q hp hq e => ?_, fun k q hq => ?_⟩
  · have h1 := key i p hp
    have h2 := key j q hq
    omega
  · have h1 := key k q hq
    show b ≤ q.1
    omega
theorem xw_set {ad : Nat → Nat} {ca : Nat → ClassId} {b scr a : Nat} {h h' : XH} (hz : xhz h' = xhz h) (h1 : 1 ≤ a) (h2 : a < xhz h) (ho : ∀ x, x ≠ a → xcell ad ca h' x = xcell ad ca h x) {e : va_E} (he : xcell ad ca h' a = e) : (xw ad ca b h).set (a - 1) (xad b scr a, e) = xw ad ca b h' := by
  subst he
  apply List.ext_getElem?
  intro i
  rw [List.getElem?_set]
  have hl : (xw ad ca b h).length = xhz h - 1 := by simp [xw]
  by_cases hi : a - 1 = i
  · subst hi
    rw [if_pos rfl, if_pos (by omega), xw_at (scr := scr) h1 (by omega)]
  · rw [if_neg hi]
    by_cases hlt : i < xhz h - 1
    · unfold xw
      rw [List.getElem?_map, List.getElem?_map, List.getElem?_range hlt, List.getElem?_range (by omega)]
      simp only [Option.map_some]
      rw [ho (i + 1) (by omega)]
    · rw [List.getElem?_eq_none (by omega), List.getElem?_eq_none (by simp [xw]; omega)]
theorem xw_obj {ad : Nat → Nat} {ca : Nat → ClassId} {b scr a ci n : Nat} {h : XH} (e : xkd h a = (ci, n)) (hci : ci < 100) : (xw ad ca b h)[a - 1]? = some (xad b scr a, .inr (ci, (List.range n).map (fun j => xemb ad (xfv (xft ci j) (xhI h a) (xhJ h a) (xhR h a) j)))) := by
  obtain ⟨h1, h2, h3⟩ := xkd_in (h := h) (a := a) (by rw [e]; show ci ≠ 999; omega)
  rw [xw_at (scr := scr) h1 h2]
  unfold xcell xcl0
  rw [h3, e, if_pos hci]
theorem xc_int {ad : Nat → Nat} {ca : Nat → ClassId} {t : Nat × Nat} {I : Nat → Int32} {J : Nat → Int64} {R : Nat → Option Nat} (e : t.1 = 100) : xcl0 ad ca t I J R = .inl (ca 0, t.2, .inl I) := by
  unfold xcl0
  rw [e]
  rfl
theorem xc_long {ad : Nat → Nat} {ca : Nat → ClassId} {t : Nat × Nat} {I : Nat → Int32} {J : Nat → Int64} {R : Nat → Option Nat} (e : t.1 = 101) : xcl0 ad ca t I J R = .inl (ca 1, t.2, .inr (.inl J)) := by
  unfold xcl0
  rw [e]
  rfl
theorem xc_bool {ad : Nat → Nat} {ca : Nat → ClassId} {t : Nat × Nat} {I : Nat → Int32} {J : Nat → Int64} {R : Nat → Option Nat} (e : t.1 = 102) : xcl0 ad ca t I J R = .inl (ca 2, t.2, .inl I) := by
  unfold xcl0
  rw [e]
  rfl
theorem xc_ref {ad : Nat → Nat} {ca : Nat → ClassId} {t : Nat × Nat} {I : Nat → Int32} {J : Nat → Int64} {R : Nat → Option Nat} {q : Nat} (e : t.1 = 103 + q) : xcl0 ad ca t I J R = .inl (ca (3 + q), t.2, .inr (.inr (.inr (.inr (fun i => (R i).map ad))))) := by
  unfold xcl0
  rw [e, if_neg (by omega), if_neg (by omega), if_neg (by omega), show 103 + q - 100 = 3 + q by omega]
theorem xw_arr {ad : Nat → Nat} {ca : Nat → ClassId} {b scr a : Nat} {h : XH} (ht : (xkd h a).1 ≠ 999) : (xw ad ca b h)[a - 1]? = some (xad b scr a, xcl0 ad ca (xkd h a) (xhI h a) (xhJ h a) (xhR h a)) := by
  obtain ⟨h1, h2, h3⟩ := xkd_in ht
  rw [xw_at (scr := scr) h1 h2]
  unfold xcell
  rw [h3]
theorem xinb_in {i : Int32} {n : Nat} (h : xinb i n = true) : vp_in i n := by
  have h2 : ¬ (i < 0 ∨ n ≤ i.toNatClampNeg) := of_decide_eq_true h
  exact h2
theorem xu_ne {α : Type} {f : Nat → Nat → α} {a i x : Nat} {v : α} (h : x ≠ a) : xu f a i v x = f x := by
  funext y
  unfold xu
  rw [if_neg (fun q => h q.1)]
theorem xu_at {α : Type} {f : Nat → Nat → α} {a i : Nat} {v : α} (y : Nat) : xu f a i v a y = if y = i then v else f a y := by
  unfold xu
  by_cases h : y = i
  · rw [if_pos ⟨rfl, h⟩, if_pos h]
  · rw [if_neg (fun q => h q.2), if_neg h]
theorem xrow_ne {α : Type} {f : Nat → Nat → α} {a x : Nat} {g : Nat → α} (h : x ≠ a) : xrow f a g x = f x := by
  funext y
  unfold xrow
  rw [if_neg h]
theorem xrow_at {α : Type} {f : Nat → Nat → α} {a : Nat} {g : Nat → α} : xrow f a g a = g := by
  funext y
  unfold xrow
  rw [if_pos rfl]
theorem xfp_obj {h h' : XH} {a j : Nat} {v : Value} {ty : FieldType} (hty : (∃ n, ty = .object n) ∨ ∃ t, ty = .array t) (e : xfp ty h a j v = some h') : ∃ r, v = va_rf r ∧ h' = xsR h (xu (xhR h) a j r) := by
  rcases hty with ⟨n, rfl⟩ | ⟨t, rfl⟩ <;> cases v <;> first | (cases e; exact ⟨none, rfl, rfl⟩) | (cases e; exact ⟨some _, rfl, rfl⟩) | cases e
theorem xfp_spec {ty : FieldType} {h h' : XH} {a j : Nat} {v : Value} (e : xfp ty h a j v = some h') : xhz h' = xhz h ∧ xhs h' = xhs h ∧ xhk h' = xhk h ∧ (∀ x, x ≠ a → xhI h' x = xhI h x ∧ xhJ h' x = xhJ h x ∧ xhR h' x = xhR h x) ∧ (∀ ty' q, q ≠ j → xfv ty' (xhI h' a) (xhJ h' a) (xhR h' a) q = xfv ty' (xhI h a) (xhJ h a) (xhR h a) q) ∧ xfv ty (xhI h' a) (xhJ h' a) (xhR h' a) j = v ∧ ∀ ad, narrow ty (xemb ad v) = xemb ad v ∧ fits ty (xemb ad v) = true := by
  have gi : ∀ x : Int32, xhz (xsI h (xu (xhI h) a j x)) = xhz h ∧ xhs (xsI h (xu (xhI h) a j x)) = xhs h ∧ xhk (xsI h (xu (xhI h) a j x)) = xhk h ∧ (∀ y, y ≠ a → xhI (xsI h (xu (xhI h) a j x)) y = xhI h y ∧ xhJ (xsI h (xu (xhI h) a j x)) y = xhJ h y ∧ xhR (xsI h (xu (xhI h) a j x)) y = xhR h y) ∧ (∀ ty' q, q ≠ j → xfv ty' (xhI (xsI h (xu (xhI h) a j x)) a) (xhJ (xsI h (xu (xhI h) a j x)) a) (xhR (xsI h (xu (xhI h) a j x)) a) q = xfv ty' (xhI h a) (xhJ h a) (xhR h a) q) ∧ xhI (xsI h (xu (xhI h) a j x)) a j = x := by
    intro x
    refine ⟨rfl, rfl, rfl, fun y hy => ⟨xu_ne hy, rfl, rfl⟩, fun ty' q hq => ?_, ?_⟩
    · have : xhI (xsI h (xu (xhI h) a j x)) a q = xhI h a q := by
        show xu (xhI h) a j x a q = _
        rw [xu_at, if_neg hq]
      unfold xfv
      cases ty' <;> first | rfl | (show Value.int _ = Value.int _; rw [this])
    · show xu (xhI h) a j x a j = x
      rw [xu_at, if_pos rfl]
  have gr : ∀ r : Option Nat, xhz (xsR h (xu (xhR h) a j r)) = xhz h ∧ xhs (xsR h (xu (xhR h) a j r)) = xhs h ∧ xhk (xsR h (xu (xhR h) a j r)) = xhk h ∧ (∀ y, y ≠ a → xhI (xsR h (xu (xhR h) a j r)) y = xhI h y ∧ xhJ (xsR h (xu (xhR h) a j r)) y = xhJ h y ∧ xhR (xsR h (xu (xhR h) a j r)) y = xhR h y) ∧ (∀ ty' q, q ≠ j → xfv ty' (xhI (xsR h (xu (xhR h) a j r)) a) (xhJ (xsR h (xu (xhR h) a j r)) a) (xhR (xsR h (xu (xhR h) a j r)) a) q = xfv ty' (xhI h a) (xhJ h a) (xhR h a) q) ∧ xhR (xsR h (xu (xhR h) a j r)) a j = r := by
    intro x
    refine ⟨rfl, rfl, rfl, fun y hy => ⟨rfl, rfl, xu_ne hy⟩, fun ty' q hq => ?_, ?_⟩
    · have : xhR (xsR h (xu (xhR h) a j x)) a q = xhR h a q := by
        show xu (xhR h) a j x a q = _
        rw [xu_at, if_neg hq]
      unfold xfv
      cases ty' <;> first | rfl | (show va_rf _ = va_rf _; rw [this])
    · show xu (xhR h) a j x a j = x
      rw [xu_at, if_pos rfl]
  have gro : ∀ ty, ((∃ n, ty = .object n) ∨ ∃ t, ty = .array t) → ∀ (r : Option Nat) (ad : Nat → Nat), narrow ty (xemb ad (va_rf r)) = xemb ad (va_rf r) ∧ fits ty (xemb ad (va_rf r)) = true := by
    intro ty hty r ad
    rcases hty with ⟨n, rfl⟩ | ⟨t, rfl⟩ <;> cases r <;> exact ⟨rfl, rfl⟩
  cases ty with
  | int =>
    cases v with
    | int x => cases e; obtain ⟨a1, a2, a3, a4, a5, a6⟩ := gi x; exact ⟨a1, a2, a3, a4, a5, congrArg Value.int a6, fun _ => ⟨rfl, rfl⟩⟩
    | _ => cases e
  | boolean =>
    cases v with
    | int x =>
      simp only [xfp] at e
      split at e
      · rename_i hx
        cases e
        obtain ⟨a1, a2, a3, a4, a5, a6⟩ := gi x
        refine ⟨a1, a2, a3, a4, a5, congrArg Value.int a6, fun _ => ?_⟩
        rcases hx with rfl | rfl
        · exact ⟨(by decide : narrow FieldType.boolean (Value.int 0) = Value.int 0), (by decide : fits FieldType.boolean (Value.int 0) = true)⟩
        · exact ⟨(by decide : narrow FieldType.boolean (Value.int 1) = Value.int 1), (by decide : fits FieldType.boolean (Value.int 1) = true)⟩
      · cases e
    | _ => cases e
  | long =>
    cases v with
    | long x =>
      cases e
      refine ⟨rfl, rfl, rfl, fun y hy => ⟨rfl, xu_ne hy, rfl⟩, fun ty' q hq => ?_, ?_, fun _ => ⟨rfl, rfl⟩⟩
      · have : xhJ (xsJ h (xu (xhJ h) a j x)) a q = xhJ h a q := by
          show xu (xhJ h) a j x a q = _
          rw [xu_at, if_neg hq]
        unfold xfv
        cases ty' <;> first | rfl | (show Value.long _ = Value.long _; rw [this])
      · show Value.long (xu (xhJ h) a j x a j) = _
        rw [xu_at, if_pos rfl]
    | _ => cases e
  | object n =>
    obtain ⟨r, rfl, rfl⟩ := xfp_obj (Or.inl ⟨n, rfl⟩) e
    obtain ⟨a1, a2, a3, a4, a5, a6⟩ := gr r
    exact ⟨a1, a2, a3, a4, a5, congrArg va_rf a6, fun ad => gro _ (Or.inl ⟨n, rfl⟩) r ad⟩
  | array t =>
    obtain ⟨r, rfl, rfl⟩ := xfp_obj (Or.inr ⟨t, rfl⟩) e
    obtain ⟨a1, a2, a3, a4, a5, a6⟩ := gr r
    exact ⟨a1, a2, a3, a4, a5, congrArg va_rf a6, fun ad => gro _ (Or.inr ⟨t, rfl⟩) r ad⟩
  | _ => cases e
section XME
variable {p : Program} {l : Launch} {e : Env} {R : Room} {s : State} {m : MethodId} {args : Array Value} {below : List Frame} {meth : Method} {c : Code} {Q : State → Prop} {D : va_G} {ca : Nat → ClassId} {b scr z0 s0 k pc pc' len : Nat} {L L' : XL} {st st' r : List Value} {h h' : XH} {i : Instr} {S : XS}
theorem xgetf_sound {idx : Nat} (hx : p.tables.exec = Jvm.exec) (hb : c.code = xcode k) (hown : s.vm.findClass (xcn (xkc k)) = some m.cls) (hts : ∀ w ∈ xgood, w.before args s = true) (hK : va_K D xcls (xtys ca) s)
    (hd : decode (xcode k) pc = .ok (.getfield idx, 3)) (ho : xgetf k idx h st = some (st', h')) (K : XW (p, l, e, R, s, m, args, below, meth, c, Q, D, ca, b, scr, z0, s0) k (pc + 3) L st' h') : XW (p, l, e, R, s, m, args, below, meth, c, Q, D, ca, b, scr, z0, s0) k pc L st h := by
  unfold xgetf at ho
  split at ho
  · split at ho
    · split at ho
      · rename_i a r _ ci j hf hk
        cases ho
        obtain ⟨hci, hj, hl⟩ := xfld_ok hf
        intro H locs ls hP hS hL
        refine va_get (D := D) (ci := ci) (C := xcn ci) (T := xTT ci) (N := xnf ci) hx hb hts (xws_in hci) hown hK hP (a - 1) (xw_obj (scr := scr) hk (by omega)) (xcls_at hci) j hj (hts _ hl) (fun _ q => q) ?_ hd (K H locs ls hP hS hL)
        rw [List.getElem?_map, List.getElem?_range hj]
        rfl
      · cases ho
    · cases ho
  · cases ho
theorem xputf_sound {idx : Nat} (hx : p.tables.exec = Jvm.exec) (hb : c.code = xcode k) (hown : s.vm.findClass (xcn (xkc k)) = some m.cls) (hts : ∀ w ∈ xgood, w.before args s = true) (hK : va_K D xcls (xtys ca) s) (hin : (xyn k).name = "<init>" → meth.name = "<init>")
    (hd : decode (xcode k) pc = .ok (.putfield idx, 3)) (ho : xputf k idx h st = some (st', h')) (K : XW (p, l, e, R, s, m, args, below, meth, c, Q, D, ca, b, scr, z0, s0) k (pc + 3) L st' h') : XW (p, l, e, R, s, m, args, below, meth, c, Q, D, ca, b, scr, z0, s0) k pc L st h := by
  unfold xputf at ho
  split at ho
  · split at ho
    · split at ho
      · rename_i v a r _ ci j hf hk
        obtain ⟨hk, hpo⟩ := hk
        cases hfp : xfp (xft ci j) h a j v with
        | none => rw [hfp] at ho; cases ho
        | some h2 =>
          rw [hfp] at ho
          cases ho
          obtain ⟨hci, hj, hl⟩ := xfld_ok hf
          obtain ⟨f1, f2, f3, f4, f5, f6, f7⟩ := xfp_spec hfp
          obtain ⟨g1, g2, g3⟩ := xkd_in (h := h) (a := a) (by rw [hk]; show ci ≠ 999; omega)
          have hset : (xw (xad b scr) ca b h).set (a - 1) (xad b scr a, .inr (ci, ((List.range (xnf ci)).map (fun j => xemb (xad b scr) (xfv (xft ci j) (xhI h a) (xhJ h a) (xhR h a) j))).set j (xemb (xad b scr) v))) = xw (xad b scr) ca b h' := by
            refine xw_set f1 g1 g2 (fun x hx => ?_) ?_
            · unfold xcell
              obtain ⟨q1, q2, q3⟩ := f4 x hx
              rw [f3, q1, q2, q3]
            · unfold xcell xcl0
              rw [f3, g3, hk, if_pos (show ci < 100 by omega)]
              congr 2
              apply List.ext_getElem?
              intro q
              rw [List.getElem?_set, List.getElem?_map, List.getElem?_map]
              by_cases hq : j = q
              · subst hq
                rw [if_pos rfl, List.getElem?_range hj, if_pos (by simpa using hj)]
                simp only [Option.map_some]
                rw [f6]
              · rw [if_neg hq]
                by_cases hql : q < xnf ci
                · rw [List.getElem?_range hql]
                  simp only [Option.map_some]
                  rw [f5 _ q (fun z => hq z.symm)]
                · rw [List.getElem?_eq_none (by simpa using hql)]
                  rfl
          intro H locs ls hP hS hL
          have hk2 : ∀ (H1 : Heap) (locs1 : List Loc), va_P D xcls ((xw (xad b scr) ca b h).set (a - 1) (xad b scr a, .inr (ci, ((List.range (xnf ci)).map (fun j => xemb (xad b scr) (xfv (xft ci j) (xhI h a) (xhJ h a) (xhR h a) j))).set j (xemb (xad b scr) v)))) H1 → va_D (fun q => b ≤ q) ((xw (xad b scr) ca b h).set (a - 1) (xad b scr a, .inr (ci, ((List.range (xnf ci)).map (fun j => xemb (xad b scr) (xfv (xft ci j) (xhI h a) (xhJ h a) (xhR h a) j))).set j (xemb (xad b scr) v)))) → va_S (fun q => b ≤ q) s.heap H1 locs1 → W p l e R s m args below meth c H1 locs1 (xhz h - z0) (xhs h - s0) Q (F0 m (pc + 3) ls (st'.map (xemb (xad b scr)))) := by
            intro H1 locs1 hP1 _ hS1
            rw [hset] at hP1
            have := K H1 locs1 ls hP1 hS1 hL
            rw [f1, f2] at this
            exact this
          cases hfin : (xTT ci j).2.2.2 with
          | false =>
            exact va_put (D := D) (ci := ci) (C := xcn ci) (T := xTT ci) (N := xnf ci) hx hb hts (xws_in hci) (xft ci) (xf_ty hci) (xf_nm hci) hown hK hP (xw_D _ _ _ _) hS (a - 1) (xw_obj (scr := scr) hk (by omega)) (xcls_at hci) j hj (hts _ hl) (fun _ q => q) hfin (xf_ty hci j hj) (f7 _).1 (f7 _).2 (by simpa using hj) hd hk2
          | true =>
            unfold xpok at hpo
            rw [xcls_at hci] at hpo
            simp only [hfin, Bool.not_true, Bool.false_or, Bool.and_eq_true, beq_iff_eq] at hpo
            exact va_putF (D := D) (ci := ci) (C := xcn ci) (T := xTT ci) (N := xnf ci) hx hb hts (xws_in hci) (xft ci) (xf_ty hci) (xf_nm hci) hown hK hP (xw_D _ _ _ _) hS (a - 1) (xw_obj (scr := scr) hk (by omega)) (xcls_at hci) j hj (hts _ hl) (fun _ q => q) hfin (hin hpo.1) (by rw [xf_dc hci j hj, hpo.2]) (xf_ty hci j hj) (f7 _).1 (f7 _).2 (by simpa using hj) hd hk2
      · cases ho
    · cases ho
  · cases ho
end XME
end
section
/-! Arrays, new cells, constants. -/
theorem xu_upd {f : Nat → Nat → Int32} {a i : Nat} {x : Int32} : xu f a i x a = upd (f a) i x := by
  funext y
  rw [xu_at]
  rfl
theorem xu_updL {f : Nat → Nat → Int64} {a i : Nat} {x : Int64} : xu f a i x a = vp_updL (f a) i x := by
  funext y
  rw [xu_at]
  rfl
theorem xwid_emb (ad : Nat → Nat) (r : List Value) : ((r.map (xemb ad)).map fun v => v.category).sum = xwid r := by
  unfold xwid
  rw [List.map_map]
  congr 1
  apply List.map_congr_left
  intro v _
  exact xemb_cat ad v
theorem xsetI {ad : Nat → Nat} {ca : Nat → ClassId} {b scr a i : Nat} {h : XH} {x : Int32} {e : va_E} (ht : (xkd h a).1 ≠ 999) (he : xcl0 ad ca (xkd h a) (xu (xhI h) a i x a) (xhJ h a) (xhR h a) = e) : (xw ad ca b h).set (a - 1) (xad b scr a, e) = xw ad ca b (xsI h (xu (xhI h) a i x)) := by
  obtain ⟨h1, h2, h3⟩ := xkd_in ht
  refine xw_set (h := h) (h' := xsI h (xu (xhI h) a i x)) rfl h1 h2 (fun y hy => ?_) ?_
  · show xcl0 ad ca (xhk h y) (xu (xhI h) a i x y) (xhJ h y) (xhR h y) = xcl0 ad ca (xhk h y) (xhI h y) (xhJ h y) (xhR h y)
    rw [xu_ne hy]
  · show xcl0 ad ca (xhk h a) (xu (xhI h) a i x a) (xhJ h a) (xhR h a) = e
    rw [h3]
    exact he
theorem xsetJ {ad : Nat → Nat} {ca : Nat → ClassId} {b scr a i : Nat} {h : XH} {x : Int64} {e : va_E} (ht : (xkd h a).1 ≠ 999) (he : xcl0 ad ca (xkd h a) (xhI h a) (xu (xhJ h) a i x a) (xhR h a) = e) : (xw ad ca b h).set (a - 1) (xad b scr a, e) = xw ad ca b (xsJ h (xu (xhJ h) a i x)) := by
  obtain ⟨h1, h2, h3⟩ := xkd_in ht
  refine xw_set (h := h) (h' := xsJ h (xu (xhJ h) a i x)) rfl h1 h2 (fun y hy => ?_) ?_
  · show xcl0 ad ca (xhk h y) (xhI h y) (xu (xhJ h) a i x y) (xhR h y) = xcl0 ad ca (xhk h y) (xhI h y) (xhJ h y) (xhR h y)
    rw [xu_ne hy]
  · show xcl0 ad ca (xhk h a) (xhI h a) (xu (xhJ h) a i x a) (xhR h a) = e
    rw [h3]
    exact he
theorem xsetR {ad : Nat → Nat} {ca : Nat → ClassId} {b scr a i : Nat} {h : XH} {x : Option Nat} {e : va_E} (ht : (xkd h a).1 ≠ 999) (he : xcl0 ad ca (xkd h a) (xhI h a) (xhJ h a) (xu (xhR h) a i x a) = e) : (xw ad ca b h).set (a - 1) (xad b scr a, e) = xw ad ca b (xsR h (xu (xhR h) a i x)) := by
  obtain ⟨h1, h2, h3⟩ := xkd_in ht
  refine xw_set (h := h) (h' := xsR h (xu (xhR h) a i x)) rfl h1 h2 (fun y hy => ?_) ?_
  · show xcl0 ad ca (xhk h y) (xhI h y) (xhJ h y) (xu (xhR h) a i x y) = xcl0 ad ca (xhk h y) (xhI h y) (xhJ h y) (xhR h y)
    rw [xu_ne hy]
  · show xcl0 ad ca (xhk h a) (xhI h a) (xhJ h a) (xu (xhR h) a i x a) = e
    rw [h3]
    exact he
theorem xrowI {ad : Nat → Nat} {ca : Nat → ClassId} {b scr a : Nat} {h : XH} {g : Nat → Int32} {e : va_E} (ht : (xkd h a).1 ≠ 999) (he : xcl0 ad ca (xkd h a) g (xhJ h a) (xhR h a) = e) : (xw ad ca b h).set (a - 1) (xad b scr a, e) = xw ad ca b (xsI h (xrow (xhI h) a g)) := by
  obtain ⟨h1, h2, h3⟩ := xkd_in ht
  refine xw_set (h := h) (h' := xsI h (xrow (xhI h) a g)) rfl h1 h2 (fun y hy => ?_) ?_
  · show xcl0 ad ca (xhk h y) (xrow (xhI h) a g y) (xhJ h y) (xhR h y) = xcl0 ad ca (xhk h y) (xhI h y) (xhJ h y) (xhR h y)
    rw [xrow_ne hy]
  · show xcl0 ad ca (xhk h a) (xrow (xhI h) a g a) (xhJ h a) (xhR h a) = e
    rw [h3, xrow_at]
    exact he
theorem xrowJ {ad : Nat → Nat} {ca : Nat → ClassId} {b scr a : Nat} {h : XH} {g : Nat → Int64} {e : va_E} (ht : (xkd h a).1 ≠ 999) (he : xcl0 ad ca (xkd h a) (xhI h a) g (xhR h a) = e) : (xw ad ca b h).set (a - 1) (xad b scr a, e) = xw ad ca b (xsJ h (xrow (xhJ h) a g)) := by
  obtain ⟨h1, h2, h3⟩ := xkd_in ht
  refine xw_set (h := h) (h' := xsJ h (xrow (xhJ h) a g)) rfl h1 h2 (fun y hy => ?_) ?_
  · show xcl0 ad ca (xhk h y) (xhI h y) (xrow (xhJ h) a g y) (xhR h y) = xcl0 ad ca (xhk h y) (xhI h y) (xhJ h y) (xhR h y)
    rw [xrow_ne hy]
  · show xcl0 ad ca (xhk h a) (xhI h a) (xrow (xhJ h) a g a) (xhR h a) = e
    rw [h3, xrow_at]
    exact he
theorem xw_xnew {ad : Nat → Nat} {ca : Nat → ClassId} {b t n : Nat} {h : XH} (h1 : 1 ≤ xhz h) : xw ad ca b (xnew h t n) = xw ad ca b h ++ [(b + (xhz h - 1), xcl0 ad ca (t, n) (fun _ => 0) (fun _ => 0) (fun _ => none))] := by
  have hold : ∀ x, x < xhz h → xcell ad ca (xnew h t n) x = xcell ad ca h x := by
    intro x hx
    have hne : x ≠ xhz h := by omega
    show xcl0 ad ca (if x = xhz h then (t, n) else xhk h x) (xrow (xhI h) (xhz h) (fun _ => 0) x) (xrow (xhJ h) (xhz h) (fun _ => 0) x) (xrow (xhR h) (xhz h) (fun _ => none) x) = xcl0 ad ca (xhk h x) (xhI h x) (xhJ h x) (xhR h x)
    rw [if_neg hne, xrow_ne hne, xrow_ne hne, xrow_ne hne]
  have hnew : xcell ad ca (xnew h t n) (xhz h) = xcl0 ad ca (t, n) (fun _ => 0) (fun _ => 0) (fun _ => none) := by
    show xcl0 ad ca (if xhz h = xhz h then (t, n) else xhk h (xhz h)) (xrow (xhI h) (xhz h) (fun _ => 0) (xhz h)) (xrow (xhJ h) (xhz h) (fun _ => 0) (xhz h)) (xrow (xhR h) (xhz h) (fun _ => none) (xhz h)) = _
    rw [if_pos rfl, xrow_at, xrow_at, xrow_at]
  unfold xw
  rw [show xhz (xnew h t n) - 1 = (xhz h - 1) + 1 from by show xhz h + 1 - 1 = _; omega, List.range_succ, List.map_append]
  congr 1
  · apply List.map_congr_left
    intro x hx
    rw [hold (x + 1) (by have := List.mem_range.mp hx; omega)]
  · rw [List.map_singleton, Nat.sub_add_cancel h1, hnew]
theorem xw_push {D : va_G} {ad : Nat → Nat} {ca : Nat → ClassId} {b q : Nat} {h : XH} {e : va_E} {H1 : Heap} (h1 : 1 ≤ xhz h) (hP : va_P D xcls (xw ad ca b h ++ [(q, e)]) H1) (hD : va_D (fun q => b ≤ q) (xw ad ca b h ++ [(q, e)])) (hz : H1.size ≤ b + xhz h) : q = b + (xhz h - 1) := by
  have hl : (xw ad ca b h).length = xhz h - 1 := by simp [xw]
  have hlast : (xw ad ca b h ++ [(q, e)])[xhz h - 1]? = some (q, e) := by
    rw [List.getElem?_append_right (by omega), hl, Nat.sub_self]
    rfl
  have hlt : q < H1.size := (hP _ _ hlast).lt
  have hge : b ≤ q := hD.2 _ _ hlast
  by_cases hc : q - b < xhz h - 1
  · exfalso
    have hi : (xw ad ca b h ++ [(q, e)])[q - b]? = some (b + (q - b), xcell ad ca h (q - b + 1)) := by
      rw [List.getElem?_append_left (by omega)]
      unfold xw
      rw [List.getElem?_map, List.getElem?_range hc]
      rfl
    have := hD.1 _ _ _ _ hi hlast (by show b + (q - b) = q; omega)
    omega
  · omega
theorem W.sized {p : Program} {l : Launch} {e : Env} {R : Room} {s : State} {m : MethodId} {args : Array Value} {below : List Frame} {meth : Method} {c : Code} {H : Heap} {locs : List Loc} {cells slots : Nat} {Q : State → Prop} {g : JFrame} (k : H.size ≤ s.heap.size + cells → W p l e R s m args below meth c H locs cells slots Q g) : W p l e R s m args below meth c H locs cells slots Q g := fun T hT X => k (by rw [← hT]; exact X.heapSize) T hT X
def xoty : FieldType → Bool
  | .int => true
  | .long => true
  | .boolean => true
  | .object _ => true
  | .array _ => true
  | _ => false
set_option maxRecDepth 100000 in
theorem xs_oty : (List.range 10).all (fun ci => (List.range (xnf ci)).all (fun j => xoty (xft ci j))) = true := by decide +kernel
theorem xoty_def {ty : FieldType} (h : xoty ty = true) (ad : Nat → Nat) (j : Nat) : defaultValue ty = xemb ad (xfv ty (fun _ => 0) (fun _ => 0) (fun _ => none) j) := by
  cases ty <;> first | rfl | cases h
section XAR
variable {p : Program} {l : Launch} {e : Env} {R : Room} {s : State} {m : MethodId} {args : Array Value} {below : List Frame} {meth : Method} {c : Code} {Q : State → Prop} {D : va_G} {ca : Nat → ClassId} {b scr z0 s0 k pc pc' len : Nat} {L L' : XL} {st st' r : List Value} {h h' : XH} {i : Instr} {S : XS}
theorem xloads_sound (hx : p.tables.exec = Jvm.exec) (hb : c.code = xcode k) (hK : va_K D xcls (xtys ca) s) (hX : va_X scr S.1 S.2 s s.heap) (hsb : scr < b) (hbs : b ≤ s.heap.size) :
    (decode (xcode k) pc = .ok (.iaload, 1) → xiald S h st = some (st', h') → XW (p, l, e, R, s, m, args, below, meth, c, Q, D, ca, b, scr, z0, s0) k (pc + 1) L st' h' → XW (p, l, e, R, s, m, args, below, meth, c, Q, D, ca, b, scr, z0, s0) k pc L st h) ∧
    (decode (xcode k) pc = .ok (.laload, 1) → xjald h st = some (st', h') → XW (p, l, e, R, s, m, args, below, meth, c, Q, D, ca, b, scr, z0, s0) k (pc + 1) L st' h' → XW (p, l, e, R, s, m, args, below, meth, c, Q, D, ca, b, scr, z0, s0) k pc L st h) ∧
    (decode (xcode k) pc = .ok (.baload, 1) → xzald h st = some (st', h') → XW (p, l, e, R, s, m, args, below, meth, c, Q, D, ca, b, scr, z0, s0) k (pc + 1) L st' h' → XW (p, l, e, R, s, m, args, below, meth, c, Q, D, ca, b, scr, z0, s0) k pc L st h) ∧
    (decode (xcode k) pc = .ok (.aaload, 1) → xaald h st = some (st', h') → XW (p, l, e, R, s, m, args, below, meth, c, Q, D, ca, b, scr, z0, s0) k (pc + 1) L st' h' → XW (p, l, e, R, s, m, args, below, meth, c, Q, D, ca, b, scr, z0, s0) k pc L st h) ∧
    (decode (xcode k) pc = .ok (.arraylength, 1) → xalen S h st = some (st', h') → XW (p, l, e, R, s, m, args, below, meth, c, Q, D, ca, b, scr, z0, s0) k (pc + 1) L st' h' → XW (p, l, e, R, s, m, args, below, meth, c, Q, D, ca, b, scr, z0, s0) k pc L st h) := by
  refine ⟨fun hd ho K => ?_, fun hd ho K => ?_, fun hd ho K => ?_, fun hd ho K => ?_, fun hd ho K => ?_⟩
  · unfold xiald at ho
    split at ho
    · split at ho
      · rename_i i a r ha
        subst ha
        split at ho
        · rename_i hi
          cases ho
          intro H locs ls hP hS hL
          exact va_sld hx hb hX (by omega) (by omega) hS (xinb_in hi) hd (K H locs ls hP hS hL)
        · cases ho
      · split at ho
        · rename_i hc
          cases ho
          intro H locs ls hP hS hL
          refine va_iald hx hb hK hP _ 0 ((xw_arr (scr := scr) (by rw [hc.1]; decide)).trans (by rw [xc_int hc.1])) rfl (xinb_in hc.2) hd (K H locs ls hP hS hL)
        · cases ho
    · cases ho
  · unfold xjald at ho
    split at ho
    · split at ho
      · rename_i hc
        cases ho
        intro H locs ls hP hS hL
        refine va_lald hx hb hK hP _ 1 ((xw_arr (scr := scr) (by rw [hc.1]; decide)).trans (by rw [xc_long hc.1])) rfl (xinb_in hc.2) hd (K H locs ls hP hS hL)
      · cases ho
    · cases ho
  · unfold xzald at ho
    split at ho
    · split at ho
      · rename_i hc
        cases ho
        intro H locs ls hP hS hL
        refine va_zald hx hb hK hP _ 2 ((xw_arr (scr := scr) (by rw [hc.1]; decide)).trans (by rw [xc_bool hc.1])) rfl (xinb_in hc.2) hd (K H locs ls hP hS hL)
      · cases ho
    · cases ho
  · unfold xaald at ho
    split at ho
    · split at ho
      · rename_i i a r hc
        cases ho
        obtain ⟨q, hq, hq2⟩ : ∃ q, (xkd h a).1 = 103 + q ∧ q < 2 := ⟨(xkd h a).1 - 103, by omega, by have := hc.2.1; unfold xnq at this; omega⟩
        intro H locs ls hP hS hL
        have K := K H locs ls hP hS hL
        rw [List.map_cons, xemb_rf] at K
        have ha := (xw_arr (scr := scr) (ad := xad b scr) (ca := ca) (b := b) (h := h) (a := a) (by omega)).trans (by rw [xc_ref hq])
        rcases (show q = 0 ∨ q = 1 by omega) with rfl | rfl
        · exact va_aldq hx hb hK hP _ 3 ha rfl (xinb_in hc.2.2) hd K
        · exact va_aldq hx hb hK hP _ 4 ha rfl (xinb_in hc.2.2) hd K
      · cases ho
    · cases ho
  · unfold xalen at ho
    split at ho
    · split at ho
      · rename_i a r ha
        subst ha
        cases ho
        intro H locs ls hP hS hL
        exact va_slen (b := scr) hx hb hX (by omega) (by omega) hS hd (K H locs ls hP hS hL)
      · split at ho
        · rename_i a r _ hc
          cases ho
          intro H locs ls hP hS hL
          have K := K H locs ls hP hS hL
          have ht : (xkd h a).1 ≠ 999 := by have := hc.2; unfold xnq at this; omega
          have ha := xw_arr (scr := scr) (ad := xad b scr) (ca := ca) (b := b) (h := h) (a := a) ht
          have hc2 : (xkd h a).1 < 105 := by have := hc.2; unfold xnq at this; omega
          rcases (show (xkd h a).1 = 100 ∨ (xkd h a).1 = 101 ∨ (xkd h a).1 = 102 ∨ (xkd h a).1 = 103 + 0 ∨ (xkd h a).1 = 103 + 1 by omega) with q | q | q | q | q
          · exact va_alen (cA := ca 0) (x := ((xkd h a).2, .inl (xhI h a))) hx hb hK hP _ 0 (ha.trans (by rw [xc_int q])) rfl rfl hd K
          · exact va_alen (cA := ca 1) (x := ((xkd h a).2, .inr (.inl (xhJ h a)))) hx hb hK hP _ 1 (ha.trans (by rw [xc_long q])) rfl rfl hd K
          · exact va_alen (cA := ca 2) (x := ((xkd h a).2, .inl (xhI h a))) hx hb hK hP _ 2 (ha.trans (by rw [xc_bool q])) rfl rfl hd K
          · exact va_alen (cA := ca 3) (x := ((xkd h a).2, .inr (.inr (.inr (.inr (fun i => (xhR h a i).map (xad b scr))))))) hx hb hK hP _ 3 (ha.trans (by rw [xc_ref q])) rfl rfl hd K
          · exact va_alen (cA := ca 4) (x := ((xkd h a).2, .inr (.inr (.inr (.inr (fun i => (xhR h a i).map (xad b scr))))))) hx hb hK hP _ 4 (ha.trans (by rw [xc_ref q])) rfl rfl hd K
        · cases ho
    · cases ho
theorem xstores_sound (hx : p.tables.exec = Jvm.exec) (hb : c.code = xcode k) (hK : va_K D xcls (xtys ca) s) :
    (decode (xcode k) pc = .ok (.iastore, 1) → xiast h st = some (st', h') → XW (p, l, e, R, s, m, args, below, meth, c, Q, D, ca, b, scr, z0, s0) k (pc + 1) L st' h' → XW (p, l, e, R, s, m, args, below, meth, c, Q, D, ca, b, scr, z0, s0) k pc L st h) ∧
    (decode (xcode k) pc = .ok (.lastore, 1) → xjast h st = some (st', h') → XW (p, l, e, R, s, m, args, below, meth, c, Q, D, ca, b, scr, z0, s0) k (pc + 1) L st' h' → XW (p, l, e, R, s, m, args, below, meth, c, Q, D, ca, b, scr, z0, s0) k pc L st h) ∧
    (decode (xcode k) pc = .ok (.bastore, 1) → xzast h st = some (st', h') → XW (p, l, e, R, s, m, args, below, meth, c, Q, D, ca, b, scr, z0, s0) k (pc + 1) L st' h' → XW (p, l, e, R, s, m, args, below, meth, c, Q, D, ca, b, scr, z0, s0) k pc L st h) ∧
    (decode (xcode k) pc = .ok (.aastore, 1) → xaast h st = some (st', h') → XW (p, l, e, R, s, m, args, below, meth, c, Q, D, ca, b, scr, z0, s0) k (pc + 1) L st' h' → XW (p, l, e, R, s, m, args, below, meth, c, Q, D, ca, b, scr, z0, s0) k pc L st h) := by
  refine ⟨fun hd ho K => ?_, fun hd ho K => ?_, fun hd ho K => ?_, fun hd ho K => ?_⟩
  · unfold xiast at ho
    split at ho
    · split at ho
      · rename_i x i a r hc
        cases ho
        intro H locs ls hP hS hL
        have ht : (xkd h a).1 ≠ 999 := by rw [hc.1]; decide
        refine va_iast hx hb hK hP (xw_D _ _ _ _) hS _ 0 ((xw_arr (scr := scr) ht).trans (by rw [xc_int hc.1])) rfl (xinb_in hc.2) hd (fun H1 locs1 hP1 _ hS1 => ?_)
        rw [xsetI (i := i.toNatClampNeg) (x := x) ht (by rw [xc_int hc.1, xu_upd])] at hP1
        exact K H1 locs1 ls hP1 hS1 hL
      · cases ho
    · cases ho
  · unfold xjast at ho
    split at ho
    · split at ho
      · rename_i x i a r hc
        cases ho
        intro H locs ls hP hS hL
        have ht : (xkd h a).1 ≠ 999 := by rw [hc.1]; decide
        refine va_last hx hb hK hP (xw_D _ _ _ _) hS _ 1 ((xw_arr (scr := scr) ht).trans (by rw [xc_long hc.1])) rfl (xinb_in hc.2) hd (fun H1 locs1 hP1 _ hS1 => ?_)
        rw [xsetJ (i := i.toNatClampNeg) (x := x) ht (by rw [xc_long hc.1, xu_updL])] at hP1
        exact K H1 locs1 ls hP1 hS1 hL
      · cases ho
    · cases ho
  · unfold xzast at ho
    split at ho
    · split at ho
      · rename_i x i a r hc
        cases ho
        intro H locs ls hP hS hL
        have ht : (xkd h a).1 ≠ 999 := by rw [hc.1]; decide
        have hn : vp_nar .boolean x = x := by rcases hc.2.2 with rfl | rfl <;> decide
        refine va_zast hx hb hK hP (xw_D _ _ _ _) hS _ 2 ((xw_arr (scr := scr) ht).trans (by rw [xc_bool hc.1])) rfl (xinb_in hc.2.1) hd (fun H1 locs1 hP1 _ hS1 => ?_)
        rw [hn, xsetI (i := i.toNatClampNeg) (x := x) ht (by rw [xc_bool hc.1, xu_upd])] at hP1
        exact K H1 locs1 ls hP1 hS1 hL
      · cases ho
    · cases ho
  · unfold xaast at ho
    split at ho
    · split at ho
      · rename_i v i a r hc
        cases ho
        obtain ⟨q, hq, hq2⟩ : ∃ q, (xkd h a).1 = 103 + q ∧ q < 2 := ⟨(xkd h a).1 - 103, by omega, by have := hc.2.1; unfold xnq at this; omega⟩
        have hvk := hc.2.2.2
        rw [show (xkd h a).1 - 103 = q by omega] at hvk
        intro H locs ls hP hS hL
        have ht : (xkd h a).1 ≠ 999 := by omega
        have ha := (xw_arr (scr := scr) (ad := xad b scr) (ca := ca) (b := b) (h := h) (a := a) ht).trans (by rw [xc_ref hq])
        have hfin : ∀ (H1 : Heap) (locs1 : List Loc), va_P D xcls ((xw (xad b scr) ca b h).set (a - 1) (xad b scr a, .inl (ca (3 + q), (xkd h a).2, .inr (.inr (.inr (.inr (va_up (fun i => (xhR h a i).map (xad b scr)) i.toNatClampNeg (some (xad b scr v))))))))) H1 → va_D (fun q => b ≤ q) ((xw (xad b scr) ca b h).set (a - 1) (xad b scr a, .inl (ca (3 + q), (xkd h a).2, .inr (.inr (.inr (.inr (va_up (fun i => (xhR h a i).map (xad b scr)) i.toNatClampNeg (some (xad b scr v))))))))) → va_S (fun q => b ≤ q) s.heap H1 locs1 → W p l e R s m args below meth c H1 locs1 (xhz h - z0) (xhs h - s0) Q (F0 m (pc + 1) ls (st'.map (xemb (xad b scr)))) := by
          intro H1 locs1 hP1 _ hS1
          rw [xsetR (i := i.toNatClampNeg) (x := some v) ht (by
            rw [xc_ref hq]
            congr 7
            funext y
            rw [xu_at]
            unfold va_up
            by_cases hy : y = i.toNatClampNeg
            · rw [if_pos hy, if_pos hy]; rfl
            · rw [if_neg hy, if_neg hy])] at hP1
          exact K H1 locs1 ls hP1 hS1 hL
        rcases (show q = 0 ∨ q = 1 by omega) with rfl | rfl
        · exact va_astq (r := (xcn 1, xTT 1, xnf 1)) hx hb hK hP (xw_D _ _ _ _) hS _ 3 _ 1 ha rfl (xw_obj (scr := scr) hvk (by decide)) (xcls_at (by decide)) (xinb_in hc.2.2.1) hd hfin
        · exact va_astq (r := (xcn 3, xTT 3, xnf 3)) hx hb hK hP (xw_D _ _ _ _) hS _ 4 _ 3 ha rfl (xw_obj (scr := scr) hvk (by decide)) (xcls_at (by decide)) (xinb_in hc.2.2.1) hd hfin
      · cases ho
    · split at ho
      · rename_i i a r hc
        cases ho
        obtain ⟨q, hq, hq2⟩ : ∃ q, (xkd h a).1 = 103 + q ∧ q < 2 := ⟨(xkd h a).1 - 103, by omega, by have := hc.2.1; unfold xnq at this; omega⟩
        intro H locs ls hP hS hL
        have ht : (xkd h a).1 ≠ 999 := by omega
        have ha := (xw_arr (scr := scr) (ad := xad b scr) (ca := ca) (b := b) (h := h) (a := a) ht).trans (by rw [xc_ref hq])
        have hfin : ∀ (H1 : Heap) (locs1 : List Loc), va_P D xcls ((xw (xad b scr) ca b h).set (a - 1) (xad b scr a, .inl (ca (3 + q), (xkd h a).2, .inr (.inr (.inr (.inr (va_up (fun i => (xhR h a i).map (xad b scr)) i.toNatClampNeg none))))))) H1 → va_D (fun q => b ≤ q) ((xw (xad b scr) ca b h).set (a - 1) (xad b scr a, .inl (ca (3 + q), (xkd h a).2, .inr (.inr (.inr (.inr (va_up (fun i => (xhR h a i).map (xad b scr)) i.toNatClampNeg none))))))) → va_S (fun q => b ≤ q) s.heap H1 locs1 → W p l e R s m args below meth c H1 locs1 (xhz h - z0) (xhs h - s0) Q (F0 m (pc + 1) ls (st'.map (xemb (xad b scr)))) := by
          intro H1 locs1 hP1 _ hS1
          rw [xsetR (i := i.toNatClampNeg) (x := none) ht (by
            rw [xc_ref hq]
            congr 7
            funext y
            rw [xu_at]
            unfold va_up
            by_cases hy : y = i.toNatClampNeg
            · rw [if_pos hy, if_pos hy]; rfl
            · rw [if_neg hy, if_neg hy])] at hP1
          exact K H1 locs1 ls hP1 hS1 hL
        rcases (show q = 0 ∨ q = 1 by omega) with rfl | rfl
        · exact va_astqN hx hb hK hP (xw_D _ _ _ _) hS _ 3 ha rfl (xinb_in hc.2.2) hd hfin
        · exact va_astqN hx hb hK hP (xw_D _ _ _ _) hS _ 4 ha rfl (xinb_in hc.2.2) hd hfin
      · cases ho
    · cases ho
end XAR
end
section
/-! One step of the small machine is sound. -/
def XCx (S : XS) (p : Program) (s : State) (m : MethodId) (args : Array Value) (meth : Method) (c : Code) (D : va_G) (ca : Nat → ClassId) (b scr z0 k : Nat) : Prop :=
  p.tables.exec = Jvm.exec ∧ c.code = xcode k ∧ c.maxLocals = xml k ∧ s.vm.findClass (xcn (xkc k)) = some m.cls ∧ (∀ w ∈ xgood, w.before args s = true) ∧ (∀ w ∈ xnest, va_Nw w s) ∧ va_AO (xcn 1) s ∧ va_AO (xcn 3) s ∧ va_K D xcls (xtys ca) s ∧ va_X scr S.1 S.2 s s.heap ∧ scr < b ∧ 1 ≤ z0 ∧ s.heap.size = b + (z0 - 1) ∧ ((xyn k).name = "<init>" → meth.name = "<init>") ∧ meth.sig.returnType = xrty k ∧ meth.locks = false
theorem xmem_grow {S : XS} {k : Nat} {i : Instr} {st st' : List Value} {h h' : XH} (ho : xmem S k i st h = some (st', h')) : xhz h ≤ xhz h' ∧ xhs h ≤ xhs h' := by
  have same : ∀ {q : List Value × XH}, some q = some (st', h') → xhz q.2 = xhz h → xhs q.2 = xhs h → xhz h ≤ xhz h' ∧ xhs h ≤ xhs h' := by
    intro q e a b
    cases e
    exact ⟨Nat.le_of_eq a.symm, Nat.le_of_eq b.symm⟩
  cases i with
  | getfield idx =>
    simp only [xmem] at ho
    unfold xgetf at ho
    split at ho
    · split at ho
      · split at ho
        · exact same ho rfl rfl
        · cases ho
      · cases ho
    · cases ho
  | putfield idx =>
    simp only [xmem] at ho
    unfold xputf at ho
    split at ho
    · split at ho
      · split at ho
        · rename_i v a r _ ci j _ _
          cases hfp : xfp (xft ci j) h a j v with
          | none => rw [hfp] at ho; cases ho
          | some h2 =>
            rw [hfp] at ho
            obtain ⟨f1, f2, -⟩ := xfp_spec hfp
            exact same ho f1 f2
        · cases ho
      · cases ho
    · cases ho
  | iaload =>
    simp only [xmem] at ho
    unfold xiald at ho
    split at ho
    · split at ho
      · split at ho
        · exact same ho rfl rfl
        · cases ho
      · split at ho
        · exact same ho rfl rfl
        · cases ho
    · cases ho
  | laload =>
    simp only [xmem] at ho
    unfold xjald at ho
    split at ho
    · split at ho
      · exact same ho rfl rfl
      · cases ho
    · cases ho
  | baload =>
    simp only [xmem] at ho
    unfold xzald at ho
    split at ho
    · split at ho
      · exact same ho rfl rfl
      · cases ho
    · cases ho
  | aaload =>
    simp only [xmem] at ho
    unfold xaald at ho
    split at ho
    · split at ho
      · exact same ho rfl rfl
      · cases ho
    · cases ho
  | iastore =>
    simp only [xmem] at ho
    unfold xiast at ho
    split at ho
    · split at ho
      · exact same ho rfl rfl
      · cases ho
    · cases ho
  | lastore =>
    simp only [xmem] at ho
    unfold xjast at ho
    split at ho
    · split at ho
      · exact same ho rfl rfl
      · cases ho
    · cases ho
  | bastore =>
    simp only [xmem] at ho
    unfold xzast at ho
    split at ho
    · split at ho
      · exact same ho rfl rfl
      · cases ho
    · cases ho
  | aastore =>
    simp only [xmem] at ho
    unfold xaast at ho
    split at ho
    · split at ho
      · exact same ho rfl rfl
      · cases ho
    · split at ho
      · exact same ho rfl rfl
      · cases ho
    · cases ho
  | arraylength =>
    simp only [xmem] at ho
    unfold xalen at ho
    split at ho
    · split at ho
      · exact same ho rfl rfl
      · split at ho
        · exact same ho rfl rfl
        · cases ho
    · cases ho
  | newarray t =>
    have key : ∀ t, xnwa t h st = some (st', h') → xhz h ≤ xhz h' ∧ xhs h ≤ xhs h' := by
      intro t ho
      unfold xnwa at ho
      split at ho
      · split at ho
        · cases ho
          exact ⟨Nat.le_succ _, Nat.le_add_right _ _⟩
        · cases ho
      · cases ho
    cases t <;> first | exact key _ ho | cases ho
  | anewarray idx =>
    simp only [xmem] at ho
    cases hq : xanw (xkc k) idx with
    | none => rw [hq] at ho; cases ho
    | some t =>
      rw [hq] at ho
      simp only [Option.bind_some] at ho
      unfold xnwa at ho
      split at ho
      · split at ho
        · cases ho
          exact ⟨Nat.le_succ _, Nat.le_add_right _ _⟩
        · cases ho
      · cases ho
  | new idx =>
    simp only [xmem] at ho
    cases hq : xnwc (xkc k) idx with
    | none => rw [hq] at ho; cases ho
    | some t =>
      rw [hq] at ho
      cases ho
      exact ⟨Nat.le_succ _, Nat.le_add_right _ _⟩
  | ldc idx =>
    simp only [xmem, xldc] at ho
    cases hq : xcst (xkc k) idx with
    | none => rw [hq] at ho; cases ho
    | some v => rw [hq] at ho; cases v <;> first | exact same ho rfl rfl | cases ho
  | ldc_w idx =>
    simp only [xmem, xldc] at ho
    cases hq : xcst (xkc k) idx with
    | none => rw [hq] at ho; cases ho
    | some v => rw [hq] at ho; cases v <;> first | exact same ho rfl rfl | cases ho
  | ldc2_w idx =>
    simp only [xmem, xldc2] at ho
    cases hq : xcst (xkc k) idx with
    | none => rw [hq] at ho; cases ho
    | some v => rw [hq] at ho; cases v <;> first | exact same ho rfl rfl | cases ho
  | _ => cases ho
theorem xcpy_inv {h h' : XH} {st st' : List Value} (ho : xcpy h st = some (st', h')) : ∃ n dp a sp a0, st = .int n :: .int dp :: .ref a :: .int sp :: .ref a0 :: st' ∧ xwid st' ≤ 8 ∧ ¬ sp < 0 ∧ ¬ dp < 0 ∧ ¬ n < 0 ∧ sp.toNatClampNeg + n.toNatClampNeg ≤ (xkd h a0).2 ∧ dp.toNatClampNeg + n.toNatClampNeg ≤ (xkd h a).2 ∧
    (((xkd h a0).1 = 100 ∧ (xkd h a).1 = 100 ∧ h' = xsI h (xrow (xhI h) a (va_cpy (xhI h a0) (xhI h a) sp.toNatClampNeg dp.toNatClampNeg n.toNatClampNeg))) ∨
     ((xkd h a0).1 = 101 ∧ (xkd h a).1 = 101 ∧ h' = xsJ h (xrow (xhJ h) a (va_cpy (xhJ h a0) (xhJ h a) sp.toNatClampNeg dp.toNatClampNeg n.toNatClampNeg)))) := by
  unfold xcpy at ho
  split at ho
  · split at ho
    · rename_i hc
      obtain ⟨c1, c2, c3, c4, c5, c6⟩ := hc
      split at ho
      · rename_i hq
        cases ho
        exact ⟨_, _, _, _, _, rfl, c1, c2, c3, c4, c5, c6, Or.inl ⟨hq.1, hq.2, rfl⟩⟩
      · split at ho
        · rename_i hq
          cases ho
          exact ⟨_, _, _, _, _, rfl, c1, c2, c3, c4, c5, c6, Or.inr ⟨hq.1, hq.2, rfl⟩⟩
        · cases ho
    · cases ho
  · cases ho
theorem xn0_inv {st st' : List Value} (h : xn0 st = some st') : ∃ a, st = .ref a :: st' ∧ xwid st' ≤ 8 := by
  unfold xn0 at h
  split at h
  · split at h
    · cases h; exact ⟨_, rfl, by assumption⟩
    · cases h
  · cases h
theorem xnatv_inv {d k : Nat} {i : Instr} {st st' : List Value} {h h' : XH} (ho : xnatv d k i st h = some (st', h')) : ¬ d = 0 ∧ ((∃ idx, i = .invokespecial idx ∧ xnat (xkc k) idx = some 0 ∧ h' = h ∧ ∃ a, st = .ref a :: st' ∧ xwid st' ≤ 8) ∨ (∃ idx, i = .invokestatic idx ∧ xnat (xkc k) idx = some 7 ∧ xcpy h st = some (st', h'))) := by
  unfold xnatv at ho
  split at ho
  · cases ho
  · rename_i hd
    refine ⟨hd, ?_⟩
    cases i with
    | invokespecial idx =>
      simp only at ho
      split at ho
      · rename_i hn
        cases hq : xn0 st with
        | none => rw [hq] at ho; cases ho
        | some r =>
          rw [hq] at ho
          cases ho
          exact Or.inl ⟨idx, rfl, hn, rfl, xn0_inv hq⟩
      · cases ho
    | invokestatic idx =>
      simp only at ho
      cases hq : xnat (xkc k) idx with
      | none => rw [hq] at ho; cases ho
      | some t =>
        rw [hq] at ho
        simp only [Option.bind_some, xnatS] at ho
        split at ho
        · rename_i ht
          exact Or.inr ⟨idx, rfl, by rw [hq, ht], ho⟩
        · cases ho
    | _ => cases ho
theorem xnatv_grow {d k : Nat} {i : Instr} {st st' : List Value} {h h' : XH} (ho : xnatv d k i st h = some (st', h')) : xhz h' = xhz h ∧ xhs h' = xhs h := by
  obtain ⟨-, ⟨idx, -, -, rfl, -⟩ | ⟨idx, -, -, hc⟩⟩ := xnatv_inv ho
  · exact ⟨rfl, rfl⟩
  · obtain ⟨n, dp, a, sp, a0, -, -, -, -, -, -, -, ⟨-, -, rfl⟩ | ⟨-, -, rfl⟩⟩ := xcpy_inv hc <;> exact ⟨rfl, rfl⟩
theorem x1_grow {S : XS} {d k len pc pc' : Nat} {i : Instr} {L L' : XL} {st st' : List Value} {h h' : XH} (e : x1 S d k i len pc L st h = some (pc', L', st', h')) : xhz h ≤ xhz h' ∧ xhs h ≤ xhs h' := by
  unfold x1 at e
  split at e
  · cases e; exact ⟨Nat.le_refl _, Nat.le_refl _⟩
  · split at e
    · split at e
      · cases e; exact ⟨Nat.le_refl _, Nat.le_refl _⟩
      · split at e
        · cases e; exact ⟨Nat.le_refl _, Nat.le_refl _⟩
        · split at e
          · rename_i q hq
            cases e
            exact xmem_grow hq
          · split at e
            · rename_i q hq
              cases e
              obtain ⟨a, b⟩ := xnatv_grow hq
              exact ⟨Nat.le_of_eq a.symm, Nat.le_of_eq b.symm⟩
            · cases e
    · cases e
theorem xrun_grow {S : XS} : ∀ (n d k pc : Nat) (L : XL) (st : List Value) (h : XH) (v : Option Value) (h' : XH), xrun S n d k pc L st h = some (v, h') → xhz h ≤ xhz h' ∧ xhs h ≤ xhs h' := by
  intro n
  induction n with
  | zero => intro d k pc L st h v h' e; cases e
  | succ n ih =>
    intro d k pc L st h v h' e
    simp only [xrun] at e
    split at e
    · cases e
    · split at e
      · cases e; exact ⟨Nat.le_refl _, Nat.le_refl _⟩
      · split at e
        · split at e
          · cases e
          · split at e
            · cases e
            · rename_i v1 h1 hc
              have q1 := ih _ _ _ _ _ _ _ _ hc
              have q2 := ih _ _ _ _ _ _ _ _ e
              exact ⟨Nat.le_trans q1.1 q2.1, Nat.le_trans q1.2 q2.2⟩
        · split at e
          · cases e
          · rename_i pc' L' st' h1 hc
            have q1 := x1_grow hc
            have q2 := ih _ _ _ _ _ _ _ _ e
            exact ⟨Nat.le_trans q1.1 q2.1, Nat.le_trans q1.2 q2.2⟩
theorem xs_nw : xnwcT.all (fun q => decide (q.2.2 < 10)) = true := by decide +kernel
theorem xnwc_lt {kc idx ci : Nat} (h : xnwc kc idx = some ci) : ci < 10 := by
  have h1 := List.all_eq_true.mp xs_nw _ (xfind_mem h)
  simpa only [decide_eq_true_eq] using h1
section XST
variable {p : Program} {l : Launch} {e : Env} {R : Room} {s : State} {m : MethodId} {args : Array Value} {below : List Frame} {meth : Method} {c : Code} {Q : State → Prop} {D : va_G} {ca : Nat → ClassId} {b scr z0 s0 k pc pc' len d : Nat} {L L' : XL} {st st' r : List Value} {h h' : XH} {i : Instr} {S : XS}
theorem xnew_go {q t n : Nat} {el : va_E} {H1 : Heap} {locs : List Loc} {ls : Array Slot} (h1 : 1 ≤ z0) (hz0 : z0 ≤ xhz h) (hs0 : s0 ≤ xhs h) (hss : s.heap.size = b + (z0 - 1)) (he : el = xcl0 (xad b scr) ca (t, n) (fun _ => 0) (fun _ => 0) (fun _ => none)) (hP1 : va_P D xcls (xw (xad b scr) ca b h ++ [(q, el)]) H1) (hD1 : va_D (fun q => b ≤ q) (xw (xad b scr) ca b h ++ [(q, el)])) (hS1 : va_S (fun q => b ≤ q) s.heap H1 locs) (hL : XLH (xad b scr) ls (xml k) L) (K : XW (p, l, e, R, s, m, args, below, meth, c, Q, D, ca, b, scr, z0, s0) k pc' L (.ref (xhz h) :: r) (xnew h t n)) :
    W p l e R s m args below meth c H1 locs (xhz h - z0 + 1) (xhs h - s0 + n) Q (F0 m pc' ls (.ref q :: r.map (xemb (xad b scr)))) := by
  refine W.sized (fun hz => ?_)
  have hq := xw_push (by omega) hP1 hD1 (by omega)
  subst hq
  rw [he, ← xw_xnew (by omega)] at hP1
  have K := K H1 locs ls hP1 hS1 hL
  have e1 : xhz (xnew h t n) - z0 = xhz h - z0 + 1 := by show xhz h + 1 - z0 = _; omega
  have e2 : xhs (xnew h t n) - s0 = xhs h - s0 + n := by show xhs h + n - s0 = _; omega
  rw [e1, e2] at K
  have e3 : (Value.ref (xhz h) :: r).map (xemb (xad b scr)) = .ref (b + (xhz h - 1)) :: r.map (xemb (xad b scr)) := by
    rw [List.map_cons]
    show Value.ref (xad b scr (xhz h)) :: _ = _
    rw [xad_pos (by omega)]
  rw [e3] at K
  exact K
set_option maxHeartbeats 4000000 in
theorem xmem_sound (C : XCx S p s m args meth c D ca b scr z0 k) (hz0 : z0 ≤ xhz h) (hs0 : s0 ≤ xhs h) (hR1 : xhz h' - z0 ≤ R.cells) (hR2 : xhs h' - s0 ≤ R.slots)
    (hd : decode (xcode k) pc = .ok (i, xlen i)) (ho : xmem S k i st h = some (st', h')) (K : XW (p, l, e, R, s, m, args, below, meth, c, Q, D, ca, b, scr, z0, s0) k (pc + xlen i) L st' h') : XW (p, l, e, R, s, m, args, below, meth, c, Q, D, ca, b, scr, z0, s0) k pc L st h := by
  obtain ⟨hx, hb, hml, hown, hts, hnw, hao1, hao3, hK, hX, hsb, hz1, hss, hin, hrt, hlk⟩ := C
  have hA : ∀ q, s.heap.size ≤ q → b ≤ q := fun q hq => by omega
  cases i with
  | getfield idx => exact xgetf_sound hx hb hown hts hK hd ho K
  | putfield idx => exact xputf_sound hx hb hown hts hK hin hd ho K
  | iaload => exact (xloads_sound hx hb hK hX hsb (by omega)).1 hd ho K
  | laload => exact (xloads_sound hx hb hK hX hsb (by omega)).2.1 hd ho K
  | baload => exact (xloads_sound hx hb hK hX hsb (by omega)).2.2.1 hd ho K
  | aaload => exact (xloads_sound hx hb hK hX hsb (by omega)).2.2.2.1 hd ho K
  | arraylength => exact (xloads_sound hx hb hK hX hsb (by omega)).2.2.2.2 hd ho K
  | iastore => exact (xstores_sound hx hb hK).1 hd ho K
  | lastore => exact (xstores_sound hx hb hK).2.1 hd ho K
  | bastore => exact (xstores_sound hx hb hK).2.2.1 hd ho K
  | aastore => exact (xstores_sound hx hb hK).2.2.2 hd ho K
  | newarray t =>
    cases t with
    | int =>
      simp only [xmem] at ho
      unfold xnwa at ho
      split at ho
      · split at ho
        · rename_i n r hn
          cases ho
          intro H locs ls hP hS hL
          have e1 : xhz (xnew h (100 + 0) n.toNatClampNeg) = xhz h + 1 := rfl
          have e2 : xhs (xnew h (100 + 0) n.toNatClampNeg) = xhs h + n.toNatClampNeg := rfl
          refine va_newa (atype := .int) hx hb (hts _ xg_glob.2.2.2.2.2.1) (ty := .int) rfl hK hP (xw_D _ _ _ _) hS hA (a0 := (n.toNatClampNeg, .inl (fun _ => 0))) (fun _ => rfl) hn.1 rfl (by show _ * 4 ≤ _; omega) (by omega) (by omega) hd (fun q cA H1 hK1 hP1 hD1 hS1 => ?_)
          have hc : cA = ca 0 := Option.some.inj ((hK1.2 5 _ rfl).2.symm.trans (hK.2 0 _ rfl).2)
          subst hc
          exact xnew_go hz1 hz0 hs0 hss (by rw [xc_int rfl]) hP1 hD1 hS1 hL K
        · cases ho
      · cases ho
    | long =>
      simp only [xmem] at ho
      unfold xnwa at ho
      split at ho
      · split at ho
        · rename_i n r hn
          cases ho
          intro H locs ls hP hS hL
          have e1 : xhz (xnew h (100 + 1) n.toNatClampNeg) = xhz h + 1 := rfl
          have e2 : xhs (xnew h (100 + 1) n.toNatClampNeg) = xhs h + n.toNatClampNeg := rfl
          refine va_newa (atype := .long) hx hb (hts _ xg_glob.2.2.2.2.2.2.1) (ty := .long) rfl hK hP (xw_D _ _ _ _) hS hA (a0 := (n.toNatClampNeg, .inr (.inl (fun _ => 0)))) (fun _ => rfl) hn.1 rfl (by show _ * 8 ≤ _; omega) (by omega) (by omega) hd (fun q cA H1 hK1 hP1 hD1 hS1 => ?_)
          have hc : cA = ca 1 := Option.some.inj ((hK1.2 5 _ rfl).2.symm.trans (hK.2 1 _ rfl).2)
          subst hc
          exact xnew_go hz1 hz0 hs0 hss (by rw [xc_long rfl]) hP1 hD1 hS1 hL K
        · cases ho
      · cases ho
    | boolean =>
      simp only [xmem] at ho
      unfold xnwa at ho
      split at ho
      · split at ho
        · rename_i n r hn
          cases ho
          intro H locs ls hP hS hL
          have e1 : xhz (xnew h (100 + 2) n.toNatClampNeg) = xhz h + 1 := rfl
          have e2 : xhs (xnew h (100 + 2) n.toNatClampNeg) = xhs h + n.toNatClampNeg := rfl
          refine va_newa (atype := .boolean) hx hb (hts _ xg_glob.2.2.2.2.2.2.2) (ty := .boolean) rfl hK hP (xw_D _ _ _ _) hS hA (a0 := (n.toNatClampNeg, .inl (fun _ => 0))) (fun _ => rfl) hn.1 rfl (by show _ * 1 ≤ _; omega) (by omega) (by omega) hd (fun q cA H1 hK1 hP1 hD1 hS1 => ?_)
          have hc : cA = ca 2 := Option.some.inj ((hK1.2 5 _ rfl).2.symm.trans (hK.2 2 _ rfl).2)
          subst hc
          exact xnew_go hz1 hz0 hs0 hss (by rw [xc_bool rfl]) hP1 hD1 hS1 hL K
        · cases ho
      · cases ho
    | _ => cases ho
  | anewarray idx =>
    simp only [xmem] at ho
    cases hq : xanw (xkc k) idx with
    | none => rw [hq] at ho; cases ho
    | some t =>
      rw [hq] at ho
      simp only [Option.bind_some] at ho
      obtain ⟨ht, hl⟩ := xanw_ok hq
      unfold xnwa at ho
      split at ho
      · split at ho
        · rename_i n r hn
          cases ho
          intro H locs ls hP hS hL
          have e1 : xhz (xnew h (100 + (3 + t)) n.toNatClampNeg) = xhz h + 1 := rfl
          have e2 : xhs (xnew h (100 + (3 + t)) n.toNatClampNeg) = xhs h + n.toNatClampNeg := rfl
          rcases (show t = 0 ∨ t = 1 by omega) with rfl | rfl
          · refine va_newq hx hb hown (hts _ hl) hao1 hK hP (xw_D _ _ _ _) hS hA hn.1 rfl (by omega) (by omega) (by omega) hd (fun q cA H1 hK1 hP1 hD1 hS1 => ?_)
            obtain ⟨_, _, -, -, -, g1⟩ := (hK1.2 5 _ rfl).2
            obtain ⟨_, _, -, -, -, g2⟩ := (hK.2 3 _ rfl).2
            have hc : cA = ca 3 := Option.some.inj (g1.symm.trans g2)
            subst hc
            exact xnew_go hz1 hz0 hs0 hss (by rw [xc_ref (q := 0) rfl]; rfl) hP1 hD1 hS1 hL K
          · refine va_newq hx hb hown (hts _ hl) hao3 hK hP (xw_D _ _ _ _) hS hA hn.1 rfl (by omega) (by omega) (by omega) hd (fun q cA H1 hK1 hP1 hD1 hS1 => ?_)
            obtain ⟨_, _, -, -, -, g1⟩ := (hK1.2 5 _ rfl).2
            obtain ⟨_, _, -, -, -, g2⟩ := (hK.2 4 _ rfl).2
            have hc : cA = ca 4 := Option.some.inj (g1.symm.trans g2)
            subst hc
            exact xnew_go hz1 hz0 hs0 hss (by rw [xc_ref (q := 1) rfl]; rfl) hP1 hD1 hS1 hL K
        · cases ho
      · cases ho
  | new idx =>
    simp only [xmem] at ho
    cases hq : xnwc (xkc k) idx with
    | none => rw [hq] at ho; cases ho
    | some ci =>
      rw [hq] at ho
      cases ho
      have hci : ci < 10 := xnwc_lt hq
      intro H locs ls hP hS hL
      have e1 : xhz (xnew h ci (xnf ci)) = xhz h + 1 := rfl
      have e2 : xhs (xnew h ci (xnf ci)) = xhs h + xnf ci := rfl
      refine va_new (ci := ci) (C := xcn ci) (T := xTT ci) (N := xnf ci) (fs := (List.range (xnf ci)).map (fun j => xemb (xad b scr) (xfv (xft ci j) (fun _ => 0) (fun _ => 0) (fun _ => none) j))) hx hb hts (xws_in hci) (xft ci) (xf_ty hci) hown (hts _ (xnwc_ok hq)) (hts _ (xin_ci hci).1) (hts _ (xin_ci hci).2) hK hP (xw_D _ _ _ _) hS hA (xcls_at hci) (fun j hj => ?_) (by omega) (by omega) hd (fun q H1 hP1 hD1 hS1 => ?_)
      · rw [xoty_def (xall_r (xall_r xs_oty hci) hj) (xad b scr) j]
        unfold vp_V
        rw [List.getD_eq_getElem?_getD, List.getElem?_map, List.getElem?_range hj]
        rfl
      · exact xnew_go hz1 hz0 hs0 hss (by unfold xcl0; rw [if_pos (show (ci, xnf ci).1 < 100 by show ci < 100; omega)]) hP1 hD1 hS1 hL K
  | ldc idx =>
    simp only [xmem, xldc] at ho
    cases hq : xcst (xkc k) idx with
    | none => rw [hq] at ho; cases ho
    | some v =>
      rw [hq] at ho
      cases v with
      | int x => cases ho; intro H locs ls hP hS hL; exact lv_ldc hx hb hown (hts _ (xcst_ok hq)) hd (K H locs ls hP hS hL)
      | _ => cases ho
  | ldc_w idx =>
    simp only [xmem, xldc] at ho
    cases hq : xcst (xkc k) idx with
    | none => rw [hq] at ho; cases ho
    | some v =>
      rw [hq] at ho
      cases v with
      | int x => cases ho; intro H locs ls hP hS hL; exact lv_ldcw hx hb hown (hts _ (xcst_ok hq)) hd (K H locs ls hP hS hL)
      | _ => cases ho
  | ldc2_w idx =>
    simp only [xmem, xldc2] at ho
    cases hq : xcst (xkc k) idx with
    | none => rw [hq] at ho; cases ho
    | some v =>
      rw [hq] at ho
      cases v with
      | long x => cases ho; intro H locs ls hP hS hL; exact lv_ldc2 hx hb hown (hts _ (xcst_ok hq)) hd (K H locs ls hP hS hL)
      | _ => cases ho
  | _ => cases ho
end XST
end
section
/-! The small machine is sound: calls, returns, whole runs. -/
theorem xnfw : nativeFrameWords "java/lang/System" "arraycopy" 5 + 11 ≤ 32 := by decide +kernel
section XS1
variable {p : Program} {l : Launch} {e : Env} {R : Room} {s : State} {m : MethodId} {args : Array Value} {below : List Frame} {meth : Method} {c : Code} {Q : State → Prop} {D : va_G} {ca : Nat → ClassId} {b scr z0 s0 k pc pc' len d : Nat} {L L' : XL} {st st' r : List Value} {h h' : XH} {i : Instr} {S : XS}
theorem xnatv_sound (C : XCx S p s m args meth c D ca b scr z0 k) (hf : d ≤ R.frames) (hlo : 40 * d ≤ R.locals)
    (hd : decode (xcode k) pc = .ok (i, xlen i)) (ho : xnatv d k i st h = some (st', h')) (K : XW (p, l, e, R, s, m, args, below, meth, c, Q, D, ca, b, scr, z0, s0) k (pc + xlen i) L st' h') : XW (p, l, e, R, s, m, args, below, meth, c, Q, D, ca, b, scr, z0, s0) k pc L st h := by
  obtain ⟨hx, hb, hml, hown, hts, hnw, hao1, hao3, hK, hX, hsb, hz1, hss, hin, hrt, hlk⟩ := C
  obtain ⟨hd0, ⟨idx, rfl, hn, rfl, a, rfl, hw⟩ | ⟨idx, rfl, hn, hc⟩⟩ := xnatv_inv ho
  · rcases xnat_ok hn with ⟨-, hl⟩ | ⟨h7, -⟩
    · intro H locs ls hP hS hL
      refine W.objInit hx hb hown (hts _ hl) (hts _ xg_glob.1) (hts _ xg_glob.2.1) rfl (by rw [hml]; exact hL.1) rfl hd (by omega) (by show 2 * 0 + _ + 12 ≤ _; rw [xwid_emb]; omega) ?_
      exact K H locs ls hP hS hL
    · cases h7
  · rcases xnat_ok hn with ⟨h0, -⟩ | ⟨-, hl⟩
    · cases h0
    · obtain ⟨n, dp, a, sp, a0, rfl, hw, h1, h2, h3, h4, h5, ⟨t0, t1, rfl⟩ | ⟨t0, t1, rfl⟩⟩ := xcpy_inv hc
      · intro H locs ls hP hS hL
        have g0 : (xkd h a0).1 ≠ 999 := by rw [t0]; decide
        have g1 : (xkd h a).1 ≠ 999 := by rw [t1]; decide
        refine va_copyi hx hb (by rw [hml]; exact hL.1.symm) hown (hts _ hl) (hts _ xg_glob.2.2.1) (hts _ xg_glob.2.2.2.1) (hts _ xg_glob.2.2.2.2.1) hK hP (xw_D _ _ _ _) hS _ _ 0 0 ((xw_arr (scr := scr) g0).trans (by rw [xc_int t0])) ((xw_arr (scr := scr) g1).trans (by rw [xc_int t1])) rfl rfl rfl h1 h2 h3 h4 h5 (fun _ _ => rfl) (by omega) (by rw [xwid_emb]; have := xnfw; omega) hd (fun H1 locs1 hP1 _ hS1 => ?_)
        rw [xrowI g1 (by rw [xc_int t1])] at hP1
        exact K H1 locs1 ls hP1 hS1 hL
      · intro H locs ls hP hS hL
        have g0 : (xkd h a0).1 ≠ 999 := by rw [t0]; decide
        have g1 : (xkd h a).1 ≠ 999 := by rw [t1]; decide
        refine va_copyl hx hb (by rw [hml]; exact hL.1.symm) hown (hts _ hl) (hts _ xg_glob.2.2.1) (hts _ xg_glob.2.2.2.1) (hts _ xg_glob.2.2.2.2.1) hK hP (xw_D _ _ _ _) hS _ _ 1 1 ((xw_arr (scr := scr) g0).trans (by rw [xc_long t0])) ((xw_arr (scr := scr) g1).trans (by rw [xc_long t1])) rfl rfl rfl h1 h2 h3 h4 h5 (fun _ _ => rfl) (by omega) (by rw [xwid_emb]; have := xnfw; omega) hd (fun H1 locs1 hP1 _ hS1 => ?_)
        rw [xrowJ g1 (by rw [xc_long t1])] at hP1
        exact K H1 locs1 ls hP1 hS1 hL
theorem x1_sound (C : XCx S p s m args meth c D ca b scr z0 k) (hf : d ≤ R.frames) (hlo : 40 * d ≤ R.locals) (hz0 : z0 ≤ xhz h) (hs0 : s0 ≤ xhs h) (hR1 : xhz h' - z0 ≤ R.cells) (hR2 : xhs h' - s0 ≤ R.slots)
    (hd : decode (xcode k) pc = .ok (i, len)) (ho : x1 S d k i len pc L st h = some (pc', L', st', h')) (K : XW (p, l, e, R, s, m, args, below, meth, c, Q, D, ca, b, scr, z0, s0) k pc' L' st' h') : XW (p, l, e, R, s, m, args, below, meth, c, Q, D, ca, b, scr, z0, s0) k pc L st h := by
  have C' := C
  obtain ⟨hx, hb, -, -, -, -, -, -, -, -, hsb, -⟩ := C'
  unfold x1 at ho
  split at ho
  · rename_i q hq
    cases ho
    exact xjmp_sound hsb hx hb hd hq K
  · split at ho
    · rename_i hl
      subst hl
      split at ho
      · rename_i q hq
        cases ho
        exact xop_sound (G := (p, l, e, R, s, m, args, below, meth, c, Q, D, ca, b, scr, z0, s0)) hx hb hd hq K
      · split at ho
        · rename_i q hq
          cases ho
          exact xloc_sound hx hb hd hq K
        · split at ho
          · rename_i q hq
            cases ho
            exact xmem_sound C hz0 hs0 hR1 hR2 hd hq K
          · split at ho
            · rename_i q hq
              cases ho
              exact xnatv_sound C hf hlo hd hq K
            · cases ho
    · cases ho
end XS1
theorem xent_len : ∀ (as : List Value) (n : Nat), (xent as n).length = n
  | _, 0 => by simp [xent]
  | [], n + 1 => by simp [xent, xent_len [] n]
  | v :: vs, 1 => by simp only [xent]; split <;> simp [xent_len vs 0]
  | v :: vs, n + 2 => by simp only [xent]; split <;> simp [xent_len vs n, xent_len vs (n + 1)]
theorem xent_nil : ∀ (n i : Nat), xld (xent [] n) i = none
  | 0, i => by simp [xent, xld]
  | n + 1, 0 => by simp [xent, xld]
  | n + 1, i + 1 => by simp only [xent, xld_consS]; exact xent_nil n i
theorem xent_ld (ad : Nat → Nat) : ∀ (as : List Value) (n o i : Nat) (v : Value), xld (xent as n) i = some v → (i + o, xemb ad v) ∈ lv_args o (as.map (xemb ad))
  | [], n, o, i, v, h => by rw [xent_nil] at h; cases h
  | w :: ws, 0, o, i, v, h => by simp [xent, xld] at h
  | w :: ws, 1, o, i, v, h => by
    simp only [xent] at h
    split at h
    · cases i with
      | zero => rw [xld_cons0] at h; cases h
      | succ i => rw [xld_consS, xld_nil] at h; cases h
    · rename_i hc
      cases i with
      | zero =>
        rw [xld_cons0] at h
        cases h
        simp [lv_args]
      | succ i =>
        rw [xld_consS] at h
        have := xent_ld ad ws 0 (o + 1) i v h
        simp only [List.map_cons, lv_args, xemb_cat, if_neg hc]
        exact List.mem_cons_of_mem _ (by rw [show i + 1 + o = i + (o + 1) by omega]; exact this)
  | w :: ws, n + 2, o, i, v, h => by
    simp only [xent] at h
    split at h
    · rename_i hc
      match i with
      | 0 =>
        rw [xld_cons0] at h
        cases h
        simp [lv_args]
      | 1 => rw [xld_consS, xld_cons0] at h; cases h
      | i + 2 =>
        rw [xld_consS, xld_consS] at h
        have := xent_ld ad ws n (o + 2) i v h
        simp only [List.map_cons, lv_args, xemb_cat, if_pos hc]
        exact List.mem_cons_of_mem _ (by rw [show i + 2 + o = i + (o + 2) by omega]; exact this)
    · rename_i hc
      cases i with
      | zero =>
        rw [xld_cons0] at h
        cases h
        simp [lv_args]
      | succ i =>
        rw [xld_consS] at h
        have := xent_ld ad ws (n + 1) (o + 1) i v h
        simp only [List.map_cons, lv_args, xemb_cat, if_neg hc]
        exact List.mem_cons_of_mem _ (by rw [show i + 1 + o = i + (o + 1) by omega]; exact this)
theorem xsl_len (vs : List Value) : (lg_sl vs).length = xwid vs := by
  induction vs with
  | nil => rfl
  | cons v vs ih =>
    have : lg_sl (v :: vs) = (if v.category = 2 then [.val v, .second] else [.val v]) ++ lg_sl vs := by simp [lg_sl]
    rw [this, List.length_append, ih]
    unfold xwid
    rw [List.map_cons, List.sum_cons]
    congr 1
    cases v <;> rfl
theorem XLH.entry {ad : Nat → Nat} {as : List Value} {n : Nat} (h : xwid as ≤ n) : XLH ad ((lg_sl (as.map (xemb ad)) ++ List.replicate (n - (lg_sl (as.map (xemb ad))).length) Slot.unset).toArray) n (xent as n) := by
  have hw : xwid (as.map (xemb ad)) = xwid as := by
    have := xwid_emb ad as
    unfold xwid at this ⊢
    exact this
  have hl := lv_entry (as.map (xemb ad)) (n := n) (by rw [xsl_len, hw]; exact h)
  refine ⟨hl.1, xent_len as n, hl.2.1, fun i v hv => ?_⟩
  have := xent_ld ad as n 0 i v hv
  exact hl.2.2 _ this
def xws (y : Nat) : List Cond := Cond.code (xyn y) (xcode y) (xml y) (xrty y) :: xgood
def xrm (d mc ms : Nat) : Room := { frames := d, cells := mc, slots := ms, locals := 40 * d }
def XU (S : XS) (D : va_G) (ca : Nat → ClassId) (b scr : Nat) (h : XH) (U : State) : Prop := (∀ w ∈ xnest, va_Nw w U) ∧ va_AO (xcn 1) U ∧ va_AO (xcn 3) U ∧ va_K D xcls (xtys ca) U ∧ va_X scr S.1 S.2 U U.heap ∧ U.heap.size = b + (xhz h - 1) ∧ va_P D xcls (xw (xad b scr) ca b h) U.heap
def XQ (D : va_G) (ca : Nat → ClassId) (b scr : Nat) (v : Option Value) (h : XH) : Array Value → State → Outcome → State → Prop := fun _ st oc t => oc = .returned (v.map (xemb (xad b scr))) ∧ va_P D xcls (xw (xad b scr) ca b h) t.heap ∧ va_F (fun q => b ≤ q) st t
theorem xgood_in {y : Nat} (hy : y < 160) : GoodIn xgood (xws y) := by
  intro w hw
  have : w ∈ xgood := by
    rcases List.mem_cons.mp hw with rfl | h
    · exact xm_code hy
    · exact h
  exact ⟨this, good_of_word (List.mem_filter.mp this).2⟩
theorem xU_blind {S : XS} {D : va_G} {ca : Nat → ClassId} {b scr : Nat} {h : XH} {as : List Value} : FrameBlind (va_Pc as (XU S D ca b scr h)) := by
  intro a U g mk hp
  obtain ⟨h1, h2, h3, h4, h5, h6, h7, h8⟩ := hp
  refine ⟨h1, fun w hw => ?_, h3, h4, h5, h6, h7, h8⟩
  have hw2 : w.onTables = true := by
    have := (List.mem_filter.mp hw).2
    cases w <;> first | rfl | cases this
  exact va_Nw.same (u := U) (U := U.calling g mk a) hw2 rfl (h2 w hw)
theorem xU_warm {S : XS} {s U : State} {D : va_G} {ca : Nat → ClassId} {b scr : Nat} {h : XH} {H : Heap} {locs : List Loc} (hnw : ∀ w ∈ xnest, va_Nw w s) (ha1 : va_AO (xcn 1) s) (ha3 : va_AO (xcn 3) s) (hK : va_K D xcls (xtys ca) s) (hX : va_X scr S.1 S.2 s s.heap) (hsb : scr < b) (hbs : b ≤ s.heap.size) (hS : va_S (fun q => b ≤ q) s.heap H locs) (hz : H.size = b + (xhz h - 1)) (hP : va_P D xcls (xw (xad b scr) ca b h) H) (hU : U.heap = H) (hW : s.WarmedH U.vm) : XU S D ca b scr h U := by
  subst hU
  refine ⟨fun w hw => ?_, va_AO.moved hW.alike ha1, va_AO.moved hW.alike ha3, va_K.moved hW.alike hK, va_X.moved hW.alike (va_X.kept hX (hS.2.1 scr (by omega) (by omega))), hz, hP⟩
  have hq := (List.mem_filter.mp hw).2
  have hz := hnw w hw
  cases w with
  | methodLinkNest a i x h => exact va_Nw.warmM hW hz
  | _ => cases hq
end
section
/-! The main theorem: a run of the small machine is a run of the machine. -/
theorem xcall_inv {k len y : Nat} {i : Instr} {st as r : List Value} {h : XH} (ho : xcall k i len st h = some (y, as, r)) : len = 3 ∧ ∃ idx n, xcal (xkc k) idx = some (y, n) ∧ xwid r ≤ 8 ∧ xwid as ≤ xml y ∧ n ≤ st.length ∧
    ((i = .invokestatic idx ∧ xmk y = 0 ∧ as = (st.take n).reverse ∧ r = st.drop n) ∨ ∃ a, st.drop n = .ref a :: r ∧ as = .ref a :: (st.take n).reverse ∧ ((i = .invokevirtual idx ∧ xmk y = 1 ∧ xkd h a = (xkc y, xnf (xkc y))) ∨ (i = .invokespecial idx ∧ xmk y = 2))) := by
  unfold xcall at ho
  split at ho
  · rename_i hl
    refine ⟨hl, ?_⟩
    cases i with
    | invokestatic idx =>
      simp only at ho
      split at ho
      · rename_i y' n hc
        split at ho
        · rename_i hq
          cases ho
          exact ⟨idx, n, hc, hq.2.2.1, hq.2.2.2, hq.2.1, Or.inl ⟨rfl, hq.1, rfl, rfl⟩⟩
        · cases ho
      · cases ho
    | invokevirtual idx =>
      simp only at ho
      split at ho
      · rename_i y' n hc
        split at ho
        · rename_i a r' hdr
          split at ho
          · rename_i hq
            cases ho
            exact ⟨idx, n, hc, hq.2.1, hq.2.2.2.2, hq.2.2.2.1, Or.inr ⟨a, hdr, rfl, Or.inl ⟨rfl, hq.1, hq.2.2.1⟩⟩⟩
          · cases ho
        · cases ho
      · cases ho
    | invokespecial idx =>
      simp only at ho
      split at ho
      · rename_i y' n hc
        split at ho
        · rename_i a r' hdr
          split at ho
          · rename_i hq
            cases ho
            exact ⟨idx, n, hc, hq.2.1, hq.2.2.2, hq.2.2.1, Or.inr ⟨a, hdr, rfl, Or.inr ⟨rfl, hq.1⟩⟩⟩
          · cases ho
        · cases ho
      · cases ho
    | _ => cases ho
  · cases ho
section XMA
variable {p : Program} {l : Launch} {e : Env} {R : Room} {s : State} {m : MethodId} {args : Array Value} {below : List Frame} {meth : Method} {c : Code} {Q : State → Prop} {D : va_G} {ca : Nat → ClassId} {b scr z0 s0 k pc pc' len d : Nat} {L L' : XL} {st st' r : List Value} {h h' h1 : XH} {i : Instr} {S : XS} {v : Option Value}
theorem xret_sound (C : XCx S p s m args meth c D ca b scr z0 k) (hd : decode (xcode k) pc = .ok (i, len)) (hr : xret k i len st = some v) : XW (p, l, e, R, s, m, args, below, meth, c, MQ below (XQ D ca b scr v h) args s (xhz h - z0) (xhs h - s0) (fun q => b ≤ q), D, ca, b, scr, z0, s0) k pc L st h := by
  obtain ⟨hx, hb, hml, hown, hts, hnw, hao1, hao3, hK, hX, hsb, hz1, hss, hin, hrt, hlk⟩ := C
  unfold xret at hr
  split at hr
  · rename_i hl
    subst hl
    cases i with
    | return_ =>
      simp only at hr
      split at hr
      · rename_i hc
        cases hr
        obtain ⟨h1, rfl⟩ := hc
        intro H locs ls hP hS hL
        exact W.vret hx hb (hrt.trans h1) (fun t ht hW => ⟨rfl, by rw [ht]; exact hP, hS.F ht⟩) hS.2.2 hd hlk
      · cases hr
    | ireturn =>
      simp only at hr
      split at hr
      · split at hr
        · rename_i hc
          cases hr
          intro H locs ls hP hS hL
          rcases hc with h1 | ⟨h1, h2⟩
          · exact W.iret hx hb (hrt.trans h1) (fun t ht hW => ⟨rfl, by rw [ht]; exact hP, hS.F ht⟩) hS.2.2 hd hlk
          · exact W.zret (ty := .boolean) hx hb (hrt.trans h1) (by rcases h2 with rfl | rfl <;> decide) (fun t ht hW => ⟨rfl, by rw [ht]; exact hP, hS.F ht⟩) hS.2.2 hd hlk
        · cases hr
      · cases hr
    | lreturn =>
      simp only at hr
      split at hr
      · split at hr
        · rename_i h1
          cases hr
          intro H locs ls hP hS hL
          exact W.lret hx hb (hrt.trans h1) (fun t ht hW => ⟨rfl, by rw [ht]; exact hP, hS.F ht⟩) hS.2.2 hd hlk
        · cases hr
      · cases hr
    | areturn =>
      have hro : xrob k = true → ∃ rt, xrty k = some rt ∧ ((∃ n, rt = .object n) ∨ ∃ t, rt = .array t) := by
        intro hq
        unfold xrob at hq
        split at hq
        · rename_i hq2; exact ⟨_, hq2, Or.inl ⟨_, rfl⟩⟩
        · rename_i hq2; exact ⟨_, hq2, Or.inr ⟨_, rfl⟩⟩
        · cases hq
      simp only at hr
      split at hr
      · split at hr
        · rename_i hq
          cases hr
          obtain ⟨rt, h1, h2⟩ := hro hq
          intro H locs ls hP hS hL
          exact W.aret hx hb (hrt.trans h1) h2 (Or.inr ⟨_, rfl⟩) (fun t ht hW => ⟨rfl, by rw [ht]; exact hP, hS.F ht⟩) hS.2.2 hd hlk
        · cases hr
      · split at hr
        · rename_i hq
          cases hr
          obtain ⟨rt, h1, h2⟩ := hro hq
          intro H locs ls hP hS hL
          exact W.aret hx hb (hrt.trans h1) h2 (Or.inl rfl) (fun t ht hW => ⟨rfl, by rw [ht]; exact hP, hS.F ht⟩) hS.2.2 hd hlk
        · cases hr
      · cases hr
    | _ => cases hr
  · cases hr
theorem xgo {H : Heap} {locs : List Loc} {ls : Array Slot} {st0 rest : List Value} {a : Array Value} {mc ms : Nat} (hr : va_Run p l e R s m args below meth c H locs (xhz h - z0) (xhs h - s0) mc ms (F0 m pc ls st0) rest (XQ D ca b scr v h1 a) (fun q => b ≤ q)) (hS : va_S (fun q => b ≤ q) s.heap H locs)
    (kk : ∀ (H1 : Heap) (locs1 : List Loc), va_P D xcls (xw (xad b scr) ca b h1) H1 → va_S (fun q => b ≤ q) s.heap H1 locs1 → W p l e R s m args below meth c H1 locs1 (xhz h - z0 + mc) (xhs h - s0 + ms) Q (F0 m (pc + 3) ls ((v.map (xemb (xad b scr))).toList ++ rest))) : W p l e R s m args below meth c H locs (xhz h - z0) (xhs h - s0) Q (F0 m pc ls st0) := by
  intro T hT X
  obtain ⟨v', st₀, t, T', L, h0, X', hL, e1, e2, ⟨hv, hP, hz, hk⟩, st⟩ := hr T hT X
  cases hv
  rw [h0] at hz hk
  obtain ⟨t2, a1, b1⟩ := kk T'.heap (locs ++ L) (by rw [e1]; exact hP) ⟨Nat.le_trans hS.1 (by rw [e1]; exact hz), fun q h1 h2 => by rw [e1, hk q (Nat.lt_of_lt_of_le h1 hS.1) h2]; exact hS.2.1 q h1 h2, fun q hq => by
      rcases List.mem_append.mp hq with h | h
      · exact hS.2.2 q h
      · exact hL q h⟩ T' rfl X'
  exact ⟨t2, st t2 a1, b1⟩
end XMA
theorem xsound (S : XS) (l : Launch) (D : va_G) (ca : Nat → ClassId) (b scr : Nat) : ∀ (n d k pc : Nat) (L : XL) (st : List Value) (h : XH) (v : Option Value) (h' : XH), xrun S n d k pc L st h = some (v, h') →
    ∀ (p : Program) (e : Env) (R : Room) (s : State) (m : MethodId) (args : Array Value) (below : List Frame) (meth : Method) (c : Code) (Q : State → Prop) (z0 s0 : Nat), XCx S p s m args meth c D ca b scr z0 k → d ≤ R.frames → 40 * d ≤ R.locals → z0 ≤ xhz h → s0 ≤ xhs h → xhz h' - z0 ≤ R.cells → xhs h' - s0 ≤ R.slots →
      (∀ i len pc1 st1 L1, decode (xcode k) pc1 = .ok (i, len) → xret k i len st1 = some v → XW (p, l, e, R, s, m, args, below, meth, c, Q, D, ca, b, scr, z0, s0) k pc1 L1 st1 h') → XW (p, l, e, R, s, m, args, below, meth, c, Q, D, ca, b, scr, z0, s0) k pc L st h := by
  intro n
  induction n with
  | zero => intro d k pc L st h v h' ho; cases ho
  | succ n ih =>
    intro d k pc L st h v h' ho p e R s m args below meth c Q z0 s0 C hf hlo hz0 hs0 hR1 hR2 HR
    simp only [xrun] at ho
    split at ho
    · cases ho
    · rename_i i len hd
      split at ho
      · rename_i r hr
        cases ho
        exact HR i len pc st L hd hr
      · split at ho
        · rename_i y as r hc
          split at ho
          · cases ho
          · rename_i hd0
            split at ho
            · cases ho
            · rename_i v1 h1 hcal
              have g1 := xrun_grow _ _ _ _ _ _ _ _ _ hcal
              have g2 := xrun_grow _ _ _ _ _ _ _ _ _ ho
              obtain ⟨rfl, idx, nn, hxc, hwr, hwa, hnn, hkind⟩ := xcall_inv hc
              obtain ⟨hy, hpar, hlink⟩ := xcal_ok hxc
              have hM : Met l (xyn y) (xws y) (xrm (d - 1) (xhz h1 - xhz h) (xhs h1 - xhs h)) (va_Pc (as.map (xemb (xad b scr))) (XU S D ca b scr h)) (XQ D ca b scr v1 h1) (xhz h1 - xhz h) (xhs h1 - xhs h) (fun q => b ≤ q) := by
                refine va_MetF (cc := xcode y) (maxL := xml y) (ret := xrty y) (xm_pl hy).1 rfl ?_
                intro p' e' s' m' args' below' meth' c' s₁ B hml' hv
                obtain ⟨rfl, u1, u2, u3, u4, u5, u6, u7⟩ := hv
                have hts' := atoms_spec (ws := xws y) B.pre
                have C' : XCx S p' s' m' ((as.map (xemb (xad b scr))).toArray) meth' c' D ca b scr (xhz h) y := by
                  obtain ⟨-, -, -, -, -, -, -, -, -, -, hsb, hz1, -⟩ := C
                  refine ⟨B.exec, B.bytes, hml', ?_, fun w hw => hts' w (List.mem_cons_of_mem _ hw), u1, u2, u3, u4, u5, hsb, by omega, u6, fun q => ?_, B.returns, B.notSynchronized⟩
                  · have := findClass_of_methodNamed B.named
                    rw [xm_cls (by omega)] at this
                    exact this
                  · rw [← q]
                    exact (name_of_methodNamed B.named B.method).1
                have K := ih (d - 1) y 0 (xent as (xml y)) [] h v1 h1 hcal p' e' (xrm (d - 1) (xhz h1 - xhz h) (xhs h1 - xhs h)) s' m' _ below' meth' c' (MQ below' (XQ D ca b scr v1 h1) ((as.map (xemb (xad b scr))).toArray) s' (xhz h1 - xhz h) (xhs h1 - xhs h) (fun q => b ≤ q)) (xhz h) (xhs h) C' (Nat.le_refl _) (Nat.le_refl _) (Nat.le_refl _) (Nat.le_refl _) (Nat.le_refl _) (Nat.le_refl _) (fun i len pc1 st1 L1 q1 q2 => xret_sound C' q1 q2)
                rw [lg_entry_eq]
                have K := K s'.heap [] _ u7 va_S.rf (XLH.entry hwa)
                rw [Nat.sub_self, Nat.sub_self] at K
                exact K
              have K := ih d k (pc + 3) L (v1.toList ++ r) h1 v h' ho p e R s m args below meth c Q z0 s0 C hf hlo (by omega) (by omega) hR1 hR2 HR
              obtain ⟨hx, hb, hml, hown, hts, hnw, hao1, hao3, hK, hX, hsb, hz1, hss, hin, hrt, hlk⟩ := C
              have hmL := (xm_kc hy).1
              have hroom : (xrm (d - 1) (xhz h1 - xhz h) (xhs h1 - xhs h)).frames + 1 ≤ R.frames ∧ 8 + (xml y + 11) + (xrm (d - 1) (xhz h1 - xhz h) (xhs h1 - xhs h)).locals ≤ R.locals := by
                refine ⟨?_, ?_⟩
                · show d - 1 + 1 ≤ _; omega
                · show 8 + (xml y + 11) + 40 * (d - 1) ≤ _; omega
              have hds : (xyn y).cls ≠ "java/lang/invoke/MethodHandle" ∧ (xyn y).cls ≠ "java/lang/invoke/VarHandle" ∧ (parseMethodDescriptor (xyn y).desc).map (fun d => d.parameters.length) = some nn := ⟨(xm_pl hy).2.1, (xm_pl hy).2.2, hpar⟩
              intro H locs ls hP hS hL
              refine W.sized (fun hsz => ?_)
              have hsz2 : H.size = b + (xhz h - 1) := by
                refine Nat.le_antisymm (by omega) ?_
                by_cases hq : xhz h = 1
                · have := hS.1; omega
                · have := (hP (xhz h - 1 - 1) _ (xw_at (scr := scr) (a := xhz h - 1) (by omega) (by omega))).lt
                  rw [xad_pos (by omega)] at this
                  have h2 : b + (xhz h - 1 - 1) < H.size := this
                  omega
              have hUU : ∀ U : State, U.heap = H → s.WarmedH U.vm → XU S D ca b scr h U := fun U hU hW => xU_warm hnw hao1 hao3 hK hX hsb (by omega) hS hsz2 hP hU hW
              have hcs : xhz h - z0 + (xhz h1 - xhz h) ≤ R.cells ∧ xhs h - s0 + (xhs h1 - xhs h) ≤ R.slots := by omega
              have fin : ∀ (a : Array Value) (st0 : List Value), va_Run p l e R s m args below meth c H locs (xhz h - z0) (xhs h - s0) (xhz h1 - xhz h) (xhs h1 - xhs h) (F0 m pc ls st0) (r.map (xemb (xad b scr))) (XQ D ca b scr v1 h1 a) (fun q => b ≤ q) → W p l e R s m args below meth c H locs (xhz h - z0) (xhs h - s0) Q (F0 m pc ls st0) := by
                intro a st0 hrun
                refine xgo hrun hS (fun H1 locs1 hP1 hS1 => ?_)
                have K := K H1 locs1 ls hP1 hS1 hL
                have e1 : xhz h1 - z0 = xhz h - z0 + (xhz h1 - xhz h) := by omega
                have e2 : xhs h1 - s0 = xhs h - s0 + (xhs h1 - xhs h) := by omega
                have e3 : (v1.toList ++ r).map (xemb (xad b scr)) = (v1.map (xemb (xad b scr))).toList ++ r.map (xemb (xad b scr)) := by cases v1 <;> rfl
                rw [e1, e2, e3] at K
                exact K
              have hCF : CallFix p m c (xcode k) (xml k) s args xgood (xcn (xkc k)) := ⟨hx, hb, hml, hown, hts⟩
              have hlen : ((st.take nn).reverse.map (xemb (xad b scr))).length = nn := by simp; omega
              rcases hkind with ⟨rfl, hmk, rfl, rfl⟩ | ⟨a, hdr, rfl, ⟨rfl, hmk, hkd⟩ | ⟨rfl, hmk⟩⟩
              · have hst : (F0 m pc ls (st.map (xemb (xad b scr)))).stack = ((st.take nn).reverse.map (xemb (xad b scr))).reverse ++ (st.drop nn).map (xemb (xad b scr)) := by
                  show st.map _ = _
                  rw [← List.map_reverse, List.reverse_reverse, ← List.map_append, List.take_append_drop]
                refine fin ((st.take nn).reverse.map (xemb (xad b scr))).toArray _ ?_
                rcases hlink with hl | hl
                · exact va_runS hCF hM ⟨callB_of nn hts (xgood_in hy) rfl rfl rfl (hts _ (xm_ini hy)) (hts _ hl) hds hroom, hts _ (xm_k0 hy hmk)⟩ ⟨xU_blind, fun U hU hW => ⟨rfl, hUU U hU hW⟩⟩ rfl hlen hL.1 hst (lv_room (by rw [xwid_emb]; exact hwr)) hd hcs
                · exact va_runSN hCF hM ⟨va_cnB nn hts (xgood_in hy) rfl rfl rfl (hnw _ hl) (hts _ (xm_ini hy)) hds hroom, hts _ (xm_k0 hy hmk), trivial⟩ ⟨xU_blind, fun U hU hW => ⟨rfl, hUU U hU hW⟩⟩ rfl hlen hL.1 hst (lv_room (by rw [xwid_emb]; exact hwr)) hd hcs
              · have hst : (F0 m pc ls (st.map (xemb (xad b scr)))).stack = ((st.take nn).reverse.map (xemb (xad b scr))).reverse ++ .ref (xad b scr a) :: r.map (xemb (xad b scr)) := by
                  show st.map _ = _
                  rw [← List.map_reverse, List.reverse_reverse]
                  conv => lhs; rw [← List.take_append_drop nn st, List.map_append, hdr]
                  rfl
                refine fin (Value.ref (xad b scr a) :: (st.take nn).reverse.map (xemb (xad b scr))).toArray _ ?_
                obtain ⟨k1, k2, k3⟩ := xm_k1 hy hmk
                have hrec := va_recv hK hP (xcls_at k3) (xw_obj (scr := scr) hkd (by omega))
                rcases hlink with hl | hl
                · exact va_runV hCF hM ⟨callB_of nn hts (xgood_in hy) rfl rfl rfl (hts _ (xm_ini hy)) (hts _ hl) hds hroom, hts _ k1, hts _ k2⟩ ⟨xU_blind, hrec, fun U hU hW => ⟨rfl, hUU U hU hW⟩⟩ rfl hlen hL.1 hst (lv_room (by rw [xwid_emb]; exact hwr)) hd hcs
                · exact va_runVN hCF hM ⟨va_cnB nn hts (xgood_in hy) rfl rfl rfl (hnw _ hl) (hts _ (xm_ini hy)) hds hroom, hts _ k1, hts _ k2⟩ ⟨xU_blind, hrec, fun U hU hW => ⟨rfl, hUU U hU hW⟩⟩ rfl hlen hL.1 hst (lv_room (by rw [xwid_emb]; exact hwr)) hd hcs
              · have hst : (F0 m pc ls (st.map (xemb (xad b scr)))).stack = ((st.take nn).reverse.map (xemb (xad b scr))).reverse ++ .ref (xad b scr a) :: r.map (xemb (xad b scr)) := by
                  show st.map _ = _
                  rw [← List.map_reverse, List.reverse_reverse]
                  conv => lhs; rw [← List.take_append_drop nn st, List.map_append, hdr]
                  rfl
                refine fin (Value.ref (xad b scr a) :: (st.take nn).reverse.map (xemb (xad b scr))).toArray _ ?_
                obtain ⟨k1, k2, k3⟩ := xm_k2 hy hmk
                have hM2 := hM
                rcases hlink with hl | hl
                · exact va_runI (maxL := xml y) (bytes := xcode y) hCF hM ⟨callB_of nn hts (xgood_in hy) (by unfold xws; rw [k3]) rfl rfl (hts _ (xm_ini hy)) (hts _ hl) hds hroom, k2, hts _ k1⟩ ⟨xU_blind, fun U hU hW => ⟨rfl, hUU U hU hW⟩⟩ rfl hlen hL.1 hst (lv_room (by rw [xwid_emb]; exact hwr)) hd hcs
                · exact va_runIN (maxL := xml y) (bytes := xcode y) hCF hM ⟨va_cnB nn hts (xgood_in hy) (by unfold xws; rw [k3]) rfl rfl (hnw _ hl) (hts _ (xm_ini hy)) hds hroom, k2, hts _ k1⟩ ⟨xU_blind, fun U hU hW => ⟨rfl, hUU U hU hW⟩⟩ rfl hlen hL.1 hst (lv_room (by rw [xwid_emb]; exact hwr)) hd hcs
        · split at ho
          · cases ho
          · rename_i pc' L' st' h1 h1e
            have g1 := x1_grow h1e
            have g2 := xrun_grow _ _ _ _ _ _ _ _ _ ho
            exact x1_sound C hf hlo hz0 hs0 (by omega) (by omega) hd h1e (ih d k pc' L' st' h1 v h' ho p e R s m args below meth c Q z0 s0 C hf hlo (by omega) (by omega) hR1 hR2 HR)
end
section
/-! THE CLAIM OUT OF ONE WALK OF THE LAW'S BODY. Your part is whole_start (and what it stands on); all else here is the same for every law, but numbers. -/
def R_law : String := "BranchGoalsLaw"
def lw_P (b : Addr) (xs : List Int32) (args : Array Value) (s : State) : Prop := args = #[.ref b] ∧ s.IntsAt b xs ∧ xs.length ≤ 3073 ∧ (Jvm.Cond.and given_1 narrow_1).before args s = true
def lw_Q (_ : Array Value) (s : State) (o : Outcome) (t : State) : Prop := o = .returned (some (.int 1)) ∧ Framed s o t [] 600000 7302250
def lw_Z (below : List Frame) (a : Array Value) (s : State) : State → Prop := fun t => ∃ o, t.status = .running ∧ Ended t below o ∧ lw_Q a s o t
/-- the law's own end, with 1 on the stack, nothing written that was there before, its room as the claim has it -/
theorem lw_ret {p : Program} {l : Launch} {e : Env} {s : State} {m : MethodId} {below : List Frame} {meth : Method} {c : Code} {b : Nat} (hx : p.tables.exec = Jvm.exec) (hb : c.code = code) (hr : meth.sig.returnType = ret) (hlocks : meth.locks = false) {pc : Nat} {H : Heap} {ls : Array Slot} (hdg : decode code pc = .ok (.ireturn, 1)) : W p l e room_1 s m #[Value.ref b] below meth c H [] 600000 7302250 (lw_Z below #[Value.ref b] s) (F0 m pc ls [.int 1]) := by
  intro T hT X
  obtain ⟨fs, hret, hrun, hended, hW, hframe⟩ := X.leave (v := some (.int 1)) (hlocks := hlocks) (fun h => by rw [hr] at h; cases h)
  have hmeth' : T.vm.method? m = some meth := X.method'
  refine ⟨T.setFrames fs, ?_, .returned (some (.int 1)), hrun, hended, rfl, ⟨_, rfl⟩, hW, hframe⟩
  jvm_step X.here [X.here.top, hx, hb, hdg, hmeth', hr, ret, narrow_b1]
  (try refine ⟨rfl, ?_⟩); (try refine ⟨rfl, ?_⟩)
  first | (intro acts; rw [hret _ acts rfl rfl rfl]) | rw [hret _ _ rfl rfl rfl]
  exact Steps.refl _
/-- what holds at the law's entry: the machine, the code, the tables' words (any of lw_tbl by 'hts w (by decide +kernel)'), the script of L ints xs at the cell b, what the Statement gives of the start (any of its parts by flat_of_before) -/
def lw_At (p : Program) (s : State) (m : MethodId) (meth : Method) (c : Code) (b L : Nat) (xs : Nat → Int32) : Prop :=
  p.tables.exec = Jvm.exec ∧ c.code = code ∧ meth.sig.returnType = ret ∧ c.maxLocals = 4 ∧ s.vm.findClass R_law = some m.cls ∧ (∀ w ∈ lw_tbl, w.before #[Value.ref b] s = true) ∧ va_X b L xs s s.heap ∧ b < s.heap.size ∧ meth.locks = false ∧ (Jvm.Cond.and given_1 narrow_1).before #[Value.ref b] s = true
def xh0 : XH := (1, 0, (fun _ => (999, 0)), (fun _ _ => 0), (fun _ _ => 0), (fun _ _ => none))
/-- what is left: on every script the small machine runs the law to 1, in its room -/
def XLaw : Prop := ∀ (N : Nat) (xs : Nat → Int32), N ≤ 3073 → ∃ (n : Nat) (h' : XH), xrun (N, xs) n 11 160 0 (xent [.ref 0] 4) [] xh0 = some (some (.int 1), h') ∧ xhz h' ≤ 600001 ∧ xhs h' ≤ 7302250
theorem xl_ca {s : State} {args : Array Value} {ty : FieldType} (h : (Cond.arrayClass ty).before args s = true) (hp : ∀ n, ty ≠ .object n) : ∃ c, ArrOfT s c ty ∧ va_RA s c ty := by
  obtain ⟨c, k, comp, h1, h2, h3⟩ := Cond.arrayClass_spec h
  refine ⟨c, fun n z => ⟨fun k h => (by cases h), k, h2, comp, h3⟩, ?_⟩
  cases ty <;> first | exact h1 | exact absurd rfl (hp _)
theorem xl_co {s : State} {C : String} (h : va_AO C s) : ∃ c, ArrOfT s c (.object C) ∧ va_RA s c (.object C) := by
  obtain ⟨comp, c, k, h1, h2, h3, h4, h5⟩ := Cond.arrayOver_spec h
  exact ⟨c, fun n z => ⟨fun k h => (by cases h), k, h3, comp, h4⟩, k, comp, h3, h4, h1, h5⟩
theorem xl_cls {s : State} {args : Array Value} (hts : ∀ w ∈ xgood, w.before args s = true) : ∃ D : va_G, ∀ (ci : Nat) (q : vw_C), xcls[ci]? = some q → u_Kn s q.1 q.2.1 q.2.2 (D.1 ci) (D.2 ci) := by
  have h1 : ∀ ci : Nat, ∃ (cC : ClassId) (iS : Nat → Nat), ci < 10 → u_Kn s (xcn ci) (xTT ci) (xnf ci) cC iS := by
    intro ci
    by_cases hc : ci < 10
    · obtain ⟨cC, iS, hk⟩ := u_known hts (xws_in hc) (hts _ (xin_ci hc).1)
      exact ⟨cC, iS, fun _ => hk⟩
    · exact ⟨default, fun _ => 0, fun q => absurd q hc⟩
  refine ⟨(fun ci => (h1 ci).choose, fun ci => (h1 ci).choose_spec.choose), fun ci q hq => ?_⟩
  have hlt : ci < 10 := (List.getElem?_eq_some_iff.mp hq).1
  have := xcls_at hlt
  rw [hq] at this
  cases this
  exact (h1 ci).choose_spec.choose_spec hlt
set_option maxHeartbeats 4000000 in
theorem whole_start_open (hXL : XLaw) {p : Program} {e : Env} {s : State} {m : MethodId} {below : List Frame} {meth : Method} {c : Code} (l : Launch) {b L : Nat} {xs : Nat → Int32} (hL : L ≤ 3073) (C0 : lw_At p s m meth c b L xs) : W p l e room_1 s m #[Value.ref b] below meth c s.heap [] 0 0 (lw_Z below #[Value.ref b] s) (entryFrame m ([Value.ref b] : List Value).toArray 4) := by
  obtain ⟨hx, hb, hr, hml, hown, hts, hX, hbl, hlk, hgv⟩ := C0
  obtain ⟨n, h', hrun, hc, hs⟩ := hXL L xs hL
  have htg : ∀ w ∈ xgood, w.before #[Value.ref b] s = true := fun w hw => hts w (List.mem_filter.mp hw).1
  have ha1 : va_AO (xcn 1) s := va_AO.of (hts _ (List.mem_append_right _ (xpl_in xkO_e (w := .arrayOver (.object (xcn 1))) (by simp [xcn, xcnT]))))
  have ha3 : va_AO (xcn 3) s := va_AO.of (hts _ (List.mem_append_right _ (xpl_in xkO_e (w := .arrayOver (.object (xcn 3))) (by simp [xcn, xcnT]))))
  have hnw : ∀ w ∈ xnest, va_Nw w s := fun w hw => by
    have hw2 : w.onTables = true := by
      have := (List.mem_filter.mp hw).2
      cases w <;> first | rfl | cases this
    exact va_Nw.of hw2 (hts w (List.mem_filter.mp hw).1)
  obtain ⟨D, hD⟩ := xl_cls htg
  obtain ⟨c0, k0⟩ := xl_ca (htg _ xg_glob.2.2.2.2.2.1) (fun n q => by cases q)
  obtain ⟨c1, k1⟩ := xl_ca (htg _ xg_glob.2.2.2.2.2.2.1) (fun n q => by cases q)
  obtain ⟨c2, k2⟩ := xl_ca (htg _ xg_glob.2.2.2.2.2.2.2) (fun n q => by cases q)
  obtain ⟨c3, k3⟩ := xl_co ha1
  obtain ⟨c4, k4⟩ := xl_co ha3
  have hK : va_K D xcls (xtys (fun t => ([c0, c1, c2, c3, c4] : List ClassId).getD t c0)) s := by
    refine ⟨hD, fun t q hq => ?_⟩
    match t, hq with
    | 0, hq => cases hq; exact k0
    | 1, hq => cases hq; exact k1
    | 2, hq => cases hq; exact k2
    | 3, hq => cases hq; exact k3
    | 4, hq => cases hq; exact k4
  have C : XCx (L, xs) p s m #[Value.ref b] meth c D (fun t => ([c0, c1, c2, c3, c4] : List ClassId).getD t c0) s.heap.size b 1 160 :=
    ⟨hx, hb, hml, hown, htg, hnw, ha1, ha3, hK, hX, hbl, Nat.le_refl 1, rfl, fun q => absurd q (by decide), hr, hlk⟩
  have K := xsound (L, xs) l D _ s.heap.size b n 11 160 0 (xent [.ref 0] 4) [] xh0 (some (.int 1)) h' hrun p e room_1 s m #[Value.ref b] below meth c (lw_Z below #[Value.ref b] s) 1 0 C (by decide) (by decide) (Nat.le_refl 1) (Nat.le_refl 0) (by show xhz h' - 1 ≤ 600000; omega) (by show xhs h' - 0 ≤ 7302250; omega) ?_
  · rw [lg_entry_eq]
    exact K s.heap [] _ (fun k q hq => by simp [xw, xh0, xhz] at hq) va_S.rf (XLH.entry (as := [.ref 0]) (by decide))
  · intro i len pc1 st1 L1 hd hret H locs ls hP hS hLs
    unfold xret at hret
    split at hret
    · rename_i hl
      subst hl
      cases i with
      | return_ =>
        simp only at hret
        split at hret
        · cases hret
        · cases hret
      | ireturn =>
        simp only at hret
        split at hret
        · split at hret
          · cases hret
            refine va_forget (fun q hq => hS.2.2 q hq) ?_
            refine W.widen (k := 600000) (n := 7302250) (by show xhz h' - 1 ≤ 600000; omega) (by show xhs h' - 0 ≤ 7302250; omega) ?_
            exact lw_ret hx hb hr hlk hd
          · cases hret
        · cases hret
      | lreturn =>
        simp only at hret
        split at hret
        · split at hret
          · cases hret
          · cases hret
        · cases hret
      | areturn =>
        simp only at hret
        split at hret
        · split at hret
          · cases hret
          · cases hret
        · split at hret
          · cases hret
          · cases hret
        · cases hret
      | _ => cases hret
    · cases hret
end
section
theorem xlaw : XLaw := sorry
theorem whole_start {p : Program} {e : Env} {s : State} {m : MethodId} {below : List Frame} {meth : Method} {c : Code} (l : Launch) {b L : Nat} {xs : Nat → Int32} (hL : L ≤ 3073) (C0 : lw_At p s m meth c b L xs) : W p l e room_1 s m #[Value.ref b] below meth c s.heap [] 0 0 (lw_Z below #[Value.ref b] s) (entryFrame m ([Value.ref b] : List Value).toArray 4) := whole_start_open xlaw l hL C0
-- ===== YOUR PART ENDS =====
set_option maxHeartbeats 4000000 in
theorem lw_walk (l : Launch) (b : Addr) (xs : List Int32) : MetFree l x (headSpec (Jvm.Cond.code x code maxLocals ret :: tables_1) room_1) (lw_P b xs) (fun _ _ _ _ _ => True) lw_Q := by
  refine MetFree.of_bodyS (code := code) (maxLocals := maxLocals) (ret := ret) (by decide) ?_ ?_
  · intro args s m h hn
    obtain ⟨meth, c, h1, h2, h3, h4, h5, h6, -, -⟩ := Cond.code_spec hn (atoms_spec (ws := Jvm.Cond.code x code maxLocals ret :: tables_1) h _ List.mem_cons_self)
    exact ⟨meth, c, h1, h2, h3, h4, h5, h6⟩
  · intro p e s m args below meth c s₁ B hml0 hP _
    obtain ⟨rfl, hx, hbd, hgv⟩ := hP
    obtain ⟨scr, harrAt, hlist, hof, hsmall⟩ := hx
    obtain ⟨hcb, hkn, -, -⟩ := State.arrayAt?_spec harrAt
    have hown : s.vm.findClass R_law = some m.cls := findClass_of_methodNamed B.named
    have hts0 : ∀ c ∈ (Jvm.Cond.code x code maxLocals ret :: tables_1), c.before #[Value.ref b] s = true := atoms_spec (ws := Jvm.Cond.code x code maxLocals ret :: tables_1) B.pre
    have hts : ∀ w ∈ lw_tbl, w.before #[Value.ref b] s = true := k2_hts_sels lw_privs (fun w hw => hts0 w (List.mem_cons_of_mem _ hw)) lw_privs_ok
    have hml : c.maxLocals = 4 := B.maxLocals_eq (hts0 _ List.mem_cons_self)
    have X₀ : Stand p l e room_1 s m #[Value.ref b] below meth c s₁ [] 0 0 := Stand.of_body B
    have hh0 : s₁.heap = s.heap := by rw [B.state]; rfl
    have hsz : scr.slots.size = xs.length := by rw [← Array.length_toList, hlist, List.length_map]
    have hval : ∀ j : Nat, j < xs.length → scr.slots[j]? = some (.int (xs.getD j 0)) := fun j hj => by
      rw [← Array.getElem?_toList, hlist]
      simp [hj]
    have hbl : b < s.heap.size := (Array.getElem?_eq_some_iff.mp hcb).1
    have hX : va_X b xs.length (fun j => xs.getD j 0) s s.heap := ⟨scr, hcb, hof, hkn, hsz, hval⟩
    have K : W p l e room_1 s m #[Value.ref b] below meth c s₁.heap [] 0 0 (lw_Z below #[Value.ref b] s) (entryFrame m ([Value.ref b] : List Value).toArray 4) := by
      rw [hh0]
      exact whole_start l hbd ⟨B.exec, B.bytes, B.returns, hml, hown, hts, hX, hbl, B.notSynchronized, hgv⟩
    obtain ⟨t, a1, o, b1, b2, b3⟩ := K s₁ rfl X₀
    exact ⟨t, o, a1, b1, b2, b3⟩
theorem lw_pre_spec {args : Array Value} {s : State} (h : (Jvm.Cond.and given_1 narrow_1).before args s = true) (hr : rest_1_c.before args s = true) : ∃ (b : Addr) (xs : List Int32), lw_P b xs args s := by
  have hs := flat_of_before _ h
  have hq := flat_of_before _ hr
  have hc : (Cond.count 1).before args s = true := hs _ (by decide +kernel)
  have harr : (Cond.arrayOf (.arg 0) .int).before args s = true := hs _ (by decide +kernel)
  have hle : (Cond.le (.length (.arg 0)) (.int 3073)).before args s = true := hs _ (by decide +kernel)
  have hlen : (Cond.isInt (.length (.arg 0))).before args s = true := hq _ (by decide +kernel)
  have hall : (Cond.all (.arg 0) (.isInt (.elem (.arg 0) (.index 0)))).before args s = true := hq _ (by decide +kernel)
  obtain ⟨b, xs, hb, hx⟩ := State.ints_of_pre rfl harr hlen hall
  have hsm : xs.length < 2 ^ 31 := hx.choose_spec.2.2.2
  have hev : (Term.length (.arg 0)).eval args s none [] s = some (.int xs.length.toInt32) := hx.length_eval hb
  have hv := Cond.le_ints hev (show (Term.int 3073).eval args s none [] s = some (.int 3073) from rfl)
  have hd : xs.length.toInt32 ≤ 3073 := by
    simpa [Cond.before, Cond.holds, hv] using hle
  have hN : xs.length ≤ 3073 := (Int32.ofNat_le_ofNat hsm (by decide)).mp (show Int32.ofNat xs.length ≤ Int32.ofNat 3073 from hd)
  exact ⟨b, xs, Cond.one_arg hc (show args[0]? = some (.ref b) from hb), hx, hN, h⟩
theorem lw_comes (l : Launch) : Comes l x (Jvm.Cond.code x code maxLocals ret :: tables_1) room_1 (fun tb e args s => Calls_1 tb e args s ∧ rest_1 tb e args s ∧ Pre_1 tb e args s)
    (fun _ _ args s o t => lw_Q args s o t) := by
  intro p e ha hc hk s m args below hf hfit hheap happ hpre
  obtain ⟨b, xs, hP⟩ := lw_pre_spec hpre.2.2 hpre.2.1
  obtain ⟨k, o, h1, h2, h3, hQ⟩ := lw_walk l b xs p e ha hc hk s m args below hf ((Spec.applies_iff_loose hf).mp happ).1 hP trivial
  exact ⟨k, o, h1, h2, h3, hQ⟩
theorem lw_frame {s t : State} {o : Outcome} {args : Array Value} (h : Framed s o t [] 600000 7302250) :
    Framed s o t (fieldLocs frame_1_writes args s ++ arrayLocs frame_1_arrays args s ++ staticLocs frame_1_statics s) 600000 7302250 := h
theorem lw_limb (L : Cond) (hL : ∀ (args : Array Value) (s t : State), L.after args s (.returned (some (.int 1))) t = true) :
    ArmFor flags0 classFile x code maxLocals ret World_1 tables_1 room_1 Calls_1 rest_1 Pre_1
      (fun tb e a s o t => postC L tb e a s o t ∧ Framed s o t (fieldLocs frame_1_writes a s ++ arrayLocs frame_1_arrays a s ++ staticLocs frame_1_statics s) 600000 7302250) := by
  intro l _ _ _ p e ha hc hk s m args below hf hfit hheap happ hpre
  obtain ⟨k, o, h1, h2, h3, rfl, hF⟩ := lw_comes l p e ha hc hk s m args below hf hfit hheap happ hpre
  exact ⟨k, _, h1, h2, h3, hL args s _, lw_frame hF⟩
theorem i_vc : Claimed_1_1 ∧ Claimed_1_2 := ⟨lw_limb limb_1_1 (fun args s t => by simp [limb_1_1, Cond.after, Cond.holds, Cond.value]), lw_limb limb_1_2 (fun args s t => Cond.after_iff.mpr (by
  first | (rw [show limb_1_2 = Cond.eq .result (.int 1) from rfl, Cond.eq_ints (x := 1) (y := 1) rfl rfl]; simp; done) | (simp [limb_1_2, Cond.value, Term.eval]; done)))⟩
end
