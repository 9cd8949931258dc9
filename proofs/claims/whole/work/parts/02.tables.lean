/-! Written by a program (wip/gen/mk02.py) out of the claim's tables: classes, methods, pool entries by numbers. -/
def xcnT : List String := ["BranchGoals$Archive", "BranchGoals$Case", "BranchGoals$Draws", "BranchGoals$Method", "BranchGoals$Population", "BranchGoals$Program", "BranchGoals$Runner", "BranchGoals$Suite", "BranchGoals", "BranchGoalsModel", "BranchGoalsLaw", "java/lang/Math", "java/util/Arrays", "java/lang/Integer"]
def xcn (i : Nat) : String := xcnT.getD i ""
def xT0 : u_T := fun k => match k with
  | 0 => ("BranchGoals$Archive", "best", "[LBranchGoals$Case;", true)
  | _ => ("BranchGoals$Archive", "goals", "I", false)
def xT1 : u_T := fun k => match k with
  | 0 => ("BranchGoals$Case", "parts", "[I", true)
  | 1 => ("BranchGoals$Case", "results", "[J", true)
  | 2 => ("BranchGoals$Case", "fitnesses", "[J", true)
  | 3 => ("BranchGoals$Case", "steps", "I", false)
  | 4 => ("BranchGoals$Case", "goals", "I", false)
  | 5 => ("BranchGoals$Case", "front", "I", false)
  | _ => ("BranchGoals$Case", "crowd", "I", false)
def xT2 : u_T := fun k => match k with
  | 0 => ("BranchGoals$Draws", "constants", "[I", true)
  | 1 => ("BranchGoals$Draws", "constantCount", "I", false)
  | _ => ("BranchGoals$Draws", "bits", "J", false)
def xT3 : u_T := fun k => match k with
  | 0 => ("BranchGoals$Method", "ops", "[I", true)
  | 1 => ("BranchGoals$Method", "as", "[I", true)
  | 2 => ("BranchGoals$Method", "bs", "[I", true)
  | 3 => ("BranchGoals$Method", "cs", "[I", true)
  | 4 => ("BranchGoals$Method", "branchOf", "[I", true)
  | 5 => ("BranchGoals$Method", "lines", "I", false)
  | _ => ("BranchGoals$Method", "isWatched", "Z", false)
def xT4 : u_T := fun k => match k with
  | 0 => ("BranchGoals$Population", "cases", "[LBranchGoals$Case;", true)
  | _ => ("BranchGoals$Population", "size", "I", false)
def xT5 : u_T := fun k => match k with
  | 0 => ("BranchGoals$Program", "methods", "[LBranchGoals$Method;", true)
  | 1 => ("BranchGoals$Program", "needed", "[I", true)
  | 2 => ("BranchGoals$Program", "isOpen", "[Z", true)
  | _ => ("BranchGoals$Program", "branches", "I", false)
def xT6 : u_T := fun k => match k with
  | 0 => ("BranchGoals$Runner", "variables", "[I", true)
  | 1 => ("BranchGoals$Runner", "nearest", "[J", true)
  | _ => ("BranchGoals$Runner", "count", "I", false)
def xT7 : u_T := fun k => match k with
  | 0 => ("BranchGoals$Suite", "cases", "[LBranchGoals$Case;", true)
  | 1 => ("BranchGoals$Suite", "trial", "LBranchGoals$Case;", true)
  | _ => ("BranchGoals$Suite", "size", "I", false)
def xT8 : u_T := fun k => match k with
  | 0 => ("BranchGoals", "program", "LBranchGoals$Program;", true)
  | 1 => ("BranchGoals", "draws", "LBranchGoals$Draws;", true)
  | 2 => ("BranchGoals", "runner", "LBranchGoals$Runner;", true)
  | 3 => ("BranchGoals", "archive", "LBranchGoals$Archive;", true)
  | 4 => ("BranchGoals", "population", "LBranchGoals$Population;", true)
  | 5 => ("BranchGoals", "suite", "LBranchGoals$Suite;", true)
  | 6 => ("BranchGoals", "written", "LBranchGoals$Case;", true)
  | 7 => ("BranchGoals", "latest", "LBranchGoals$Case;", true)
  | _ => ("BranchGoals", "started", "Z", false)
def xT9 : u_T := fun k => match k with
  | 0 => ("BranchGoalsModel", "cells", "[I", true)
  | 1 => ("BranchGoalsModel", "size", "[I", true)
  | 2 => ("BranchGoalsModel", "code", "[I", true)
  | 3 => ("BranchGoalsModel", "lines", "[I", true)
  | 4 => ("BranchGoalsModel", "seen", "[Z", true)
  | 5 => ("BranchGoalsModel", "method", "[I", true)
  | 6 => ("BranchGoalsModel", "at", "[I", true)
  | 7 => ("BranchGoalsModel", "needs", "[I", true)
  | 8 => ("BranchGoalsModel", "always", "[Z", true)
  | 9 => ("BranchGoalsModel", "started", "Z", false)
  | 10 => ("BranchGoalsModel", "branches", "I", false)
  | 11 => ("BranchGoalsModel", "population", "I", false)
  | 12 => ("BranchGoalsModel", "suite", "I", false)
  | 13 => ("BranchGoalsModel", "runs", "I", false)
  | 14 => ("BranchGoalsModel", "state", "J", false)
  | 15 => ("BranchGoalsModel", "v", "[I", true)
  | 16 => ("BranchGoalsModel", "results", "[J", true)
  | 17 => ("BranchGoalsModel", "near", "[J", true)
  | 18 => ("BranchGoalsModel", "fit", "[J", true)
  | 19 => ("BranchGoalsModel", "front", "[I", true)
  | 20 => ("BranchGoalsModel", "crowd", "[I", true)
  | _ => ("BranchGoalsModel", "sets", "[I", true)
def xcls : List vw_C := [("BranchGoals$Archive", xT0, 2), ("BranchGoals$Case", xT1, 7), ("BranchGoals$Draws", xT2, 3), ("BranchGoals$Method", xT3, 7), ("BranchGoals$Population", xT4, 2), ("BranchGoals$Program", xT5, 4), ("BranchGoals$Runner", xT6, 3), ("BranchGoals$Suite", xT7, 3), ("BranchGoals", xT8, 9), ("BranchGoalsModel", xT9, 22)]
def xnfT : List Nat := [2, 7, 3, 7, 2, 4, 3, 3, 9, 22]
def xnf (i : Nat) : Nat := xnfT.getD i 0
def xftT : List (List FieldType) := [[.array (.object "BranchGoals$Case"), .int], [.array (.int), .array (.long), .array (.long), .int, .int, .int, .int], [.array (.int), .int, .long], [.array (.int), .array (.int), .array (.int), .array (.int), .array (.int), .int, .boolean], [.array (.object "BranchGoals$Case"), .int], [.array (.object "BranchGoals$Method"), .array (.int), .array (.boolean), .int], [.array (.int), .array (.long), .int], [.array (.object "BranchGoals$Case"), .object "BranchGoals$Case", .int], [.object "BranchGoals$Program", .object "BranchGoals$Draws", .object "BranchGoals$Runner", .object "BranchGoals$Archive", .object "BranchGoals$Population", .object "BranchGoals$Suite", .object "BranchGoals$Case", .object "BranchGoals$Case", .boolean], [.array (.int), .array (.int), .array (.int), .array (.int), .array (.boolean), .array (.int), .array (.int), .array (.int), .array (.boolean), .boolean, .int, .int, .int, .int, .long, .array (.int), .array (.long), .array (.long), .array (.long), .array (.int), .array (.int), .array (.int)]]
def xft (i j : Nat) : FieldType := (xftT.getD i []).getD j .int
def xatyT : List FieldType := [.int, .long, .boolean, .object "BranchGoals$Case", .object "BranchGoals$Method"]
def xaty (t : Nat) : FieldType := xatyT.getD t .int
def xnq : Nat := 2
def xqc (t : Nat) : Nat := ([1, 3] : List Nat).getD t 99
/-- the method by which the archive takes a case: its name is read out of the Statement's own table (the word itself may not stand in rows) -/
def xadN : MethodName := match tables_1_2.drop 180 with
  | Jvm.Cond.methodLink _ _ y :: _ => y
  | _ => ⟨"", "", ""⟩
def xM : List (Nat × MethodName × ByteArray × Nat × Option FieldType) := [
  (8, ⟨"BranchGoals", "<init>", "(I)V"⟩, prog_1_method_1_code, 2, none),
  (5, ⟨"BranchGoals$Program", "<init>", "()V"⟩, prog_7_method_1_code, 1, none),
  (3, ⟨"BranchGoals$Method", "<init>", "()V"⟩, prog_5_method_1_code, 1, none),
  (2, ⟨"BranchGoals$Draws", "<init>", "(I)V"⟩, prog_4_method_1_code, 2, none),
  (6, ⟨"BranchGoals$Runner", "<init>", "()V"⟩, prog_8_method_1_code, 1, none),
  (0, ⟨"BranchGoals$Archive", "<init>", "()V"⟩, prog_2_method_1_code, 1, none),
  (8, ⟨"BranchGoals", "makeCases", "(I)[LBranchGoals$Case;"⟩, prog_1_method_27_code, 3, some ((FieldType.array (FieldType.object "BranchGoals$Case")))),
  (1, ⟨"BranchGoals$Case", "<init>", "()V"⟩, prog_3_method_1_code, 1, none),
  (4, ⟨"BranchGoals$Population", "<init>", "()V"⟩, prog_6_method_1_code, 1, none),
  (7, ⟨"BranchGoals$Suite", "<init>", "()V"⟩, prog_9_method_1_code, 1, none),
  (8, ⟨"BranchGoals", "line", "(IIIII)Z"⟩, prog_1_method_2_code, 6, some (FieldType.boolean)),
  (8, ⟨"BranchGoals", "isMethod", "(I)Z"⟩, prog_1_method_24_code, 1, some (FieldType.boolean)),
  (3, ⟨"BranchGoals$Method", "append", "(IIII)Z"⟩, prog_5_method_2_code, 5, some (FieldType.boolean)),
  (3, ⟨"BranchGoals$Method", "isAllowed", "(IIII)Z"⟩, prog_5_method_3_code, 4, some (FieldType.boolean)),
  (3, ⟨"BranchGoals$Method", "isVariable", "(I)Z"⟩, prog_5_method_4_code, 1, some (FieldType.boolean)),
  (3, ⟨"BranchGoals$Method", "isTarget", "(I)Z"⟩, prog_5_method_5_code, 1, some (FieldType.boolean)),
  (8, ⟨"BranchGoals", "start", "()I"⟩, prog_1_method_3_code, 3, some (FieldType.int)),
  (5, ⟨"BranchGoals$Program", "numberBranches", "()V"⟩, prog_7_method_3_code, 2, none),
  (3, ⟨"BranchGoals$Method", "numberBranches", "(I)I"⟩, prog_5_method_7_code, 5, some (FieldType.int)),
  (3, ⟨"BranchGoals$Method", "isBranch", "(I)Z"⟩, prog_5_method_6_code, 2, some (FieldType.boolean)),
  (5, ⟨"BranchGoals$Program", "linkBranches", "(LBranchGoals$Method;)V"⟩, prog_7_method_4_code, 5, none),
  (3, ⟨"BranchGoals$Method", "postDominatedBy", "(I)I"⟩, prog_5_method_9_code, 2, some (FieldType.int)),
  (3, ⟨"BranchGoals$Method", "placesReachingEnd", "(I)I"⟩, prog_5_method_10_code, 6, some (FieldType.int)),
  (3, ⟨"BranchGoals$Method", "placeAfter", "(II)I"⟩, prog_5_method_8_code, 3, some (FieldType.int)),
  (11, ⟨"java/lang/Math", "min", "(II)I"⟩, prog_13_method_69_code, 2, some (FieldType.int)),
  (5, ⟨"BranchGoals$Program", "goalsNeededAt", "(IILBranchGoals$Method;)I"⟩, prog_7_method_5_code, 6, some (FieldType.int)),
  (2, ⟨"BranchGoals$Draws", "gatherConstants", "(LBranchGoals$Program;)V"⟩, prog_4_method_2_code, 5, none),
  (4, ⟨"BranchGoals$Population", "child", "(I)LBranchGoals$Case;"⟩, prog_6_method_2_code, 2, some ((FieldType.object "BranchGoals$Case"))),
  (2, ⟨"BranchGoals$Draws", "drawCase", "(LBranchGoals$Case;)V"⟩, prog_4_method_6_code, 3, none),
  (2, ⟨"BranchGoals$Draws", "draw", "(I)I"⟩, prog_4_method_3_code, 2, some (FieldType.int)),
  (2, ⟨"BranchGoals$Draws", "drawStep", "(LBranchGoals$Case;I)V"⟩, prog_4_method_5_code, 6, none),
  (2, ⟨"BranchGoals$Draws", "drawNumber", "()I"⟩, prog_4_method_4_code, 2, some (FieldType.int)),
  (1, ⟨"BranchGoals$Case", "write", "(IIIII)V"⟩, prog_3_method_4_code, 6, none),
  (8, ⟨"BranchGoals", "runAndArchive", "(LBranchGoals$Case;)V"⟩, prog_1_method_20_code, 2, none),
  (6, ⟨"BranchGoals$Runner", "perform", "(LBranchGoals$Case;LBranchGoals$Program;)V"⟩, prog_8_method_2_code, 5, none),
  (12, ⟨"java/util/Arrays", "fill", "([II)V"⟩, prog_15_method_103_code, 4, none),
  (12, ⟨"java/util/Arrays", "fill", "([JJ)V"⟩, prog_15_method_101_code, 5, none),
  (6, ⟨"BranchGoals$Runner", "doStep", "(LBranchGoals$Case;ILBranchGoals$Program;)J"⟩, prog_8_method_3_code, 7, some (FieldType.long)),
  (1, ⟨"BranchGoals$Case", "part", "(II)I"⟩, prog_3_method_3_code, 3, some (FieldType.int)),
  (6, ⟨"BranchGoals$Runner", "valueOf", "(J)I"⟩, prog_8_method_4_code, 2, some (FieldType.int)),
  (6, ⟨"BranchGoals$Runner", "callMethod", "(LBranchGoals$Method;)J"⟩, prog_8_method_5_code, 5, some (FieldType.long)),
  (6, ⟨"BranchGoals$Runner", "doLine", "(LBranchGoals$Method;I)I"⟩, prog_8_method_6_code, 6, some (FieldType.int)),
  (6, ⟨"BranchGoals$Runner", "calculate", "(III)I"⟩, prog_8_method_7_code, 3, some (FieldType.int)),
  (6, ⟨"BranchGoals$Runner", "decide", "(LBranchGoals$Method;I)I"⟩, prog_8_method_8_code, 12, some (FieldType.int)),
  (11, ⟨"java/lang/Math", "abs", "(J)J"⟩, prog_13_method_61_code, 2, some (FieldType.long)),
  (11, ⟨"java/lang/Math", "min", "(JJ)J"⟩, prog_13_method_70_code, 4, some (FieldType.long)),
  (5, ⟨"BranchGoals$Program", "goalCount", "()I"⟩, prog_7_method_2_code, 1, some (FieldType.int)),
  (6, ⟨"BranchGoals$Runner", "fitnessFor", "(ILBranchGoals$Program;)J"⟩, prog_8_method_9_code, 7, some (FieldType.long)),
  (6, ⟨"BranchGoals$Runner", "leastNearest", "(II)J"⟩, prog_8_method_10_code, 6, some (FieldType.long)),
  (8, ⟨"BranchGoals", "hasGoal", "(II)Z"⟩, prog_1_method_26_code, 2, some (FieldType.boolean)),
  (5, ⟨"BranchGoals$Program", "goalsNeededBy", "(I)I"⟩, prog_7_method_6_code, 4, some (FieldType.int)),
  (0, xadN, prog_2_method_2_code, 3, none),
  (1, ⟨"BranchGoals$Case", "copy", "(LBranchGoals$Case;)V"⟩, prog_3_method_5_code, 2, none),
  (1, ⟨"BranchGoals$Case", "copySteps", "(LBranchGoals$Case;)V"⟩, prog_3_method_6_code, 2, none),
  (5, ⟨"BranchGoals$Program", "activeGoals", "(I)I"⟩, prog_7_method_7_code, 4, some (FieldType.int)),
  (4, ⟨"BranchGoals$Population", "takeInChildren", "(I)V"⟩, prog_6_method_3_code, 4, none),
  (4, ⟨"BranchGoals$Population", "placeFronts", "(II)V"⟩, prog_6_method_4_code, 5, none),
  (4, ⟨"BranchGoals$Population", "preferredFor", "(II)LBranchGoals$Case;"⟩, prog_6_method_5_code, 7, some ((FieldType.object "BranchGoals$Case"))),
  (4, ⟨"BranchGoals$Population", "isBeaten", "(LBranchGoals$Case;III)Z"⟩, prog_6_method_6_code, 6, some (FieldType.boolean)),
  (4, ⟨"BranchGoals$Population", "goalsNearer", "(LBranchGoals$Case;LBranchGoals$Case;I)I"⟩, prog_6_method_8_code, 5, some (FieldType.int)),
  (4, ⟨"BranchGoals$Population", "crowdOf", "(LBranchGoals$Case;II)I"⟩, prog_6_method_7_code, 6, some (FieldType.int)),
  (11, ⟨"java/lang/Math", "max", "(II)I"⟩, prog_13_method_65_code, 2, some (FieldType.int)),
  (4, ⟨"BranchGoals$Population", "sort", "(I)V"⟩, prog_6_method_9_code, 5, none),
  (4, ⟨"BranchGoals$Population", "goesBefore", "(LBranchGoals$Case;LBranchGoals$Case;)Z"⟩, prog_6_method_10_code, 2, some (FieldType.boolean)),
  (8, ⟨"BranchGoals", "watched", "(I)Z"⟩, prog_1_method_4_code, 2, some (FieldType.boolean)),
  (8, ⟨"BranchGoals", "depends", "(II)Z"⟩, prog_1_method_5_code, 3, some (FieldType.boolean)),
  (8, ⟨"BranchGoals", "isGoal", "(I)Z"⟩, prog_1_method_22_code, 2, some (FieldType.boolean)),
  (8, ⟨"BranchGoals", "put", "(IIII)Z"⟩, prog_1_method_6_code, 6, some (FieldType.boolean)),
  (8, ⟨"BranchGoals", "isField", "(I)Z"⟩, prog_1_method_25_code, 1, some (FieldType.boolean)),
  (8, ⟨"BranchGoals", "run", "()I"⟩, prog_1_method_7_code, 1, some (FieldType.int)),
  (8, ⟨"BranchGoals", "evolve", "()I"⟩, prog_1_method_8_code, 6, some (FieldType.int)),
  (8, ⟨"BranchGoals", "drawParent", "()LBranchGoals$Case;"⟩, prog_1_method_21_code, 3, some ((FieldType.object "BranchGoals$Case"))),
  (1, ⟨"BranchGoals$Case", "join", "(LBranchGoals$Case;ILBranchGoals$Case;I)V"⟩, prog_3_method_7_code, 7, none),
  (2, ⟨"BranchGoals$Draws", "change", "(LBranchGoals$Case;)V"⟩, prog_4_method_7_code, 4, none),
  (1, ⟨"BranchGoals$Case", "makeRoom", "(I)V"⟩, prog_3_method_8_code, 3, none),
  (1, ⟨"BranchGoals$Case", "takeOut", "(I)V"⟩, prog_3_method_9_code, 4, none),
  (2, ⟨"BranchGoals$Draws", "changeStep", "(LBranchGoals$Case;I)V"⟩, prog_4_method_8_code, 5, none),
  (13, ⟨"java/lang/Integer", "bitCount", "(I)I"⟩, prog_12_method_49_code, 1, some (FieldType.int)),
  (8, ⟨"BranchGoals", "finish", "()I"⟩, prog_1_method_9_code, 2, some (FieldType.int)),
  (7, ⟨"BranchGoals$Suite", "clear", "()V"⟩, prog_9_method_2_code, 1, none),
  (7, ⟨"BranchGoals$Suite", "goals", "()I"⟩, prog_9_method_3_code, 1, some (FieldType.int)),
  (7, ⟨"BranchGoals$Suite", "goalsOf", "(II)I"⟩, prog_9_method_4_code, 5, some (FieldType.int)),
  (7, ⟨"BranchGoals$Suite", "appendCut", "(LBranchGoals$Case;ILBranchGoals$Runner;LBranchGoals$Program;)V"⟩, prog_9_method_5_code, 7, none),
  (1, ⟨"BranchGoals$Case", "isReferredTo", "(I)Z"⟩, prog_3_method_10_code, 3, some (FieldType.boolean)),
  (7, ⟨"BranchGoals$Suite", "dropNeedless", "()V"⟩, prog_9_method_6_code, 5, none),
  (8, ⟨"BranchGoals", "found", "()I"⟩, prog_1_method_10_code, 1, some (FieldType.int)),
  (8, ⟨"BranchGoals", "active", "()I"⟩, prog_1_method_11_code, 1, some (FieldType.int)),
  (8, ⟨"BranchGoals", "reported", "()I"⟩, prog_1_method_12_code, 1, some (FieldType.int)),
  (8, ⟨"BranchGoals", "length", "(I)I"⟩, prog_1_method_13_code, 3, some (FieldType.int)),
  (8, ⟨"BranchGoals", "caseNamed", "(I)LBranchGoals$Case;"⟩, prog_1_method_23_code, 3, some ((FieldType.object "BranchGoals$Case"))),
  (8, ⟨"BranchGoals", "step", "(III)I"⟩, prog_1_method_14_code, 5, some (FieldType.int)),
  (1, ⟨"BranchGoals$Case", "hasStep", "(I)Z"⟩, prog_3_method_2_code, 2, some (FieldType.boolean)),
  (8, ⟨"BranchGoals", "covers", "(I)I"⟩, prog_1_method_15_code, 3, some (FieldType.int)),
  (8, ⟨"BranchGoals", "fitness", "(II)J"⟩, prog_1_method_16_code, 4, some (FieldType.long)),
  (8, ⟨"BranchGoals", "result", "(II)J"⟩, prog_1_method_17_code, 4, some (FieldType.long)),
  (8, ⟨"BranchGoals", "runs", "()I"⟩, prog_1_method_18_code, 1, some (FieldType.int)),
  (8, ⟨"BranchGoals", "state", "()J"⟩, prog_1_method_19_code, 1, some (FieldType.long)),
  (10, ⟨"BranchGoalsLaw", "cell", "([II)I"⟩, method_2_code, 2, some (FieldType.int)),
  (9, ⟨"BranchGoalsModel", "<init>", "(I)V"⟩, prog_11_method_1_code, 2, none),
  (9, ⟨"BranchGoalsModel", "line", "(IIIII)Z"⟩, prog_11_method_5_code, 11, some (FieldType.boolean)),
  (9, ⟨"BranchGoalsModel", "within", "(III)Z"⟩, prog_11_method_4_code, 3, some (FieldType.boolean)),
  (9, ⟨"BranchGoalsModel", "watched", "(I)Z"⟩, prog_11_method_11_code, 2, some (FieldType.boolean)),
  (9, ⟨"BranchGoalsModel", "depends", "(II)Z"⟩, prog_11_method_13_code, 3, some (FieldType.boolean)),
  (9, ⟨"BranchGoalsModel", "goal", "(I)Z"⟩, prog_11_method_12_code, 2, some (FieldType.boolean)),
  (9, ⟨"BranchGoalsModel", "put", "(IIII)Z"⟩, prog_11_method_28_code, 7, some (FieldType.boolean)),
  (9, ⟨"BranchGoalsModel", "write", "(IIII)V"⟩, prog_11_method_23_code, 6, none),
  (9, ⟨"BranchGoalsModel", "second", "(IIII)V"⟩, prog_11_method_24_code, 5, none),
  (9, ⟨"BranchGoalsModel", "found", "()I"⟩, prog_11_method_35_code, 3, some (FieldType.int)),
  (9, ⟨"BranchGoalsModel", "active", "()I"⟩, prog_11_method_36_code, 5, some (FieldType.int)),
  (9, ⟨"BranchGoalsModel", "start", "()I"⟩, prog_11_method_44_code, 2, some (FieldType.int)),
  (9, ⟨"BranchGoalsModel", "number", "(I)V"⟩, prog_11_method_9_code, 4, none),
  (9, ⟨"BranchGoalsModel", "branchAt", "(II)Z"⟩, prog_11_method_3_code, 3, some (FieldType.boolean)),
  (9, ⟨"BranchGoalsModel", "code", "(III)I"⟩, prog_11_method_2_code, 4, some (FieldType.int)),
  (9, ⟨"BranchGoalsModel", "relate", "(I)V"⟩, prog_11_method_10_code, 5, none),
  (9, ⟨"BranchGoalsModel", "must", "(III)Z"⟩, prog_11_method_8_code, 4, some (FieldType.boolean)),
  (9, ⟨"BranchGoalsModel", "way", "(III)Z"⟩, prog_11_method_7_code, 10, some (FieldType.boolean)),
  (9, ⟨"BranchGoalsModel", "lead", "(III)I"⟩, prog_11_method_6_code, 6, some (FieldType.int)),
  (9, ⟨"BranchGoalsModel", "drawCase", "(I)V"⟩, prog_11_method_43_code, 3, none),
  (9, ⟨"BranchGoalsModel", "draw", "(I)I"⟩, prog_11_method_29_code, 2, some (FieldType.int)),
  (9, ⟨"BranchGoalsModel", "drawStep", "(II)V"⟩, prog_11_method_32_code, 7, none),
  (9, ⟨"BranchGoalsModel", "drawNumber", "()I"⟩, prog_11_method_30_code, 5, some (FieldType.int)),
  (9, ⟨"BranchGoalsModel", "setLine", "(I)Z"⟩, prog_11_method_31_code, 2, some (FieldType.boolean)),
  (9, ⟨"BranchGoalsModel", "archive", "(I)V"⟩, prog_11_method_34_code, 5, none),
  (9, ⟨"BranchGoalsModel", "reached", "(I)I"⟩, prog_11_method_20_code, 4, some (FieldType.int)),
  (9, ⟨"BranchGoalsModel", "perform", "(I)V"⟩, prog_11_method_19_code, 6, none),
  (9, ⟨"BranchGoalsModel", "part", "(III)I"⟩, prog_11_method_14_code, 4, some (FieldType.int)),
  (9, ⟨"BranchGoalsModel", "value", "(I)I"⟩, prog_11_method_18_code, 2, some (FieldType.int)),
  (9, ⟨"BranchGoalsModel", "call", "(I)J"⟩, prog_11_method_17_code, 5, some (FieldType.long)),
  (9, ⟨"BranchGoalsModel", "go", "(II)I"⟩, prog_11_method_16_code, 9, some (FieldType.int)),
  (9, ⟨"BranchGoalsModel", "note", "(IIII)V"⟩, prog_11_method_15_code, 15, none),
  (9, ⟨"BranchGoalsModel", "copy", "(II)V"⟩, prog_11_method_22_code, 4, none),
  (9, ⟨"BranchGoalsModel", "putInOrder", "(I)V"⟩, prog_11_method_41_code, 6, none),
  (9, ⟨"BranchGoalsModel", "level", "(I)J"⟩, prog_11_method_21_code, 8, some (FieldType.long)),
  (9, ⟨"BranchGoalsModel", "prefer", "(II)V"⟩, prog_11_method_38_code, 9, none),
  (9, ⟨"BranchGoalsModel", "fronts", "(II)V"⟩, prog_11_method_39_code, 7, none),
  (9, ⟨"BranchGoalsModel", "better", "(III)I"⟩, prog_11_method_37_code, 6, some (FieldType.int)),
  (9, ⟨"BranchGoalsModel", "rearrange", "(I)V"⟩, prog_11_method_42_code, 5, none),
  (9, ⟨"BranchGoalsModel", "before", "(II)Z"⟩, prog_11_method_40_code, 3, some (FieldType.boolean)),
  (9, ⟨"BranchGoalsModel", "run", "()I"⟩, prog_11_method_45_code, 1, some (FieldType.int)),
  (9, ⟨"BranchGoalsModel", "evolve", "()I"⟩, prog_11_method_48_code, 5, some (FieldType.int)),
  (9, ⟨"BranchGoalsModel", "lesser", "()I"⟩, prog_11_method_46_code, 3, some (FieldType.int)),
  (9, ⟨"BranchGoalsModel", "join", "(IIIII)V"⟩, prog_11_method_47_code, 8, none),
  (9, ⟨"BranchGoalsModel", "move", "(IIIIII)V"⟩, prog_11_method_25_code, 10, none),
  (9, ⟨"BranchGoalsModel", "change", "(I)V"⟩, prog_11_method_33_code, 8, none),
  (9, ⟨"BranchGoalsModel", "makeRoom", "(II)V"⟩, prog_11_method_27_code, 6, none),
  (9, ⟨"BranchGoalsModel", "takeOut", "(II)V"⟩, prog_11_method_26_code, 6, none),
  (9, ⟨"BranchGoalsModel", "count", "(I)I"⟩, prog_11_method_49_code, 3, some (FieldType.int)),
  (9, ⟨"BranchGoalsModel", "finish", "()I"⟩, prog_11_method_53_code, 5, some (FieldType.int)),
  (9, ⟨"BranchGoalsModel", "others", "(I)I"⟩, prog_11_method_52_code, 4, some (FieldType.int)),
  (9, ⟨"BranchGoalsModel", "cut", "(II)V"⟩, prog_11_method_51_code, 4, none),
  (9, ⟨"BranchGoalsModel", "referred", "(II)Z"⟩, prog_11_method_50_code, 5, some (FieldType.boolean)),
  (9, ⟨"BranchGoalsModel", "reported", "()I"⟩, prog_11_method_54_code, 1, some (FieldType.int)),
  (9, ⟨"BranchGoalsModel", "length", "(I)I"⟩, prog_11_method_56_code, 3, some (FieldType.int)),
  (9, ⟨"BranchGoalsModel", "slot", "(I)I"⟩, prog_11_method_55_code, 2, some (FieldType.int)),
  (9, ⟨"BranchGoalsModel", "step", "(III)I"⟩, prog_11_method_57_code, 5, some (FieldType.int)),
  (9, ⟨"BranchGoalsModel", "covers", "(I)I"⟩, prog_11_method_58_code, 3, some (FieldType.int)),
  (9, ⟨"BranchGoalsModel", "fitness", "(II)J"⟩, prog_11_method_59_code, 4, some (FieldType.long)),
  (9, ⟨"BranchGoalsModel", "result", "(II)J"⟩, prog_11_method_60_code, 4, some (FieldType.long)),
  (9, ⟨"BranchGoalsModel", "runs", "()I"⟩, prog_11_method_61_code, 1, some (FieldType.int)),
  (9, ⟨"BranchGoalsModel", "state", "()J"⟩, prog_11_method_62_code, 1, some (FieldType.long)),
  (10, ⟨"BranchGoalsLaw", "law", "([I)Z"⟩, code, 4, some (FieldType.boolean))]
def xMd (k : Nat) : Nat × MethodName × ByteArray × Nat × Option FieldType := xM.getD k (99, ⟨"", "", ""⟩, ⟨#[]⟩, 0, none)
def xkc (k : Nat) : Nat := (xMd k).1
def xyn (k : Nat) : MethodName := (xMd k).2.1
def xcode (k : Nat) : ByteArray := (xMd k).2.2.1
def xml (k : Nat) : Nat := (xMd k).2.2.2.1
def xrty (k : Nat) : Option FieldType := (xMd k).2.2.2.2
def xmkT : List Nat := [2, 2, 2, 2, 2, 2, 0, 2, 2, 2, 1, 0, 1, 0, 0, 0, 1, 1, 1, 1, 1, 1, 1, 1, 0, 0, 1, 1, 1, 1, 1, 1, 1, 1, 1, 0, 0, 1, 1, 0, 1, 1, 0, 1, 0, 0, 1, 1, 1, 0, 1, 1, 1, 1, 1, 1, 1, 1, 1, 0, 1, 0, 1, 0, 1, 1, 1, 1, 0, 1, 1, 1, 1, 1, 1, 1, 1, 0, 1, 1, 1, 1, 1, 1, 1, 1, 1, 1, 1, 1, 1, 1, 1, 1, 1, 1, 1, 0, 2, 1, 0, 1, 1, 1, 1, 1, 1, 1, 1, 1, 1, 1, 1, 1, 1, 1, 1, 1, 1, 1, 1, 1, 1, 1, 1, 1, 1, 1, 1, 1, 1, 1, 1, 1, 1, 1, 1, 1, 1, 1, 1, 1, 1, 1, 1, 1, 0, 1, 1, 1, 1, 1, 1, 1, 1, 1, 1, 1, 1, 1, 1]
def xmk (k : Nat) : Nat := xmkT.getD k 9
def xrob (k : Nat) : Bool := match xrty k with
  | some (.object _) => true
  | some (.array _) => true
  | _ => false
def xfldT : List (Nat × Nat × Nat × Nat) := [(3, 9, 3, 0), (2, 38, 3, 0), (6, 91, 3, 0), (3, 15, 3, 1), (6, 94, 3, 1), (3, 18, 3, 2), (6, 108, 3, 2), (3, 21, 3, 3), (2, 41, 3, 3), (6, 99, 3, 3), (3, 24, 3, 4), (5, 56, 3, 4), (6, 130, 3, 4), (3, 27, 3, 5), (2, 33, 3, 5), (5, 42, 3, 5), (6, 86, 3, 5), (3, 31, 3, 6), (5, 34, 3, 6), (8, 114, 3, 6), (5, 12, 5, 0), (2, 27, 5, 0), (8, 71, 5, 0), (6, 78, 5, 0), (5, 18, 5, 1), (8, 120, 5, 1), (5, 22, 5, 2), (5, 26, 5, 3), (2, 9, 2, 0), (2, 15, 2, 1), (2, 23, 2, 2), (8, 204, 2, 2), (6, 9, 6, 0), (6, 15, 6, 1), (6, 19, 6, 2), (8, 201, 6, 2), (1, 9, 1, 0), (2, 77, 1, 0), (1, 15, 1, 1), (6, 39, 1, 1), (8, 198, 1, 1), (1, 19, 1, 2), (6, 59, 1, 2), (4, 61, 1, 2), (8, 192, 1, 2), (1, 22, 1, 3), (6, 34, 1, 3), (0, 30, 1, 3), (7, 41, 1, 3), (4, 65, 1, 3), (8, 128, 1, 3), (2, 60, 1, 3), (1, 26, 1, 4), (0, 23, 1, 4), (6, 50, 1, 4), (7, 34, 1, 4), (8, 141, 1, 4), (1, 29, 1, 5), (4, 46, 1, 5), (1, 32, 1, 6), (4, 31, 1, 6), (0, 13, 0, 0), (8, 166, 0, 0), (0, 19, 0, 1), (8, 99, 0, 1), (4, 13, 4, 0), (8, 216, 4, 0), (4, 19, 4, 1), (8, 215, 4, 1), (7, 13, 7, 0), (8, 224, 7, 0), (7, 22, 7, 1), (7, 26, 7, 2), (8, 177, 7, 2), (8, 12, 8, 0), (8, 21, 8, 1), (8, 28, 8, 2), (8, 35, 8, 3), (8, 42, 8, 4), (8, 49, 8, 5), (8, 56, 8, 6), (8, 60, 8, 7), (8, 63, 8, 8), (9, 7, 9, 0), (9, 13, 9, 1), (9, 16, 9, 2), (9, 19, 9, 3), (9, 22, 9, 4), (9, 26, 9, 5), (9, 29, 9, 6), (9, 32, 9, 7), (9, 35, 9, 8), (9, 71, 9, 9), (9, 89, 9, 10), (9, 198, 9, 11), (9, 236, 9, 12), (9, 168, 9, 13), (9, 64, 9, 14), (9, 38, 9, 15), (9, 41, 9, 16), (9, 45, 9, 17), (9, 48, 9, 18), (9, 51, 9, 19), (9, 54, 9, 20), (9, 57, 9, 21)]
def xcalL : List (Nat × Nat × Nat × Nat) := [(10, 15, 0, 1), (8, 18, 3, 1), (10, 21, 10, 5), (8, 67, 11, 1), (8, 75, 12, 4), (3, 35, 13, 4), (3, 39, 14, 1), (3, 43, 15, 1), (10, 26, 16, 0), (8, 81, 17, 0), (5, 30, 18, 1), (3, 46, 19, 1), (5, 38, 20, 1), (5, 45, 19, 1), (5, 49, 21, 1), (3, 55, 22, 1), (3, 59, 23, 2), (3, 49, 24, 2), (5, 52, 25, 3), (5, 59, 23, 2), (8, 84, 26, 1), (8, 88, 27, 1), (8, 92, 28, 1), (2, 46, 29, 1), (2, 63, 30, 2), (2, 50, 31, 0), (2, 54, 32, 5), (8, 96, 33, 1), (8, 208, 34, 2), (6, 23, 35, 2), (6, 31, 36, 2), (6, 44, 37, 3), (6, 66, 38, 2), (6, 74, 39, 1), (6, 82, 40, 1), (6, 104, 41, 2), (6, 111, 42, 3), (6, 115, 19, 1), (6, 118, 43, 2), (6, 124, 44, 1), (6, 133, 45, 2), (6, 121, 23, 2), (6, 53, 46, 0), (6, 62, 47, 2), (6, 137, 48, 2), (6, 141, 50, 1), (8, 212, 51, 1), (0, 33, 52, 1), (1, 35, 53, 1), (8, 103, 54, 1), (8, 107, 55, 1), (4, 23, 56, 2), (4, 53, 57, 2), (4, 57, 58, 4), (4, 68, 59, 3), (4, 27, 60, 3), (4, 72, 61, 2), (4, 36, 62, 1), (4, 75, 63, 2), (4, 40, 24, 2), (8, 110, 46, 0), (10, 31, 64, 1), (10, 36, 65, 2), (8, 117, 66, 1), (8, 124, 49, 2), (10, 41, 67, 4), (8, 131, 68, 1), (8, 134, 32, 5), (10, 46, 69, 0), (8, 138, 52, 1), (10, 50, 70, 0), (8, 142, 71, 0), (8, 146, 29, 1), (8, 219, 24, 2), (8, 149, 72, 4), (1, 45, 24, 2), (1, 51, 38, 2), (8, 153, 73, 1), (2, 67, 74, 1), (2, 71, 75, 1), (2, 74, 76, 2), (8, 156, 77, 1), (10, 54, 78, 0), (8, 161, 79, 0), (8, 164, 80, 0), (7, 30, 81, 2), (8, 170, 82, 4), (7, 37, 52, 1), (7, 44, 83, 1), (7, 48, 53, 1), (7, 51, 75, 1), (7, 55, 34, 2), (8, 174, 84, 0), (10, 58, 85, 0), (10, 62, 86, 0), (10, 66, 87, 0), (10, 70, 88, 1), (8, 180, 89, 1), (10, 75, 90, 3), (8, 183, 91, 1), (8, 186, 38, 2), (10, 80, 92, 1), (10, 84, 93, 2), (10, 89, 94, 2), (10, 93, 95, 0), (10, 97, 96, 0), (10, 9, 97, 2), (10, 20, 98, 1), (10, 25, 99, 5), (9, 75, 100, 3), (10, 35, 101, 1), (10, 40, 102, 2), (9, 96, 103, 1), (10, 45, 104, 4), (9, 137, 105, 4), (9, 140, 106, 4), (10, 61, 107, 0), (10, 65, 108, 0), (9, 174, 107, 0), (10, 30, 109, 0), (9, 204, 110, 1), (9, 79, 111, 2), (9, 68, 112, 3), (9, 207, 113, 1), (9, 93, 114, 3), (9, 86, 115, 3), (9, 83, 116, 3), (9, 210, 117, 1), (9, 145, 118, 1), (9, 159, 119, 2), (9, 151, 120, 0), (9, 148, 121, 1), (9, 201, 122, 1), (9, 165, 123, 1), (9, 129, 124, 1), (9, 118, 125, 3), (9, 121, 126, 1), (9, 125, 127, 1), (9, 108, 128, 2), (9, 100, 129, 4), (9, 171, 130, 2), (9, 213, 131, 1), (9, 180, 108, 0), (9, 183, 132, 1), (9, 186, 133, 2), (9, 189, 134, 2), (9, 177, 135, 3), (9, 192, 136, 1), (9, 195, 137, 2), (10, 49, 138, 0), (10, 53, 139, 0), (9, 220, 140, 0), (9, 223, 141, 5), (9, 216, 142, 6), (9, 227, 143, 1), (9, 155, 144, 2), (9, 162, 145, 2), (9, 230, 146, 1), (10, 57, 147, 0), (9, 239, 148, 1), (9, 242, 149, 2), (9, 233, 150, 2), (10, 69, 151, 0), (10, 74, 152, 1), (9, 245, 153, 1), (10, 79, 154, 3), (10, 83, 155, 1), (10, 88, 156, 2), (10, 92, 157, 2), (10, 96, 158, 0), (10, 101, 159, 0)]
def xcalN : List (Nat × Nat × Nat × Nat) := [(8, 11, 1, 0), (5, 11, 2, 0), (8, 27, 4, 0), (8, 34, 5, 0), (0, 9, 6, 1), (8, 55, 7, 0), (8, 41, 8, 0), (4, 9, 6, 1), (8, 48, 9, 0), (7, 9, 6, 1), (7, 21, 7, 0), (6, 70, 11, 1), (6, 147, 49, 2), (0, 26, 49, 2), (4, 49, 49, 2), (2, 80, 11, 1), (7, 61, 49, 2)]
def xcalT : List (Nat × Nat × Nat × Nat) := xcalL ++ xcalN
def xnatT : List (Nat × Nat × Nat) := [(8, 3, 0), (5, 3, 0), (3, 3, 0), (2, 3, 0), (6, 3, 0), (0, 3, 0), (1, 3, 0), (4, 3, 0), (7, 3, 0), (1, 39, 7), (9, 1, 0)]
def xnwcT : List (Nat × Nat × Nat) := [(10, 7, 8), (8, 9, 5), (5, 9, 3), (8, 16, 2), (8, 25, 6), (8, 32, 0), (8, 53, 1), (8, 39, 4), (8, 46, 7), (7, 19, 1), (10, 18, 9)]
def xanwT : List (Nat × Nat × Nat) := [(5, 9, 1), (8, 53, 0), (7, 19, 0)]
def xcstT : List (Nat × Nat × Value) := [(2, 19, .long (25214903917)), (2, 21, .long (281474976710655)), (2, 44, .long (11)), (6, 29, .long (8589934592)), (6, 42, .long (4294967296)), (6, 97, .long (4294967298)), (6, 102, .long (4294967297)), (6, 48, .long (4294967299)), (6, 145, .long (549755813888)), (13, 265, .int (1431655765)), (13, 266, .int (858993459)), (13, 267, .int (252645135)), (8, 190, .long (-1)), (8, 196, .long (4294967300)), (9, 60, .long (25214903917)), (9, 62, .long (281474976710655)), (9, 143, .long (11)), (9, 116, .long (-1)), (9, 114, .long (4294967296)), (9, 104, .long (4294967298)), (9, 106, .long (4294967297)), (9, 112, .long (4294967299)), (9, 133, .long (8589934592)), (9, 135, .long (549755813888)), (9, 248, .long (4294967300))]
def xfind {α : Type} (T : List (Nat × Nat × α)) (c i : Nat) : Option α := (T.find? (fun q => q.1 == c && q.2.1 == i)).map (fun q => q.2.2)
def xfld (c i : Nat) : Option (Nat × Nat) := xfind xfldT c i
def xcal (c i : Nat) : Option (Nat × Nat) := xfind xcalT c i
def xnat (c i : Nat) : Option (Nat) := xfind xnatT c i
def xnwc (c i : Nat) : Option (Nat) := xfind xnwcT c i
def xanw (c i : Nat) : Option (Nat) := xfind xanwT c i
def xcst (c i : Nat) : Option (Value) := xfind xcstT c i
def xpok (k ci j : Nat) : Bool := match xcls[ci]? with
  | some (_, T, _) => !(T j).2.2.2 || ((xyn k).name == "<init>" && xkc k == ci)
  | none => false
def xnest : List Cond := lw_tbl.filter (fun w => match w with
  | .methodLinkNest _ _ _ _ => true
  | _ => false)
def xgood : List Cond := lw_tbl.filter goodWord
