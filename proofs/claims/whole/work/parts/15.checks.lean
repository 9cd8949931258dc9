/-! Written by a program (wip/gen/mk15.py): the small tables are the claim's. -/
theorem xpl_in {ws : List Cond} {ps : List Nat} {big : List Cond} (e : ws = ps.filterMap (fun i => big[i]?)) {w : Cond} (h : w ∈ ws) : w ∈ big := by
  rw [e] at h
  obtain ⟨i, -, hi⟩ := List.mem_filterMap.mp h
  exact List.mem_of_getElem? hi
theorem xgood_of {w : Cond} (h : w ∈ lw_tbl) (hg : goodWord w = true) : w ∈ xgood := List.mem_filter.mpr ⟨h, hg⟩
theorem xgood_t {w : Cond} (h : w ∈ tables_1) (hg : goodWord w = true) : w ∈ xgood := xgood_of (List.mem_append_right _ h) hg
theorem xfind_mem {α : Type} {T : List (Nat × Nat × α)} {c i : Nat} {v : α} (h : xfind T c i = some v) : (c, i, v) ∈ T := by
  unfold xfind at h
  cases hf : T.find? (fun q => q.1 == c && q.2.1 == i) with
  | none => rw [hf] at h; cases h
  | some q =>
    rw [hf] at h
    have h1 := List.find?_some hf
    have h2 := List.mem_of_find?_eq_some hf
    simp only [Bool.and_eq_true, beq_iff_eq] at h1
    obtain ⟨q1, q2, q3⟩ := q
    cases h
    obtain ⟨rfl, rfl⟩ := h1
    exact h2
def xTT (ci : Nat) : u_T := (xcls.getD ci ("", xT0, 0)).2.1
def xkCl_p : List Nat := [187, 189, 168, 170, 172, 174, 176, 178, 180, 102, 104, 106, 56, 58, 60, 62, 64, 66, 68, 203, 205, 80, 82, 84, 86, 119, 121, 123, 222, 224, 226, 238, 240, 242, 244, 246, 248, 250, 252, 254, 658, 660, 662, 664, 666, 668, 670, 672, 674, 676, 678, 680, 682, 684, 686, 688, 690, 692, 694, 696, 698, 700]
set_option maxRecDepth 100000 in
set_option maxHeartbeats 4000000 in
theorem xkCl_e : (List.range 10).flatMap (fun ci => u_ws (xcn ci) (xTT ci) (xnf ci)) = xkCl_p.filterMap (fun i => tables_1[i]?) := by rfl
def xkIs_p : List Nat := [128, 138, 91, 31, 193, 24, 110, 209, 16, 629]
set_option maxRecDepth 100000 in
set_option maxHeartbeats 4000000 in
theorem xkIs_e : (List.range 10).map (fun ci => Cond.instantiable (xcn ci) (xnf ci)) = xkIs_p.filterMap (fun i => tables_1[i]?) := by rfl
def xkIn_p : List Nat := [6, 7, 4, 3, 8, 2, 5, 9, 1, 10, 0, 11, 12, 14]
set_option maxRecDepth 100000 in
set_option maxHeartbeats 4000000 in
theorem xkIn_e : (List.range 14).map (fun ci => Cond.initialized (xcn ci)) = xkIn_p.filterMap (fun i => tables_1[i]?) := by rfl
def xkFl_p : List Nat := [36, 37, 38, 39, 40, 41, 42, 43, 44, 45, 46, 47, 48, 49, 50, 51, 52, 53, 54, 55, 72, 73, 74, 75, 76, 77, 78, 79, 98, 99, 100, 101, 115, 116, 117, 118, 143, 144, 145, 146, 147, 148, 149, 150, 151, 152, 153, 154, 155, 156, 157, 158, 159, 160, 161, 162, 163, 164, 165, 166, 167, 183, 184, 185, 186, 199, 200, 201, 202, 217, 218, 219, 220, 221, 229, 230, 231, 232, 233, 234, 235, 236, 237, 636, 637, 638, 639, 640, 641, 642, 643, 644, 645, 646, 647, 648, 649, 650, 651, 652, 653, 654, 655, 656, 657]
set_option maxRecDepth 100000 in
set_option maxHeartbeats 4000000 in
theorem xkFl_e : xfldT.map (fun q => Cond.fieldLink (xcn q.1) q.2.1 (xTT q.2.2.1 q.2.2.2).1 (xTT q.2.2.1 q.2.2.2).2.1 (xTT q.2.2.1 q.2.2.2).2.2.1) = xkFl_p.filterMap (fun i => tables_1[i]?) := by rfl
def xkCo_p : List Nat := [19, 27, 34, 94, 113, 131, 135, 141, 196, 212, 260, 263, 267, 270, 273, 276, 280, 284, 288, 292, 296, 301, 305, 309, 312, 315, 320, 324, 328, 332, 337, 341, 345, 349, 353, 356, 360, 365, 369, 373, 377, 383, 386, 391, 394, 397, 403, 407, 411, 414, 418, 423, 428, 432, 439, 443, 447, 452, 456, 459, 463, 466, 470, 473, 479, 483, 487, 492, 495, 500, 505, 509, 515, 521, 525, 529, 533, 537, 544, 548, 552, 556, 560, 565, 573, 577, 581, 585, 589, 593, 597, 601, 606, 610, 615, 620, 624, 627, 632, 706, 709, 713, 717, 721, 725, 729, 733, 737, 741, 746, 750, 754, 758, 762, 766, 770, 774, 778, 782, 787, 791, 795, 799, 803, 807, 812, 817, 821, 827, 831, 836, 840, 845, 851, 855, 859, 863, 867, 871, 875, 879, 883, 887, 891, 895, 899, 902, 906, 910, 914, 918, 922, 926, 930, 934, 938, 942, 946, 951, 955]
set_option maxRecDepth 100000 in
set_option maxHeartbeats 4000000 in
theorem xkCo_e : (List.range 160).map (fun k => Cond.code (xyn k) (xcode k) (xml k) (xrty k)) = xkCo_p.filterMap (fun i => tables_1[i]?) := by rfl
def xK0 : List Nat := [6, 11, 13, 14, 15, 24, 25, 35, 36, 39, 42, 44, 45, 49, 59, 61, 63, 68, 77, 97, 100, 146]
def xK1 : List Nat := [10, 12, 16, 17, 18, 19, 20, 21, 22, 23, 26, 27, 28, 29, 30, 31, 32, 33, 34, 37, 38, 40, 41, 43, 46, 47, 48, 50, 51, 52, 53, 54, 55, 56, 57, 58, 60, 62, 64, 65, 66, 67, 69, 70, 71, 72, 73, 74, 75, 76, 78, 79, 80, 81, 82, 83, 84, 85, 86, 87, 88, 89, 90, 91, 92, 93, 94, 95, 96, 99, 101, 102, 103, 104, 105, 106, 107, 108, 109, 110, 111, 112, 113, 114, 115, 116, 117, 118, 119, 120, 121, 122, 123, 124, 125, 126, 127, 128, 129, 130, 131, 132, 133, 134, 135, 136, 137, 138, 139, 140, 141, 142, 143, 144, 145, 147, 148, 149, 150, 151, 152, 153, 154, 155, 156, 157, 158, 159]
def xK2 : List Nat := [0, 1, 2, 3, 4, 5, 7, 8, 9, 98]
def xkSt_p : List Nat := [134, 262, 269, 272, 275, 311, 314, 355, 359, 372, 385, 393, 396, 413, 458, 465, 472, 494, 536, 626, 708, 901]
set_option maxRecDepth 100000 in
set_option maxHeartbeats 4000000 in
theorem xkSt_e : xK0.map (fun k => Cond.static (xyn k)) = xkSt_p.filterMap (fun i => tables_1[i]?) := by rfl
def xkIm_p : List Nat := [258, 265, 278, 282, 286, 290, 295, 299, 304, 307, 318, 322, 326, 330, 335, 339, 343, 348, 351, 364, 367, 376, 382, 390, 401, 406, 410, 416, 421, 426, 430, 437, 441, 446, 451, 455, 462, 469, 477, 481, 486, 490, 498, 503, 508, 513, 519, 523, 527, 532, 542, 546, 550, 555, 558, 563, 571, 575, 579, 583, 587, 592, 595, 599, 604, 608, 613, 618, 622, 704, 711, 715, 720, 723, 728, 732, 735, 739, 744, 749, 753, 757, 761, 765, 769, 773, 777, 781, 786, 790, 794, 798, 802, 806, 811, 816, 820, 826, 830, 835, 839, 844, 850, 854, 858, 862, 866, 869, 873, 878, 882, 886, 890, 894, 898, 904, 909, 913, 917, 920, 924, 929, 932, 936, 940, 944, 949, 953, 18, 26, 33, 93, 112, 130, 140, 195, 211, 631]
set_option maxRecDepth 100000 in
set_option maxHeartbeats 4000000 in
theorem xkIm_e : (xK1 ++ xK2).map (fun k => Cond.instanceMethod (xyn k)) = xkIm_p.filterMap (fun i => tables_1[i]?) := by rfl
def xkSe_p : List Nat := [319, 326, 339, 343, 347, 351, 0, 360, 1, 368, 379, 383, 387, 391, 396, 400, 404, 2, 412, 3, 428, 4, 5, 6, 462, 7, 8, 477, 482, 487, 491, 498, 502, 9, 10, 11, 12, 13, 538, 542, 14, 551, 559, 564, 15, 574, 580, 584, 588, 16, 603, 607, 611, 17, 619, 624, 632, 636, 640, 644, 648, 18, 656, 660, 665, 669, 674, 679, 683, 765, 772, 776, 19, 784, 20, 21, 796, 800, 805, 22, 23, 24, 25, 26, 27, 28, 29, 30, 31, 32, 33, 34, 35, 36, 37, 38, 39, 40, 41, 42, 43, 44, 45, 46, 47, 48, 49, 930, 934, 50, 51, 52, 53, 54, 55, 965, 56, 57, 58, 981, 985, 59, 993, 997, 1001, 1005, 1010, 1014]
set_option maxRecDepth 100000 in
set_option maxHeartbeats 4000000 in
theorem xkSe_e : xK1.map (fun k => Cond.selects (xcn (xkc k)) (xyn k) (xyn k)) = xkSe_p.filterMap (fun i => lw_tbl[i]?) := by rfl
def xkLi_p : List Nat := [17, 92, 257, 261, 264, 268, 271, 274, 277, 281, 285, 289, 293, 297, 298, 302, 306, 310, 313, 316, 317, 321, 325, 329, 334, 338, 342, 346, 350, 354, 358, 362, 366, 371, 374, 380, 384, 387, 388, 392, 395, 398, 400, 404, 408, 415, 420, 425, 429, 436, 440, 444, 449, 453, 457, 460, 464, 467, 471, 474, 475, 476, 480, 484, 488, 489, 493, 496, 497, 501, 502, 506, 510, 511, 512, 516, 517, 518, 522, 526, 530, 535, 541, 545, 549, 553, 557, 561, 562, 566, 567, 568, 570, 574, 578, 582, 586, 590, 594, 598, 602, 603, 607, 612, 617, 621, 625, 630, 703, 707, 710, 714, 718, 722, 726, 730, 734, 738, 742, 743, 747, 751, 755, 759, 763, 767, 771, 775, 779, 784, 788, 792, 796, 800, 804, 809, 814, 818, 824, 828, 833, 837, 841, 842, 848, 852, 856, 860, 864, 868, 872, 876, 880, 884, 888, 892, 896, 900, 903, 907, 911, 915, 919, 923, 927, 931, 935, 939, 943, 948, 952]
set_option maxRecDepth 100000 in
set_option maxHeartbeats 4000000 in
theorem xkLi_e : xcalL.map (fun q => Cond.methodLink (xcn q.1) q.2.1 (xyn q.2.2.1)) = xkLi_p.filterMap (fun i => tables_1[i]?) := by rfl
def xkLn_p : List Nat := [25, 32, 111, 129, 133, 139, 194, 198, 210, 214, 216, 370, 412, 424, 448, 534, 569]
set_option maxRecDepth 100000 in
set_option maxHeartbeats 4000000 in
theorem xkLn_e : xcalN.map (fun q => Cond.methodLinkNest (xcn q.1) q.2.1 (xyn q.2.2.1) "BranchGoals") = xkLn_p.filterMap (fun i => tables_1[i]?) := by rfl
def xkNw_p : List Nat := [15, 23, 29, 90, 109, 127, 136, 192, 208, 215, 628]
set_option maxRecDepth 100000 in
set_option maxHeartbeats 4000000 in
theorem xkNw_e : xnwcT.map (fun q => Cond.classLink (xcn q.1) q.2.1 (xcn q.2.2)) = xkNw_p.filterMap (fun i => tables_1[i]?) := by rfl
def xkAn_p : List Nat := [29, 136, 215]
set_option maxRecDepth 100000 in
set_option maxHeartbeats 4000000 in
theorem xkAn_e : xanwT.map (fun q => Cond.classLink (xcn q.1) q.2.1 (xcn (xqc q.2.2))) = xkAn_p.filterMap (fun i => tables_1[i]?) := by rfl
def xcstC (q : Nat × Nat × Value) : Cond := match q.2.2 with
  | .int x => .constant (xcn q.1) q.2.1 x
  | .long x => .constantLong (xcn q.1) q.2.1 x
  | _ => .tt
def xkCs_p : List Nat := [96, 97, 333, 357, 361, 378, 379, 399, 419, 538, 539, 540, 611, 616, 634, 635, 783, 808, 813, 822, 823, 832, 846, 847, 947]
set_option maxRecDepth 100000 in
set_option maxHeartbeats 4000000 in
theorem xkCs_e : xcstT.map xcstC = xkCs_p.filterMap (fun i => tables_1[i]?) := by rfl
def xkNa_p : List Nat := [20, 28, 35, 95, 114, 132, 142, 197, 213, 433, 633]
set_option maxRecDepth 100000 in
set_option maxHeartbeats 4000000 in
theorem xkNa_e : xnatT.map (fun q => Cond.methodLink (xcn q.1) q.2.1 (if q.2.2 = 0 then objectInit else arraycopyName)) = xkNa_p.filterMap (fun i => tables_1[i]?) := by rfl
def xkG_p : List Nat := [21, 22, 435, 434, 13, 71, 126, 89]
set_option maxRecDepth 100000 in
set_option maxHeartbeats 4000000 in
theorem xkG_e : ([.instanceMethod objectInit, .code objectInit ⟨#[0xb1]⟩ 1 none, .native arraycopyName, .static arraycopyName, .initialized "java/lang/System", .arrayClass .int, .arrayClass .long, .arrayClass .boolean] : List Cond) = xkG_p.filterMap (fun i => tables_1[i]?) := by rfl
def xkO_p : List Nat := [137, 30]
set_option maxRecDepth 100000 in
set_option maxHeartbeats 4000000 in
theorem xkO_e : ([.arrayOver (.object "BranchGoals$Case"), .arrayOver (.object "BranchGoals$Method")] : List Cond) = xkO_p.filterMap (fun i => tables_1[i]?) := by rfl
set_option maxRecDepth 100000 in
theorem xkCl_g : (xkCl_p.filterMap (fun i => tables_1[i]?)).all goodWord = true := by decide +kernel
set_option maxRecDepth 100000 in
theorem xkIs_g : (xkIs_p.filterMap (fun i => tables_1[i]?)).all goodWord = true := by decide +kernel
set_option maxRecDepth 100000 in
theorem xkIn_g : (xkIn_p.filterMap (fun i => tables_1[i]?)).all goodWord = true := by decide +kernel
set_option maxRecDepth 100000 in
theorem xkFl_g : (xkFl_p.filterMap (fun i => tables_1[i]?)).all goodWord = true := by decide +kernel
set_option maxRecDepth 100000 in
theorem xkCo_g : (xkCo_p.filterMap (fun i => tables_1[i]?)).all goodWord = true := by decide +kernel
set_option maxRecDepth 100000 in
theorem xkSt_g : (xkSt_p.filterMap (fun i => tables_1[i]?)).all goodWord = true := by decide +kernel
set_option maxRecDepth 100000 in
theorem xkIm_g : (xkIm_p.filterMap (fun i => tables_1[i]?)).all goodWord = true := by decide +kernel
set_option maxRecDepth 100000 in
theorem xkSe_g : (xkSe_p.filterMap (fun i => lw_tbl[i]?)).all goodWord = true := by decide +kernel
set_option maxRecDepth 100000 in
theorem xkLi_g : (xkLi_p.filterMap (fun i => tables_1[i]?)).all goodWord = true := by decide +kernel
set_option maxRecDepth 100000 in
theorem xkNw_g : (xkNw_p.filterMap (fun i => tables_1[i]?)).all goodWord = true := by decide +kernel
set_option maxRecDepth 100000 in
theorem xkAn_g : (xkAn_p.filterMap (fun i => tables_1[i]?)).all goodWord = true := by decide +kernel
set_option maxRecDepth 100000 in
theorem xkCs_g : (xkCs_p.filterMap (fun i => tables_1[i]?)).all goodWord = true := by decide +kernel
set_option maxRecDepth 100000 in
theorem xkNa_g : (xkNa_p.filterMap (fun i => tables_1[i]?)).all goodWord = true := by decide +kernel
set_option maxRecDepth 100000 in
theorem xkG_g : (xkG_p.filterMap (fun i => tables_1[i]?)).all goodWord = true := by decide +kernel
set_option maxRecDepth 100000 in
theorem xkN1 : (xfldT.all (fun q => decide (q.2.2.1 < 10) && decide (q.2.2.2 < xnf q.2.2.1)) && (List.range 160).all (fun k => decide (xml k ≤ 20) && decide (xkc k < 14)) && xcalT.all (fun q => decide (q.2.2.1 < 160)) && (xK1).all (fun k => decide (xkc k < 10)) && (List.range 160).all (fun k => match xmk k with | 0 => xK0.contains k | 1 => xK1.contains k | 2 => xK2.contains k | _ => false) && xnwcT.all (fun q => decide (q.2.2 < 14)) && xanwT.all (fun q => decide (q.2.2 < 2)) && xnatT.all (fun q => q.2.2 == 0 || q.2.2 == 7)) = true := by decide +kernel
