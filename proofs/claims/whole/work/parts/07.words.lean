def q_yy (mi : Nat) : MethodName := match q_tab[mi]? with
  | some x => x.1
  | none => ⟨"", "", ""⟩
def q_my (e : Nat × Nat × Nat) : MethodName := match e.2.2 with
  | 3 => Lib.objectInit
  | 4 => arraycopyName
  | 5 => Lib.Math.min.name
  | _ => q_yy e.1
def q_vt : List Nat := [1, 2, 3, 4, 5, 7, 8, 10, 11, 12, 13, 16, 17, 18, 19, 20, 21, 22, 23, 24, 26, 27, 28, 29, 31, 32, 33, 34, 35, 36, 38, 39, 40, 41, 43, 44, 45, 46, 47, 48, 49, 50, 51, 52, 53, 54, 55, 56, 57, 58, 59, 60, 61, 62, 63, 64, 65, 66, 67, 68, 69, 70, 71, 72, 81, 83, 84, 85, 86, 88, 89, 90, 91, 92, 93, 94, 95, 96, 97, 98, 99, 100, 101, 102, 103, 104, 105, 106, 107, 108, 109, 110, 111, 112, 113, 114, 116, 117, 118, 119, 120, 121, 122, 123, 124, 125, 126, 127, 128, 129, 130]
def q_iT : List Nat := [0, 6, 9, 15, 25, 30, 37, 42, 78]
def q_sT : List Nat := [14, 73, 74, 75, 76, 77, 79, 80, 82, 87, 115]
def q_wC : List Cond := q_tab.map fun x => .code x.1 x.2.1 x.2.2.1 x.2.2.2.1
def q_wV : List Cond := q_vt.map fun mi => .instanceMethod (q_yy mi)
def q_wS : List Cond := q_vt.map fun mi => .selects (q_cn (q_mc mi)) (q_yy mi) (q_yy mi)
def q_wN : List Cond := q_iT.map fun mi => .instanceMethod (q_yy mi)
def q_wT : List Cond := q_sT.map fun mi => .static (q_yy mi)
def q_wK : List Cond := (List.range 9).map fun ci => .instantiable (q_cn ci) (q_nf ci)
def q_wI : List Cond := (List.range 10).map fun ci => .initialized (q_cn ci)
def q_wL : List Cond := (List.range 9).flatMap fun ci => u_ws (q_cn ci) (q_F ci) (q_nf ci)
def q_wF : List Cond := (List.range 10).flatMap fun w => (q_frT w).map fun e => .fieldLink (q_cn w) e.1 (q_F e.2.1.1 e.2.1.2.1).1 (q_F e.2.1.1 e.2.1.2.1).2.1 (q_F e.2.1.1 e.2.1.2.1).2.2.1
def q_wR : List Cond := (List.range 10).flatMap fun w => (q_crT w).map fun e => .classLink (q_cn w) e.1 (q_cn e.2.1)
def q_wc : List Cond := (List.range 10).flatMap fun w => (q_ciT w).map fun e => .constant (q_cn w) e.1 e.2.1
def q_wl : List Cond := (List.range 10).flatMap fun w => (q_clT w).map fun e => .constantLong (q_cn w) e.1 e.2.1
def q_wM : List Cond := (List.range 10).flatMap fun w => (q_mrT w).filterMap fun e => bif e.2.2.1 then none else some (.methodLink (q_cn w) e.1 (q_my e.2.1))
def q_wO : List Cond := (List.range 10).flatMap fun w => (q_srT w).filterMap fun e => bif e.2.2.1 then none else some (.fieldLink (q_cn w) e.1 "RatchetPost" (q_sn e.2.1) "[I")
def q_wX : List Cond := [.instanceMethod Lib.objectInit, .code Lib.objectInit ⟨#[0xb1]⟩ 1 none, .native arraycopyName, .static arraycopyName, .initialized "java/lang/System", .static Lib.Math.min.name, .initialized "java/lang/Math", .code Lib.Math.min.name Lib.Math.min.code 2 (some .int), .arrayClass .int, .arrayClass .long, .arrayClass .boolean, .classLink "RatchetPost" 28 "[[J"]
/-- the words that a contract may take along -/
def q_good : List Cond := q_wC ++ (q_wV ++ (q_wS ++ (q_wN ++ (q_wT ++ (q_wK ++ (q_wI ++ (q_wL ++ (q_wF ++ (q_wR ++ (q_wc ++ (q_wl ++ (q_wM ++ (q_wO ++ q_wX)))))))))))))
def q_nestF : List (String × Nat × String × String × String × String) := (List.range 10).flatMap fun w => (q_srT w).filterMap fun e => bif e.2.2.1 then some (q_cn w, e.1, "RatchetPost", q_sn e.2.1, "[I", "RatchetPost") else none
def q_nestM : List (String × Nat × MethodName × String) := (List.range 10).flatMap fun w => (q_mrT w).filterMap fun e => bif e.2.2.1 then some (q_cn w, e.1, q_my e.2.1, "RatchetPost") else none
set_option maxRecDepth 100000 in
theorem q_good_w : q_good.all goodWord = true := by decide +kernel
theorem q_at_in {ws : List Cond} (ps : List Nat) (h : ws = ps.filterMap (fun i => lw_tbl[i]?)) : ∀ w ∈ ws, w ∈ lw_tbl := by
  intro w hw
  rw [h] at hw
  obtain ⟨i, -, hi⟩ := List.mem_filterMap.mp hw
  exact List.mem_of_getElem? hi
set_option maxRecDepth 100000 in
set_option maxHeartbeats 4000000 in
theorem q_wC_in : ∀ w ∈ q_wC, w ∈ lw_tbl := q_at_in [71, 359, 355, 494, 490, 368, 100, 402, 460, 213, 433, 417, 438, 381, 441, 204, 341, 351, 398, 377, 410, 600, 617, 604, 608, 117, 549, 575, 558, 562, 94, 451, 543, 486, 466, 579, 570, 290, 476, 584, 588, 592, 63, 337, 389, 406, 421, 425, 482, 505, 517, 522, 625, 629, 634, 638, 642, 646, 652, 393, 429, 513, 509, 472, 526, 539, 621, 596, 455, 613, 554, 566, 499, 529, 534, 347, 344, 372, 657, 746, 743, 739, 766, 763, 755, 837, 786, 773, 770, 751, 804, 820, 782, 795, 791, 778, 800, 808, 812, 824, 861, 853, 849, 845, 829, 841, 865, 833, 816, 873, 869, 857, 881, 877, 885, 897, 893, 889, 904, 932, 908, 916, 912, 928, 924, 920, 936, 940, 945, 949, 953] rfl
set_option maxRecDepth 100000 in
set_option maxHeartbeats 4000000 in
theorem q_wV_in : ∀ w ∈ q_wV, w ∈ lw_tbl := q_at_in [357, 353, 492, 488, 367, 400, 458, 431, 415, 436, 379, 339, 349, 396, 376, 408, 598, 615, 602, 606, 547, 573, 556, 560, 449, 541, 484, 464, 577, 568, 474, 582, 586, 590, 335, 387, 404, 419, 423, 480, 503, 515, 520, 623, 627, 632, 636, 640, 644, 650, 392, 428, 512, 508, 471, 525, 538, 620, 595, 454, 612, 553, 565, 498, 737, 762, 754, 836, 785, 769, 749, 803, 819, 781, 794, 790, 776, 798, 806, 810, 823, 860, 852, 848, 844, 828, 840, 864, 832, 814, 872, 868, 855, 880, 875, 883, 892, 887, 903, 931, 907, 915, 911, 927, 923, 919, 934, 938, 943, 947, 951] rfl
set_option maxRecDepth 100000 in
set_option maxHeartbeats 4000000 in
theorem q_wS_in : ∀ w ∈ q_wS, w ∈ lw_tbl := q_at_in [358, 354, 493, 489, 0, 401, 459, 432, 416, 437, 380, 340, 350, 397, 1, 409, 599, 616, 603, 607, 548, 574, 557, 561, 450, 542, 485, 465, 578, 569, 475, 583, 587, 591, 336, 388, 405, 420, 424, 481, 504, 516, 521, 624, 628, 633, 637, 641, 645, 651, 2, 3, 8, 7, 5, 9, 10, 15, 13, 4, 14, 11, 12, 6, 738, 17, 16, 28, 20, 18, 750, 23, 24, 19, 22, 21, 777, 799, 807, 811, 25, 33, 32, 31, 30, 26, 29, 34, 27, 815, 36, 35, 856, 37, 876, 884, 38, 888, 39, 46, 40, 42, 41, 45, 44, 43, 935, 939, 944, 948, 952] rfl
set_option maxRecDepth 100000 in
set_option maxHeartbeats 4000000 in
theorem q_wN_in : ∀ w ∈ q_wN, w ∈ lw_tbl := q_at_in [70, 99, 212, 203, 116, 93, 289, 62, 656] rfl
set_option maxRecDepth 100000 in
set_option maxHeartbeats 4000000 in
theorem q_wT_in : ∀ w ∈ q_wT, w ∈ lw_tbl := q_at_in [440, 528, 533, 346, 343, 371, 745, 742, 765, 772, 896] rfl
set_option maxRecDepth 100000 in
set_option maxHeartbeats 4000000 in
theorem q_wK_in : ∀ w ∈ q_wK, w ∈ lw_tbl := q_at_in [68, 97, 210, 201, 114, 91, 287, 60, 654] rfl
set_option maxRecDepth 100000 in
set_option maxHeartbeats 4000000 in
theorem q_wI_in : ∀ w ∈ q_wI, w ∈ lw_tbl := q_at_in [49, 51, 54, 53, 52, 50, 55, 48, 56, 47] rfl
set_option maxRecDepth 100000 in
set_option maxHeartbeats 4000000 in
theorem q_wL_in : ∀ w ∈ q_wL, w ∈ lw_tbl := q_at_in [76, 78, 80, 107, 109, 231, 233, 235, 237, 239, 241, 264, 266, 268, 270, 272, 274, 276, 278, 280, 282, 284, 125, 127, 129, 131, 166, 168, 170, 172, 174, 176, 178, 180, 182, 184, 186, 188, 190, 192, 194, 196, 298, 300, 313, 315, 317, 319, 321, 323, 325, 327, 329, 331, 684, 686, 688, 690, 692, 694, 696, 698, 700, 702, 704, 706, 708, 710, 712, 714, 716, 718, 720, 722, 724, 726, 728, 730, 732] rfl
set_option maxRecDepth 100000 in
set_option maxHeartbeats 4000000 in
theorem q_wF_in : ∀ w ∈ q_wF, w ∈ lw_tbl := q_at_in [73, 74, 75, 102, 104, 215, 218, 221, 224, 227, 228, 244, 246, 248, 250, 252, 254, 256, 258, 260, 262, 263, 103, 105, 216, 219, 222, 225, 229, 119, 122, 123, 124, 134, 137, 139, 141, 143, 145, 147, 149, 151, 153, 155, 157, 159, 161, 163, 165, 120, 294, 296, 135, 303, 304, 305, 306, 307, 308, 309, 310, 311, 312, 245, 261, 217, 220, 223, 226, 106, 136, 158, 162, 164, 249, 140, 142, 144, 297, 295, 150, 154, 251, 255, 253, 247, 259, 230, 152, 156, 121, 138, 257, 148, 146, 160, 659, 660, 661, 662, 663, 664, 665, 666, 667, 668, 669, 670, 671, 672, 673, 674, 677, 678, 679, 680, 681, 682, 683, 675, 676] rfl
set_option maxRecDepth 100000 in
set_option maxHeartbeats 4000000 in
theorem q_wR_in : ∀ w ∈ q_wR, w ∈ lw_tbl := q_at_in [206, 209, 96, 113, 292, 67, 84, 86, 90, 199, 59, 653] rfl
set_option maxRecDepth 100000 in
set_option maxHeartbeats 4000000 in
theorem q_wc_in : ∀ w ∈ q_wc, w ∈ lw_tbl := q_at_in [443, 442, 369, 647, 740, 756, 757, 758, 759, 787, 825] rfl
set_option maxRecDepth 100000 in
set_option maxHeartbeats 4000000 in
theorem q_wl_in : ∀ w ∈ q_wl, w ∈ lw_tbl := q_at_in [495, 446, 385, 630, 394, 530, 531, 535, 373, 747, 774, 796, 894, 898, 899, 900, 941, 954] rfl
set_option maxRecDepth 100000 in
set_option maxHeartbeats 4000000 in
theorem q_wM_in : ∀ w ∈ q_wM, w ∈ lw_tbl := q_at_in [72, 362, 365, 356, 101, 214, 434, 439, 444, 384, 205, 348, 374, 352, 399, 378, 411, 414, 118, 550, 95, 544, 545, 546, 467, 468, 580, 571, 572, 291, 478, 64, 202, 338, 390, 395, 407, 426, 430, 435, 447, 448, 452, 463, 469, 473, 483, 487, 491, 496, 506, 510, 518, 523, 536, 589, 593, 618, 648, 500, 501, 527, 532, 540, 551, 581, 585, 597, 601, 605, 609, 457, 610, 614, 462, 555, 559, 563, 567, 576, 658, 744, 741, 764, 760, 771, 752, 767, 801, 783, 779, 792, 788, 850, 846, 834, 817, 821, 826, 830, 838, 842, 858, 862, 866, 870, 878, 895, 890, 901, 905, 929, 909, 913, 917, 921, 925, 61, 655, 334, 775, 386, 797, 403, 805, 418, 809, 422, 813, 479, 854, 502, 874, 514, 882, 519, 886, 622, 933, 626, 937, 631, 942, 635, 946, 639, 950, 643, 736, 649, 748] rfl
set_option maxRecDepth 100000 in
set_option maxHeartbeats 4000000 in
theorem q_wO_in : ∀ w ∈ q_wO, w ∈ lw_tbl := q_at_in [456] rfl
set_option maxRecDepth 100000 in
set_option maxHeartbeats 4000000 in
theorem q_wX_in : ∀ w ∈ q_wX, w ∈ lw_tbl := q_at_in [65, 66, 364, 363, 57, 412, 58, 413, 83, 112, 735, 88] rfl
set_option maxRecDepth 100000 in
theorem q_nestF_in : ∀ w ∈ q_nestF, Cond.fieldLinkNest w.1 w.2.1 w.2.2.1 w.2.2.2.1 w.2.2.2.2.1 w.2.2.2.2.2 ∈ lw_tbl := fun w hw => q_at_in [360, 382] (ws := q_nestF.map fun w => Cond.fieldLinkNest w.1 w.2.1 w.2.2.1 w.2.2.2.1 w.2.2.2.2.1 w.2.2.2.2.2) rfl _ (List.mem_map.mpr ⟨w, hw, rfl⟩)
set_option maxRecDepth 100000 in
theorem q_nestM_in : ∀ w ∈ q_nestM, Cond.methodLinkNest w.1 w.2.1 w.2.2.1 w.2.2.2 ∈ lw_tbl := fun w hw => q_at_in [461, 445, 207, 211, 342, 345, 370, 98, 115, 477, 69, 92, 200, 288] (ws := q_nestM.map fun w => Cond.methodLinkNest w.1 w.2.1 w.2.2.1 w.2.2.2) rfl _ (List.mem_map.mpr ⟨w, hw, rfl⟩)
theorem q_good_in : ∀ w ∈ q_good, w ∈ lw_tbl := by
  intro w hw
  unfold q_good at hw
  simp only [List.mem_append] at hw
  rcases hw with h | h | h | h | h | h | h | h | h | h | h | h | h | h | h
  · exact q_wC_in w h
  · exact q_wV_in w h
  · exact q_wS_in w h
  · exact q_wN_in w h
  · exact q_wT_in w h
  · exact q_wK_in w h
  · exact q_wI_in w h
  · exact q_wL_in w h
  · exact q_wF_in w h
  · exact q_wR_in w h
  · exact q_wc_in w h
  · exact q_wl_in w h
  · exact q_wM_in w h
  · exact q_wO_in w h
  · exact q_wX_in w h
theorem q_i1 {w : Cond} (h : w ∈ q_wC) : w ∈ q_good := List.mem_append.mpr (Or.inl h)
theorem q_i2 {w : Cond} (h : w ∈ q_wV ++ (q_wS ++ (q_wN ++ (q_wT ++ (q_wK ++ (q_wI ++ (q_wL ++ (q_wF ++ (q_wR ++ (q_wc ++ (q_wl ++ (q_wM ++ (q_wO ++ q_wX))))))))))))) : w ∈ q_good := List.mem_append.mpr (Or.inr h)
theorem q_wV_g {w : Cond} (h : w ∈ q_wV) : w ∈ q_good := q_i2 (List.mem_append.mpr (Or.inl h))
theorem q_wS_g {w : Cond} (h : w ∈ q_wS) : w ∈ q_good := q_i2 (List.mem_append.mpr (Or.inr (List.mem_append.mpr (Or.inl h))))
theorem q_wN_g {w : Cond} (h : w ∈ q_wN) : w ∈ q_good := q_i2 (List.mem_append.mpr (Or.inr (List.mem_append.mpr (Or.inr (List.mem_append.mpr (Or.inl h))))))
theorem q_wT_g {w : Cond} (h : w ∈ q_wT) : w ∈ q_good := q_i2 (List.mem_append.mpr (Or.inr (List.mem_append.mpr (Or.inr (List.mem_append.mpr (Or.inr (List.mem_append.mpr (Or.inl h))))))))
theorem q_wK_g {w : Cond} (h : w ∈ q_wK) : w ∈ q_good := q_i2 (List.mem_append.mpr (Or.inr (List.mem_append.mpr (Or.inr (List.mem_append.mpr (Or.inr (List.mem_append.mpr (Or.inr (List.mem_append.mpr (Or.inl h))))))))))
theorem q_wI_g {w : Cond} (h : w ∈ q_wI) : w ∈ q_good := q_i2 (List.mem_append.mpr (Or.inr (List.mem_append.mpr (Or.inr (List.mem_append.mpr (Or.inr (List.mem_append.mpr (Or.inr (List.mem_append.mpr (Or.inr (List.mem_append.mpr (Or.inl h))))))))))))
theorem q_wL_g {w : Cond} (h : w ∈ q_wL) : w ∈ q_good := q_i2 (List.mem_append.mpr (Or.inr (List.mem_append.mpr (Or.inr (List.mem_append.mpr (Or.inr (List.mem_append.mpr (Or.inr (List.mem_append.mpr (Or.inr (List.mem_append.mpr (Or.inr (List.mem_append.mpr (Or.inl h))))))))))))))
theorem q_wF_g {w : Cond} (h : w ∈ q_wF) : w ∈ q_good := q_i2 (List.mem_append.mpr (Or.inr (List.mem_append.mpr (Or.inr (List.mem_append.mpr (Or.inr (List.mem_append.mpr (Or.inr (List.mem_append.mpr (Or.inr (List.mem_append.mpr (Or.inr (List.mem_append.mpr (Or.inr (List.mem_append.mpr (Or.inl h))))))))))))))))
theorem q_wR_g {w : Cond} (h : w ∈ q_wR) : w ∈ q_good := q_i2 (List.mem_append.mpr (Or.inr (List.mem_append.mpr (Or.inr (List.mem_append.mpr (Or.inr (List.mem_append.mpr (Or.inr (List.mem_append.mpr (Or.inr (List.mem_append.mpr (Or.inr (List.mem_append.mpr (Or.inr (List.mem_append.mpr (Or.inr (List.mem_append.mpr (Or.inl h))))))))))))))))))
theorem q_wc_g {w : Cond} (h : w ∈ q_wc) : w ∈ q_good := q_i2 (List.mem_append.mpr (Or.inr (List.mem_append.mpr (Or.inr (List.mem_append.mpr (Or.inr (List.mem_append.mpr (Or.inr (List.mem_append.mpr (Or.inr (List.mem_append.mpr (Or.inr (List.mem_append.mpr (Or.inr (List.mem_append.mpr (Or.inr (List.mem_append.mpr (Or.inr (List.mem_append.mpr (Or.inl h))))))))))))))))))))
theorem q_wl_g {w : Cond} (h : w ∈ q_wl) : w ∈ q_good := q_i2 (List.mem_append.mpr (Or.inr (List.mem_append.mpr (Or.inr (List.mem_append.mpr (Or.inr (List.mem_append.mpr (Or.inr (List.mem_append.mpr (Or.inr (List.mem_append.mpr (Or.inr (List.mem_append.mpr (Or.inr (List.mem_append.mpr (Or.inr (List.mem_append.mpr (Or.inr (List.mem_append.mpr (Or.inr (List.mem_append.mpr (Or.inl h))))))))))))))))))))))
theorem q_wM_g {w : Cond} (h : w ∈ q_wM) : w ∈ q_good := q_i2 (List.mem_append.mpr (Or.inr (List.mem_append.mpr (Or.inr (List.mem_append.mpr (Or.inr (List.mem_append.mpr (Or.inr (List.mem_append.mpr (Or.inr (List.mem_append.mpr (Or.inr (List.mem_append.mpr (Or.inr (List.mem_append.mpr (Or.inr (List.mem_append.mpr (Or.inr (List.mem_append.mpr (Or.inr (List.mem_append.mpr (Or.inr (List.mem_append.mpr (Or.inl h))))))))))))))))))))))))
theorem q_wO_g {w : Cond} (h : w ∈ q_wO) : w ∈ q_good := q_i2 (List.mem_append.mpr (Or.inr (List.mem_append.mpr (Or.inr (List.mem_append.mpr (Or.inr (List.mem_append.mpr (Or.inr (List.mem_append.mpr (Or.inr (List.mem_append.mpr (Or.inr (List.mem_append.mpr (Or.inr (List.mem_append.mpr (Or.inr (List.mem_append.mpr (Or.inr (List.mem_append.mpr (Or.inr (List.mem_append.mpr (Or.inr (List.mem_append.mpr (Or.inr (List.mem_append.mpr (Or.inl h))))))))))))))))))))))))))
theorem q_wX_g {w : Cond} (h : w ∈ q_wX) : w ∈ q_good := q_i2 (List.mem_append.mpr (Or.inr (List.mem_append.mpr (Or.inr (List.mem_append.mpr (Or.inr (List.mem_append.mpr (Or.inr (List.mem_append.mpr (Or.inr (List.mem_append.mpr (Or.inr (List.mem_append.mpr (Or.inr (List.mem_append.mpr (Or.inr (List.mem_append.mpr (Or.inr (List.mem_append.mpr (Or.inr (List.mem_append.mpr (Or.inr (List.mem_append.mpr (Or.inr (List.mem_append.mpr (Or.inr (h)))))))))))))))))))))))))))
theorem q_ciT_lt {w : Nat} {e : Nat × Int32 × Nat} (h : e ∈ q_ciT w) : w ∈ List.range 10 := by
  rcases Nat.lt_or_ge w 10 with h1 | h1
  · exact List.mem_range.mpr h1
  · obtain ⟨k, rfl⟩ : ∃ k, w = k + 10 := ⟨w - 10, by omega⟩
    have h : e ∈ ([] : List (Nat × Int32 × Nat)) := h
    cases h
theorem q_clT_lt {w : Nat} {e : Nat × Int64 × Nat} (h : e ∈ q_clT w) : w ∈ List.range 10 := by
  rcases Nat.lt_or_ge w 10 with h1 | h1
  · exact List.mem_range.mpr h1
  · obtain ⟨k, rfl⟩ : ∃ k, w = k + 10 := ⟨w - 10, by omega⟩
    have h : e ∈ ([] : List (Nat × Int64 × Nat)) := h
    cases h
theorem q_srT_lt {w : Nat} {e : Nat × Nat × Bool × Nat} (h : e ∈ q_srT w) : w ∈ List.range 10 := by
  rcases Nat.lt_or_ge w 10 with h1 | h1
  · exact List.mem_range.mpr h1
  · obtain ⟨k, rfl⟩ : ∃ k, w = k + 10 := ⟨w - 10, by omega⟩
    have h : e ∈ ([] : List (Nat × Nat × Bool × Nat)) := h
    cases h
theorem q_frT_lt {w : Nat} {e : Nat × (Nat × Nat × Nat × Bool) × Bool × Nat} (h : e ∈ q_frT w) : w ∈ List.range 10 := by
  rcases Nat.lt_or_ge w 10 with h1 | h1
  · exact List.mem_range.mpr h1
  · obtain ⟨k, rfl⟩ : ∃ k, w = k + 10 := ⟨w - 10, by omega⟩
    have h : e ∈ ([] : List (Nat × (Nat × Nat × Nat × Bool) × Bool × Nat)) := h
    cases h
theorem q_crT_lt {w : Nat} {e : Nat × Nat × Nat} (h : e ∈ q_crT w) : w ∈ List.range 10 := by
  rcases Nat.lt_or_ge w 10 with h1 | h1
  · exact List.mem_range.mpr h1
  · obtain ⟨k, rfl⟩ : ∃ k, w = k + 10 := ⟨w - 10, by omega⟩
    have h : e ∈ ([] : List (Nat × Nat × Nat)) := h
    cases h
theorem q_mrT_lt {w : Nat} {e : Nat × (Nat × Nat × Nat) × Bool × Nat} (h : e ∈ q_mrT w) : w ∈ List.range 10 := by
  rcases Nat.lt_or_ge w 10 with h1 | h1
  · exact List.mem_range.mpr h1
  · obtain ⟨k, rfl⟩ : ∃ k, w = k + 10 := ⟨w - 10, by omega⟩
    have h : e ∈ ([] : List (Nat × (Nat × Nat × Nat) × Bool × Nat)) := h
    cases h
theorem q_ci_ok {own x : Nat} {v : Int32} (h : q_ci own x = some v) : Cond.constant (q_cn own) x v ∈ q_good := by
  obtain ⟨w, hw⟩ := q_look_mem _ _ _ h
  exact q_wc_g (List.mem_flatMap.mpr ⟨own, q_ciT_lt hw, List.mem_map.mpr ⟨_, hw, rfl⟩⟩)
theorem q_cl_ok {own x : Nat} {v : Int64} (h : q_cl own x = some v) : Cond.constantLong (q_cn own) x v ∈ q_good := by
  obtain ⟨w, hw⟩ := q_look_mem _ _ _ h
  exact q_wl_g (List.mem_flatMap.mpr ⟨own, q_clT_lt hw, List.mem_map.mpr ⟨_, hw, rfl⟩⟩)
theorem q_sr_all : (List.range 10).all (fun w => (q_srT w).all fun e => decide (e.2.1 < 2)) = true := by decide +kernel
theorem q_sr_ok {own x a : Nat} (h : q_sr own x = some a) : a < 2 ∧ (Cond.fieldLink (q_cn own) x "RatchetPost" (q_sn a) "[I" ∈ q_good ∨ ∃ host, (q_cn own, x, "RatchetPost", q_sn a, "[I", host) ∈ q_nestF) := by
  obtain ⟨w, hw⟩ := q_look_mem _ _ _ h
  refine ⟨of_decide_eq_true (List.all_eq_true.mp (List.all_eq_true.mp q_sr_all own (q_srT_lt hw)) _ hw), ?_⟩
  obtain ⟨nb, lp⟩ := w
  cases nb with
  | false => exact Or.inl (q_wO_g (List.mem_flatMap.mpr ⟨own, q_srT_lt hw, List.mem_filterMap.mpr ⟨_, hw, rfl⟩⟩))
  | true => exact Or.inr ⟨"RatchetPost", List.mem_flatMap.mpr ⟨own, q_srT_lt hw, List.mem_filterMap.mpr ⟨_, hw, rfl⟩⟩⟩
theorem q_fr_all : (List.range 10).all (fun w => (q_frT w).all fun e => decide (e.2.1.1 < 9) && decide (e.2.1.2.1 < q_nf e.2.1.1) && decide (q_ft e.2.1.1 e.2.1.2.1 = e.2.1.2.2.1) && decide ((q_F e.2.1.1 e.2.1.2.1).2.2.2 = e.2.1.2.2.2)) = true := by decide +kernel
theorem q_fr_ok {own x ci k ty : Nat} {fin : Bool} (h : q_fr own x = some (ci, k, ty, fin)) : ci < 9 ∧ k < q_nf ci ∧ q_ft ci k = ty ∧ (q_F ci k).2.2.2 = fin ∧ (Cond.fieldLink (q_cn own) x (q_F ci k).1 (q_F ci k).2.1 (q_F ci k).2.2.1 ∈ q_good ∨ ∃ host, (q_cn own, x, (q_F ci k).1, (q_F ci k).2.1, (q_F ci k).2.2.1, host) ∈ q_nestF ∧ fin = false) := by
  obtain ⟨w, hw⟩ := q_look_mem _ _ _ h
  have h1 := List.all_eq_true.mp (List.all_eq_true.mp q_fr_all own (q_frT_lt hw)) _ hw
  simp only [Bool.and_eq_true, decide_eq_true_eq] at h1
  exact ⟨h1.1.1.1, h1.1.1.2, h1.1.2, h1.2, Or.inl (q_wF_g (List.mem_flatMap.mpr ⟨own, q_frT_lt hw, List.mem_map.mpr ⟨_, hw, rfl⟩⟩))⟩
theorem q_cr_all : (List.range 10).all (fun w => (q_crT w).all fun e => decide (e.2.1 < 9)) = true := by decide +kernel
theorem q_cr_ok {own x ci : Nat} (h : q_cr own x = some ci) : ci < 9 ∧ Cond.classLink (q_cn own) x (q_cn ci) ∈ q_good := by
  obtain ⟨w, hw⟩ := q_look_mem _ _ _ h
  exact ⟨of_decide_eq_true (List.all_eq_true.mp (List.all_eq_true.mp q_cr_all own (q_crT_lt hw)) _ hw), q_wR_g (List.mem_flatMap.mpr ⟨own, q_crT_lt hw, List.mem_map.mpr ⟨_, hw, rfl⟩⟩)⟩
theorem q_cls_ok {ci : Nat} (h : ci < 9) : Cond.instantiable (q_cn ci) (q_nf ci) ∈ q_good ∧ Cond.initialized (q_cn ci) ∈ q_good :=
  ⟨q_wK_g (List.mem_map.mpr ⟨ci, List.mem_range.mpr h, rfl⟩), q_wI_g (List.mem_map.mpr ⟨ci, List.mem_range.mpr (by omega), rfl⟩)⟩
theorem q_F_in {ci : Nat} (h : ci < 9) : ∀ w ∈ u_ws (q_cn ci) (q_F ci) (q_nf ci), w ∈ q_good := fun _ hw => q_wL_g (List.mem_flatMap.mpr ⟨ci, List.mem_range.mpr h, hw⟩)
theorem q_F_all : (List.range 9).all (fun ci => (List.range (q_nf ci)).all fun k => decide (parseFieldDescriptor (q_F ci k).2.2.1 = some (q_fty ci k)) && decide ((q_F ci k).1 = q_cn ci) && decide (defaultValue (q_fty ci k) = (match q_ft ci k with | 0 => .int 0 | 1 => .int 0 | 2 => .long 0 | _ => .null)) && (match q_ft ci k with | 0 => decide (q_fty ci k = .int) | 1 => decide (q_fty ci k = .boolean) | 2 => decide (q_fty ci k = .long) | _ => (q_fty ci k).isReference)) = true := by decide +kernel
theorem q_F_k {ci k : Nat} (h : ci < 9) (hk : k < q_nf ci) : ((decide (parseFieldDescriptor (q_F ci k).2.2.1 = some (q_fty ci k)) && decide ((q_F ci k).1 = q_cn ci) && decide (defaultValue (q_fty ci k) = (match q_ft ci k with | 0 => .int 0 | 1 => .int 0 | 2 => .long 0 | _ => .null))) = true) ∧ (match q_ft ci k with | 0 => decide (q_fty ci k = .int) | 1 => decide (q_fty ci k = .boolean) | 2 => decide (q_fty ci k = .long) | _ => (q_fty ci k).isReference) = true := by
  have h1 := List.all_eq_true.mp (List.all_eq_true.mp q_F_all ci (List.mem_range.mpr h)) k (List.mem_range.mpr hk)
  rw [Bool.and_eq_true] at h1
  exact h1
theorem q_fty_ok {ci k : Nat} (h : ci < 9) (hk : k < q_nf ci) : parseFieldDescriptor (q_F ci k).2.2.1 = some (q_fty ci k) := by
  have h1 := (q_F_k h hk).1
  simp only [Bool.and_eq_true, decide_eq_true_eq] at h1
  exact h1.1.1
theorem q_F_own {ci k : Nat} (h : ci < 9) (hk : k < q_nf ci) : (q_F ci k).1 = q_cn ci := by
  have h1 := (q_F_k h hk).1
  simp only [Bool.and_eq_true, decide_eq_true_eq] at h1
  exact h1.1.2
theorem q_fty_def {ci k : Nat} (h : ci < 9) (hk : k < q_nf ci) : defaultValue (q_fty ci k) = (match q_ft ci k with | 0 => .int 0 | 1 => .int 0 | 2 => .long 0 | _ => .null) := by
  have h1 := (q_F_k h hk).1
  simp only [Bool.and_eq_true, decide_eq_true_eq] at h1
  exact h1.2
theorem q_ty0 {own x ci k : Nat} {fin : Bool} (h : q_fr own x = some (ci, k, 0, fin)) {v : Int32} : narrow (q_fty ci k) (.int v) = .int v ∧ fits (q_fty ci k) (.int v) = true := by
  obtain ⟨h1, h2, h3, -⟩ := q_fr_ok h
  have h4 := (q_F_k h1 h2).2
  rw [h3] at h4
  rw [of_decide_eq_true h4]
  exact ⟨rfl, rfl⟩
theorem q_ty1 {own x ci k : Nat} {fin : Bool} (h : q_fr own x = some (ci, k, 1, fin)) {v : Int32} (hz : v = 0 ∨ v = 1) : narrow (q_fty ci k) (.int v) = .int v ∧ fits (q_fty ci k) (.int v) = true := by
  obtain ⟨h1, h2, h3, -⟩ := q_fr_ok h
  have h4 := (q_F_k h1 h2).2
  rw [h3] at h4
  rw [of_decide_eq_true h4]
  rcases hz with rfl | rfl <;> exact ⟨rfl, rfl⟩
theorem q_ty2 {own x ci k : Nat} {fin : Bool} (h : q_fr own x = some (ci, k, 2, fin)) {v : Int64} : narrow (q_fty ci k) (.long v) = .long v ∧ fits (q_fty ci k) (.long v) = true := by
  obtain ⟨h1, h2, h3, -⟩ := q_fr_ok h
  have h4 := (q_F_k h1 h2).2
  rw [h3] at h4
  rw [of_decide_eq_true h4]
  exact ⟨rfl, rfl⟩
theorem q_ty3 {own x ci k ty : Nat} {fin : Bool} (h : q_fr own x = some (ci, k, ty, fin)) (n0 : ty ≠ 0) (n1 : ty ≠ 1) (n2 : ty ≠ 2) (a : Nat) : narrow (q_fty ci k) (.ref a) = .ref a ∧ fits (q_fty ci k) (.ref a) = true := by
  obtain ⟨h1, h2, h3, -⟩ := q_fr_ok h
  have h4 := (q_F_k h1 h2).2
  rw [h3] at h4
  have h5 : (q_fty ci k).isReference = true := by
    split at h4
    · exact absurd rfl n0
    · exact absurd rfl n1
    · exact absurd rfl n2
    · exact h4
  generalize q_fty ci k = T at h5
  cases T <;> first | exact ⟨rfl, rfl⟩ | cases h5
theorem q_nm_all : (List.range 9).all (fun ci => (List.range (q_nf ci)).all fun a => (List.range (q_nf ci)).all fun b => decide (a = b) || decide ((q_F ci a).2.1 ≠ (q_F ci b).2.1)) = true := by decide +kernel
theorem q_nm {ci a b : Nat} (h : ci < 9) (ha : a < q_nf ci) (hb : b < q_nf ci) (hne : a ≠ b) : (q_F ci a).2.1 ≠ (q_F ci b).2.1 := by
  have h1 := List.all_eq_true.mp (List.all_eq_true.mp (List.all_eq_true.mp q_nm_all ci (List.mem_range.mpr h)) a (List.mem_range.mpr ha)) b (List.mem_range.mpr hb)
  rw [Bool.or_eq_true] at h1
  rcases h1 with h1 | h1
  · exact absurd (of_decide_eq_true h1) hne
  · exact of_decide_eq_true h1
def q_mr_chk (e : Nat × (Nat × Nat × Nat) × Bool × Nat) : Bool := match q_tab[e.2.1.1]? with
  | none => false
  | some y => (match e.2.1.2.2 with
    | 0 => decide (0 < e.2.1.2.1) && decide ((parseMethodDescriptor y.1.desc).map (fun q => q.parameters.length) = some (e.2.1.2.1 - 1)) && q_vt.contains e.2.1.1 && decide (q_mc e.2.1.1 < 9)
    | 1 => decide (0 < e.2.1.2.1) && decide ((parseMethodDescriptor y.1.desc).map (fun q => q.parameters.length) = some (e.2.1.2.1 - 1)) && q_iT.contains e.2.1.1 && decide (y.1.name = "<init>") && decide (y.2.2.2.1 = none)
    | 2 => decide ((parseMethodDescriptor y.1.desc).map (fun q => q.parameters.length) = some e.2.1.2.1) && q_sT.contains e.2.1.1
    | _ => true)
set_option maxRecDepth 100000 in
theorem q_mr_all : (List.range 10).all (fun w => (q_mrT w).all q_mr_chk) = true := by decide +kernel
theorem q_mr_at {own x : Nat} {f : Nat × Nat × Nat} (h : q_mr own x = some f) : ∃ w, (x, f, w) ∈ q_mrT own ∧ q_mr_chk (x, f, w) = true := by
  obtain ⟨w, hw⟩ := q_look_mem _ _ _ h
  exact ⟨w, hw, List.all_eq_true.mp (List.all_eq_true.mp q_mr_all own (q_mrT_lt hw)) _ hw⟩
theorem q_mr_link {own x : Nat} {f : Nat × Nat × Nat} {w : Bool × Nat} (hw : (x, f, w) ∈ q_mrT own) : Cond.methodLink (q_cn own) x (q_my f) ∈ q_good ∨ ∃ host, (q_cn own, x, q_my f, host) ∈ q_nestM := by
  obtain ⟨nb, lp⟩ := w
  cases nb with
  | false => exact Or.inl (q_wM_g (List.mem_flatMap.mpr ⟨own, q_mrT_lt hw, List.mem_filterMap.mpr ⟨_, hw, rfl⟩⟩))
  | true => exact Or.inr ⟨"RatchetPost", List.mem_flatMap.mpr ⟨own, q_mrT_lt hw, List.mem_filterMap.mpr ⟨_, hw, rfl⟩⟩⟩
theorem q_yy_at {mi : Nat} {y : q_MI} (h : q_tab[mi]? = some y) : q_yy mi = y.1 := by unfold q_yy; rw [h]
theorem q_mrV_ok {own x mi na : Nat} (h : q_mr own x = some (mi, na, 0)) : ∃ y, q_tab[mi]? = some y ∧ ∃ np, (parseMethodDescriptor y.1.desc).map (fun q => q.parameters.length) = some np ∧ np + 1 = na ∧ Cond.instanceMethod y.1 ∈ q_good ∧ Cond.selects (q_cn (q_mc mi)) y.1 y.1 ∈ q_good ∧ q_mc mi < 9 ∧ True ∧ (Cond.methodLink (q_cn own) x y.1 ∈ q_good ∨ ∃ host, (q_cn own, x, y.1, host) ∈ q_nestM) := by
  obtain ⟨w, hw, hc⟩ := q_mr_at h
  have hl := q_mr_link hw
  unfold q_mr_chk at hc
  simp only at hc
  cases hy : q_tab[mi]? with
  | none => rw [hy] at hc; cases hc
  | some y =>
    rw [hy] at hc
    simp only [Bool.and_eq_true, decide_eq_true_eq, List.contains_iff_mem] at hc
    obtain ⟨⟨⟨c1, c2⟩, c3⟩, c4⟩ := hc
    have hyy := q_yy_at hy
    refine ⟨y, rfl, na - 1, c2, by omega, ?_, ?_, c4, trivial, ?_⟩
    · rw [← hyy]; exact q_wV_g (List.mem_map.mpr ⟨mi, c3, rfl⟩)
    · rw [← hyy]; exact q_wS_g (List.mem_map.mpr ⟨mi, c3, rfl⟩)
    · rw [← hyy]; exact hl
theorem q_mrI_ok {own x mi na : Nat} (h : q_mr own x = some (mi, na, 1)) : ∃ y, q_tab[mi]? = some y ∧ ∃ np, (parseMethodDescriptor y.1.desc).map (fun q => q.parameters.length) = some np ∧ np + 1 = na ∧ Cond.instanceMethod y.1 ∈ q_good ∧ y.1.name = "<init>" ∧ y.2.2.2.1 = none ∧ (Cond.methodLink (q_cn own) x y.1 ∈ q_good ∨ ∃ host, (q_cn own, x, y.1, host) ∈ q_nestM) := by
  obtain ⟨w, hw, hc⟩ := q_mr_at h
  have hl := q_mr_link hw
  unfold q_mr_chk at hc
  simp only at hc
  cases hy : q_tab[mi]? with
  | none => rw [hy] at hc; cases hc
  | some y =>
    rw [hy] at hc
    simp only [Bool.and_eq_true, decide_eq_true_eq, List.contains_iff_mem] at hc
    obtain ⟨⟨⟨⟨c1, c2⟩, c3⟩, c4⟩, c5⟩ := hc
    have hyy := q_yy_at hy
    refine ⟨y, rfl, na - 1, c2, by omega, ?_, c4, c5, ?_⟩
    · rw [← hyy]; exact q_wN_g (List.mem_map.mpr ⟨mi, c3, rfl⟩)
    · rw [← hyy]; exact hl
theorem q_mrS_ok {own x mi na : Nat} (h : q_mr own x = some (mi, na, 2)) : ∃ y, q_tab[mi]? = some y ∧ ∃ np, (parseMethodDescriptor y.1.desc).map (fun q => q.parameters.length) = some np ∧ np = na ∧ Cond.static y.1 ∈ q_good ∧ (Cond.methodLink (q_cn own) x y.1 ∈ q_good ∨ ∃ host, (q_cn own, x, y.1, host) ∈ q_nestM) := by
  obtain ⟨w, hw, hc⟩ := q_mr_at h
  have hl := q_mr_link hw
  unfold q_mr_chk at hc
  simp only at hc
  cases hy : q_tab[mi]? with
  | none => rw [hy] at hc; cases hc
  | some y =>
    rw [hy] at hc
    simp only [Bool.and_eq_true, decide_eq_true_eq, List.contains_iff_mem] at hc
    obtain ⟨c1, c2⟩ := hc
    have hyy := q_yy_at hy
    refine ⟨y, rfl, na, c1, rfl, ?_, ?_⟩
    · rw [← hyy]; exact q_wT_g (List.mem_map.mpr ⟨mi, c2, rfl⟩)
    · rw [← hyy]; exact hl
theorem q_nest3 : q_nestM.all (fun w => !(w.2.2.1 == Lib.objectInit) && !(w.2.2.1 == arraycopyName) && !(w.2.2.1 == Lib.Math.min.name)) = true := by decide +kernel
theorem q_mrO_ok {own x u1 u2 : Nat} (h : q_mr own x = some (u1, u2, 3)) : Cond.methodLink (q_cn own) x Lib.objectInit ∈ q_good := by
  obtain ⟨w, hw, -⟩ := q_mr_at h
  rcases q_mr_link hw with h1 | ⟨host, h1⟩
  · exact h1
  · have := List.all_eq_true.mp q_nest3 _ h1
    exact absurd this (by show ¬ (!(Lib.objectInit == Lib.objectInit) && _ && _) = true; simp)
theorem q_mrC_ok {own x u1 u2 : Nat} (h : q_mr own x = some (u1, u2, 4)) : Cond.methodLink (q_cn own) x arraycopyName ∈ q_good := by
  obtain ⟨w, hw, -⟩ := q_mr_at h
  rcases q_mr_link hw with h1 | ⟨host, h1⟩
  · exact h1
  · have := List.all_eq_true.mp q_nest3 _ h1
    exact absurd this (by show ¬ (_ && !(arraycopyName == arraycopyName) && _) = true; simp)
theorem q_mrM_ok {own x u1 u2 : Nat} (h : q_mr own x = some (u1, u2, 5)) : Cond.methodLink (q_cn own) x Lib.Math.min.name ∈ q_good := by
  obtain ⟨w, hw, -⟩ := q_mr_at h
  rcases q_mr_link hw with h1 | ⟨host, h1⟩
  · exact h1
  · have := List.all_eq_true.mp q_nest3 _ h1
    exact absurd this (by show ¬ (_ && _ && !(Lib.Math.min.name == Lib.Math.min.name)) = true; simp)
theorem q_oi1 : Cond.instanceMethod Lib.objectInit ∈ q_good := q_wX_g (List.mem_of_getElem? (i := 0) rfl)
theorem q_oi2 : Cond.code Lib.objectInit ⟨#[0xb1]⟩ 1 none ∈ q_good := q_wX_g (List.mem_of_getElem? (i := 1) rfl)
theorem q_cpnat : Cond.native arraycopyName ∈ q_good := q_wX_g (List.mem_of_getElem? (i := 2) rfl)
theorem q_cpstat : Cond.static arraycopyName ∈ q_good := q_wX_g (List.mem_of_getElem? (i := 3) rfl)
theorem q_cpini : Cond.initialized "java/lang/System" ∈ q_good := q_wX_g (List.mem_of_getElem? (i := 4) rfl)
theorem q_mm1 : Cond.static Lib.Math.min.name ∈ q_good := q_wX_g (List.mem_of_getElem? (i := 5) rfl)
theorem q_mm2 : Cond.initialized "java/lang/Math" ∈ q_good := q_wX_g (List.mem_of_getElem? (i := 6) rfl)
theorem q_mm3 : Cond.code Lib.Math.min.name Lib.Math.min.code 2 (some .int) ∈ q_good := q_wX_g (List.mem_of_getElem? (i := 7) rfl)
theorem q_arrcls (ty : FieldType) (h : ty = .int ∨ ty = .long ∨ ty = .boolean) : Cond.arrayClass ty ∈ q_good := by
  rcases h with rfl | rfl | rfl
  · exact q_wX_g (List.mem_of_getElem? (i := 8) rfl)
  · exact q_wX_g (List.mem_of_getElem? (i := 9) rfl)
  · exact q_wX_g (List.mem_of_getElem? (i := 10) rfl)
theorem q_mncl : Cond.classLink "RatchetPost" 28 "[[J" ∈ q_good := q_wX_g (List.mem_of_getElem? (i := 11) rfl)
theorem q_g_lt {N : Nat} {f : Nat → Option Instr} {pc : Nat} {i : Instr} (h : q_g N f pc = some i) : pc < N := by
  unfold q_g at h
  cases hb : Nat.blt pc N with
  | true => exact Nat.le_of_ble_eq_true hb
  | false => rw [hb] at h; cases h
