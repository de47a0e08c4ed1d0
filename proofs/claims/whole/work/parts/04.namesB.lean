theorem zin_r {big : List Cond} (ws : List Cond) (ps : List Nat) (hp : ws = ps.filterMap (fun i => big[i]?)) : ∀ w ∈ ws, w ∈ big := by
  intro w hw
  rw [hp] at hw
  obtain ⟨i, -, hi⟩ := List.mem_filterMap.mp hw
  first | exact List.mem_of_getElem? hi | exact List.getElem?_mem hi
theorem zap {big a b : List Cond} (ha : ∀ w ∈ a, w ∈ big) (hb : ∀ w ∈ b, w ∈ big) : ∀ w ∈ a ++ b, w ∈ big := fun w h => (List.mem_append.mp h).elim (ha w) (hb w)
set_option maxRecDepth 20000 in
theorem zin_wsL_law0_r1 : ∀ w ∈ wsL_law0_r1, w ∈ lw_tbl := zin_r _ [68, 69, 56, 644, 645, 60, 937, 70, 71, 72, 73, 74, 75, 76, 77, 57, 121, 122, 123, 124, 125, 126, 93, 94] (by decide +kernel)
set_option maxRecDepth 20000 in
theorem zin_wsL_law0_r2 : ∀ w ∈ wsL_law0_r2, w ∈ lw_tbl := zin_r _ [59, 127, 128, 129, 130, 131, 132, 133, 134, 135, 78, 79, 80, 81, 82, 83, 58, 84, 92, 85, 86, 96, 97, 98] (by decide +kernel)
set_option maxRecDepth 20000 in
theorem zin_wsL_law0_r3 : ∀ w ∈ wsL_law0_r3, w ∈ lw_tbl := zin_r _ [102, 103, 104, 105, 646, 647, 648, 649, 651, 652, 653, 705, 654, 656, 658, 663, 664, 377, 378, 55, 379, 380, 381, 382] (by decide +kernel)
set_option maxRecDepth 20000 in
theorem zin_wsL_law0_r4 : ∀ w ∈ wsL_law0_r4, w ∈ lw_tbl := zin_r _ [383, 384, 385, 386, 387, 388, 391, 64, 389, 390, 460, 462, 22, 463, 464, 65, 220, 221, 222, 223, 224, 188, 189, 190] (by decide +kernel)
set_option maxRecDepth 20000 in
theorem zin_wsL_law0_r5 : ∀ w ∈ wsL_law0_r5, w ∈ lw_tbl := zin_r _ [191, 192, 193, 194, 179, 180, 181, 182, 278, 280, 14, 281, 480, 482, 23, 483, 195, 196, 197, 198, 203, 204, 205, 206] (by decide +kernel)
set_option maxRecDepth 20000 in
theorem zin_wsL_law0_r6 : ∀ w ∈ wsL_law0_r6, w ∈ lw_tbl := zin_r _ [99, 100, 101, 207, 262, 264, 12, 265, 250, 251, 252, 253, 254, 256, 11, 257, 266, 267, 268, 269, 258, 259, 260, 261] (by decide +kernel)
set_option maxRecDepth 20000 in
theorem zin_wsL_law0_r7 : ∀ w ∈ wsL_law0_r7, w ∈ lw_tbl := zin_r _ [246, 248, 10, 249, 208, 209, 210, 211, 710, 711, 712, 713, 650, 657, 714, 715, 716, 717, 718, 719, 721, 30, 722, 655] (by decide +kernel)
set_option maxRecDepth 20000 in
theorem zin_wsL_law0_r8 : ∀ w ∈ wsL_law0_r8, w ∈ lw_tbl := zin_r _ [659, 723, 725, 31, 726, 727, 729, 32, 730, 731, 733, 33, 734, 666, 667, 706, 707, 708, 709, 484, 485, 486, 487, 488] (by decide +kernel)
set_option maxRecDepth 20000 in
theorem zin_wsL_law0_r9 : ∀ w ∈ wsL_law0_r9, w ∈ lw_tbl := zin_r _ [489, 490, 735, 736, 737, 738, 492, 493, 494, 495, 496, 497, 498, 290, 291, 292, 293, 294, 286, 288, 15, 289, 187, 500] (by decide +kernel)
set_option maxRecDepth 20000 in
theorem zin_wsL_law0_r10 : ∀ w ∈ wsL_law0_r10, w ∈ lw_tbl := zin_r _ [502, 24, 503, 504, 505, 506, 507, 508, 509, 171, 173, 0, 174, 175, 176, 177, 178, 183, 185, 1, 186, 199, 201, 2] (by decide +kernel)
set_option maxRecDepth 20000 in
theorem zin_wsL_law0_r11 : ∀ w ∈ wsL_law0_r11, w ∈ lw_tbl := zin_r _ [202, 212, 214, 3, 215, 216, 218, 4, 219, 225, 226, 228, 5, 229, 230, 232, 6, 233, 234, 236, 7, 237, 238, 240] (by decide +kernel)
set_option maxRecDepth 20000 in
theorem zin_wsL_law0_r12 : ∀ w ∈ wsL_law0_r12, w ∈ lw_tbl := zin_r _ [8, 241, 242, 244, 9, 245, 739, 740, 741, 742, 743, 745, 34, 746, 747, 749, 35, 750, 751, 753, 36, 754, 755, 757] (by decide +kernel)
set_option maxRecDepth 20000 in
theorem zin_wsL_law0_r13 : ∀ w ∈ wsL_law0_r13, w ∈ lw_tbl := zin_r _ [37, 758, 759, 761, 38, 762, 665, 661, 660, 763, 765, 39, 766, 767, 769, 40, 770, 771, 773, 41, 774, 775, 777, 42] (by decide +kernel)
set_option maxRecDepth 20000 in
theorem zin_wsL_law0_r14 : ∀ w ∈ wsL_law0_r14, w ∈ lw_tbl := zin_r _ [778, 779, 781, 43, 782, 783, 785, 44, 786, 787, 789, 45, 790, 662, 510, 511, 512, 513, 514, 515, 516, 517, 518, 66] (by decide +kernel)
set_option maxRecDepth 20000 in
theorem zin_wsL_law0_r15 : ∀ w ∈ wsL_law0_r15, w ∈ lw_tbl := zin_r _ [534, 535, 536, 537, 274, 276, 13, 277, 791, 792, 793, 794, 795, 797, 46, 798, 799, 800, 802, 47, 803, 167, 168, 169] (by decide +kernel)
set_option maxRecDepth 20000 in
theorem zin_wsL_law0_r16 : ∀ w ∈ wsL_law0_r16, w ∈ lw_tbl := zin_r _ [170, 804, 805, 806, 807, 538, 539, 540, 541, 542, 543, 544, 546, 548, 25, 549, 808, 809, 810, 811, 270, 271, 272, 273] (by decide +kernel)
set_option maxRecDepth 20000 in
theorem zin_wsL_law0_r17 : ∀ w ∈ wsL_law0_r17, w ∈ lw_tbl := zin_r _ [812, 813, 814, 815, 282, 283, 284, 285, 816, 817, 818, 819, 295, 296, 297, 298, 299, 301, 16, 302, 820, 821, 822, 823] (by decide +kernel)
set_option maxRecDepth 20000 in
theorem zin_wsL_law0_r18 : ∀ w ∈ wsL_law0_r18, w ∈ lw_tbl := zin_r _ [550, 551, 552, 553, 554, 555, 556, 557, 558, 67, 574, 576, 26, 577, 824, 825, 826, 827, 828, 830, 48, 831, 578, 579] (by decide +kernel)
set_option maxRecDepth 20000 in
theorem zin_wsL_law0_r19 : ∀ w ∈ wsL_law0_r19, w ∈ lw_tbl := zin_r _ [580, 581, 582, 583, 584, 832, 833, 834, 835, 303, 304, 305, 306, 836, 837, 838, 839, 307, 308, 309, 310, 840, 841, 842] (by decide +kernel)
set_option maxRecDepth 20000 in
theorem zin_wsL_law0_r20 : ∀ w ∈ wsL_law0_r20, w ∈ lw_tbl := zin_r _ [843, 586, 587, 588, 589, 590, 591, 592, 593, 595, 27, 596, 315, 317, 17, 318, 319, 320, 321, 58, 322, 844, 845, 846] (by decide +kernel)
set_option maxRecDepth 20000 in
theorem zin_wsL_law0_r21 : ∀ w ∈ wsL_law0_r21, w ∈ lw_tbl := zin_r _ [847, 848, 849, 851, 49, 852, 853, 855, 50, 856, 857, 858, 859, 597, 598, 599, 600, 601, 602, 603, 604, 606, 28, 607] (by decide +kernel)
set_option maxRecDepth 20000 in
theorem zin_wsL_law0_r22 : ∀ w ∈ wsL_law0_r22, w ∈ lw_tbl := zin_r _ [326, 327, 328, 608, 609, 610, 860, 861, 862, 863, 864, 311, 312, 313, 314, 323, 324, 325, 865, 866, 867, 868, 329, 330] (by decide +kernel)
set_option maxRecDepth 20000 in
theorem zin_wsL_law0_r23 : ∀ w ∈ wsL_law0_r23, w ∈ lw_tbl := zin_r _ [331, 332, 869, 870, 871, 872, 611, 612, 613, 614, 615, 616, 617, 618, 620, 29, 621, 873, 874, 875, 876, 877, 879, 51] (by decide +kernel)
set_option maxRecDepth 20000 in
theorem zin_wsL_law0_r24 : ∀ w ∈ wsL_law0_r24, w ∈ lw_tbl := zin_r _ [880, 623, 624, 625, 626, 627, 628, 629, 881, 882, 883, 884, 630, 631, 632, 633, 634, 635, 636, 885, 886, 887, 888, 889] (by decide +kernel)
set_option maxRecDepth 20000 in
theorem zin_wsL_law0_r25 : ∀ w ∈ wsL_law0_r25, w ∈ lw_tbl := zin_r _ [891, 52, 892, 637, 638, 639, 640, 641, 642, 643, 893, 894, 895, 896, 897, 899, 53, 900, 333, 334, 335, 336, 337, 339] (by decide +kernel)
set_option maxRecDepth 20000 in
theorem zin_wsL_law0_r26 : ∀ w ∈ wsL_law0_r26, w ∈ lw_tbl := zin_r _ [18, 340, 341, 343, 19, 344, 901, 902, 903, 904, 905, 907, 54, 908, 345, 346, 347, 348, 349, 351, 20, 352, 909, 910] (by decide +kernel)
set_option maxRecDepth 20000 in
theorem zin_wsL_law0_r27 : ∀ w ∈ wsL_law0_r27, w ∈ lw_tbl := zin_r _ [911, 912, 353, 354, 355, 356, 913, 914, 915, 916, 357, 358, 359, 360, 917, 918, 919, 920, 361, 362, 363, 364, 921, 922] (by decide +kernel)
set_option maxRecDepth 20000 in
theorem zin_wsL_law0_r28 : ∀ w ∈ wsL_law0_r28, w ∈ lw_tbl := zin_r _ [923, 924, 365, 366, 367, 368, 925, 926, 927, 928, 369, 370, 371, 372, 929, 930, 931, 932, 373, 374, 375, 376, 933, 934] (by decide +kernel)
set_option maxRecDepth 20000 in
theorem zin_wsL_law0_r29 : ∀ w ∈ wsL_law0_r29, w ∈ lw_tbl := zin_r _ [935, 936] (by decide +kernel)
set_option maxRecDepth 20000 in
theorem zin_wsX20 : ∀ w ∈ wsX20, w ∈ lw_tbl := by decide +kernel
set_option maxRecDepth 20000 in
theorem zin_wsX30 : ∀ w ∈ wsX30, w ∈ lw_tbl := by decide +kernel
set_option maxRecDepth 20000 in
theorem zin_wsX00 : ∀ w ∈ wsX00, w ∈ lw_tbl := by decide +kernel
set_option maxRecDepth 20000 in
theorem zin_wsX10 : ∀ w ∈ wsX10, w ∈ lw_tbl := by decide +kernel
theorem wsL_law_in0 : ∀ w ∈ wsL_law0, w ∈ lw_tbl := (zap (zap (zap (zap (zap (zap (zin_wsL_law0_r1) (zap (zin_wsL_law0_r2) (zap (zin_wsL_law0_r3) (zap (zin_wsL_law0_r4) (zap (zin_wsL_law0_r5) (zap (zin_wsL_law0_r6) (zap (zin_wsL_law0_r7) (zap (zin_wsL_law0_r8) (zap (zin_wsL_law0_r9) (zap (zin_wsL_law0_r10) (zap (zin_wsL_law0_r11) (zap (zin_wsL_law0_r12) (zap (zin_wsL_law0_r13) (zap (zin_wsL_law0_r14) (zap (zin_wsL_law0_r15) (zap (zin_wsL_law0_r16) (zap (zin_wsL_law0_r17) (zap (zin_wsL_law0_r18) (zap (zin_wsL_law0_r19) (zap (zin_wsL_law0_r20) (zap (zin_wsL_law0_r21) (zap (zin_wsL_law0_r22) (zap (zin_wsL_law0_r23) (zap (zin_wsL_law0_r24) (zap (zin_wsL_law0_r25) (zap (zin_wsL_law0_r26) (zap (zin_wsL_law0_r27) (zap (zin_wsL_law0_r28) (zin_wsL_law0_r29))))))))))))))))))))))))))))) (zin_wsX20)) (zin_wsX30)) (zin_wsX00)) (zin_wsX10)) (fun _ h => absurd h List.not_mem_nil))
theorem wsL_law_x0 : ∀ w ∈ (vx_atS RX2 84 "java/lang/IllegalArgumentException" ["java/lang/RuntimeException", "java/lang/Exception"]).filter goodWord, w ∈ lw_tbl := by decide +kernel
theorem wsL_law_x1 : ∀ w ∈ (vx_atS RX2 102 "java/lang/IllegalStateException" ["java/lang/RuntimeException", "java/lang/Exception"]).filter goodWord, w ∈ lw_tbl := by decide +kernel
theorem wsL_law_x2 : ∀ w ∈ (ns_atS RX2 113).filter goodWord, w ∈ lw_tbl := by decide +kernel
theorem wsL_law_x3 : ∀ w ∈ (vx_atS RX2 144 "java/lang/IndexOutOfBoundsException" ["java/lang/RuntimeException", "java/lang/Exception"]).filter goodWord, w ∈ lw_tbl := by decide +kernel
theorem wsL_law_in : ∀ w ∈ wsL_law, w ∈ lw_tbl := fun w h => (List.mem_append.mp h).elim (fun h => (List.mem_append.mp h).elim (fun h => (List.mem_append.mp h).elim (fun h => (List.mem_append.mp h).elim (fun h => wsL_law_in0 w h) (fun h => wsL_law_x0 w h)) (fun h => wsL_law_x1 w h)) (fun h => wsL_law_x2 w h)) (fun h => wsL_law_x3 w h)
theorem inlX0 : ∀ w ∈ wsX00, w ∈ wsL_law := fun _ h => List.mem_append_left _ (List.mem_append_left _ (List.mem_append_left _ (List.mem_append_left _ (List.mem_append_left _ (List.mem_append_left _ (List.mem_append_right _ h))))))
theorem inX0 : ∀ w ∈ wsX00, w ∈ lw_tbl := fun w h => wsL_law_in w (inlX0 w h)
theorem inlX1 : ∀ w ∈ wsX10, w ∈ wsL_law := fun _ h => List.mem_append_left _ (List.mem_append_left _ (List.mem_append_left _ (List.mem_append_left _ (List.mem_append_left _ (List.mem_append_right _ h)))))
theorem inX1 : ∀ w ∈ wsX10, w ∈ lw_tbl := fun w h => wsL_law_in w (inlX1 w h)
theorem inlX2 : ∀ w ∈ wsX20, w ∈ wsL_law := fun _ h => List.mem_append_left _ (List.mem_append_left _ (List.mem_append_left _ (List.mem_append_left _ (List.mem_append_left _ (List.mem_append_left _ (List.mem_append_left _ (List.mem_append_left _ (List.mem_append_right _ h))))))))
theorem inX2 : ∀ w ∈ wsX20, w ∈ lw_tbl := fun w h => wsL_law_in w (inlX2 w h)
theorem inlX3 : ∀ w ∈ wsX30, w ∈ wsL_law := fun _ h => List.mem_append_left _ (List.mem_append_left _ (List.mem_append_left _ (List.mem_append_left _ (List.mem_append_left _ (List.mem_append_left _ (List.mem_append_left _ (List.mem_append_right _ h)))))))
theorem inX3 : ∀ w ∈ wsX30, w ∈ lw_tbl := fun w h => wsL_law_in w (inlX3 w h)
theorem inJx145de : ∀ w ∈ wsJx145de0, w ∈ lw_tbl := by decide +kernel
theorem inJ9 : ∀ w ∈ wsJ90, w ∈ lw_tbl := by decide +kernel
theorem inJ0 : ∀ w ∈ wsJ00, w ∈ lw_tbl := by decide +kernel
