theorem zin_r {big : List Cond} (ws : List Cond) (ps : List Nat) (hp : ws = ps.filterMap (fun i => big[i]?)) : ∀ w ∈ ws, w ∈ big := by
  intro w hw
  rw [hp] at hw
  obtain ⟨i, -, hi⟩ := List.mem_filterMap.mp hw
  first | exact List.mem_of_getElem? hi | exact List.getElem?_mem hi
theorem zap {big a b : List Cond} (ha : ∀ w ∈ a, w ∈ big) (hb : ∀ w ∈ b, w ∈ big) : ∀ w ∈ a ++ b, w ∈ big := fun w h => (List.mem_append.mp h).elim (ha w) (hb w)
set_option maxRecDepth 20000 in
theorem zin_wsL_law0_r1 : ∀ w ∈ wsL_law0_r1, w ∈ lw_tbl := zin_r _ [42, 43, 31, 66, 630, 596, 44, 45, 46, 47, 48, 49, 50, 51, 32, 95, 96, 97, 98, 99, 100, 67, 68, 34] (by decide +kernel)
set_option maxRecDepth 20000 in
theorem zin_wsL_law0_r2 : ∀ w ∈ wsL_law0_r2, w ∈ lw_tbl := zin_r _ [101, 102, 103, 104, 105, 106, 107, 108, 109, 52, 53, 54, 55, 56, 57, 33, 58, 59, 60, 70, 71, 72, 76, 77] (by decide +kernel)
set_option maxRecDepth 20000 in
theorem zin_wsL_law0_r3 : ∀ w ∈ wsL_law0_r3, w ∈ lw_tbl := zin_r _ [78, 79, 444, 445, 30, 446, 447, 448, 449, 450, 451, 452, 453, 454, 455, 141, 142, 143, 144, 145, 146, 147, 150, 38] (by decide +kernel)
set_option maxRecDepth 20000 in
theorem zin_wsL_law0_r4 : ∀ w ∈ wsL_law0_r4, w ∈ lw_tbl := zin_r _ [148, 149, 219, 221, 1, 222, 243, 39, 223, 224, 225, 226, 227, 228, 229, 230, 231, 232, 233, 234, 235, 236, 237, 238] (by decide +kernel)
set_option maxRecDepth 20000 in
theorem zin_wsL_law0_r5 : ∀ w ∈ wsL_law0_r5, w ∈ lw_tbl := zin_r _ [239, 241, 2, 242, 259, 261, 3, 262, 263, 264, 265, 266, 267, 268, 269, 270, 73, 74, 75, 271, 272, 274, 4, 275] (by decide +kernel)
set_option maxRecDepth 20000 in
theorem zin_wsL_law0_r6 : ∀ w ∈ wsL_law0_r6, w ∈ lw_tbl := zin_r _ [276, 277, 278, 279, 280, 282, 5, 283, 284, 285, 286, 287, 288, 289, 290, 291, 292, 294, 6, 295, 296, 297, 298, 299] (by decide +kernel)
set_option maxRecDepth 20000 in
theorem zin_wsL_law0_r7 : ∀ w ∈ wsL_law0_r7, w ∈ lw_tbl := zin_r _ [300, 301, 302, 303, 416, 417, 418, 419, 474, 475, 476, 477, 478, 479, 480, 305, 306, 307, 308, 309, 310, 311, 312, 313] (by decide +kernel)
set_option maxRecDepth 20000 in
theorem zin_wsL_law0_r8 : ∀ w ∈ wsL_law0_r8, w ∈ lw_tbl := zin_r _ [314, 316, 7, 317, 318, 320, 322, 8, 323, 324, 325, 326, 327, 328, 329, 330, 332, 9, 333, 334, 335, 336, 337, 338] (by decide +kernel)
set_option maxRecDepth 20000 in
theorem zin_wsL_law0_r9 : ∀ w ∈ wsL_law0_r9, w ∈ lw_tbl := zin_r _ [340, 10, 341, 342, 344, 11, 345, 346, 348, 12, 349, 350, 352, 13, 353, 354, 355, 357, 14, 358, 359, 361, 15, 362] (by decide +kernel)
set_option maxRecDepth 20000 in
theorem zin_wsL_law0_r10 : ∀ w ∈ wsL_law0_r10, w ∈ lw_tbl := zin_r _ [363, 365, 16, 366, 367, 369, 17, 370, 371, 373, 18, 374, 375, 376, 377, 378, 379, 40, 395, 396, 397, 398, 399, 401] (by decide +kernel)
set_option maxRecDepth 20000 in
theorem zin_wsL_law0_r11 : ∀ w ∈ wsL_law0_r11, w ∈ lw_tbl := zin_r _ [19, 402, 481, 482, 483, 484, 485, 41, 501, 503, 21, 504, 412, 414, 20, 415, 505, 506, 507, 508, 509, 511, 22, 512] (by decide +kernel)
set_option maxRecDepth 20000 in
theorem zin_wsL_law0_r12 : ∀ w ∈ wsL_law0_r12, w ∈ lw_tbl := zin_r _ [514, 515, 516, 517, 518, 520, 23, 521, 407, 408, 409, 410, 468, 469, 470, 462, 463, 464, 465, 466, 467, 459, 460, 461] (by decide +kernel)
set_option maxRecDepth 20000 in
theorem zin_wsL_law0_r13 : ∀ w ∈ wsL_law0_r13, w ∈ lw_tbl := zin_r _ [456, 457, 458, 471, 472, 473, 403, 404, 405, 406, 428, 429, 430, 431, 420, 421, 422, 423, 424, 425, 426, 427, 432, 433] (by decide +kernel)
set_option maxRecDepth 20000 in
theorem zin_wsL_law0_r14 : ∀ w ∈ wsL_law0_r14, w ∈ lw_tbl := zin_r _ [434, 435, 436, 437, 438, 439, 440, 441, 442, 443, 523, 524, 525, 526, 527, 528, 529, 530, 531, 532, 533, 534, 535, 536] (by decide +kernel)
set_option maxRecDepth 20000 in
theorem zin_wsL_law0_r15 : ∀ w ∈ wsL_law0_r15, w ∈ lw_tbl := zin_r _ [537, 538, 539, 540, 541, 542, 543, 544, 545, 546, 547, 548, 549, 550, 551, 553, 24, 554, 555, 557, 25, 558, 559, 560] (by decide +kernel)
set_option maxRecDepth 20000 in
theorem zin_wsL_law0_r16 : ∀ w ∈ wsL_law0_r16, w ∈ lw_tbl := zin_r _ [561, 33, 562, 563, 564, 565, 566, 567, 568, 569, 570, 571, 572, 573, 574, 575, 576, 577, 579, 26, 580, 581, 583, 27] (by decide +kernel)
set_option maxRecDepth 20000 in
theorem zin_wsL_law0_r17 : ∀ w ∈ wsL_law0_r17, w ∈ lw_tbl := zin_r _ [584, 585, 586, 587, 588, 589, 591, 28, 592, 593, 594, 595, 617, 629, 597, 598, 599, 600, 601, 602, 603, 604, 605, 606] (by decide +kernel)
set_option maxRecDepth 20000 in
theorem zin_wsL_law0_r18 : ∀ w ∈ wsL_law0_r18, w ∈ lw_tbl := zin_r _ [607, 608, 609, 610, 611, 612, 613, 614, 615, 616, 618, 619, 620, 621, 622, 624, 29, 625, 626, 627, 628] (by decide +kernel)
set_option maxRecDepth 20000 in
theorem zin_wsX20 : ∀ w ∈ wsX20, w ∈ lw_tbl := by decide +kernel
set_option maxRecDepth 20000 in
theorem zin_wsX00 : ∀ w ∈ wsX00, w ∈ lw_tbl := by decide +kernel
set_option maxRecDepth 20000 in
theorem zin_wsX10 : ∀ w ∈ wsX10, w ∈ lw_tbl := by decide +kernel
theorem wsL_law_in0 : ∀ w ∈ wsL_law0, w ∈ lw_tbl := (zap (zap (zap (zap (zap (zin_wsL_law0_r1) (zap (zin_wsL_law0_r2) (zap (zin_wsL_law0_r3) (zap (zin_wsL_law0_r4) (zap (zin_wsL_law0_r5) (zap (zin_wsL_law0_r6) (zap (zin_wsL_law0_r7) (zap (zin_wsL_law0_r8) (zap (zin_wsL_law0_r9) (zap (zin_wsL_law0_r10) (zap (zin_wsL_law0_r11) (zap (zin_wsL_law0_r12) (zap (zin_wsL_law0_r13) (zap (zin_wsL_law0_r14) (zap (zin_wsL_law0_r15) (zap (zin_wsL_law0_r16) (zap (zin_wsL_law0_r17) (zin_wsL_law0_r18)))))))))))))))))) (zin_wsX20)) (zin_wsX00)) (zin_wsX10)) (fun _ h => absurd h List.not_mem_nil))
theorem wsL_law_x0 : ∀ w ∈ (vx_atS RX2 84 "java/lang/IllegalArgumentException" ["java/lang/RuntimeException", "java/lang/Exception"]).filter goodWord, w ∈ lw_tbl := by decide +kernel
theorem wsL_law_x1 : ∀ w ∈ (vx_atS RX2 102 "java/lang/IllegalStateException" ["java/lang/RuntimeException", "java/lang/Exception"]).filter goodWord, w ∈ lw_tbl := by decide +kernel
theorem wsL_law_x2 : ∀ w ∈ (ns_atS RX2 113).filter goodWord, w ∈ lw_tbl := by decide +kernel
theorem wsL_law_x3 : ∀ w ∈ (vx_atS RX2 144 "java/lang/IndexOutOfBoundsException" ["java/lang/RuntimeException", "java/lang/Exception"]).filter goodWord, w ∈ lw_tbl := by decide +kernel
theorem wsL_law_in : ∀ w ∈ wsL_law, w ∈ lw_tbl := fun w h => (List.mem_append.mp h).elim (fun h => (List.mem_append.mp h).elim (fun h => (List.mem_append.mp h).elim (fun h => (List.mem_append.mp h).elim (fun h => wsL_law_in0 w h) (fun h => wsL_law_x0 w h)) (fun h => wsL_law_x1 w h)) (fun h => wsL_law_x2 w h)) (fun h => wsL_law_x3 w h)
theorem inlX0 : ∀ w ∈ wsX00, w ∈ wsL_law := fun _ h => List.mem_append_left _ (List.mem_append_left _ (List.mem_append_left _ (List.mem_append_left _ (List.mem_append_left _ (List.mem_append_left _ (List.mem_append_right _ h))))))
theorem inX0 : ∀ w ∈ wsX00, w ∈ lw_tbl := fun w h => wsL_law_in w (inlX0 w h)
theorem inlX1 : ∀ w ∈ wsX10, w ∈ wsL_law := fun _ h => List.mem_append_left _ (List.mem_append_left _ (List.mem_append_left _ (List.mem_append_left _ (List.mem_append_left _ (List.mem_append_right _ h)))))
theorem inX1 : ∀ w ∈ wsX10, w ∈ lw_tbl := fun w h => wsL_law_in w (inlX1 w h)
theorem inlX2 : ∀ w ∈ wsX20, w ∈ wsL_law := fun _ h => List.mem_append_left _ (List.mem_append_left _ (List.mem_append_left _ (List.mem_append_left _ (List.mem_append_left _ (List.mem_append_left _ (List.mem_append_left _ (List.mem_append_right _ h)))))))
theorem inX2 : ∀ w ∈ wsX20, w ∈ lw_tbl := fun w h => wsL_law_in w (inlX2 w h)
theorem inX3 : ∀ w ∈ wsX30, w ∈ lw_tbl := by decide +kernel
theorem inJx145de : ∀ w ∈ wsJx145de0, w ∈ lw_tbl := by decide +kernel
theorem inJ9 : ∀ w ∈ wsJ90, w ∈ lw_tbl := by decide +kernel
theorem inJ0 : ∀ w ∈ wsJ00, w ∈ lw_tbl := by decide +kernel
