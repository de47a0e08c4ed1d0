theorem dX2_rebuild_25 : decode cX2_rebuild 25 = .ok (.ldc 126, 2) := by decide +kernel
theorem dX2_rebuild_27 : decode cX2_rebuild 27 = .ok (.invokespecial 84, 3) := by decide +kernel
theorem dX2_rebuild_30 : decode cX2_rebuild 30 = .ok (.athrow, 1) := by decide +kernel
theorem dX2_rebuild_31 : decode cX2_rebuild 31 = .ok (.aload_n 0, 1) := by decide +kernel
theorem dX2_rebuild_32 : decode cX2_rebuild 32 = .ok (.iload_n 1, 1) := by decide +kernel
theorem dX2_rebuild_33 : decode cX2_rebuild 33 = .ok (.putfield 46, 3) := by decide +kernel
theorem dX2_rebuild_36 : decode cX2_rebuild 36 = .ok (.aload_n 0, 1) := by decide +kernel
theorem dX2_rebuild_37 : decode cX2_rebuild 37 = .ok (.iload_n 2, 1) := by decide +kernel
theorem dX2_rebuild_38 : decode cX2_rebuild 38 = .ok (.putfield 50, 3) := by decide +kernel
theorem dX2_rebuild_41 : decode cX2_rebuild 41 = .ok (.aload_n 0, 1) := by decide +kernel
theorem dX2_rebuild_42 : decode cX2_rebuild 42 = .ok (.invokevirtual 128, 3) := by decide +kernel
theorem dX2_rebuild_45 : decode cX2_rebuild 45 = .ok (.aload_n 0, 1) := by decide +kernel
theorem dX2_rebuild_46 : decode cX2_rebuild 46 = .ok (.invokevirtual 131, 3) := by decide +kernel
theorem dX2_rebuild_49 : decode cX2_rebuild 49 = .ok (.iconst 0, 1) := by decide +kernel
theorem dX2_rebuild_50 : decode cX2_rebuild 50 = .ok (.istore_n 3, 1) := by decide +kernel
theorem dX2_rebuild_51 : decode cX2_rebuild 51 = .ok (.iload_n 3, 1) := by decide +kernel
theorem dX2_rebuild_52 : decode cX2_rebuild 52 = .ok (.aload_n 0, 1) := by decide +kernel
theorem dX2_rebuild_53 : decode cX2_rebuild 53 = .ok (.getfield 40, 3) := by decide +kernel
theorem dX2_rebuild_56 : decode cX2_rebuild 56 = .ok (.invokevirtual 76, 3) := by decide +kernel
theorem dX2_rebuild_59 : decode cX2_rebuild 59 = .ok (.if_icmp .ge 21, 3) := by decide +kernel
theorem dX2_rebuild_62 : decode cX2_rebuild 62 = .ok (.aload_n 0, 1) := by decide +kernel
theorem dX2_rebuild_63 : decode cX2_rebuild 63 = .ok (.aload_n 0, 1) := by decide +kernel
theorem dX2_rebuild_64 : decode cX2_rebuild 64 = .ok (.getfield 40, 3) := by decide +kernel
theorem dX2_rebuild_67 : decode cX2_rebuild 67 = .ok (.iload_n 3, 1) := by decide +kernel
theorem dX2_rebuild_68 : decode cX2_rebuild 68 = .ok (.invokevirtual 134, 3) := by decide +kernel
theorem dX2_rebuild_71 : decode cX2_rebuild 71 = .ok (.invokevirtual 73, 3) := by decide +kernel
theorem dX2_rebuild_74 : decode cX2_rebuild 74 = .ok (.iinc 3 1, 3) := by decide +kernel
theorem dX2_rebuild_77 : decode cX2_rebuild 77 = .ok (.goto (-26), 3) := by decide +kernel
theorem dX2_rebuild_80 : decode cX2_rebuild 80 = .ok (.aload_n 0, 1) := by decide +kernel
theorem dX2_rebuild_81 : decode cX2_rebuild 81 = .ok (.getfield 24, 3) := by decide +kernel
theorem dX2_rebuild_84 : decode cX2_rebuild 84 = .ok (.invokevirtual 76, 3) := by decide +kernel
theorem dX2_rebuild_87 : decode cX2_rebuild 87 = .ok (.ireturn, 1) := by decide +kernel
set_option maxRecDepth 20000 in
theorem ggX2_size_X2_keysThere : GoodIn wsX2_size wsX2_keysThere := goodIn_r _ [5, 6, 7, 8, 9, 4, 10, 11, 12, 13, 14, 15, 16, 17, 18, 19, 20, 21, 22, 23, 24, 25, 26, 27, 28, 29, 30, 31, 32, 33, 34, 35] (by decide +kernel) (by decide +kernel)
set_option maxRecDepth 20000 in
theorem gX2_size_X2_keysThere : GoodIn wsX2_size (wsV RX2 120 RX2 yX2_keysThere wsX2_keysThere) := goodIn_app (goodIn_of _ (by decide +kernel)) ggX2_size_X2_keysThere
theorem dX2_size_0 : decode cX2_size 0 = .ok (.aload_n 0, 1) := by decide +kernel
theorem dX2_size_1 : decode cX2_size 1 = .ok (.invokevirtual 120, 3) := by decide +kernel
theorem dX2_size_4 : decode cX2_size 4 = .ok (.ireturn, 1) := by decide +kernel
set_option maxRecDepth 20000 in
theorem ggX2_contains_X2_isThere : GoodIn wsX2_contains wsX2_isThere := goodIn_r _ [5, 6, 7, 8, 9, 10, 11, 12, 13, 14, 15, 16, 17, 18, 19, 20, 21, 22, 23, 24, 25, 26, 27, 28, 29, 30, 31, 32, 33, 34, 35, 36, 37, 38, 39, 40, 41, 42, 43, 44, 45] (by decide +kernel) (by decide +kernel)
set_option maxRecDepth 20000 in
theorem gX2_contains_X2_isThere : GoodIn wsX2_contains (wsV RX2 91 RX2 yX2_isThere wsX2_isThere) := goodIn_app (goodIn_of _ (by decide +kernel)) ggX2_contains_X2_isThere
theorem dX2_contains_0 : decode cX2_contains 0 = .ok (.aload_n 0, 1) := by decide +kernel
theorem dX2_contains_1 : decode cX2_contains 1 = .ok (.iload_n 1, 1) := by decide +kernel
theorem dX2_contains_2 : decode cX2_contains 2 = .ok (.invokevirtual 91, 3) := by decide +kernel
theorem dX2_contains_5 : decode cX2_contains 5 = .ok (.ireturn, 1) := by decide +kernel
set_option maxRecDepth 20000 in
theorem ggX2_rank_X2_thereBelow : GoodIn wsX2_rank wsX2_thereBelow := goodIn_r _ [5, 6, 7, 8, 9, 10, 11, 12, 13, 14, 15, 16, 17, 18, 19, 20, 21, 22, 23, 24, 25, 26, 27, 28, 29, 30, 31, 32, 33, 34, 35, 36, 37, 38, 39, 40, 41] (by decide +kernel) (by decide +kernel)
set_option maxRecDepth 20000 in
theorem gX2_rank_X2_thereBelow : GoodIn wsX2_rank (wsV RX2 137 RX2 yX2_thereBelow wsX2_thereBelow) := goodIn_app (goodIn_of _ (by decide +kernel)) ggX2_rank_X2_thereBelow
theorem dX2_rank_0 : decode cX2_rank 0 = .ok (.aload_n 0, 1) := by decide +kernel
theorem dX2_rank_1 : decode cX2_rank 1 = .ok (.iload_n 1, 1) := by decide +kernel
theorem dX2_rank_2 : decode cX2_rank 2 = .ok (.invokevirtual 137, 3) := by decide +kernel
theorem dX2_rank_5 : decode cX2_rank 5 = .ok (.ireturn, 1) := by decide +kernel
set_option maxRecDepth 20000 in
theorem ggX2_select_X2_keysThere : GoodIn wsX2_select wsX2_keysThere := goodIn_r _ [7, 8, 9, 10, 11, 6, 12, 13, 14, 15, 16, 17, 18, 19, 20, 52, 53, 54, 55, 56, 57, 58, 59, 60, 61, 62, 63, 64, 65, 66, 67, 68] (by decide +kernel) (by decide +kernel)
set_option maxRecDepth 20000 in
theorem gX2_select_X2_keysThere : GoodIn wsX2_select (wsV RX2 120 RX2 yX2_keysThere wsX2_keysThere) := goodIn_app (goodIn_of _ (by decide +kernel)) ggX2_select_X2_keysThere
set_option maxRecDepth 20000 in
theorem ggX2_select_X2_keyThere : GoodIn wsX2_select wsX2_keyThere := goodIn_r _ [24, 25, 26, 27, 28, 6, 29, 13, 14, 30, 31, 32, 18, 33, 20, 15, 16, 17, 19, 34, 35, 36, 37, 38, 39, 40, 41, 42, 43, 44, 45, 46, 47, 48, 49, 50, 51, 52, 53, 54, 55, 56, 57, 58, 59, 60, 61, 62, 63, 64, 65, 66, 67, 68] (by decide +kernel) (by decide +kernel)
set_option maxRecDepth 20000 in
theorem gX2_select_X2_keyThere : GoodIn wsX2_select (wsV RX2 145 RX2 yX2_keyThere wsX2_keyThere) := goodIn_app (goodIn_of _ (by decide +kernel)) ggX2_select_X2_keyThere
theorem dX2_select_0 : decode cX2_select 0 = .ok (.iload_n 1, 1) := by decide +kernel
theorem dX2_select_1 : decode cX2_select 1 = .ok (.ifCond .lt 11, 3) := by decide +kernel
theorem dX2_select_4 : decode cX2_select 4 = .ok (.iload_n 1, 1) := by decide +kernel
theorem dX2_select_5 : decode cX2_select 5 = .ok (.aload_n 0, 1) := by decide +kernel
theorem dX2_select_6 : decode cX2_select 6 = .ok (.invokevirtual 120, 3) := by decide +kernel
theorem dX2_select_9 : decode cX2_select 9 = .ok (.if_icmp .lt 13, 3) := by decide +kernel
theorem dX2_select_12 : decode cX2_select 12 = .ok (.new 140, 3) := by decide +kernel
theorem dX2_select_15 : decode cX2_select 15 = .ok (.dup, 1) := by decide +kernel
theorem dX2_select_16 : decode cX2_select 16 = .ok (.ldc 142, 2) := by decide +kernel
theorem dX2_select_18 : decode cX2_select 18 = .ok (.invokespecial 144, 3) := by decide +kernel
theorem dX2_select_21 : decode cX2_select 21 = .ok (.athrow, 1) := by decide +kernel
theorem dX2_select_22 : decode cX2_select 22 = .ok (.aload_n 0, 1) := by decide +kernel
theorem dX2_select_23 : decode cX2_select 23 = .ok (.iload_n 1, 1) := by decide +kernel
theorem dX2_select_24 : decode cX2_select 24 = .ok (.invokevirtual 145, 3) := by decide +kernel
theorem dX2_select_27 : decode cX2_select 27 = .ok (.ireturn, 1) := by decide +kernel
set_option maxRecDepth 20000 in
theorem ggX2_ceiling_X2_thereBelow : GoodIn wsX2_ceiling wsX2_thereBelow := goodIn_r _ [7, 8, 9, 10, 11, 12, 13, 14, 15, 16, 17, 18, 19, 20, 21, 22, 23, 24, 25, 26, 61, 62, 63, 64, 65, 66, 67, 68, 69, 70, 71, 72, 73, 74, 75, 76, 77] (by decide +kernel) (by decide +kernel)
set_option maxRecDepth 20000 in
theorem gX2_ceiling_X2_thereBelow : GoodIn wsX2_ceiling (wsV RX2 137 RX2 yX2_thereBelow wsX2_thereBelow) := goodIn_app (goodIn_of _ (by decide +kernel)) ggX2_ceiling_X2_thereBelow
set_option maxRecDepth 20000 in
theorem ggX2_ceiling_X2_keysThere : GoodIn wsX2_ceiling wsX2_keysThere := goodIn_r _ [30, 31, 32, 33, 34, 6, 35, 8, 9, 36, 37, 38, 14, 39, 16, 61, 62, 63, 64, 65, 66, 67, 68, 69, 70, 71, 72, 73, 74, 75, 76, 77] (by decide +kernel) (by decide +kernel)
set_option maxRecDepth 20000 in
theorem gX2_ceiling_X2_keysThere : GoodIn wsX2_ceiling (wsV RX2 120 RX2 yX2_keysThere wsX2_keysThere) := goodIn_app (goodIn_of _ (by decide +kernel)) ggX2_ceiling_X2_keysThere
set_option maxRecDepth 20000 in
theorem ggX2_ceiling_X2_keyThere : GoodIn wsX2_ceiling wsX2_keyThere := goodIn_r _ [43, 44, 45, 46, 47, 6, 48, 8, 9, 49, 50, 51, 14, 52, 16, 36, 37, 38, 39, 53, 54, 55, 56, 10, 26, 18, 19, 20, 21, 22, 23, 24, 25, 57, 58, 59, 60, 61, 62, 63, 64, 65, 66, 67, 68, 69, 70, 71, 72, 73, 74, 75, 76, 77] (by decide +kernel) (by decide +kernel)
set_option maxRecDepth 20000 in
theorem gX2_ceiling_X2_keyThere : GoodIn wsX2_ceiling (wsV RX2 145 RX2 yX2_keyThere wsX2_keyThere) := goodIn_app (goodIn_of _ (by decide +kernel)) ggX2_ceiling_X2_keyThere
theorem dX2_ceiling_0 : decode cX2_ceiling 0 = .ok (.aload_n 0, 1) := by decide +kernel
theorem dX2_ceiling_1 : decode cX2_ceiling 1 = .ok (.iload_n 1, 1) := by decide +kernel
theorem dX2_ceiling_2 : decode cX2_ceiling 2 = .ok (.invokevirtual 137, 3) := by decide +kernel
theorem dX2_ceiling_5 : decode cX2_ceiling 5 = .ok (.istore_n 2, 1) := by decide +kernel
theorem dX2_ceiling_6 : decode cX2_ceiling 6 = .ok (.iload_n 2, 1) := by decide +kernel
theorem dX2_ceiling_7 : decode cX2_ceiling 7 = .ok (.aload_n 0, 1) := by decide +kernel
theorem dX2_ceiling_8 : decode cX2_ceiling 8 = .ok (.invokevirtual 120, 3) := by decide +kernel
theorem dX2_ceiling_11 : decode cX2_ceiling 11 = .ok (.if_icmp .lt 13, 3) := by decide +kernel
theorem dX2_ceiling_14 : decode cX2_ceiling 14 = .ok (.new 109, 3) := by decide +kernel
theorem dX2_ceiling_17 : decode cX2_ceiling 17 = .ok (.dup, 1) := by decide +kernel
theorem dX2_ceiling_18 : decode cX2_ceiling 18 = .ok (.ldc 148, 2) := by decide +kernel
theorem dX2_ceiling_20 : decode cX2_ceiling 20 = .ok (.invokespecial 113, 3) := by decide +kernel
theorem dX2_ceiling_23 : decode cX2_ceiling 23 = .ok (.athrow, 1) := by decide +kernel
theorem dX2_ceiling_24 : decode cX2_ceiling 24 = .ok (.aload_n 0, 1) := by decide +kernel
theorem dX2_ceiling_25 : decode cX2_ceiling 25 = .ok (.iload_n 2, 1) := by decide +kernel
theorem dX2_ceiling_26 : decode cX2_ceiling 26 = .ok (.invokevirtual 145, 3) := by decide +kernel
theorem dX2_ceiling_29 : decode cX2_ceiling 29 = .ok (.ireturn, 1) := by decide +kernel
set_option maxRecDepth 20000 in
theorem ggX2_count_X2_thereBelow : GoodIn wsX2_count wsX2_thereBelow := goodIn_r _ [5, 6, 7, 8, 9, 10, 11, 12, 13, 14, 15, 16, 17, 18, 19, 20, 21, 22, 23, 24, 34, 35, 36, 37, 38, 39, 40, 41, 42, 43, 44, 45, 46, 47, 48, 49, 50] (by decide +kernel) (by decide +kernel)
set_option maxRecDepth 20000 in
theorem gX2_count_X2_thereBelow : GoodIn wsX2_count (wsV RX2 137 RX2 yX2_thereBelow wsX2_thereBelow) := goodIn_app (goodIn_of _ (by decide +kernel)) ggX2_count_X2_thereBelow
set_option maxRecDepth 20000 in
theorem ggX2_count_X2_isThere : GoodIn wsX2_count wsX2_isThere := goodIn_r _ [28, 6, 7, 8, 29, 30, 31, 12, 32, 19, 33, 10, 11, 13, 14, 15, 16, 17, 18, 20, 21, 22, 23, 24, 34, 35, 36, 37, 38, 39, 40, 41, 42, 43, 44, 45, 46, 47, 48, 49, 50] (by decide +kernel) (by decide +kernel)
set_option maxRecDepth 20000 in
theorem gX2_count_X2_isThere : GoodIn wsX2_count (wsV RX2 91 RX2 yX2_isThere wsX2_isThere) := goodIn_app (goodIn_of _ (by decide +kernel)) ggX2_count_X2_isThere
theorem dX2_count_0 : decode cX2_count 0 = .ok (.iload_n 1, 1) := by decide +kernel
theorem dX2_count_1 : decode cX2_count 1 = .ok (.iload_n 2, 1) := by decide +kernel
theorem dX2_count_2 : decode cX2_count 2 = .ok (.if_icmp .le 5, 3) := by decide +kernel
theorem dX2_count_5 : decode cX2_count 5 = .ok (.iconst 0, 1) := by decide +kernel
theorem dX2_count_6 : decode cX2_count 6 = .ok (.ireturn, 1) := by decide +kernel
theorem dX2_count_7 : decode cX2_count 7 = .ok (.aload_n 0, 1) := by decide +kernel
theorem dX2_count_8 : decode cX2_count 8 = .ok (.iload_n 2, 1) := by decide +kernel
theorem dX2_count_9 : decode cX2_count 9 = .ok (.invokevirtual 137, 3) := by decide +kernel
theorem dX2_count_12 : decode cX2_count 12 = .ok (.aload_n 0, 1) := by decide +kernel
theorem dX2_count_13 : decode cX2_count 13 = .ok (.iload_n 1, 1) := by decide +kernel
theorem dX2_count_14 : decode cX2_count 14 = .ok (.invokevirtual 137, 3) := by decide +kernel
theorem dX2_count_17 : decode cX2_count 17 = .ok (.isub, 1) := by decide +kernel
theorem dX2_count_18 : decode cX2_count 18 = .ok (.aload_n 0, 1) := by decide +kernel
theorem dX2_count_19 : decode cX2_count 19 = .ok (.iload_n 2, 1) := by decide +kernel
theorem dX2_count_20 : decode cX2_count 20 = .ok (.invokevirtual 91, 3) := by decide +kernel
theorem dX2_count_23 : decode cX2_count 23 = .ok (.ifCond .eq 7, 3) := by decide +kernel
theorem dX2_count_26 : decode cX2_count 26 = .ok (.iconst 1, 1) := by decide +kernel
theorem dX2_count_27 : decode cX2_count 27 = .ok (.goto 4, 3) := by decide +kernel
theorem dX2_count_30 : decode cX2_count 30 = .ok (.iconst 0, 1) := by decide +kernel
theorem dX2_count_31 : decode cX2_count 31 = .ok (.iadd, 1) := by decide +kernel
theorem dX2_count_32 : decode cX2_count 32 = .ok (.ireturn, 1) := by decide +kernel
set_option maxRecDepth 20000 in
theorem ggX2_place_X0_below : GoodIn wsX2_place wsX0_below := goodIn_r _ [6, 7, 8, 9, 10, 5, 11, 12, 13, 14, 15, 16, 32, 33] (by decide +kernel) (by decide +kernel)
set_option maxRecDepth 20000 in
theorem gX2_place_X0_below : GoodIn wsX2_place (wsV RX2 114 RX0 yX0_below wsX0_below) := goodIn_app (goodIn_of _ (by decide +kernel)) ggX2_place_X0_below
theorem dX2_place_0 : decode cX2_place 0 = .ok (.aload_n 0, 1) := by decide +kernel
theorem dX2_place_1 : decode cX2_place 1 = .ok (.getfield 14, 3) := by decide +kernel
theorem dX2_place_4 : decode cX2_place 4 = .ok (.iload_n 1, 1) := by decide +kernel
theorem dX2_place_5 : decode cX2_place 5 = .ok (.invokevirtual 114, 3) := by decide +kernel
theorem dX2_place_8 : decode cX2_place 8 = .ok (.ireturn, 1) := by decide +kernel
set_option maxRecDepth 20000 in
theorem ggX2_guess_X2_needKey : GoodIn wsX2_guess wsX2_needKey := goodIn_ca (goodIn_r _ [4, 5, 6, 7, 8] (by decide +kernel) (by decide +kernel)) (goodIn_sub (fun _ h => List.mem_cons_of_mem _ (List.mem_append_right _ h)) (by decide +kernel))
set_option maxRecDepth 20000 in
theorem gX2_guess_X2_needKey : GoodIn wsX2_guess (va_wsS RX2 65 yX2_needKey wsX2_needKey) := goodIn_app (goodIn_of _ (by decide +kernel)) ggX2_guess_X2_needKey
set_option maxRecDepth 20000 in
theorem ggX2_guess_X2_pieceOf : GoodIn wsX2_guess wsX2_pieceOf := goodIn_r _ [12, 13, 14, 15, 16, 17, 18, 19, 20, 21, 22, 23, 24, 25, 26, 27, 28, 29, 46, 47, 48, 49, 50, 51, 52, 53, 54, 55, 56, 57, 58, 59, 60, 61, 62] (by decide +kernel) (by decide +kernel)
set_option maxRecDepth 20000 in
theorem gX2_guess_X2_pieceOf : GoodIn wsX2_guess (wsV RX2 150 RX2 yX2_pieceOf wsX2_pieceOf) := goodIn_app (goodIn_of _ (by decide +kernel)) ggX2_guess_X2_pieceOf
set_option maxRecDepth 20000 in
theorem ggX2_guess_X2_guessBy : GoodIn wsX2_guess wsX2_guessBy := goodIn_r _ [33, 34, 35, 14, 36, 37, 22, 23, 18, 24, 25, 26, 27, 28, 29, 20, 38, 39, 40, 3, 41, 13, 42, 43, 44, 45, 46, 47, 48, 49, 50, 51, 52, 53, 54, 55, 56, 57, 58, 59, 60, 61, 62] (by decide +kernel) (by decide +kernel)
set_option maxRecDepth 20000 in
theorem gX2_guess_X2_guessBy : GoodIn wsX2_guess (wsV RX2 153 RX2 yX2_guessBy wsX2_guessBy) := goodIn_app (goodIn_of _ (by decide +kernel)) ggX2_guess_X2_guessBy
theorem dX2_guess_0 : decode cX2_guess 0 = .ok (.iload_n 1, 1) := by decide +kernel
theorem dX2_guess_1 : decode cX2_guess 1 = .ok (.i2l, 1) := by decide +kernel
theorem dX2_guess_2 : decode cX2_guess 2 = .ok (.invokestatic 65, 3) := by decide +kernel
theorem dX2_guess_5 : decode cX2_guess 5 = .ok (.aload_n 0, 1) := by decide +kernel
theorem dX2_guess_6 : decode cX2_guess 6 = .ok (.aload_n 0, 1) := by decide +kernel
theorem dX2_guess_7 : decode cX2_guess 7 = .ok (.iload_n 1, 1) := by decide +kernel
theorem dX2_guess_8 : decode cX2_guess 8 = .ok (.invokevirtual 150, 3) := by decide +kernel
theorem dX2_guess_11 : decode cX2_guess 11 = .ok (.iload_n 1, 1) := by decide +kernel
theorem dX2_guess_12 : decode cX2_guess 12 = .ok (.invokevirtual 153, 3) := by decide +kernel
theorem dX2_guess_15 : decode cX2_guess 15 = .ok (.lreturn, 1) := by decide +kernel
set_option maxRecDepth 20000 in
theorem ggX2_looks_X2_needKey : GoodIn wsX2_looks wsX2_needKey := goodIn_ca (goodIn_r _ [4, 5, 6, 7, 8] (by decide +kernel) (by decide +kernel)) (goodIn_sub (fun _ h => List.mem_cons_of_mem _ (List.mem_append_right _ h)) (by decide +kernel))
set_option maxRecDepth 20000 in
theorem gX2_looks_X2_needKey : GoodIn wsX2_looks (va_wsS RX2 65 yX2_needKey wsX2_needKey) := goodIn_app (goodIn_of _ (by decide +kernel)) ggX2_looks_X2_needKey
set_option maxRecDepth 20000 in
theorem ggX2_looks_X2_pieceOf : GoodIn wsX2_looks wsX2_pieceOf := goodIn_r _ [12, 13, 14, 15, 16, 17, 18, 19, 20, 21, 22, 23, 24, 25, 26, 27, 28, 29, 67, 68, 69, 70, 71, 72, 73, 74, 75, 76, 77, 78, 79, 80, 81, 82, 83] (by decide +kernel) (by decide +kernel)
set_option maxRecDepth 20000 in
theorem gX2_looks_X2_pieceOf : GoodIn wsX2_looks (wsV RX2 150 RX2 yX2_pieceOf wsX2_pieceOf) := goodIn_app (goodIn_of _ (by decide +kernel)) ggX2_looks_X2_pieceOf
theorem mi_X2_looks_1 {w : Cond} (h : w ∈ wsX2_looks_r1) : w ∈ wsX2_looks := (List.mem_cons_of_mem _ (List.mem_append_left _ (List.mem_append_left _ (List.mem_append_left _ (List.mem_append_left _ h)))))
theorem mi_X2_looks_2 {w : Cond} (h : w ∈ wsX2_looks_r2) : w ∈ wsX2_looks := (List.mem_cons_of_mem _ (List.mem_append_left _ (List.mem_append_left _ (List.mem_append_left _ (List.mem_append_right _ (List.mem_append_left _ h))))))
theorem mi_X2_looks_3 {w : Cond} (h : w ∈ wsX2_looks_r3) : w ∈ wsX2_looks := (List.mem_cons_of_mem _ (List.mem_append_left _ (List.mem_append_left _ (List.mem_append_left _ (List.mem_append_right _ (List.mem_append_right _ h))))))
set_option maxRecDepth 20000 in
theorem gi_X2_looks_X2_looksBy_0 : ∀ w ∈ wsX2_looksBy_r1, w ∈ wsX2_looks := by
  unfold wsX2_looksBy_r1
  exact (List.forall_mem_cons.mpr ⟨(mi_X2_looks_1 (List.mem_of_getElem? (i := 13) rfl)), (List.forall_mem_cons.mpr ⟨(mi_X2_looks_2 (List.mem_of_getElem? (i := 9) rfl)), (List.forall_mem_cons.mpr ⟨(mi_X2_looks_2 (List.mem_of_getElem? (i := 10) rfl)), (List.forall_mem_cons.mpr ⟨(mi_X2_looks_2 (List.mem_of_getElem? (i := 11) rfl)), (List.forall_mem_cons.mpr ⟨(mi_X2_looks_2 (List.mem_of_getElem? (i := 12) rfl)), (List.forall_mem_cons.mpr ⟨(mi_X2_looks_2 (List.mem_of_getElem? (i := 13) rfl)), (List.forall_mem_cons.mpr ⟨(mi_X2_looks_2 (List.mem_of_getElem? (i := 14) rfl)), (List.forall_mem_cons.mpr ⟨(mi_X2_looks_2 (List.mem_of_getElem? (i := 15) rfl)), (List.forall_mem_cons.mpr ⟨(mi_X2_looks_2 (List.mem_of_getElem? (i := 16) rfl)), (List.forall_mem_cons.mpr ⟨(mi_X2_looks_1 (List.mem_of_getElem? (i := 12) rfl)), (List.forall_mem_cons.mpr ⟨(mi_X2_looks_2 (List.mem_of_getElem? (i := 17) rfl)), (List.forall_mem_cons.mpr ⟨(mi_X2_looks_2 (List.mem_of_getElem? (i := 18) rfl)), (List.forall_mem_cons.mpr ⟨(mi_X2_looks_2 (List.mem_of_getElem? (i := 19) rfl)), (List.forall_mem_cons.mpr ⟨(mi_X2_looks_1 (List.mem_of_getElem? (i := 2) rfl)), (List.forall_mem_cons.mpr ⟨(mi_X2_looks_2 (List.mem_of_getElem? (i := 20) rfl)), (List.forall_mem_cons.mpr ⟨(mi_X2_looks_2 (List.mem_of_getElem? (i := 21) rfl)), (List.forall_mem_cons.mpr ⟨(mi_X2_looks_2 (List.mem_of_getElem? (i := 22) rfl)), (List.forall_mem_cons.mpr ⟨(mi_X2_looks_2 (List.mem_of_getElem? (i := 23) rfl)), (List.forall_mem_cons.mpr ⟨(mi_X2_looks_3 (List.mem_of_getElem? (i := 0) rfl)), (List.forall_mem_cons.mpr ⟨(mi_X2_looks_1 (List.mem_of_getElem? (i := 21) rfl)), (List.forall_mem_cons.mpr ⟨(mi_X2_looks_1 (List.mem_of_getElem? (i := 22) rfl)), (List.forall_mem_cons.mpr ⟨(mi_X2_looks_1 (List.mem_of_getElem? (i := 17) rfl)), (List.forall_mem_cons.mpr ⟨(mi_X2_looks_1 (List.mem_of_getElem? (i := 23) rfl)), (List.forall_mem_cons.mpr ⟨(mi_X2_looks_2 (List.mem_of_getElem? (i := 0) rfl)), (fun _ h => absurd h List.not_mem_nil)⟩)⟩)⟩)⟩)⟩)⟩)⟩)⟩)⟩)⟩)⟩)⟩)⟩)⟩)⟩)⟩)⟩)⟩)⟩)⟩)⟩)⟩)⟩)⟩)
set_option maxRecDepth 20000 in
theorem gi_X2_looks_X2_looksBy_1 : ∀ w ∈ wsX2_looksBy_r2, w ∈ wsX2_looks := by
  unfold wsX2_looksBy_r2
  exact (List.forall_mem_cons.mpr ⟨(mi_X2_looks_2 (List.mem_of_getElem? (i := 1) rfl)), (List.forall_mem_cons.mpr ⟨(mi_X2_looks_2 (List.mem_of_getElem? (i := 2) rfl)), (List.forall_mem_cons.mpr ⟨(mi_X2_looks_2 (List.mem_of_getElem? (i := 3) rfl)), (List.forall_mem_cons.mpr ⟨(mi_X2_looks_2 (List.mem_of_getElem? (i := 4) rfl)), (List.forall_mem_cons.mpr ⟨(mi_X2_looks_1 (List.mem_of_getElem? (i := 19) rfl)), (List.forall_mem_cons.mpr ⟨(mi_X2_looks_3 (List.mem_of_getElem? (i := 1) rfl)), (List.forall_mem_cons.mpr ⟨(mi_X2_looks_3 (List.mem_of_getElem? (i := 2) rfl)), (List.forall_mem_cons.mpr ⟨(mi_X2_looks_3 (List.mem_of_getElem? (i := 3) rfl)), (List.forall_mem_cons.mpr ⟨(mi_X2_looks_3 (List.mem_of_getElem? (i := 4) rfl)), (List.forall_mem_cons.mpr ⟨(mi_X2_looks_3 (List.mem_of_getElem? (i := 5) rfl)), (List.forall_mem_cons.mpr ⟨(mi_X2_looks_3 (List.mem_of_getElem? (i := 6) rfl)), (List.forall_mem_cons.mpr ⟨(mi_X2_looks_3 (List.mem_of_getElem? (i := 7) rfl)), (List.forall_mem_cons.mpr ⟨(mi_X2_looks_3 (List.mem_of_getElem? (i := 8) rfl)), (List.forall_mem_cons.mpr ⟨(mi_X2_looks_3 (List.mem_of_getElem? (i := 9) rfl)), (List.forall_mem_cons.mpr ⟨(mi_X2_looks_3 (List.mem_of_getElem? (i := 10) rfl)), (List.forall_mem_cons.mpr ⟨(mi_X2_looks_3 (List.mem_of_getElem? (i := 11) rfl)), (List.forall_mem_cons.mpr ⟨(mi_X2_looks_3 (List.mem_of_getElem? (i := 12) rfl)), (List.forall_mem_cons.mpr ⟨(mi_X2_looks_3 (List.mem_of_getElem? (i := 13) rfl)), (List.forall_mem_cons.mpr ⟨(mi_X2_looks_3 (List.mem_of_getElem? (i := 14) rfl)), (List.forall_mem_cons.mpr ⟨(mi_X2_looks_3 (List.mem_of_getElem? (i := 15) rfl)), (List.forall_mem_cons.mpr ⟨(mi_X2_looks_3 (List.mem_of_getElem? (i := 16) rfl)), (List.forall_mem_cons.mpr ⟨(mi_X2_looks_3 (List.mem_of_getElem? (i := 17) rfl)), (fun _ h => absurd h List.not_mem_nil)⟩)⟩)⟩)⟩)⟩)⟩)⟩)⟩)⟩)⟩)⟩)⟩)⟩)⟩)⟩)⟩)⟩)⟩)⟩)⟩)⟩)⟩)
theorem gi_X2_looks_X2_looksBy : GoodIn wsX2_looks (.code yX2_looksBy cX2_looksBy 11 (some .int) :: ((wsX2_looksBy_r1 ++ wsX2_looksBy_r2) ++ wsX20 ++ wsX00)) := goodIn_c (goodIn_sub (List.forall_mem_cons.mpr ⟨(mi_X2_looks_2 (List.mem_of_getElem? (i := 8) rfl)), fun _ h => absurd h List.not_mem_nil⟩) (by decide +kernel)) (goodIn_app (goodIn_app (goodIn_app (goodIn_sub gi_X2_looks_X2_looksBy_0 (by decide +kernel)) (goodIn_sub gi_X2_looks_X2_looksBy_1 (by decide +kernel))) (goodIn_sub (fun _ h => (List.mem_cons_of_mem _ (List.mem_append_left _ (List.mem_append_left _ (List.mem_append_right _ h))))) (by decide +kernel))) (goodIn_sub (fun _ h => (List.mem_cons_of_mem _ (List.mem_append_left _ (List.mem_append_right _ h)))) (by decide +kernel)))
set_option maxRecDepth 20000 in
theorem ggX2_looks_X2_looksBy : GoodIn wsX2_looks wsX2_looksBy := gi_X2_looks_X2_looksBy
set_option maxRecDepth 20000 in
theorem gX2_looks_X2_looksBy : GoodIn wsX2_looks (wsV RX2 157 RX2 yX2_looksBy wsX2_looksBy) := goodIn_app (goodIn_of _ (by decide +kernel)) ggX2_looks_X2_looksBy
theorem dX2_looks_0 : decode cX2_looks 0 = .ok (.iload_n 1, 1) := by decide +kernel
theorem dX2_looks_1 : decode cX2_looks 1 = .ok (.i2l, 1) := by decide +kernel
theorem dX2_looks_2 : decode cX2_looks 2 = .ok (.invokestatic 65, 3) := by decide +kernel
theorem dX2_looks_5 : decode cX2_looks 5 = .ok (.aload_n 0, 1) := by decide +kernel
theorem dX2_looks_6 : decode cX2_looks 6 = .ok (.iload_n 1, 1) := by decide +kernel
theorem dX2_looks_7 : decode cX2_looks 7 = .ok (.invokevirtual 150, 3) := by decide +kernel
theorem dX2_looks_10 : decode cX2_looks 10 = .ok (.istore_n 2, 1) := by decide +kernel
theorem dX2_looks_11 : decode cX2_looks 11 = .ok (.iload_n 2, 1) := by decide +kernel
theorem dX2_looks_12 : decode cX2_looks 12 = .ok (.iconst (-1), 1) := by decide +kernel
theorem dX2_looks_13 : decode cX2_looks 13 = .ok (.if_icmp .ne 7, 3) := by decide +kernel
theorem dX2_looks_16 : decode cX2_looks 16 = .ok (.iconst 0, 1) := by decide +kernel
theorem dX2_looks_17 : decode cX2_looks 17 = .ok (.goto 9, 3) := by decide +kernel
theorem dX2_looks_20 : decode cX2_looks 20 = .ok (.aload_n 0, 1) := by decide +kernel
theorem dX2_looks_21 : decode cX2_looks 21 = .ok (.iload_n 2, 1) := by decide +kernel
theorem dX2_looks_22 : decode cX2_looks 22 = .ok (.iload_n 1, 1) := by decide +kernel
theorem dX2_looks_23 : decode cX2_looks 23 = .ok (.invokevirtual 157, 3) := by decide +kernel
theorem dX2_looks_26 : decode cX2_looks 26 = .ok (.ireturn, 1) := by decide +kernel
set_option maxRecDepth 20000 in
theorem ggX2_worstError_X0_length : GoodIn wsX2_worstError wsX0_length := goodIn_r _ [14, 15, 61, 62] (by decide +kernel) (by decide +kernel)
set_option maxRecDepth 20000 in
theorem gX2_worstError_X0_length : GoodIn wsX2_worstError (wsV RX2 76 RX0 yX0_length wsX0_length) := goodIn_app (goodIn_of _ (by decide +kernel)) ggX2_worstError_X0_length
set_option maxRecDepth 20000 in
theorem ggX2_worstError_X2_endOf : GoodIn wsX2_worstError wsX2_endOf := goodIn_r _ [20, 1, 2, 21, 22, 23, 13, 24, 15, 25, 26, 27, 28, 29, 30, 10, 11, 12, 14, 46, 47, 48, 49, 50, 51, 52, 53, 54, 55, 56, 57, 58, 59, 60, 61, 62] (by decide +kernel) (by decide +kernel)
set_option maxRecDepth 20000 in
theorem gX2_worstError_X2_endOf : GoodIn wsX2_worstError (wsV RX2 161 RX2 yX2_endOf wsX2_endOf) := goodIn_app (goodIn_of _ (by decide +kernel)) ggX2_worstError_X2_endOf
set_option maxRecDepth 20000 in
theorem ggX2_worstError_X0_at : GoodIn wsX2_worstError wsX0_at := goodIn_r _ [29, 25, 30, 22, 23, 13, 24, 15, 61, 62] (by decide +kernel) (by decide +kernel)
set_option maxRecDepth 20000 in
theorem gX2_worstError_X0_at : GoodIn wsX2_worstError (wsV RX2 134 RX0 yX0_at wsX0_at) := goodIn_app (goodIn_of _ (by decide +kernel)) ggX2_worstError_X0_at
set_option maxRecDepth 20000 in
theorem ggX2_worstError_X2_guessBy : GoodIn wsX2_worstError wsX2_guessBy := goodIn_r _ [34, 35, 36, 1, 37, 26, 27, 28, 13, 29, 25, 30, 22, 23, 24, 15, 38, 39, 40, 19, 41, 2, 42, 43, 44, 45, 46, 47, 48, 49, 50, 51, 52, 53, 54, 55, 56, 57, 58, 59, 60, 61, 62] (by decide +kernel) (by decide +kernel)
set_option maxRecDepth 20000 in
theorem gX2_worstError_X2_guessBy : GoodIn wsX2_worstError (wsV RX2 153 RX2 yX2_guessBy wsX2_guessBy) := goodIn_app (goodIn_of _ (by decide +kernel)) ggX2_worstError_X2_guessBy
theorem dX2_worstError_0 : decode cX2_worstError 0 = .ok (.lconst 0, 1) := by decide +kernel
theorem dX2_worstError_1 : decode cX2_worstError 1 = .ok (.lstore_n 1, 1) := by decide +kernel
theorem dX2_worstError_2 : decode cX2_worstError 2 = .ok (.iconst 0, 1) := by decide +kernel
theorem dX2_worstError_3 : decode cX2_worstError 3 = .ok (.istore_n 3, 1) := by decide +kernel
theorem dX2_worstError_4 : decode cX2_worstError 4 = .ok (.iload_n 3, 1) := by decide +kernel
theorem dX2_worstError_5 : decode cX2_worstError 5 = .ok (.aload_n 0, 1) := by decide +kernel
theorem dX2_worstError_6 : decode cX2_worstError 6 = .ok (.getfield 24, 3) := by decide +kernel
theorem dX2_worstError_9 : decode cX2_worstError 9 = .ok (.invokevirtual 76, 3) := by decide +kernel
theorem dX2_worstError_12 : decode cX2_worstError 12 = .ok (.if_icmp .ge 69, 3) := by decide +kernel
theorem dX2_worstError_15 : decode cX2_worstError 15 = .ok (.aload_n 0, 1) := by decide +kernel
theorem dX2_worstError_16 : decode cX2_worstError 16 = .ok (.iload_n 3, 1) := by decide +kernel
theorem dX2_worstError_17 : decode cX2_worstError 17 = .ok (.invokevirtual 161, 3) := by decide +kernel
theorem dX2_worstError_20 : decode cX2_worstError 20 = .ok (.istore 4, 2) := by decide +kernel
theorem dX2_worstError_22 : decode cX2_worstError 22 = .ok (.aload_n 0, 1) := by decide +kernel
theorem dX2_worstError_23 : decode cX2_worstError 23 = .ok (.getfield 24, 3) := by decide +kernel
theorem dX2_worstError_26 : decode cX2_worstError 26 = .ok (.iload_n 3, 1) := by decide +kernel
theorem dX2_worstError_27 : decode cX2_worstError 27 = .ok (.invokevirtual 134, 3) := by decide +kernel
theorem dX2_worstError_30 : decode cX2_worstError 30 = .ok (.istore 5, 2) := by decide +kernel
theorem dX2_worstError_32 : decode cX2_worstError 32 = .ok (.iload 5, 2) := by decide +kernel
theorem dX2_worstError_34 : decode cX2_worstError 34 = .ok (.iload 4, 2) := by decide +kernel
theorem dX2_worstError_36 : decode cX2_worstError 36 = .ok (.if_icmp .ge 39, 3) := by decide +kernel
theorem dX2_worstError_39 : decode cX2_worstError 39 = .ok (.iload 5, 2) := by decide +kernel
theorem dX2_worstError_41 : decode cX2_worstError 41 = .ok (.i2l, 1) := by decide +kernel
theorem dX2_worstError_42 : decode cX2_worstError 42 = .ok (.aload_n 0, 1) := by decide +kernel
theorem dX2_worstError_43 : decode cX2_worstError 43 = .ok (.iload_n 3, 1) := by decide +kernel
theorem dX2_worstError_44 : decode cX2_worstError 44 = .ok (.aload_n 0, 1) := by decide +kernel
theorem dX2_worstError_45 : decode cX2_worstError 45 = .ok (.getfield 14, 3) := by decide +kernel
theorem dX2_worstError_48 : decode cX2_worstError 48 = .ok (.iload 5, 2) := by decide +kernel
theorem dX2_worstError_50 : decode cX2_worstError 50 = .ok (.invokevirtual 134, 3) := by decide +kernel
theorem dX2_worstError_53 : decode cX2_worstError 53 = .ok (.invokevirtual 153, 3) := by decide +kernel
theorem dX2_worstError_56 : decode cX2_worstError 56 = .ok (.lsub, 1) := by decide +kernel
theorem dX2_worstError_57 : decode cX2_worstError 57 = .ok (.invokestatic 164, 3) := by decide +kernel
theorem dX2_worstError_60 : decode cX2_worstError 60 = .ok (.lstore 6, 2) := by decide +kernel
theorem dX2_worstError_62 : decode cX2_worstError 62 = .ok (.lload_n 1, 1) := by decide +kernel
theorem dX2_worstError_63 : decode cX2_worstError 63 = .ok (.lload 6, 2) := by decide +kernel
theorem dX2_worstError_65 : decode cX2_worstError 65 = .ok (.invokestatic 170, 3) := by decide +kernel
theorem dX2_worstError_68 : decode cX2_worstError 68 = .ok (.lstore_n 1, 1) := by decide +kernel
theorem dX2_worstError_69 : decode cX2_worstError 69 = .ok (.iinc 5 1, 3) := by decide +kernel
theorem dX2_worstError_72 : decode cX2_worstError 72 = .ok (.goto (-40), 3) := by decide +kernel
theorem dX2_worstError_75 : decode cX2_worstError 75 = .ok (.iinc 3 1, 3) := by decide +kernel
theorem dX2_worstError_78 : decode cX2_worstError 78 = .ok (.goto (-74), 3) := by decide +kernel
theorem dX2_worstError_81 : decode cX2_worstError 81 = .ok (.lload_n 1, 1) := by decide +kernel
theorem dX2_worstError_82 : decode cX2_worstError 82 = .ok (.l2i, 1) := by decide +kernel
theorem dX2_worstError_83 : decode cX2_worstError 83 = .ok (.ireturn, 1) := by decide +kernel
set_option maxRecDepth 20000 in
theorem ggX2_pieces_X0_length : GoodIn wsX2_pieces wsX0_length := goodIn_r _ [6, 7, 23, 24] (by decide +kernel) (by decide +kernel)
set_option maxRecDepth 20000 in
theorem gX2_pieces_X0_length : GoodIn wsX2_pieces (wsV RX2 76 RX0 yX0_length wsX0_length) := goodIn_app (goodIn_of _ (by decide +kernel)) ggX2_pieces_X0_length
theorem dX2_pieces_0 : decode cX2_pieces 0 = .ok (.aload_n 0, 1) := by decide +kernel
theorem dX2_pieces_1 : decode cX2_pieces 1 = .ok (.getfield 24, 3) := by decide +kernel
theorem dX2_pieces_4 : decode cX2_pieces 4 = .ok (.invokevirtual 76, 3) := by decide +kernel
theorem dX2_pieces_7 : decode cX2_pieces 7 = .ok (.ireturn, 1) := by decide +kernel
set_option maxRecDepth 20000 in
theorem ggX2_start_X2_needPiece : GoodIn wsX2_start wsX2_needPiece := goodIn_ca (goodIn_r _ [6, 7, 8, 1, 9, 10, 11, 12, 13, 14, 15, 21, 22, 23, 24, 25, 26, 27, 28, 29, 30, 31, 32, 33, 34, 35, 36, 37] (by decide +kernel) (by decide +kernel)) (goodIn_sub (fun _ h => List.mem_cons_of_mem _ (List.mem_append_right _ h)) (by decide +kernel))
set_option maxRecDepth 20000 in
theorem gX2_start_X2_needPiece : GoodIn wsX2_start (wsV RX2 174 RX2 yX2_needPiece wsX2_needPiece) := goodIn_app (goodIn_of _ (by decide +kernel)) ggX2_start_X2_needPiece
set_option maxRecDepth 20000 in
theorem ggX2_start_X0_at : GoodIn wsX2_start wsX0_at := goodIn_r _ [19, 15, 20, 10, 11, 12, 13, 14, 36, 37] (by decide +kernel) (by decide +kernel)
set_option maxRecDepth 20000 in
theorem gX2_start_X0_at : GoodIn wsX2_start (wsV RX2 134 RX0 yX0_at wsX0_at) := goodIn_app (goodIn_of _ (by decide +kernel)) ggX2_start_X0_at
theorem dX2_start_0 : decode cX2_start 0 = .ok (.aload_n 0, 1) := by decide +kernel
theorem dX2_start_1 : decode cX2_start 1 = .ok (.iload_n 1, 1) := by decide +kernel
theorem dX2_start_2 : decode cX2_start 2 = .ok (.invokevirtual 174, 3) := by decide +kernel
theorem dX2_start_5 : decode cX2_start 5 = .ok (.aload_n 0, 1) := by decide +kernel
theorem dX2_start_6 : decode cX2_start 6 = .ok (.getfield 24, 3) := by decide +kernel
theorem dX2_start_9 : decode cX2_start 9 = .ok (.iload_n 1, 1) := by decide +kernel
theorem dX2_start_10 : decode cX2_start 10 = .ok (.invokevirtual 134, 3) := by decide +kernel
theorem dX2_start_13 : decode cX2_start 13 = .ok (.ireturn, 1) := by decide +kernel
set_option maxRecDepth 20000 in
theorem ggX2_firstKey_X2_needPiece : GoodIn wsX2_firstKey wsX2_needPiece := goodIn_ca (goodIn_r _ [5, 6, 7, 8, 9, 10, 11, 12, 13, 14, 15, 26, 27, 28, 29, 30, 31, 32, 33, 34, 35, 36, 37, 38, 39, 40, 41, 42] (by decide +kernel) (by decide +kernel)) (goodIn_sub (fun _ h => List.mem_cons_of_mem _ (List.mem_append_right _ h)) (by decide +kernel))
set_option maxRecDepth 20000 in
theorem gX2_firstKey_X2_needPiece : GoodIn wsX2_firstKey (wsV RX2 174 RX2 yX2_needPiece wsX2_needPiece) := goodIn_app (goodIn_of _ (by decide +kernel)) ggX2_firstKey_X2_needPiece
set_option maxRecDepth 20000 in
theorem ggX2_firstKey_X2_firstOf : GoodIn wsX2_firstKey wsX2_firstOf := goodIn_r _ [19, 20, 8, 21, 22, 23, 12, 24, 15, 25, 10, 11, 13, 14, 26, 27, 28, 29, 30, 31, 32, 33, 34, 35, 36, 37, 38, 39, 40, 41, 42] (by decide +kernel) (by decide +kernel)
set_option maxRecDepth 20000 in
theorem gX2_firstKey_X2_firstOf : GoodIn wsX2_firstKey (wsV RX2 177 RX2 yX2_firstOf wsX2_firstOf) := goodIn_app (goodIn_of _ (by decide +kernel)) ggX2_firstKey_X2_firstOf
theorem dX2_firstKey_0 : decode cX2_firstKey 0 = .ok (.aload_n 0, 1) := by decide +kernel
theorem dX2_firstKey_1 : decode cX2_firstKey 1 = .ok (.iload_n 1, 1) := by decide +kernel
theorem dX2_firstKey_2 : decode cX2_firstKey 2 = .ok (.invokevirtual 174, 3) := by decide +kernel
theorem dX2_firstKey_5 : decode cX2_firstKey 5 = .ok (.aload_n 0, 1) := by decide +kernel
theorem dX2_firstKey_6 : decode cX2_firstKey 6 = .ok (.iload_n 1, 1) := by decide +kernel
theorem dX2_firstKey_7 : decode cX2_firstKey 7 = .ok (.invokevirtual 177, 3) := by decide +kernel
theorem dX2_firstKey_10 : decode cX2_firstKey 10 = .ok (.ireturn, 1) := by decide +kernel
set_option maxRecDepth 20000 in
theorem ggX2_rise_X2_needPiece : GoodIn wsX2_rise wsX2_needPiece := goodIn_ca (goodIn_r _ [6, 7, 8, 9, 10, 11, 12, 13, 14, 15, 16, 22, 23, 24, 25, 26, 27, 28, 29, 30, 31, 32, 33, 34, 35, 36, 37, 38] (by decide +kernel) (by decide +kernel)) (goodIn_sub (fun _ h => List.mem_cons_of_mem _ (List.mem_append_right _ h)) (by decide +kernel))
set_option maxRecDepth 20000 in
theorem gX2_rise_X2_needPiece : GoodIn wsX2_rise (wsV RX2 174 RX2 yX2_needPiece wsX2_needPiece) := goodIn_app (goodIn_of _ (by decide +kernel)) ggX2_rise_X2_needPiece
set_option maxRecDepth 20000 in
theorem ggX2_rise_X0_at : GoodIn wsX2_rise wsX0_at := goodIn_r _ [20, 16, 21, 11, 12, 13, 14, 15, 37, 38] (by decide +kernel) (by decide +kernel)
set_option maxRecDepth 20000 in
theorem gX2_rise_X0_at : GoodIn wsX2_rise (wsV RX2 134 RX0 yX0_at wsX0_at) := goodIn_app (goodIn_of _ (by decide +kernel)) ggX2_rise_X0_at
theorem dX2_rise_0 : decode cX2_rise 0 = .ok (.aload_n 0, 1) := by decide +kernel
theorem dX2_rise_1 : decode cX2_rise 1 = .ok (.iload_n 1, 1) := by decide +kernel
theorem dX2_rise_2 : decode cX2_rise 2 = .ok (.invokevirtual 174, 3) := by decide +kernel
theorem dX2_rise_5 : decode cX2_rise 5 = .ok (.aload_n 0, 1) := by decide +kernel
theorem dX2_rise_6 : decode cX2_rise 6 = .ok (.getfield 27, 3) := by decide +kernel
theorem dX2_rise_9 : decode cX2_rise 9 = .ok (.iload_n 1, 1) := by decide +kernel
theorem dX2_rise_10 : decode cX2_rise 10 = .ok (.invokevirtual 134, 3) := by decide +kernel
theorem dX2_rise_13 : decode cX2_rise 13 = .ok (.ireturn, 1) := by decide +kernel
set_option maxRecDepth 20000 in
theorem ggX2_run_X2_needPiece : GoodIn wsX2_run wsX2_needPiece := goodIn_ca (goodIn_r _ [6, 7, 8, 9, 10, 11, 12, 13, 14, 15, 16, 22, 23, 24, 25, 26, 27, 28, 29, 30, 31, 32, 33, 34, 35, 36, 37, 38] (by decide +kernel) (by decide +kernel)) (goodIn_sub (fun _ h => List.mem_cons_of_mem _ (List.mem_append_right _ h)) (by decide +kernel))
set_option maxRecDepth 20000 in
theorem gX2_run_X2_needPiece : GoodIn wsX2_run (wsV RX2 174 RX2 yX2_needPiece wsX2_needPiece) := goodIn_app (goodIn_of _ (by decide +kernel)) ggX2_run_X2_needPiece
set_option maxRecDepth 20000 in
theorem ggX2_run_X0_at : GoodIn wsX2_run wsX0_at := goodIn_r _ [20, 16, 21, 11, 12, 13, 14, 15, 37, 38] (by decide +kernel) (by decide +kernel)
set_option maxRecDepth 20000 in
theorem gX2_run_X0_at : GoodIn wsX2_run (wsV RX2 134 RX0 yX0_at wsX0_at) := goodIn_app (goodIn_of _ (by decide +kernel)) ggX2_run_X0_at
theorem dX2_run_0 : decode cX2_run 0 = .ok (.aload_n 0, 1) := by decide +kernel
theorem dX2_run_1 : decode cX2_run 1 = .ok (.iload_n 1, 1) := by decide +kernel
theorem dX2_run_2 : decode cX2_run 2 = .ok (.invokevirtual 174, 3) := by decide +kernel
theorem dX2_run_5 : decode cX2_run 5 = .ok (.aload_n 0, 1) := by decide +kernel
theorem dX2_run_6 : decode cX2_run 6 = .ok (.getfield 30, 3) := by decide +kernel
theorem dX2_run_9 : decode cX2_run 9 = .ok (.iload_n 1, 1) := by decide +kernel
theorem dX2_run_10 : decode cX2_run 10 = .ok (.invokevirtual 134, 3) := by decide +kernel
theorem dX2_run_13 : decode cX2_run 13 = .ok (.ireturn, 1) := by decide +kernel
set_option maxRecDepth 20000 in
theorem ggX2_slopes_X0_length : GoodIn wsX2_slopes wsX0_length := goodIn_r _ [6, 7, 43, 44] (by decide +kernel) (by decide +kernel)
set_option maxRecDepth 20000 in
theorem gX2_slopes_X0_length : GoodIn wsX2_slopes (wsV RX2 76 RX0 yX0_length wsX0_length) := goodIn_app (goodIn_of _ (by decide +kernel)) ggX2_slopes_X0_length
set_option maxRecDepth 20000 in
theorem ggX2_slopes_X2_firstAlike : GoodIn wsX2_slopes wsX2_firstAlike := goodIn_r _ [12, 13, 14, 15, 11, 16, 17, 18, 19, 20, 21, 5, 22, 23, 24, 25, 26, 27, 7, 28, 29, 30, 31, 32, 33, 34, 35, 36, 37, 38, 39, 40, 41, 42, 43, 44] (by decide +kernel) (by decide +kernel)
set_option maxRecDepth 20000 in
theorem gX2_slopes_X2_firstAlike : GoodIn wsX2_slopes (wsV RX2 180 RX2 yX2_firstAlike wsX2_firstAlike) := goodIn_app (goodIn_of _ (by decide +kernel)) ggX2_slopes_X2_firstAlike
theorem dX2_slopes_0 : decode cX2_slopes 0 = .ok (.iconst 0, 1) := by decide +kernel
theorem dX2_slopes_1 : decode cX2_slopes 1 = .ok (.istore_n 1, 1) := by decide +kernel
theorem dX2_slopes_2 : decode cX2_slopes 2 = .ok (.iconst 0, 1) := by decide +kernel
theorem dX2_slopes_3 : decode cX2_slopes 3 = .ok (.istore_n 2, 1) := by decide +kernel
theorem dX2_slopes_4 : decode cX2_slopes 4 = .ok (.iload_n 2, 1) := by decide +kernel
theorem dX2_slopes_5 : decode cX2_slopes 5 = .ok (.aload_n 0, 1) := by decide +kernel
theorem dX2_slopes_6 : decode cX2_slopes 6 = .ok (.getfield 24, 3) := by decide +kernel
theorem dX2_slopes_9 : decode cX2_slopes 9 = .ok (.invokevirtual 76, 3) := by decide +kernel
theorem dX2_slopes_12 : decode cX2_slopes 12 = .ok (.if_icmp .ge 21, 3) := by decide +kernel
theorem dX2_slopes_15 : decode cX2_slopes 15 = .ok (.aload_n 0, 1) := by decide +kernel
theorem dX2_slopes_16 : decode cX2_slopes 16 = .ok (.iload_n 2, 1) := by decide +kernel
theorem dX2_slopes_17 : decode cX2_slopes 17 = .ok (.invokevirtual 180, 3) := by decide +kernel
theorem dX2_slopes_20 : decode cX2_slopes 20 = .ok (.iload_n 2, 1) := by decide +kernel
theorem dX2_slopes_21 : decode cX2_slopes 21 = .ok (.if_icmp .ne 6, 3) := by decide +kernel
theorem dX2_slopes_24 : decode cX2_slopes 24 = .ok (.iinc 1 1, 3) := by decide +kernel
theorem dX2_slopes_27 : decode cX2_slopes 27 = .ok (.iinc 2 1, 3) := by decide +kernel
theorem dX2_slopes_30 : decode cX2_slopes 30 = .ok (.goto (-26), 3) := by decide +kernel
theorem dX2_slopes_33 : decode cX2_slopes 33 = .ok (.iload_n 1, 1) := by decide +kernel
theorem dX2_slopes_34 : decode cX2_slopes 34 = .ok (.ireturn, 1) := by decide +kernel
set_option maxRecDepth 20000 in
theorem ggX2_commonest_X0_length : GoodIn wsX2_commonest wsX0_length := goodIn_r _ [6, 7, 43, 44] (by decide +kernel) (by decide +kernel)
set_option maxRecDepth 20000 in
theorem gX2_commonest_X0_length : GoodIn wsX2_commonest (wsV RX2 76 RX0 yX0_length wsX0_length) := goodIn_app (goodIn_of _ (by decide +kernel)) ggX2_commonest_X0_length
set_option maxRecDepth 20000 in
theorem ggX2_commonest_X2_alikeFrom : GoodIn wsX2_commonest wsX2_alikeFrom := goodIn_r _ [12, 1, 2, 3, 4, 5, 6, 7, 13, 14, 15, 11, 16, 17, 18, 19, 20, 21, 22, 23, 24, 25, 26, 27, 28, 29, 30, 31, 32, 33, 34, 35, 36, 37, 38, 39, 40, 41, 42, 43, 44] (by decide +kernel) (by decide +kernel)
set_option maxRecDepth 20000 in
theorem gX2_commonest_X2_alikeFrom : GoodIn wsX2_commonest (wsV RX2 183 RX2 yX2_alikeFrom wsX2_alikeFrom) := goodIn_app (goodIn_of _ (by decide +kernel)) ggX2_commonest_X2_alikeFrom
theorem dX2_commonest_0 : decode cX2_commonest 0 = .ok (.iconst (-1), 1) := by decide +kernel
theorem dX2_commonest_1 : decode cX2_commonest 1 = .ok (.istore_n 1, 1) := by decide +kernel
theorem dX2_commonest_2 : decode cX2_commonest 2 = .ok (.iconst 0, 1) := by decide +kernel
theorem dX2_commonest_3 : decode cX2_commonest 3 = .ok (.istore_n 2, 1) := by decide +kernel
theorem dX2_commonest_4 : decode cX2_commonest 4 = .ok (.iconst 0, 1) := by decide +kernel
theorem dX2_commonest_5 : decode cX2_commonest 5 = .ok (.istore_n 3, 1) := by decide +kernel
theorem dX2_commonest_6 : decode cX2_commonest 6 = .ok (.iload_n 3, 1) := by decide +kernel
theorem dX2_commonest_7 : decode cX2_commonest 7 = .ok (.aload_n 0, 1) := by decide +kernel
theorem dX2_commonest_8 : decode cX2_commonest 8 = .ok (.getfield 24, 3) := by decide +kernel
theorem dX2_commonest_11 : decode cX2_commonest 11 = .ok (.invokevirtual 76, 3) := by decide +kernel
theorem dX2_commonest_14 : decode cX2_commonest 14 = .ok (.if_icmp .ge 27, 3) := by decide +kernel
theorem dX2_commonest_17 : decode cX2_commonest 17 = .ok (.aload_n 0, 1) := by decide +kernel
theorem dX2_commonest_18 : decode cX2_commonest 18 = .ok (.iload_n 3, 1) := by decide +kernel
theorem dX2_commonest_19 : decode cX2_commonest 19 = .ok (.invokevirtual 183, 3) := by decide +kernel
theorem dX2_commonest_22 : decode cX2_commonest 22 = .ok (.istore 4, 2) := by decide +kernel
theorem dX2_commonest_24 : decode cX2_commonest 24 = .ok (.iload 4, 2) := by decide +kernel
theorem dX2_commonest_26 : decode cX2_commonest 26 = .ok (.iload_n 2, 1) := by decide +kernel
theorem dX2_commonest_27 : decode cX2_commonest 27 = .ok (.if_icmp .le 8, 3) := by decide +kernel
theorem dX2_commonest_30 : decode cX2_commonest 30 = .ok (.iload 4, 2) := by decide +kernel
theorem dX2_commonest_32 : decode cX2_commonest 32 = .ok (.istore_n 2, 1) := by decide +kernel
theorem dX2_commonest_33 : decode cX2_commonest 33 = .ok (.iload_n 3, 1) := by decide +kernel
theorem dX2_commonest_34 : decode cX2_commonest 34 = .ok (.istore_n 1, 1) := by decide +kernel
theorem dX2_commonest_35 : decode cX2_commonest 35 = .ok (.iinc 3 1, 3) := by decide +kernel
theorem dX2_commonest_38 : decode cX2_commonest 38 = .ok (.goto (-32), 3) := by decide +kernel
theorem dX2_commonest_41 : decode cX2_commonest 41 = .ok (.iload_n 1, 1) := by decide +kernel
theorem dX2_commonest_42 : decode cX2_commonest 42 = .ok (.ireturn, 1) := by decide +kernel
set_option maxRecDepth 20000 in
theorem ggX2_buffered_X0_length : GoodIn wsX2_buffered wsX0_length := goodIn_r _ [6, 7, 23, 24] (by decide +kernel) (by decide +kernel)
set_option maxRecDepth 20000 in
theorem gX2_buffered_X0_length : GoodIn wsX2_buffered (wsV RX2 76 RX0 yX0_length wsX0_length) := goodIn_app (goodIn_of _ (by decide +kernel)) ggX2_buffered_X0_length
theorem dX2_buffered_0 : decode cX2_buffered 0 = .ok (.aload_n 0, 1) := by decide +kernel
theorem dX2_buffered_1 : decode cX2_buffered 1 = .ok (.getfield 21, 3) := by decide +kernel
theorem dX2_buffered_4 : decode cX2_buffered 4 = .ok (.invokevirtual 76, 3) := by decide +kernel
theorem dX2_buffered_7 : decode cX2_buffered 7 = .ok (.ireturn, 1) := by decide +kernel
theorem dX2_marked_0 : decode cX2_marked 0 = .ok (.aload_n 0, 1) := by decide +kernel
theorem dX2_marked_1 : decode cX2_marked 1 = .ok (.getfield 53, 3) := by decide +kernel
theorem dX2_marked_4 : decode cX2_marked 4 = .ok (.ireturn, 1) := by decide +kernel
set_option maxRecDepth 20000 in
theorem ggX2_rowSize_X0_length : GoodIn wsX2_rowSize wsX0_length := goodIn_r _ [6, 7, 23, 24] (by decide +kernel) (by decide +kernel)
set_option maxRecDepth 20000 in
theorem gX2_rowSize_X0_length : GoodIn wsX2_rowSize (wsV RX2 76 RX0 yX0_length wsX0_length) := goodIn_app (goodIn_of _ (by decide +kernel)) ggX2_rowSize_X0_length
theorem dX2_rowSize_0 : decode cX2_rowSize 0 = .ok (.aload_n 0, 1) := by decide +kernel
theorem dX2_rowSize_1 : decode cX2_rowSize 1 = .ok (.getfield 14, 3) := by decide +kernel
theorem dX2_rowSize_4 : decode cX2_rowSize 4 = .ok (.invokevirtual 76, 3) := by decide +kernel
theorem dX2_rowSize_7 : decode cX2_rowSize 7 = .ok (.ireturn, 1) := by decide +kernel
theorem dX2_merges_0 : decode cX2_merges 0 = .ok (.aload_n 0, 1) := by decide +kernel
theorem dX2_merges_1 : decode cX2_merges 1 = .ok (.getfield 56, 3) := by decide +kernel
theorem dX2_merges_4 : decode cX2_merges 4 = .ok (.ireturn, 1) := by decide +kernel
theorem dX2_splits_0 : decode cX2_splits 0 = .ok (.aload_n 0, 1) := by decide +kernel
theorem dX2_splits_1 : decode cX2_splits 1 = .ok (.getfield 59, 3) := by decide +kernel
theorem dX2_splits_4 : decode cX2_splits 4 = .ok (.ireturn, 1) := by decide +kernel
theorem dX2_joins_0 : decode cX2_joins 0 = .ok (.aload_n 0, 1) := by decide +kernel
theorem dX2_joins_1 : decode cX2_joins 1 = .ok (.getfield 62, 3) := by decide +kernel
theorem dX2_joins_4 : decode cX2_joins 4 = .ok (.ireturn, 1) := by decide +kernel
theorem dX2_needKey_0 : decode cX2_needKey 0 = .ok (.lload_n 0, 1) := by decide +kernel
theorem dX2_needKey_1 : decode cX2_needKey 1 = .ok (.ldc2_w 186, 3) := by decide +kernel
theorem dX2_needKey_4 : decode cX2_needKey 4 = .ok (.lcmp, 1) := by decide +kernel
theorem dX2_needKey_5 : decode cX2_needKey 5 = .ok (.ifCond .lt 11, 3) := by decide +kernel
theorem dX2_needKey_8 : decode cX2_needKey 8 = .ok (.lload_n 0, 1) := by decide +kernel
theorem dX2_needKey_9 : decode cX2_needKey 9 = .ok (.ldc2_w 188, 3) := by decide +kernel
theorem dX2_needKey_12 : decode cX2_needKey 12 = .ok (.lcmp, 1) := by decide +kernel
theorem dX2_needKey_13 : decode cX2_needKey 13 = .ok (.ifCond .le 13, 3) := by decide +kernel
theorem dX2_needKey_16 : decode cX2_needKey 16 = .ok (.new 80, 3) := by decide +kernel
theorem dX2_needKey_19 : decode cX2_needKey 19 = .ok (.dup, 1) := by decide +kernel
theorem dX2_needKey_20 : decode cX2_needKey 20 = .ok (.ldc 190, 2) := by decide +kernel
theorem dX2_needKey_22 : decode cX2_needKey 22 = .ok (.invokespecial 84, 3) := by decide +kernel
theorem dX2_needKey_25 : decode cX2_needKey 25 = .ok (.athrow, 1) := by decide +kernel
theorem dX2_needKey_26 : decode cX2_needKey 26 = .ok (.return_, 1) := by decide +kernel
set_option maxRecDepth 20000 in
theorem ggX2_needPiece_X0_has : GoodIn wsX2_needPiece wsX0_has := goodIn_r _ [8, 9, 10, 26, 27] (by decide +kernel) (by decide +kernel)
set_option maxRecDepth 20000 in
theorem gX2_needPiece_X0_has : GoodIn wsX2_needPiece (wsV RX2 192 RX0 yX0_has wsX0_has) := goodIn_app (goodIn_of _ (by decide +kernel)) ggX2_needPiece_X0_has
theorem dX2_needPiece_0 : decode cX2_needPiece 0 = .ok (.aload_n 0, 1) := by decide +kernel
theorem dX2_needPiece_1 : decode cX2_needPiece 1 = .ok (.getfield 24, 3) := by decide +kernel
theorem dX2_needPiece_4 : decode cX2_needPiece 4 = .ok (.iload_n 1, 1) := by decide +kernel
theorem dX2_needPiece_5 : decode cX2_needPiece 5 = .ok (.invokevirtual 192, 3) := by decide +kernel
theorem dX2_needPiece_8 : decode cX2_needPiece 8 = .ok (.ifCond .ne 13, 3) := by decide +kernel
theorem dX2_needPiece_11 : decode cX2_needPiece 11 = .ok (.new 140, 3) := by decide +kernel
theorem dX2_needPiece_14 : decode cX2_needPiece 14 = .ok (.dup, 1) := by decide +kernel
theorem dX2_needPiece_15 : decode cX2_needPiece 15 = .ok (.ldc 195, 2) := by decide +kernel
theorem dX2_needPiece_17 : decode cX2_needPiece 17 = .ok (.invokespecial 144, 3) := by decide +kernel
theorem dX2_needPiece_20 : decode cX2_needPiece 20 = .ok (.athrow, 1) := by decide +kernel
theorem dX2_needPiece_21 : decode cX2_needPiece 21 = .ok (.return_, 1) := by decide +kernel
set_option maxRecDepth 20000 in
theorem ggX2_needToFollow_X0_below : GoodIn wsX2_needToFollow wsX0_below := goodIn_r _ [9, 10, 11, 12, 13, 8, 14, 15, 16, 17, 18, 19, 44, 45] (by decide +kernel) (by decide +kernel)
set_option maxRecDepth 20000 in
theorem gX2_needToFollow_X0_below : GoodIn wsX2_needToFollow (wsV RX2 114 RX0 yX0_below wsX0_below) := goodIn_app (goodIn_of _ (by decide +kernel)) ggX2_needToFollow_X0_below
set_option maxRecDepth 20000 in
theorem ggX2_needToFollow_X0_length : GoodIn wsX2_needToFollow wsX0_length := goodIn_r _ [23, 10, 44, 45] (by decide +kernel) (by decide +kernel)
set_option maxRecDepth 20000 in
theorem gX2_needToFollow_X0_length : GoodIn wsX2_needToFollow (wsV RX2 76 RX0 yX0_length wsX0_length) := goodIn_app (goodIn_of _ (by decide +kernel)) ggX2_needToFollow_X0_length
set_option maxRecDepth 20000 in
theorem ggX2_needToFollow_X2_allKeys : GoodIn wsX2_needToFollow wsX2_allKeys := goodIn_r _ [28, 3, 4, 20, 21, 22, 8, 23, 10, 29, 30, 31, 32, 33, 34, 35, 36, 37, 38, 39, 40, 41, 42, 43, 44, 45] (by decide +kernel) (by decide +kernel)
set_option maxRecDepth 20000 in
theorem gX2_needToFollow_X2_allKeys : GoodIn wsX2_needToFollow (wsV RX2 95 RX2 yX2_allKeys wsX2_allKeys) := goodIn_app (goodIn_of _ (by decide +kernel)) ggX2_needToFollow_X2_allKeys
theorem dX2_needToFollow_0 : decode cX2_needToFollow 0 = .ok (.aload_n 0, 1) := by decide +kernel
theorem dX2_needToFollow_1 : decode cX2_needToFollow 1 = .ok (.getfield 14, 3) := by decide +kernel
theorem dX2_needToFollow_4 : decode cX2_needToFollow 4 = .ok (.iload_n 1, 1) := by decide +kernel
theorem dX2_needToFollow_5 : decode cX2_needToFollow 5 = .ok (.invokevirtual 114, 3) := by decide +kernel
theorem dX2_needToFollow_8 : decode cX2_needToFollow 8 = .ok (.aload_n 0, 1) := by decide +kernel
theorem dX2_needToFollow_9 : decode cX2_needToFollow 9 = .ok (.getfield 14, 3) := by decide +kernel
theorem dX2_needToFollow_12 : decode cX2_needToFollow 12 = .ok (.invokevirtual 76, 3) := by decide +kernel
theorem dX2_needToFollow_15 : decode cX2_needToFollow 15 = .ok (.if_icmp .ne 25, 3) := by decide +kernel
theorem dX2_needToFollow_18 : decode cX2_needToFollow 18 = .ok (.aload_n 0, 1) := by decide +kernel
theorem dX2_needToFollow_19 : decode cX2_needToFollow 19 = .ok (.getfield 21, 3) := by decide +kernel
theorem dX2_needToFollow_22 : decode cX2_needToFollow 22 = .ok (.iload_n 1, 1) := by decide +kernel
theorem dX2_needToFollow_23 : decode cX2_needToFollow 23 = .ok (.invokevirtual 114, 3) := by decide +kernel
theorem dX2_needToFollow_26 : decode cX2_needToFollow 26 = .ok (.aload_n 0, 1) := by decide +kernel
theorem dX2_needToFollow_27 : decode cX2_needToFollow 27 = .ok (.getfield 21, 3) := by decide +kernel
theorem dX2_needToFollow_30 : decode cX2_needToFollow 30 = .ok (.invokevirtual 76, 3) := by decide +kernel
theorem dX2_needToFollow_33 : decode cX2_needToFollow 33 = .ok (.if_icmp .ne 7, 3) := by decide +kernel
theorem dX2_needToFollow_36 : decode cX2_needToFollow 36 = .ok (.iconst 1, 1) := by decide +kernel
theorem dX2_needToFollow_37 : decode cX2_needToFollow 37 = .ok (.goto 4, 3) := by decide +kernel
theorem dX2_needToFollow_40 : decode cX2_needToFollow 40 = .ok (.iconst 0, 1) := by decide +kernel
theorem dX2_needToFollow_41 : decode cX2_needToFollow 41 = .ok (.istore_n 3, 1) := by decide +kernel
theorem dX2_needToFollow_42 : decode cX2_needToFollow 42 = .ok (.aload_n 0, 1) := by decide +kernel
theorem dX2_needToFollow_43 : decode cX2_needToFollow 43 = .ok (.invokevirtual 95, 3) := by decide +kernel
theorem dX2_needToFollow_46 : decode cX2_needToFollow 46 = .ok (.iload_n 2, 1) := by decide +kernel
theorem dX2_needToFollow_47 : decode cX2_needToFollow 47 = .ok (.iadd, 1) := by decide +kernel
theorem dX2_needToFollow_48 : decode cX2_needToFollow 48 = .ok (.sipush 256, 3) := by decide +kernel
theorem dX2_needToFollow_51 : decode cX2_needToFollow 51 = .ok (.if_icmp .gt 7, 3) := by decide +kernel
theorem dX2_needToFollow_54 : decode cX2_needToFollow 54 = .ok (.iload_n 3, 1) := by decide +kernel
theorem dX2_needToFollow_55 : decode cX2_needToFollow 55 = .ok (.ifCond .ne 13, 3) := by decide +kernel
theorem dX2_needToFollow_58 : decode cX2_needToFollow 58 = .ok (.new 98, 3) := by decide +kernel
theorem dX2_needToFollow_61 : decode cX2_needToFollow 61 = .ok (.dup, 1) := by decide +kernel
theorem dX2_needToFollow_62 : decode cX2_needToFollow 62 = .ok (.ldc 197, 2) := by decide +kernel
theorem dX2_needToFollow_64 : decode cX2_needToFollow 64 = .ok (.invokespecial 102, 3) := by decide +kernel
theorem dX2_needToFollow_67 : decode cX2_needToFollow 67 = .ok (.athrow, 1) := by decide +kernel
theorem dX2_needToFollow_68 : decode cX2_needToFollow 68 = .ok (.return_, 1) := by decide +kernel
set_option maxRecDepth 20000 in
theorem ggX2_allKeys_X0_length : GoodIn wsX2_allKeys wsX0_length := goodIn_r _ [7, 8, 24, 25] (by decide +kernel) (by decide +kernel)
set_option maxRecDepth 20000 in
theorem gX2_allKeys_X0_length : GoodIn wsX2_allKeys (wsV RX2 76 RX0 yX0_length wsX0_length) := goodIn_app (goodIn_of _ (by decide +kernel)) ggX2_allKeys_X0_length
theorem dX2_allKeys_0 : decode cX2_allKeys 0 = .ok (.aload_n 0, 1) := by decide +kernel
theorem dX2_allKeys_1 : decode cX2_allKeys 1 = .ok (.getfield 14, 3) := by decide +kernel
theorem dX2_allKeys_4 : decode cX2_allKeys 4 = .ok (.invokevirtual 76, 3) := by decide +kernel
theorem dX2_allKeys_7 : decode cX2_allKeys 7 = .ok (.aload_n 0, 1) := by decide +kernel
theorem dX2_allKeys_8 : decode cX2_allKeys 8 = .ok (.getfield 21, 3) := by decide +kernel
theorem dX2_allKeys_11 : decode cX2_allKeys 11 = .ok (.invokevirtual 76, 3) := by decide +kernel
theorem dX2_allKeys_14 : decode cX2_allKeys 14 = .ok (.iadd, 1) := by decide +kernel
theorem dX2_allKeys_15 : decode cX2_allKeys 15 = .ok (.ireturn, 1) := by decide +kernel
set_option maxRecDepth 20000 in
theorem ggX2_keysThere_X2_allKeys : GoodIn wsX2_keysThere wsX2_allKeys := goodIn_r _ [6, 7, 8, 9, 10, 11, 12, 13, 14, 15, 16, 17, 18, 19, 20, 21, 22, 23, 24, 25, 26, 27, 28, 29, 30, 31] (by decide +kernel) (by decide +kernel)
set_option maxRecDepth 20000 in
theorem gX2_keysThere_X2_allKeys : GoodIn wsX2_keysThere (wsV RX2 95 RX2 yX2_allKeys wsX2_allKeys) := goodIn_app (goodIn_of _ (by decide +kernel)) ggX2_keysThere_X2_allKeys
theorem dX2_keysThere_0 : decode cX2_keysThere 0 = .ok (.aload_n 0, 1) := by decide +kernel
theorem dX2_keysThere_1 : decode cX2_keysThere 1 = .ok (.invokevirtual 95, 3) := by decide +kernel
theorem dX2_keysThere_4 : decode cX2_keysThere 4 = .ok (.aload_n 0, 1) := by decide +kernel
theorem dX2_keysThere_5 : decode cX2_keysThere 5 = .ok (.getfield 53, 3) := by decide +kernel
theorem dX2_keysThere_8 : decode cX2_keysThere 8 = .ok (.isub, 1) := by decide +kernel
theorem dX2_keysThere_9 : decode cX2_keysThere 9 = .ok (.ireturn, 1) := by decide +kernel
set_option maxRecDepth 20000 in
theorem ggX2_isThere_X0_indexOf : GoodIn wsX2_isThere wsX0_indexOf := goodIn_r _ [8, 9, 10, 11, 12, 7, 13, 14, 15, 16, 17, 18, 19, 20, 21, 22, 39, 40] (by decide +kernel) (by decide +kernel)
set_option maxRecDepth 20000 in
theorem gX2_isThere_X0_indexOf : GoodIn wsX2_isThere (wsV RX2 87 RX0 yX0_indexOf wsX0_indexOf) := goodIn_app (goodIn_of _ (by decide +kernel)) ggX2_isThere_X0_indexOf
set_option maxRecDepth 20000 in
theorem ggX2_isThere_X0_at : GoodIn wsX2_isThere wsX0_at := goodIn_r _ [18, 9, 19, 20, 21, 7, 22, 14, 39, 40] (by decide +kernel) (by decide +kernel)
set_option maxRecDepth 20000 in
theorem gX2_isThere_X0_at : GoodIn wsX2_isThere (wsV RX2 134 RX0 yX0_at wsX0_at) := goodIn_app (goodIn_of _ (by decide +kernel)) ggX2_isThere_X0_at
theorem dX2_isThere_0 : decode cX2_isThere 0 = .ok (.aload_n 0, 1) := by decide +kernel
theorem dX2_isThere_1 : decode cX2_isThere 1 = .ok (.getfield 14, 3) := by decide +kernel
theorem dX2_isThere_4 : decode cX2_isThere 4 = .ok (.iload_n 1, 1) := by decide +kernel
theorem dX2_isThere_5 : decode cX2_isThere 5 = .ok (.invokevirtual 87, 3) := by decide +kernel
theorem dX2_isThere_8 : decode cX2_isThere 8 = .ok (.istore_n 2, 1) := by decide +kernel
theorem dX2_isThere_9 : decode cX2_isThere 9 = .ok (.iload_n 2, 1) := by decide +kernel
theorem dX2_isThere_10 : decode cX2_isThere 10 = .ok (.iconst (-1), 1) := by decide +kernel
theorem dX2_isThere_11 : decode cX2_isThere 11 = .ok (.if_icmp .ne 23, 3) := by decide +kernel
theorem dX2_isThere_14 : decode cX2_isThere 14 = .ok (.aload_n 0, 1) := by decide +kernel
theorem dX2_isThere_15 : decode cX2_isThere 15 = .ok (.getfield 21, 3) := by decide +kernel
theorem dX2_isThere_18 : decode cX2_isThere 18 = .ok (.iload_n 1, 1) := by decide +kernel
theorem dX2_isThere_19 : decode cX2_isThere 19 = .ok (.invokevirtual 87, 3) := by decide +kernel
theorem dX2_isThere_22 : decode cX2_isThere 22 = .ok (.iconst (-1), 1) := by decide +kernel
theorem dX2_isThere_23 : decode cX2_isThere 23 = .ok (.if_icmp .eq 7, 3) := by decide +kernel
theorem dX2_isThere_26 : decode cX2_isThere 26 = .ok (.iconst 1, 1) := by decide +kernel
theorem dX2_isThere_27 : decode cX2_isThere 27 = .ok (.goto 23, 3) := by decide +kernel
theorem dX2_isThere_30 : decode cX2_isThere 30 = .ok (.iconst 0, 1) := by decide +kernel
theorem dX2_isThere_31 : decode cX2_isThere 31 = .ok (.goto 19, 3) := by decide +kernel
theorem dX2_isThere_34 : decode cX2_isThere 34 = .ok (.aload_n 0, 1) := by decide +kernel
theorem dX2_isThere_35 : decode cX2_isThere 35 = .ok (.getfield 18, 3) := by decide +kernel
theorem dX2_isThere_38 : decode cX2_isThere 38 = .ok (.iload_n 2, 1) := by decide +kernel
theorem dX2_isThere_39 : decode cX2_isThere 39 = .ok (.invokevirtual 134, 3) := by decide +kernel
theorem dX2_isThere_42 : decode cX2_isThere 42 = .ok (.ifCond .ne 7, 3) := by decide +kernel
theorem dX2_isThere_45 : decode cX2_isThere 45 = .ok (.iconst 1, 1) := by decide +kernel
theorem dX2_isThere_46 : decode cX2_isThere 46 = .ok (.goto 4, 3) := by decide +kernel
theorem dX2_isThere_49 : decode cX2_isThere 49 = .ok (.iconst 0, 1) := by decide +kernel
theorem dX2_isThere_50 : decode cX2_isThere 50 = .ok (.ireturn, 1) := by decide +kernel
set_option maxRecDepth 20000 in
theorem ggX2_thereBelow_X0_below : GoodIn wsX2_thereBelow wsX0_below := goodIn_r _ [8, 9, 10, 11, 12, 7, 13, 14, 15, 16, 17, 18, 35, 36] (by decide +kernel) (by decide +kernel)
set_option maxRecDepth 20000 in
theorem gX2_thereBelow_X0_below : GoodIn wsX2_thereBelow (wsV RX2 114 RX0 yX0_below wsX0_below) := goodIn_app (goodIn_of _ (by decide +kernel)) ggX2_thereBelow_X0_below
set_option maxRecDepth 20000 in
theorem ggX2_thereBelow_X0_at : GoodIn wsX2_thereBelow wsX0_at := goodIn_r _ [13, 14, 15, 16, 17, 7, 18, 9, 35, 36] (by decide +kernel) (by decide +kernel)
set_option maxRecDepth 20000 in
theorem gX2_thereBelow_X0_at : GoodIn wsX2_thereBelow (wsV RX2 134 RX0 yX0_at wsX0_at) := goodIn_app (goodIn_of _ (by decide +kernel)) ggX2_thereBelow_X0_at
theorem dX2_thereBelow_0 : decode cX2_thereBelow 0 = .ok (.aload_n 0, 1) := by decide +kernel
theorem dX2_thereBelow_1 : decode cX2_thereBelow 1 = .ok (.getfield 14, 3) := by decide +kernel
theorem dX2_thereBelow_4 : decode cX2_thereBelow 4 = .ok (.iload_n 1, 1) := by decide +kernel
theorem dX2_thereBelow_5 : decode cX2_thereBelow 5 = .ok (.invokevirtual 114, 3) := by decide +kernel
theorem dX2_thereBelow_8 : decode cX2_thereBelow 8 = .ok (.istore_n 2, 1) := by decide +kernel
theorem dX2_thereBelow_9 : decode cX2_thereBelow 9 = .ok (.aload_n 0, 1) := by decide +kernel
theorem dX2_thereBelow_10 : decode cX2_thereBelow 10 = .ok (.getfield 21, 3) := by decide +kernel
theorem dX2_thereBelow_13 : decode cX2_thereBelow 13 = .ok (.iload_n 1, 1) := by decide +kernel
theorem dX2_thereBelow_14 : decode cX2_thereBelow 14 = .ok (.invokevirtual 114, 3) := by decide +kernel
theorem dX2_thereBelow_17 : decode cX2_thereBelow 17 = .ok (.istore_n 3, 1) := by decide +kernel
theorem dX2_thereBelow_18 : decode cX2_thereBelow 18 = .ok (.iconst 0, 1) := by decide +kernel
theorem dX2_thereBelow_19 : decode cX2_thereBelow 19 = .ok (.istore 4, 2) := by decide +kernel
theorem dX2_thereBelow_21 : decode cX2_thereBelow 21 = .ok (.iload 4, 2) := by decide +kernel
theorem dX2_thereBelow_23 : decode cX2_thereBelow 23 = .ok (.iload_n 2, 1) := by decide +kernel
theorem dX2_thereBelow_24 : decode cX2_thereBelow 24 = .ok (.if_icmp .ge 23, 3) := by decide +kernel
theorem dX2_thereBelow_27 : decode cX2_thereBelow 27 = .ok (.iload_n 3, 1) := by decide +kernel
theorem dX2_thereBelow_28 : decode cX2_thereBelow 28 = .ok (.iconst 1, 1) := by decide +kernel
theorem dX2_thereBelow_29 : decode cX2_thereBelow 29 = .ok (.aload_n 0, 1) := by decide +kernel
theorem dX2_thereBelow_30 : decode cX2_thereBelow 30 = .ok (.getfield 18, 3) := by decide +kernel
theorem dX2_thereBelow_33 : decode cX2_thereBelow 33 = .ok (.iload 4, 2) := by decide +kernel
theorem dX2_thereBelow_35 : decode cX2_thereBelow 35 = .ok (.invokevirtual 134, 3) := by decide +kernel
theorem dX2_thereBelow_38 : decode cX2_thereBelow 38 = .ok (.isub, 1) := by decide +kernel
theorem dX2_thereBelow_39 : decode cX2_thereBelow 39 = .ok (.iadd, 1) := by decide +kernel
theorem dX2_thereBelow_40 : decode cX2_thereBelow 40 = .ok (.istore_n 3, 1) := by decide +kernel
theorem dX2_thereBelow_41 : decode cX2_thereBelow 41 = .ok (.iinc 4 1, 3) := by decide +kernel
theorem dX2_thereBelow_44 : decode cX2_thereBelow 44 = .ok (.goto (-23), 3) := by decide +kernel
theorem dX2_thereBelow_47 : decode cX2_thereBelow 47 = .ok (.iload_n 3, 1) := by decide +kernel
theorem dX2_thereBelow_48 : decode cX2_thereBelow 48 = .ok (.ireturn, 1) := by decide +kernel
set_option maxRecDepth 20000 in
theorem ggX2_keyThere_X2_gatherAll : GoodIn wsX2_keyThere wsX2_gatherAll := goodIn_r _ [6, 1, 7, 8, 9, 10, 11, 12, 13, 14, 15, 16, 17, 18, 19, 20, 21, 5, 22, 23, 24, 25, 26, 27, 28, 29, 30, 31, 32, 33, 34, 35, 36, 37, 38, 39, 40, 41, 42, 43, 44, 45, 46, 47, 48, 49, 50, 51, 52, 53] (by decide +kernel) (by decide +kernel)
set_option maxRecDepth 20000 in
theorem gX2_keyThere_X2_gatherAll : GoodIn wsX2_keyThere (wsV RX2 128 RX2 yX2_gatherAll wsX2_gatherAll) := goodIn_app (goodIn_of _ (by decide +kernel)) ggX2_keyThere_X2_gatherAll
set_option maxRecDepth 20000 in
theorem ggX2_keyThere_X0_at : GoodIn wsX2_keyThere wsX0_at := goodIn_r _ [27, 28, 29, 30, 31, 12, 32, 14, 52, 53] (by decide +kernel) (by decide +kernel)
set_option maxRecDepth 20000 in
theorem gX2_keyThere_X0_at : GoodIn wsX2_keyThere (wsV RX2 134 RX0 yX0_at wsX0_at) := goodIn_app (goodIn_of _ (by decide +kernel)) ggX2_keyThere_X0_at
theorem dX2_keyThere_0 : decode cX2_keyThere 0 = .ok (.aload_n 0, 1) := by decide +kernel
theorem dX2_keyThere_1 : decode cX2_keyThere 1 = .ok (.invokevirtual 128, 3) := by decide +kernel
theorem dX2_keyThere_4 : decode cX2_keyThere 4 = .ok (.aload_n 0, 1) := by decide +kernel
theorem dX2_keyThere_5 : decode cX2_keyThere 5 = .ok (.getfield 40, 3) := by decide +kernel
theorem dX2_keyThere_8 : decode cX2_keyThere 8 = .ok (.iload_n 1, 1) := by decide +kernel
theorem dX2_keyThere_9 : decode cX2_keyThere 9 = .ok (.invokevirtual 134, 3) := by decide +kernel
theorem dX2_keyThere_12 : decode cX2_keyThere 12 = .ok (.ireturn, 1) := by decide +kernel
set_option maxRecDepth 20000 in
theorem ggX2_addLast_X0_length : GoodIn wsX2_addLast wsX0_length := goodIn_r _ [9, 10, 80, 81] (by decide +kernel) (by decide +kernel)
set_option maxRecDepth 20000 in
theorem gX2_addLast_X0_length : GoodIn wsX2_addLast (wsV RX2 76 RX0 yX0_length wsX0_length) := goodIn_app (goodIn_of _ (by decide +kernel)) ggX2_addLast_X0_length
set_option maxRecDepth 20000 in
theorem ggX2_addLast_X0_push : GoodIn wsX2_addLast wsX0_push := goodIn_r _ [14, 10, 15, 80, 81] (by decide +kernel) (by decide +kernel)
set_option maxRecDepth 20000 in
theorem gX2_addLast_X0_push : GoodIn wsX2_addLast (wsV RX2 199 RX0 yX0_push wsX0_push) := goodIn_app (goodIn_of _ (by decide +kernel)) ggX2_addLast_X0_push
set_option maxRecDepth 20000 in
theorem ggX2_addLast_X1_take : GoodIn wsX2_addLast wsX1_take := goodIn_r _ [20, 21, 22, 23, 24, 25, 26, 27, 28, 82, 83, 84, 85, 86, 87, 88] (by decide +kernel) (by decide +kernel)
set_option maxRecDepth 20000 in
theorem gX2_addLast_X1_take : GoodIn wsX2_addLast (wsV RX2 202 RX1 yX1_take wsX1_take) := goodIn_app (goodIn_of _ (by decide +kernel)) ggX2_addLast_X1_take
set_option maxRecDepth 20000 in
theorem ggX2_addLast_X2_noteTailSlope : GoodIn wsX2_addLast wsX2_noteTailSlope := goodIn_r _ [33, 3, 34, 4, 35, 5, 6, 7, 8, 9, 10, 36, 37, 38, 19, 39, 26, 40, 41, 42, 43, 25, 44, 45, 46, 47, 15, 48, 49, 50, 51, 52, 53, 54, 55, 65, 66, 67, 68, 69, 70, 71, 72, 73, 74, 75, 76, 77, 78, 79, 80, 81, 82, 83, 84, 85, 86, 87, 88] (by decide +kernel) (by decide +kernel)
set_option maxRecDepth 20000 in
theorem gX2_addLast_X2_noteTailSlope : GoodIn wsX2_addLast (wsV RX2 206 RX2 yX2_noteTailSlope wsX2_noteTailSlope) := goodIn_app (goodIn_of _ (by decide +kernel)) ggX2_addLast_X2_noteTailSlope
theorem mi_X2_addLast_1 {w : Cond} (h : w ∈ wsX2_addLast_r1) : w ∈ wsX2_addLast := (List.mem_cons_of_mem _ (List.mem_append_left _ (List.mem_append_left _ (List.mem_append_left _ (List.mem_append_left _ h)))))
theorem mi_X2_addLast_2 {w : Cond} (h : w ∈ wsX2_addLast_r2) : w ∈ wsX2_addLast := (List.mem_cons_of_mem _ (List.mem_append_left _ (List.mem_append_left _ (List.mem_append_left _ (List.mem_append_right _ (List.mem_append_left _ h))))))
theorem mi_X2_addLast_3 {w : Cond} (h : w ∈ wsX2_addLast_r3) : w ∈ wsX2_addLast := (List.mem_cons_of_mem _ (List.mem_append_left _ (List.mem_append_left _ (List.mem_append_left _ (List.mem_append_right _ (List.mem_append_right _ h))))))
set_option maxRecDepth 20000 in
theorem gi_X2_addLast_X2_beginPiece_0 : ∀ w ∈ wsX2_beginPiece_r1, w ∈ wsX2_addLast := by
  unfold wsX2_beginPiece_r1
  exact (List.forall_mem_cons.mpr ⟨(mi_X2_addLast_1 (List.mem_of_getElem? (i := 3) rfl)), (List.forall_mem_cons.mpr ⟨(mi_X2_addLast_3 (List.mem_of_getElem? (i := 11) rfl)), (List.forall_mem_cons.mpr ⟨(mi_X2_addLast_1 (List.mem_of_getElem? (i := 2) rfl)), (List.forall_mem_cons.mpr ⟨(mi_X2_addLast_2 (List.mem_of_getElem? (i := 9) rfl)), (List.forall_mem_cons.mpr ⟨(mi_X2_addLast_2 (List.mem_of_getElem? (i := 10) rfl)), (List.forall_mem_cons.mpr ⟨(mi_X2_addLast_3 (List.mem_of_getElem? (i := 12) rfl)), (List.forall_mem_cons.mpr ⟨(mi_X2_addLast_3 (List.mem_of_getElem? (i := 13) rfl)), (List.forall_mem_cons.mpr ⟨(mi_X2_addLast_3 (List.mem_of_getElem? (i := 14) rfl)), (List.forall_mem_cons.mpr ⟨(mi_X2_addLast_1 (List.mem_of_getElem? (i := 18) rfl)), (List.forall_mem_cons.mpr ⟨(mi_X2_addLast_3 (List.mem_of_getElem? (i := 15) rfl)), (List.forall_mem_cons.mpr ⟨(mi_X2_addLast_1 (List.mem_of_getElem? (i := 20) rfl)), (List.forall_mem_cons.mpr ⟨(mi_X2_addLast_1 (List.mem_of_getElem? (i := 21) rfl)), (List.forall_mem_cons.mpr ⟨(mi_X2_addLast_1 (List.mem_of_getElem? (i := 22) rfl)), (List.forall_mem_cons.mpr ⟨(mi_X2_addLast_2 (List.mem_of_getElem? (i := 1) rfl)), (List.forall_mem_cons.mpr ⟨(mi_X2_addLast_2 (List.mem_of_getElem? (i := 0) rfl)), (List.forall_mem_cons.mpr ⟨(mi_X2_addLast_2 (List.mem_of_getElem? (i := 3) rfl)), (List.forall_mem_cons.mpr ⟨(mi_X2_addLast_2 (List.mem_of_getElem? (i := 2) rfl)), (List.forall_mem_cons.mpr ⟨(mi_X2_addLast_1 (List.mem_of_getElem? (i := 10) rfl)), (List.forall_mem_cons.mpr ⟨(mi_X2_addLast_1 (List.mem_of_getElem? (i := 11) rfl)), (List.forall_mem_cons.mpr ⟨(mi_X2_addLast_1 (List.mem_of_getElem? (i := 12) rfl)), (List.forall_mem_cons.mpr ⟨(mi_X2_addLast_1 (List.mem_of_getElem? (i := 7) rfl)), (List.forall_mem_cons.mpr ⟨(mi_X2_addLast_1 (List.mem_of_getElem? (i := 13) rfl)), (List.forall_mem_cons.mpr ⟨(mi_X2_addLast_1 (List.mem_of_getElem? (i := 9) rfl)), (List.forall_mem_cons.mpr ⟨(mi_X2_addLast_1 (List.mem_of_getElem? (i := 14) rfl)), (fun _ h => absurd h List.not_mem_nil)⟩)⟩)⟩)⟩)⟩)⟩)⟩)⟩)⟩)⟩)⟩)⟩)⟩)⟩)⟩)⟩)⟩)⟩)⟩)⟩)⟩)⟩)⟩)⟩)
set_option maxRecDepth 20000 in
theorem gi_X2_addLast_X2_beginPiece_1 : ∀ w ∈ wsX2_beginPiece_r2, w ∈ wsX2_addLast := by
  unfold wsX2_beginPiece_r2
  exact (List.forall_mem_cons.mpr ⟨(mi_X2_addLast_2 (List.mem_of_getElem? (i := 11) rfl)), (List.forall_mem_cons.mpr ⟨(mi_X2_addLast_2 (List.mem_of_getElem? (i := 12) rfl)), (List.forall_mem_cons.mpr ⟨(mi_X2_addLast_2 (List.mem_of_getElem? (i := 13) rfl)), (List.forall_mem_cons.mpr ⟨(mi_X2_addLast_2 (List.mem_of_getElem? (i := 14) rfl)), (List.forall_mem_cons.mpr ⟨(mi_X2_addLast_2 (List.mem_of_getElem? (i := 15) rfl)), (List.forall_mem_cons.mpr ⟨(mi_X2_addLast_2 (List.mem_of_getElem? (i := 16) rfl)), (List.forall_mem_cons.mpr ⟨(mi_X2_addLast_2 (List.mem_of_getElem? (i := 17) rfl)), (List.forall_mem_cons.mpr ⟨(mi_X2_addLast_2 (List.mem_of_getElem? (i := 18) rfl)), (List.forall_mem_cons.mpr ⟨(mi_X2_addLast_3 (List.mem_of_getElem? (i := 3) rfl)), (List.forall_mem_cons.mpr ⟨(mi_X2_addLast_3 (List.mem_of_getElem? (i := 4) rfl)), (List.forall_mem_cons.mpr ⟨(mi_X2_addLast_3 (List.mem_of_getElem? (i := 5) rfl)), (List.forall_mem_cons.mpr ⟨(mi_X2_addLast_3 (List.mem_of_getElem? (i := 6) rfl)), (fun _ h => absurd h List.not_mem_nil)⟩)⟩)⟩)⟩)⟩)⟩)⟩)⟩)⟩)⟩)⟩)⟩)
theorem gi_X2_addLast_X2_beginPiece : GoodIn wsX2_addLast (.code yX2_beginPiece cX2_beginPiece 3 none :: ((wsX2_beginPiece_r1 ++ wsX2_beginPiece_r2) ++ wsX20 ++ wsX10 ++ wsX00)) := goodIn_c (goodIn_sub (List.forall_mem_cons.mpr ⟨(mi_X2_addLast_3 (List.mem_of_getElem? (i := 10) rfl)), fun _ h => absurd h List.not_mem_nil⟩) (by decide +kernel)) (goodIn_app (goodIn_app (goodIn_app (goodIn_app (goodIn_sub gi_X2_addLast_X2_beginPiece_0 (by decide +kernel)) (goodIn_sub gi_X2_addLast_X2_beginPiece_1 (by decide +kernel))) (goodIn_sub (fun _ h => (List.mem_cons_of_mem _ (List.mem_append_left _ (List.mem_append_left _ (List.mem_append_right _ h))))) (by decide +kernel))) (goodIn_sub (fun _ h => (List.mem_cons_of_mem _ (List.mem_append_right _ h))) (by decide +kernel))) (goodIn_sub (fun _ h => (List.mem_cons_of_mem _ (List.mem_append_left _ (List.mem_append_right _ h)))) (by decide +kernel)))
set_option maxRecDepth 20000 in
theorem ggX2_addLast_X2_beginPiece : GoodIn wsX2_addLast wsX2_beginPiece := gi_X2_addLast_X2_beginPiece
set_option maxRecDepth 20000 in
theorem gX2_addLast_X2_beginPiece : GoodIn wsX2_addLast (wsV RX2 209 RX2 yX2_beginPiece wsX2_beginPiece) := goodIn_app (goodIn_of _ (by decide +kernel)) ggX2_addLast_X2_beginPiece
theorem dX2_addLast_0 : decode cX2_addLast 0 = .ok (.aload_n 0, 1) := by decide +kernel
theorem dX2_addLast_1 : decode cX2_addLast 1 = .ok (.getfield 14, 3) := by decide +kernel
theorem dX2_addLast_4 : decode cX2_addLast 4 = .ok (.invokevirtual 76, 3) := by decide +kernel
theorem dX2_addLast_7 : decode cX2_addLast 7 = .ok (.istore_n 2, 1) := by decide +kernel
theorem dX2_addLast_8 : decode cX2_addLast 8 = .ok (.aload_n 0, 1) := by decide +kernel
theorem dX2_addLast_9 : decode cX2_addLast 9 = .ok (.getfield 14, 3) := by decide +kernel
theorem dX2_addLast_12 : decode cX2_addLast 12 = .ok (.iload_n 1, 1) := by decide +kernel
theorem dX2_addLast_13 : decode cX2_addLast 13 = .ok (.invokevirtual 199, 3) := by decide +kernel
theorem dX2_addLast_16 : decode cX2_addLast 16 = .ok (.aload_n 0, 1) := by decide +kernel
theorem dX2_addLast_17 : decode cX2_addLast 17 = .ok (.getfield 18, 3) := by decide +kernel
theorem dX2_addLast_20 : decode cX2_addLast 20 = .ok (.iconst 0, 1) := by decide +kernel
theorem dX2_addLast_21 : decode cX2_addLast 21 = .ok (.invokevirtual 199, 3) := by decide +kernel
theorem dX2_addLast_24 : decode cX2_addLast 24 = .ok (.aload_n 0, 1) := by decide +kernel
theorem dX2_addLast_25 : decode cX2_addLast 25 = .ok (.getfield 24, 3) := by decide +kernel
theorem dX2_addLast_28 : decode cX2_addLast 28 = .ok (.invokevirtual 76, 3) := by decide +kernel
theorem dX2_addLast_31 : decode cX2_addLast 31 = .ok (.ifCond .le 22, 3) := by decide +kernel
theorem dX2_addLast_34 : decode cX2_addLast 34 = .ok (.aload_n 0, 1) := by decide +kernel
theorem dX2_addLast_35 : decode cX2_addLast 35 = .ok (.getfield 36, 3) := by decide +kernel
theorem dX2_addLast_38 : decode cX2_addLast 38 = .ok (.iload_n 1, 1) := by decide +kernel
theorem dX2_addLast_39 : decode cX2_addLast 39 = .ok (.iload_n 2, 1) := by decide +kernel
theorem dX2_addLast_40 : decode cX2_addLast 40 = .ok (.invokevirtual 202, 3) := by decide +kernel
theorem dX2_addLast_43 : decode cX2_addLast 43 = .ok (.ifCond .eq 10, 3) := by decide +kernel
theorem dX2_addLast_46 : decode cX2_addLast 46 = .ok (.aload_n 0, 1) := by decide +kernel
theorem dX2_addLast_47 : decode cX2_addLast 47 = .ok (.invokevirtual 206, 3) := by decide +kernel
theorem dX2_addLast_50 : decode cX2_addLast 50 = .ok (.goto 9, 3) := by decide +kernel
theorem dX2_addLast_53 : decode cX2_addLast 53 = .ok (.aload_n 0, 1) := by decide +kernel
theorem dX2_addLast_54 : decode cX2_addLast 54 = .ok (.iload_n 1, 1) := by decide +kernel
theorem dX2_addLast_55 : decode cX2_addLast 55 = .ok (.iload_n 2, 1) := by decide +kernel
theorem dX2_addLast_56 : decode cX2_addLast 56 = .ok (.invokevirtual 209, 3) := by decide +kernel
theorem dX2_addLast_59 : decode cX2_addLast 59 = .ok (.return_, 1) := by decide +kernel
set_option maxRecDepth 20000 in
theorem ggX2_addLate_X0_below : GoodIn wsX2_addLate wsX0_below := goodIn_r _ [7, 8, 9, 10, 11, 6, 12, 13, 14, 15, 16, 17, 148, 149] (by decide +kernel) (by decide +kernel)
set_option maxRecDepth 20000 in
theorem gX2_addLate_X0_below : GoodIn wsX2_addLate (wsV RX2 114 RX0 yX0_below wsX0_below) := goodIn_app (goodIn_of _ (by decide +kernel)) ggX2_addLate_X0_below
set_option maxRecDepth 20000 in
theorem ggX2_addLate_X0_squeezeIn : GoodIn wsX2_addLate wsX0_squeezeIn := goodIn_r _ [21, 8, 22, 23, 24, 6, 25, 13, 9, 10, 11, 12, 14, 15, 16, 17, 26, 27, 28, 29, 148, 149] (by decide +kernel) (by decide +kernel)
set_option maxRecDepth 20000 in
theorem gX2_addLate_X0_squeezeIn : GoodIn wsX2_addLate (wsV RX2 212 RX0 yX0_squeezeIn wsX0_squeezeIn) := goodIn_app (goodIn_of _ (by decide +kernel)) ggX2_addLate_X0_squeezeIn
set_option maxRecDepth 20000 in
theorem ggX2_addLate_X0_length : GoodIn wsX2_addLate wsX0_length := goodIn_r _ [33, 8, 148, 149] (by decide +kernel) (by decide +kernel)
set_option maxRecDepth 20000 in
theorem gX2_addLate_X0_length : GoodIn wsX2_addLate (wsV RX2 76 RX0 yX0_length wsX0_length) := goodIn_app (goodIn_of _ (by decide +kernel)) ggX2_addLate_X0_length
theorem mi_X2_addLate_1 {w : Cond} (h : w ∈ wsX2_addLate_r1) : w ∈ wsX2_addLate := (List.mem_cons_of_mem _ (List.mem_append_left _ (List.mem_append_left _ (List.mem_append_left _ (List.mem_append_left _ h)))))
theorem mi_X2_addLate_2 {w : Cond} (h : w ∈ wsX2_addLate_r2) : w ∈ wsX2_addLate := (List.mem_cons_of_mem _ (List.mem_append_left _ (List.mem_append_left _ (List.mem_append_left _ (List.mem_append_right _ (List.mem_append_left _ h))))))
theorem mi_X2_addLate_3 {w : Cond} (h : w ∈ wsX2_addLate_r3) : w ∈ wsX2_addLate := (List.mem_cons_of_mem _ (List.mem_append_left _ (List.mem_append_left _ (List.mem_append_left _ (List.mem_append_right _ (List.mem_append_right _ (List.mem_append_left _ h)))))))
theorem mi_X2_addLate_4 {w : Cond} (h : w ∈ wsX2_addLate_r4) : w ∈ wsX2_addLate := (List.mem_cons_of_mem _ (List.mem_append_left _ (List.mem_append_left _ (List.mem_append_left _ (List.mem_append_right _ (List.mem_append_right _ (List.mem_append_right _ (List.mem_append_left _ h))))))))
theorem mi_X2_addLate_5 {w : Cond} (h : w ∈ wsX2_addLate_r5) : w ∈ wsX2_addLate := (List.mem_cons_of_mem _ (List.mem_append_left _ (List.mem_append_left _ (List.mem_append_left _ (List.mem_append_right _ (List.mem_append_right _ (List.mem_append_right _ (List.mem_append_right _ (List.mem_append_left _ h)))))))))
theorem mi_X2_addLate_6 {w : Cond} (h : w ∈ wsX2_addLate_r6) : w ∈ wsX2_addLate := (List.mem_cons_of_mem _ (List.mem_append_left _ (List.mem_append_left _ (List.mem_append_left _ (List.mem_append_right _ (List.mem_append_right _ (List.mem_append_right _ (List.mem_append_right _ (List.mem_append_right _ h)))))))))
set_option maxRecDepth 20000 in
theorem gi_X2_addLate_X2_mergeAll_0 : ∀ w ∈ wsX2_mergeAll_r1, w ∈ wsX2_addLate := by
  unfold wsX2_mergeAll_r1
  exact (List.forall_mem_cons.mpr ⟨(mi_X2_addLate_2 (List.mem_of_getElem? (i := 14) rfl)), (List.forall_mem_cons.mpr ⟨(mi_X2_addLate_2 (List.mem_of_getElem? (i := 15) rfl)), (List.forall_mem_cons.mpr ⟨(mi_X2_addLate_2 (List.mem_of_getElem? (i := 16) rfl)), (List.forall_mem_cons.mpr ⟨(mi_X2_addLate_1 (List.mem_of_getElem? (i := 0) rfl)), (List.forall_mem_cons.mpr ⟨(mi_X2_addLate_2 (List.mem_of_getElem? (i := 17) rfl)), (List.forall_mem_cons.mpr ⟨(mi_X2_addLate_2 (List.mem_of_getElem? (i := 18) rfl)), (List.forall_mem_cons.mpr ⟨(mi_X2_addLate_2 (List.mem_of_getElem? (i := 19) rfl)), (List.forall_mem_cons.mpr ⟨(mi_X2_addLate_2 (List.mem_of_getElem? (i := 20) rfl)), (List.forall_mem_cons.mpr ⟨(mi_X2_addLate_2 (List.mem_of_getElem? (i := 21) rfl)), (List.forall_mem_cons.mpr ⟨(mi_X2_addLate_2 (List.mem_of_getElem? (i := 22) rfl)), (List.forall_mem_cons.mpr ⟨(mi_X2_addLate_1 (List.mem_of_getElem? (i := 5) rfl)), (List.forall_mem_cons.mpr ⟨(mi_X2_addLate_2 (List.mem_of_getElem? (i := 23) rfl)), (List.forall_mem_cons.mpr ⟨(mi_X2_addLate_1 (List.mem_of_getElem? (i := 7) rfl)), (List.forall_mem_cons.mpr ⟨(mi_X2_addLate_2 (List.mem_of_getElem? (i := 5) rfl)), (List.forall_mem_cons.mpr ⟨(mi_X2_addLate_2 (List.mem_of_getElem? (i := 6) rfl)), (List.forall_mem_cons.mpr ⟨(mi_X2_addLate_2 (List.mem_of_getElem? (i := 7) rfl)), (List.forall_mem_cons.mpr ⟨(mi_X2_addLate_2 (List.mem_of_getElem? (i := 8) rfl)), (List.forall_mem_cons.mpr ⟨(mi_X2_addLate_3 (List.mem_of_getElem? (i := 0) rfl)), (List.forall_mem_cons.mpr ⟨(mi_X2_addLate_3 (List.mem_of_getElem? (i := 1) rfl)), (List.forall_mem_cons.mpr ⟨(mi_X2_addLate_3 (List.mem_of_getElem? (i := 2) rfl)), (List.forall_mem_cons.mpr ⟨(mi_X2_addLate_2 (List.mem_of_getElem? (i := 12) rfl)), (List.forall_mem_cons.mpr ⟨(mi_X2_addLate_3 (List.mem_of_getElem? (i := 3) rfl)), (List.forall_mem_cons.mpr ⟨(mi_X2_addLate_3 (List.mem_of_getElem? (i := 4) rfl)), (List.forall_mem_cons.mpr ⟨(mi_X2_addLate_1 (List.mem_of_getElem? (i := 9) rfl)), (fun _ h => absurd h List.not_mem_nil)⟩)⟩)⟩)⟩)⟩)⟩)⟩)⟩)⟩)⟩)⟩)⟩)⟩)⟩)⟩)⟩)⟩)⟩)⟩)⟩)⟩)⟩)⟩)⟩)
set_option maxRecDepth 20000 in
theorem gi_X2_addLate_X2_mergeAll_1 : ∀ w ∈ wsX2_mergeAll_r2, w ∈ wsX2_addLate := by
  unfold wsX2_mergeAll_r2
  exact (List.forall_mem_cons.mpr ⟨(mi_X2_addLate_1 (List.mem_of_getElem? (i := 10) rfl)), (List.forall_mem_cons.mpr ⟨(mi_X2_addLate_1 (List.mem_of_getElem? (i := 11) rfl)), (List.forall_mem_cons.mpr ⟨(mi_X2_addLate_1 (List.mem_of_getElem? (i := 12) rfl)), (List.forall_mem_cons.mpr ⟨(mi_X2_addLate_1 (List.mem_of_getElem? (i := 13) rfl)), (List.forall_mem_cons.mpr ⟨(mi_X2_addLate_1 (List.mem_of_getElem? (i := 14) rfl)), (List.forall_mem_cons.mpr ⟨(mi_X2_addLate_1 (List.mem_of_getElem? (i := 15) rfl)), (List.forall_mem_cons.mpr ⟨(mi_X2_addLate_1 (List.mem_of_getElem? (i := 16) rfl)), (List.forall_mem_cons.mpr ⟨(mi_X2_addLate_3 (List.mem_of_getElem? (i := 5) rfl)), (List.forall_mem_cons.mpr ⟨(mi_X2_addLate_1 (List.mem_of_getElem? (i := 22) rfl)), (List.forall_mem_cons.mpr ⟨(mi_X2_addLate_1 (List.mem_of_getElem? (i := 23) rfl)), (List.forall_mem_cons.mpr ⟨(mi_X2_addLate_2 (List.mem_of_getElem? (i := 0) rfl)), (List.forall_mem_cons.mpr ⟨(mi_X2_addLate_3 (List.mem_of_getElem? (i := 6) rfl)), (List.forall_mem_cons.mpr ⟨(mi_X2_addLate_3 (List.mem_of_getElem? (i := 7) rfl)), (List.forall_mem_cons.mpr ⟨(mi_X2_addLate_3 (List.mem_of_getElem? (i := 8) rfl)), (List.forall_mem_cons.mpr ⟨(mi_X2_addLate_3 (List.mem_of_getElem? (i := 9) rfl)), (List.forall_mem_cons.mpr ⟨(mi_X2_addLate_3 (List.mem_of_getElem? (i := 10) rfl)), (List.forall_mem_cons.mpr ⟨(mi_X2_addLate_3 (List.mem_of_getElem? (i := 11) rfl)), (List.forall_mem_cons.mpr ⟨(mi_X2_addLate_3 (List.mem_of_getElem? (i := 12) rfl)), (List.forall_mem_cons.mpr ⟨(mi_X2_addLate_3 (List.mem_of_getElem? (i := 13) rfl)), (List.forall_mem_cons.mpr ⟨(mi_X2_addLate_3 (List.mem_of_getElem? (i := 14) rfl)), (List.forall_mem_cons.mpr ⟨(mi_X2_addLate_3 (List.mem_of_getElem? (i := 15) rfl)), (List.forall_mem_cons.mpr ⟨(mi_X2_addLate_3 (List.mem_of_getElem? (i := 16) rfl)), (List.forall_mem_cons.mpr ⟨(mi_X2_addLate_3 (List.mem_of_getElem? (i := 17) rfl)), (List.forall_mem_cons.mpr ⟨(mi_X2_addLate_3 (List.mem_of_getElem? (i := 18) rfl)), (fun _ h => absurd h List.not_mem_nil)⟩)⟩)⟩)⟩)⟩)⟩)⟩)⟩)⟩)⟩)⟩)⟩)⟩)⟩)⟩)⟩)⟩)⟩)⟩)⟩)⟩)⟩)⟩)⟩)
set_option maxRecDepth 20000 in
theorem gi_X2_addLate_X2_mergeAll_2 : ∀ w ∈ wsX2_mergeAll_r3, w ∈ wsX2_addLate := by
  unfold wsX2_mergeAll_r3
  exact (List.forall_mem_cons.mpr ⟨(mi_X2_addLate_3 (List.mem_of_getElem? (i := 19) rfl)), (List.forall_mem_cons.mpr ⟨(mi_X2_addLate_3 (List.mem_of_getElem? (i := 20) rfl)), (List.forall_mem_cons.mpr ⟨(mi_X2_addLate_3 (List.mem_of_getElem? (i := 21) rfl)), (List.forall_mem_cons.mpr ⟨(mi_X2_addLate_3 (List.mem_of_getElem? (i := 22) rfl)), (List.forall_mem_cons.mpr ⟨(mi_X2_addLate_3 (List.mem_of_getElem? (i := 23) rfl)), (List.forall_mem_cons.mpr ⟨(mi_X2_addLate_4 (List.mem_of_getElem? (i := 0) rfl)), (List.forall_mem_cons.mpr ⟨(mi_X2_addLate_4 (List.mem_of_getElem? (i := 1) rfl)), (List.forall_mem_cons.mpr ⟨(mi_X2_addLate_4 (List.mem_of_getElem? (i := 2) rfl)), (List.forall_mem_cons.mpr ⟨(mi_X2_addLate_4 (List.mem_of_getElem? (i := 3) rfl)), (List.forall_mem_cons.mpr ⟨(mi_X2_addLate_4 (List.mem_of_getElem? (i := 4) rfl)), (List.forall_mem_cons.mpr ⟨(mi_X2_addLate_4 (List.mem_of_getElem? (i := 5) rfl)), (List.forall_mem_cons.mpr ⟨(mi_X2_addLate_4 (List.mem_of_getElem? (i := 6) rfl)), (List.forall_mem_cons.mpr ⟨(mi_X2_addLate_4 (List.mem_of_getElem? (i := 7) rfl)), (List.forall_mem_cons.mpr ⟨(mi_X2_addLate_4 (List.mem_of_getElem? (i := 8) rfl)), (List.forall_mem_cons.mpr ⟨(mi_X2_addLate_4 (List.mem_of_getElem? (i := 9) rfl)), (List.forall_mem_cons.mpr ⟨(mi_X2_addLate_4 (List.mem_of_getElem? (i := 10) rfl)), (List.forall_mem_cons.mpr ⟨(mi_X2_addLate_4 (List.mem_of_getElem? (i := 11) rfl)), (List.forall_mem_cons.mpr ⟨(mi_X2_addLate_4 (List.mem_of_getElem? (i := 12) rfl)), (List.forall_mem_cons.mpr ⟨(mi_X2_addLate_4 (List.mem_of_getElem? (i := 13) rfl)), (List.forall_mem_cons.mpr ⟨(mi_X2_addLate_1 (List.mem_of_getElem? (i := 2) rfl)), (List.forall_mem_cons.mpr ⟨(mi_X2_addLate_1 (List.mem_of_getElem? (i := 3) rfl)), (List.forall_mem_cons.mpr ⟨(mi_X2_addLate_1 (List.mem_of_getElem? (i := 4) rfl)), (List.forall_mem_cons.mpr ⟨(mi_X2_addLate_1 (List.mem_of_getElem? (i := 6) rfl)), (List.forall_mem_cons.mpr ⟨(mi_X2_addLate_1 (List.mem_of_getElem? (i := 8) rfl)), (fun _ h => absurd h List.not_mem_nil)⟩)⟩)⟩)⟩)⟩)⟩)⟩)⟩)⟩)⟩)⟩)⟩)⟩)⟩)⟩)⟩)⟩)⟩)⟩)⟩)⟩)⟩)⟩)⟩)
set_option maxRecDepth 20000 in
theorem gi_X2_addLate_X2_mergeAll_3 : ∀ w ∈ wsX2_mergeAll_r4, w ∈ wsX2_addLate := by
  unfold wsX2_mergeAll_r4
  exact (List.forall_mem_cons.mpr ⟨(mi_X2_addLate_4 (List.mem_of_getElem? (i := 14) rfl)), (List.forall_mem_cons.mpr ⟨(mi_X2_addLate_4 (List.mem_of_getElem? (i := 15) rfl)), (List.forall_mem_cons.mpr ⟨(mi_X2_addLate_4 (List.mem_of_getElem? (i := 16) rfl)), (List.forall_mem_cons.mpr ⟨(mi_X2_addLate_4 (List.mem_of_getElem? (i := 17) rfl)), (List.forall_mem_cons.mpr ⟨(mi_X2_addLate_4 (List.mem_of_getElem? (i := 18) rfl)), (List.forall_mem_cons.mpr ⟨(mi_X2_addLate_4 (List.mem_of_getElem? (i := 19) rfl)), (List.forall_mem_cons.mpr ⟨(mi_X2_addLate_4 (List.mem_of_getElem? (i := 20) rfl)), (List.forall_mem_cons.mpr ⟨(mi_X2_addLate_4 (List.mem_of_getElem? (i := 21) rfl)), (List.forall_mem_cons.mpr ⟨(mi_X2_addLate_4 (List.mem_of_getElem? (i := 22) rfl)), (List.forall_mem_cons.mpr ⟨(mi_X2_addLate_4 (List.mem_of_getElem? (i := 23) rfl)), (List.forall_mem_cons.mpr ⟨(mi_X2_addLate_5 (List.mem_of_getElem? (i := 0) rfl)), (List.forall_mem_cons.mpr ⟨(mi_X2_addLate_5 (List.mem_of_getElem? (i := 1) rfl)), (List.forall_mem_cons.mpr ⟨(mi_X2_addLate_5 (List.mem_of_getElem? (i := 2) rfl)), (List.forall_mem_cons.mpr ⟨(mi_X2_addLate_5 (List.mem_of_getElem? (i := 3) rfl)), (List.forall_mem_cons.mpr ⟨(mi_X2_addLate_5 (List.mem_of_getElem? (i := 4) rfl)), (List.forall_mem_cons.mpr ⟨(mi_X2_addLate_5 (List.mem_of_getElem? (i := 5) rfl)), (List.forall_mem_cons.mpr ⟨(mi_X2_addLate_5 (List.mem_of_getElem? (i := 6) rfl)), (List.forall_mem_cons.mpr ⟨(mi_X2_addLate_5 (List.mem_of_getElem? (i := 7) rfl)), (List.forall_mem_cons.mpr ⟨(mi_X2_addLate_5 (List.mem_of_getElem? (i := 8) rfl)), (List.forall_mem_cons.mpr ⟨(mi_X2_addLate_5 (List.mem_of_getElem? (i := 9) rfl)), (List.forall_mem_cons.mpr ⟨(mi_X2_addLate_5 (List.mem_of_getElem? (i := 10) rfl)), (List.forall_mem_cons.mpr ⟨(mi_X2_addLate_5 (List.mem_of_getElem? (i := 11) rfl)), (List.forall_mem_cons.mpr ⟨(mi_X2_addLate_5 (List.mem_of_getElem? (i := 12) rfl)), (List.forall_mem_cons.mpr ⟨(mi_X2_addLate_5 (List.mem_of_getElem? (i := 13) rfl)), (fun _ h => absurd h List.not_mem_nil)⟩)⟩)⟩)⟩)⟩)⟩)⟩)⟩)⟩)⟩)⟩)⟩)⟩)⟩)⟩)⟩)⟩)⟩)⟩)⟩)⟩)⟩)⟩)⟩)
set_option maxRecDepth 20000 in
theorem gi_X2_addLate_X2_mergeAll_4 : ∀ w ∈ wsX2_mergeAll_r5, w ∈ wsX2_addLate := by
  unfold wsX2_mergeAll_r5
  exact (List.forall_mem_cons.mpr ⟨(mi_X2_addLate_5 (List.mem_of_getElem? (i := 14) rfl)), (List.forall_mem_cons.mpr ⟨(mi_X2_addLate_5 (List.mem_of_getElem? (i := 15) rfl)), (List.forall_mem_cons.mpr ⟨(mi_X2_addLate_5 (List.mem_of_getElem? (i := 16) rfl)), (List.forall_mem_cons.mpr ⟨(mi_X2_addLate_5 (List.mem_of_getElem? (i := 17) rfl)), (List.forall_mem_cons.mpr ⟨(mi_X2_addLate_5 (List.mem_of_getElem? (i := 18) rfl)), (List.forall_mem_cons.mpr ⟨(mi_X2_addLate_5 (List.mem_of_getElem? (i := 19) rfl)), (List.forall_mem_cons.mpr ⟨(mi_X2_addLate_5 (List.mem_of_getElem? (i := 20) rfl)), (List.forall_mem_cons.mpr ⟨(mi_X2_addLate_5 (List.mem_of_getElem? (i := 21) rfl)), (List.forall_mem_cons.mpr ⟨(mi_X2_addLate_5 (List.mem_of_getElem? (i := 22) rfl)), (List.forall_mem_cons.mpr ⟨(mi_X2_addLate_5 (List.mem_of_getElem? (i := 23) rfl)), (List.forall_mem_cons.mpr ⟨(mi_X2_addLate_6 (List.mem_of_getElem? (i := 0) rfl)), (List.forall_mem_cons.mpr ⟨(mi_X2_addLate_6 (List.mem_of_getElem? (i := 1) rfl)), (List.forall_mem_cons.mpr ⟨(mi_X2_addLate_6 (List.mem_of_getElem? (i := 2) rfl)), (List.forall_mem_cons.mpr ⟨(mi_X2_addLate_6 (List.mem_of_getElem? (i := 3) rfl)), (List.forall_mem_cons.mpr ⟨(mi_X2_addLate_6 (List.mem_of_getElem? (i := 4) rfl)), (List.forall_mem_cons.mpr ⟨(mi_X2_addLate_6 (List.mem_of_getElem? (i := 5) rfl)), (List.forall_mem_cons.mpr ⟨(mi_X2_addLate_6 (List.mem_of_getElem? (i := 6) rfl)), (List.forall_mem_cons.mpr ⟨(mi_X2_addLate_6 (List.mem_of_getElem? (i := 7) rfl)), (List.forall_mem_cons.mpr ⟨(mi_X2_addLate_6 (List.mem_of_getElem? (i := 8) rfl)), (List.forall_mem_cons.mpr ⟨(mi_X2_addLate_6 (List.mem_of_getElem? (i := 9) rfl)), (List.forall_mem_cons.mpr ⟨(mi_X2_addLate_6 (List.mem_of_getElem? (i := 10) rfl)), (List.forall_mem_cons.mpr ⟨(mi_X2_addLate_6 (List.mem_of_getElem? (i := 11) rfl)), (List.forall_mem_cons.mpr ⟨(mi_X2_addLate_2 (List.mem_of_getElem? (i := 2) rfl)), (List.forall_mem_cons.mpr ⟨(mi_X2_addLate_2 (List.mem_of_getElem? (i := 3) rfl)), (fun _ h => absurd h List.not_mem_nil)⟩)⟩)⟩)⟩)⟩)⟩)⟩)⟩)⟩)⟩)⟩)⟩)⟩)⟩)⟩)⟩)⟩)⟩)⟩)⟩)⟩)⟩)⟩)⟩)
set_option maxRecDepth 20000 in
theorem gi_X2_addLate_X2_mergeAll_5 : ∀ w ∈ wsX2_mergeAll_r6, w ∈ wsX2_addLate := by
  unfold wsX2_mergeAll_r6
  exact (List.forall_mem_cons.mpr ⟨(mi_X2_addLate_2 (List.mem_of_getElem? (i := 4) rfl)), (fun _ h => absurd h List.not_mem_nil)⟩)
theorem gi_X2_addLate_X2_mergeAll : GoodIn wsX2_addLate (.code yX2_mergeAll cX2_mergeAll 2 none :: ((wsX2_mergeAll_r1 ++ (wsX2_mergeAll_r2 ++ (wsX2_mergeAll_r3 ++ (wsX2_mergeAll_r4 ++ (wsX2_mergeAll_r5 ++ wsX2_mergeAll_r6))))) ++ wsX20 ++ wsX00 ++ wsX10)) := goodIn_c (goodIn_sub (List.forall_mem_cons.mpr ⟨(mi_X2_addLate_2 (List.mem_of_getElem? (i := 13) rfl)), fun _ h => absurd h List.not_mem_nil⟩) (by decide +kernel)) (goodIn_app (goodIn_app (goodIn_app (goodIn_app (goodIn_sub gi_X2_addLate_X2_mergeAll_0 (by decide +kernel)) (goodIn_app (goodIn_sub gi_X2_addLate_X2_mergeAll_1 (by decide +kernel)) (goodIn_app (goodIn_sub gi_X2_addLate_X2_mergeAll_2 (by decide +kernel)) (goodIn_app (goodIn_sub gi_X2_addLate_X2_mergeAll_3 (by decide +kernel)) (goodIn_app (goodIn_sub gi_X2_addLate_X2_mergeAll_4 (by decide +kernel)) (goodIn_sub gi_X2_addLate_X2_mergeAll_5 (by decide +kernel))))))) (goodIn_sub (fun _ h => (List.mem_cons_of_mem _ (List.mem_append_left _ (List.mem_append_left _ (List.mem_append_right _ h))))) (by decide +kernel))) (goodIn_sub (fun _ h => (List.mem_cons_of_mem _ (List.mem_append_left _ (List.mem_append_right _ h)))) (by decide +kernel))) (goodIn_sub (fun _ h => (List.mem_cons_of_mem _ (List.mem_append_right _ h))) (by decide +kernel)))
set_option maxRecDepth 20000 in
theorem ggX2_addLate_X2_mergeAll : GoodIn wsX2_addLate wsX2_mergeAll := gi_X2_addLate_X2_mergeAll
set_option maxRecDepth 20000 in
theorem gX2_addLate_X2_mergeAll : GoodIn wsX2_addLate (wsV RX2 123 RX2 yX2_mergeAll wsX2_mergeAll) := goodIn_app (goodIn_of _ (by decide +kernel)) ggX2_addLate_X2_mergeAll
theorem dX2_addLate_0 : decode cX2_addLate 0 = .ok (.aload_n 0, 1) := by decide +kernel
theorem dX2_addLate_1 : decode cX2_addLate 1 = .ok (.getfield 21, 3) := by decide +kernel
theorem dX2_addLate_4 : decode cX2_addLate 4 = .ok (.aload_n 0, 1) := by decide +kernel
theorem dX2_addLate_5 : decode cX2_addLate 5 = .ok (.getfield 21, 3) := by decide +kernel
theorem dX2_addLate_8 : decode cX2_addLate 8 = .ok (.iload_n 1, 1) := by decide +kernel
theorem dX2_addLate_9 : decode cX2_addLate 9 = .ok (.invokevirtual 114, 3) := by decide +kernel
theorem dX2_addLate_12 : decode cX2_addLate 12 = .ok (.iload_n 1, 1) := by decide +kernel
theorem dX2_addLate_13 : decode cX2_addLate 13 = .ok (.invokevirtual 212, 3) := by decide +kernel
theorem dX2_addLate_16 : decode cX2_addLate 16 = .ok (.aload_n 0, 1) := by decide +kernel
theorem dX2_addLate_17 : decode cX2_addLate 17 = .ok (.getfield 21, 3) := by decide +kernel
theorem dX2_addLate_20 : decode cX2_addLate 20 = .ok (.invokevirtual 76, 3) := by decide +kernel
theorem dX2_addLate_23 : decode cX2_addLate 23 = .ok (.aload_n 0, 1) := by decide +kernel
theorem dX2_addLate_24 : decode cX2_addLate 24 = .ok (.getfield 50, 3) := by decide +kernel
theorem dX2_addLate_27 : decode cX2_addLate 27 = .ok (.if_icmp .lt 7, 3) := by decide +kernel
theorem dX2_addLate_30 : decode cX2_addLate 30 = .ok (.aload_n 0, 1) := by decide +kernel
theorem dX2_addLate_31 : decode cX2_addLate 31 = .ok (.invokevirtual 123, 3) := by decide +kernel
theorem dX2_addLate_34 : decode cX2_addLate 34 = .ok (.return_, 1) := by decide +kernel
set_option maxRecDepth 20000 in
theorem ggX2_clearRow_X0_clear : GoodIn wsX2_clearRow wsX0_clear := goodIn_r _ [9, 10, 34, 35] (by decide +kernel) (by decide +kernel)
set_option maxRecDepth 20000 in
theorem gX2_clearRow_X0_clear : GoodIn wsX2_clearRow (wsV RX2 215 RX0 yX0_clear wsX0_clear) := goodIn_app (goodIn_of _ (by decide +kernel)) ggX2_clearRow_X0_clear
set_option maxRecDepth 20000 in
theorem ggX2_clearRow_X2_clearPieces : GoodIn wsX2_clearRow wsX2_clearPieces := goodIn_r _ [15, 16, 17, 18, 5, 6, 7, 8, 9, 10, 19, 20, 21, 22, 23, 24, 25, 26, 27, 28, 29, 30, 31, 32, 33, 34, 35] (by decide +kernel) (by decide +kernel)
set_option maxRecDepth 20000 in
theorem gX2_clearRow_X2_clearPieces : GoodIn wsX2_clearRow (wsV RX2 218 RX2 yX2_clearPieces wsX2_clearPieces) := goodIn_app (goodIn_of _ (by decide +kernel)) ggX2_clearRow_X2_clearPieces
theorem dX2_clearRow_0 : decode cX2_clearRow 0 = .ok (.aload_n 0, 1) := by decide +kernel
theorem dX2_clearRow_1 : decode cX2_clearRow 1 = .ok (.getfield 14, 3) := by decide +kernel
theorem dX2_clearRow_4 : decode cX2_clearRow 4 = .ok (.invokevirtual 215, 3) := by decide +kernel
theorem dX2_clearRow_7 : decode cX2_clearRow 7 = .ok (.aload_n 0, 1) := by decide +kernel
theorem dX2_clearRow_8 : decode cX2_clearRow 8 = .ok (.getfield 18, 3) := by decide +kernel
theorem dX2_clearRow_11 : decode cX2_clearRow 11 = .ok (.invokevirtual 215, 3) := by decide +kernel
theorem dX2_clearRow_14 : decode cX2_clearRow 14 = .ok (.aload_n 0, 1) := by decide +kernel
theorem dX2_clearRow_15 : decode cX2_clearRow 15 = .ok (.iconst 0, 1) := by decide +kernel
theorem dX2_clearRow_16 : decode cX2_clearRow 16 = .ok (.putfield 53, 3) := by decide +kernel
theorem dX2_clearRow_19 : decode cX2_clearRow 19 = .ok (.aload_n 0, 1) := by decide +kernel
theorem dX2_clearRow_20 : decode cX2_clearRow 20 = .ok (.getfield 21, 3) := by decide +kernel
theorem dX2_clearRow_23 : decode cX2_clearRow 23 = .ok (.invokevirtual 215, 3) := by decide +kernel
theorem dX2_clearRow_26 : decode cX2_clearRow 26 = .ok (.aload_n 0, 1) := by decide +kernel
theorem dX2_clearRow_27 : decode cX2_clearRow 27 = .ok (.invokevirtual 218, 3) := by decide +kernel
theorem dX2_clearRow_30 : decode cX2_clearRow 30 = .ok (.return_, 1) := by decide +kernel
set_option maxRecDepth 20000 in
theorem ggX2_clearPieces_X0_clear : GoodIn wsX2_clearPieces wsX0_clear := goodIn_r _ [8, 9, 25, 26] (by decide +kernel) (by decide +kernel)
set_option maxRecDepth 20000 in
theorem gX2_clearPieces_X0_clear : GoodIn wsX2_clearPieces (wsV RX2 215 RX0 yX0_clear wsX0_clear) := goodIn_app (goodIn_of _ (by decide +kernel)) ggX2_clearPieces_X0_clear
theorem dX2_clearPieces_0 : decode cX2_clearPieces 0 = .ok (.aload_n 0, 1) := by decide +kernel
theorem dX2_clearPieces_1 : decode cX2_clearPieces 1 = .ok (.getfield 24, 3) := by decide +kernel
theorem dX2_clearPieces_4 : decode cX2_clearPieces 4 = .ok (.invokevirtual 215, 3) := by decide +kernel
theorem dX2_clearPieces_7 : decode cX2_clearPieces 7 = .ok (.aload_n 0, 1) := by decide +kernel
theorem dX2_clearPieces_8 : decode cX2_clearPieces 8 = .ok (.getfield 27, 3) := by decide +kernel
theorem dX2_clearPieces_11 : decode cX2_clearPieces 11 = .ok (.invokevirtual 215, 3) := by decide +kernel
theorem dX2_clearPieces_14 : decode cX2_clearPieces 14 = .ok (.aload_n 0, 1) := by decide +kernel
theorem dX2_clearPieces_15 : decode cX2_clearPieces 15 = .ok (.getfield 30, 3) := by decide +kernel
theorem dX2_clearPieces_18 : decode cX2_clearPieces 18 = .ok (.invokevirtual 215, 3) := by decide +kernel
theorem dX2_clearPieces_21 : decode cX2_clearPieces 21 = .ok (.return_, 1) := by decide +kernel
set_option maxRecDepth 20000 in
theorem ggX2_beginPiece_X1_begin : GoodIn wsX2_beginPiece wsX1_begin := goodIn_r _ [10, 11, 12, 13, 14, 15, 16, 17, 52, 53, 54, 55, 56, 57, 58] (by decide +kernel) (by decide +kernel)
set_option maxRecDepth 20000 in
theorem gX2_beginPiece_X1_begin : GoodIn wsX2_beginPiece (wsV RX2 221 RX1 yX1_begin wsX1_begin) := goodIn_app (goodIn_of _ (by decide +kernel)) ggX2_beginPiece_X1_begin
set_option maxRecDepth 20000 in
theorem ggX2_beginPiece_X0_push : GoodIn wsX2_beginPiece wsX0_push := goodIn_r _ [22, 23, 24, 59, 60] (by decide +kernel) (by decide +kernel)
set_option maxRecDepth 20000 in
theorem gX2_beginPiece_X0_push : GoodIn wsX2_beginPiece (wsV RX2 199 RX0 yX0_push wsX0_push) := goodIn_app (goodIn_of _ (by decide +kernel)) ggX2_beginPiece_X0_push
set_option maxRecDepth 20000 in
theorem ggX2_beginPiece_X1_leastRise : GoodIn wsX2_beginPiece wsX1_leastRise := goodIn_r _ [28, 14, 29, 30, 31, 9, 32, 15, 52, 53, 54, 55, 56, 57, 58] (by decide +kernel) (by decide +kernel)
set_option maxRecDepth 20000 in
theorem gX2_beginPiece_X1_leastRise : GoodIn wsX2_beginPiece (wsV RX2 225 RX1 yX1_leastRise wsX1_leastRise) := goodIn_app (goodIn_of _ (by decide +kernel)) ggX2_beginPiece_X1_leastRise
set_option maxRecDepth 20000 in
theorem ggX2_beginPiece_X1_leastRun : GoodIn wsX2_beginPiece wsX1_leastRun := goodIn_r _ [36, 15, 29, 30, 31, 9, 32, 14, 52, 53, 54, 55, 56, 57, 58] (by decide +kernel) (by decide +kernel)
set_option maxRecDepth 20000 in
theorem gX2_beginPiece_X1_leastRun : GoodIn wsX2_beginPiece (wsV RX2 228 RX1 yX1_leastRun wsX1_leastRun) := goodIn_app (goodIn_of _ (by decide +kernel)) ggX2_beginPiece_X1_leastRun
theorem dX2_beginPiece_0 : decode cX2_beginPiece 0 = .ok (.aload_n 0, 1) := by decide +kernel
theorem dX2_beginPiece_1 : decode cX2_beginPiece 1 = .ok (.getfield 36, 3) := by decide +kernel
theorem dX2_beginPiece_4 : decode cX2_beginPiece 4 = .ok (.iload_n 1, 1) := by decide +kernel
theorem dX2_beginPiece_5 : decode cX2_beginPiece 5 = .ok (.iload_n 2, 1) := by decide +kernel
theorem dX2_beginPiece_6 : decode cX2_beginPiece 6 = .ok (.aload_n 0, 1) := by decide +kernel
theorem dX2_beginPiece_7 : decode cX2_beginPiece 7 = .ok (.getfield 46, 3) := by decide +kernel
theorem dX2_beginPiece_10 : decode cX2_beginPiece 10 = .ok (.invokevirtual 221, 3) := by decide +kernel
theorem dX2_beginPiece_13 : decode cX2_beginPiece 13 = .ok (.aload_n 0, 1) := by decide +kernel
theorem dX2_beginPiece_14 : decode cX2_beginPiece 14 = .ok (.getfield 24, 3) := by decide +kernel
theorem dX2_beginPiece_17 : decode cX2_beginPiece 17 = .ok (.iload_n 2, 1) := by decide +kernel
theorem dX2_beginPiece_18 : decode cX2_beginPiece 18 = .ok (.invokevirtual 199, 3) := by decide +kernel
theorem dX2_beginPiece_21 : decode cX2_beginPiece 21 = .ok (.aload_n 0, 1) := by decide +kernel
theorem dX2_beginPiece_22 : decode cX2_beginPiece 22 = .ok (.getfield 27, 3) := by decide +kernel
theorem dX2_beginPiece_25 : decode cX2_beginPiece 25 = .ok (.aload_n 0, 1) := by decide +kernel
theorem dX2_beginPiece_26 : decode cX2_beginPiece 26 = .ok (.getfield 36, 3) := by decide +kernel
theorem dX2_beginPiece_29 : decode cX2_beginPiece 29 = .ok (.invokevirtual 225, 3) := by decide +kernel
theorem dX2_beginPiece_32 : decode cX2_beginPiece 32 = .ok (.invokevirtual 199, 3) := by decide +kernel
theorem dX2_beginPiece_35 : decode cX2_beginPiece 35 = .ok (.aload_n 0, 1) := by decide +kernel
theorem dX2_beginPiece_36 : decode cX2_beginPiece 36 = .ok (.getfield 30, 3) := by decide +kernel
theorem dX2_beginPiece_39 : decode cX2_beginPiece 39 = .ok (.aload_n 0, 1) := by decide +kernel
theorem dX2_beginPiece_40 : decode cX2_beginPiece 40 = .ok (.getfield 36, 3) := by decide +kernel
theorem dX2_beginPiece_43 : decode cX2_beginPiece 43 = .ok (.invokevirtual 228, 3) := by decide +kernel
theorem dX2_beginPiece_46 : decode cX2_beginPiece 46 = .ok (.invokevirtual 199, 3) := by decide +kernel
theorem dX2_beginPiece_49 : decode cX2_beginPiece 49 = .ok (.return_, 1) := by decide +kernel
set_option maxRecDepth 20000 in
theorem ggX2_noteTailSlope_X0_length : GoodIn wsX2_noteTailSlope wsX0_length := goodIn_r _ [9, 10, 50, 51] (by decide +kernel) (by decide +kernel)
set_option maxRecDepth 20000 in
theorem gX2_noteTailSlope_X0_length : GoodIn wsX2_noteTailSlope (wsV RX2 76 RX0 yX0_length wsX0_length) := goodIn_app (goodIn_of _ (by decide +kernel)) ggX2_noteTailSlope_X0_length
set_option maxRecDepth 20000 in
theorem ggX2_noteTailSlope_X1_leastRise : GoodIn wsX2_noteTailSlope wsX1_leastRise := goodIn_r _ [15, 16, 17, 18, 19, 14, 20, 21, 52, 53, 54, 55, 56, 57, 58] (by decide +kernel) (by decide +kernel)
set_option maxRecDepth 20000 in
theorem gX2_noteTailSlope_X1_leastRise : GoodIn wsX2_noteTailSlope (wsV RX2 225 RX1 yX1_leastRise wsX1_leastRise) := goodIn_app (goodIn_of _ (by decide +kernel)) ggX2_noteTailSlope_X1_leastRise
set_option maxRecDepth 20000 in
theorem ggX2_noteTailSlope_X0_put : GoodIn wsX2_noteTailSlope wsX0_put := goodIn_r _ [25, 26, 27, 28, 29, 8, 30, 10, 50, 51] (by decide +kernel) (by decide +kernel)
set_option maxRecDepth 20000 in
theorem gX2_noteTailSlope_X0_put : GoodIn wsX2_noteTailSlope (wsV RX2 106 RX0 yX0_put wsX0_put) := goodIn_app (goodIn_of _ (by decide +kernel)) ggX2_noteTailSlope_X0_put
set_option maxRecDepth 20000 in
theorem ggX2_noteTailSlope_X1_leastRun : GoodIn wsX2_noteTailSlope wsX1_leastRun := goodIn_r _ [34, 21, 17, 18, 19, 14, 20, 16, 52, 53, 54, 55, 56, 57, 58] (by decide +kernel) (by decide +kernel)
set_option maxRecDepth 20000 in
theorem gX2_noteTailSlope_X1_leastRun : GoodIn wsX2_noteTailSlope (wsV RX2 228 RX1 yX1_leastRun wsX1_leastRun) := goodIn_app (goodIn_of _ (by decide +kernel)) ggX2_noteTailSlope_X1_leastRun
theorem dX2_noteTailSlope_0 : decode cX2_noteTailSlope 0 = .ok (.aload_n 0, 1) := by decide +kernel
theorem dX2_noteTailSlope_1 : decode cX2_noteTailSlope 1 = .ok (.getfield 24, 3) := by decide +kernel
theorem dX2_noteTailSlope_4 : decode cX2_noteTailSlope 4 = .ok (.invokevirtual 76, 3) := by decide +kernel
theorem dX2_noteTailSlope_7 : decode cX2_noteTailSlope 7 = .ok (.iconst 1, 1) := by decide +kernel
theorem dX2_noteTailSlope_8 : decode cX2_noteTailSlope 8 = .ok (.isub, 1) := by decide +kernel
theorem dX2_noteTailSlope_9 : decode cX2_noteTailSlope 9 = .ok (.istore_n 1, 1) := by decide +kernel
theorem dX2_noteTailSlope_10 : decode cX2_noteTailSlope 10 = .ok (.aload_n 0, 1) := by decide +kernel
theorem dX2_noteTailSlope_11 : decode cX2_noteTailSlope 11 = .ok (.getfield 27, 3) := by decide +kernel
theorem dX2_noteTailSlope_14 : decode cX2_noteTailSlope 14 = .ok (.iload_n 1, 1) := by decide +kernel
theorem dX2_noteTailSlope_15 : decode cX2_noteTailSlope 15 = .ok (.aload_n 0, 1) := by decide +kernel
theorem dX2_noteTailSlope_16 : decode cX2_noteTailSlope 16 = .ok (.getfield 36, 3) := by decide +kernel
theorem dX2_noteTailSlope_19 : decode cX2_noteTailSlope 19 = .ok (.invokevirtual 225, 3) := by decide +kernel
theorem dX2_noteTailSlope_22 : decode cX2_noteTailSlope 22 = .ok (.invokevirtual 106, 3) := by decide +kernel
theorem dX2_noteTailSlope_25 : decode cX2_noteTailSlope 25 = .ok (.aload_n 0, 1) := by decide +kernel
theorem dX2_noteTailSlope_26 : decode cX2_noteTailSlope 26 = .ok (.getfield 30, 3) := by decide +kernel
theorem dX2_noteTailSlope_29 : decode cX2_noteTailSlope 29 = .ok (.iload_n 1, 1) := by decide +kernel
theorem dX2_noteTailSlope_30 : decode cX2_noteTailSlope 30 = .ok (.aload_n 0, 1) := by decide +kernel
theorem dX2_noteTailSlope_31 : decode cX2_noteTailSlope 31 = .ok (.getfield 36, 3) := by decide +kernel
theorem dX2_noteTailSlope_34 : decode cX2_noteTailSlope 34 = .ok (.invokevirtual 228, 3) := by decide +kernel
theorem dX2_noteTailSlope_37 : decode cX2_noteTailSlope 37 = .ok (.invokevirtual 106, 3) := by decide +kernel
theorem dX2_noteTailSlope_40 : decode cX2_noteTailSlope 40 = .ok (.return_, 1) := by decide +kernel
set_option maxRecDepth 20000 in
theorem ggX2_firstOf_X0_at : GoodIn wsX2_firstOf wsX0_at := goodIn_r _ [7, 8, 9, 10, 11, 6, 12, 13, 29, 30] (by decide +kernel) (by decide +kernel)
set_option maxRecDepth 20000 in
theorem gX2_firstOf_X0_at : GoodIn wsX2_firstOf (wsV RX2 134 RX0 yX0_at wsX0_at) := goodIn_app (goodIn_of _ (by decide +kernel)) ggX2_firstOf_X0_at
theorem dX2_firstOf_0 : decode cX2_firstOf 0 = .ok (.aload_n 0, 1) := by decide +kernel
theorem dX2_firstOf_1 : decode cX2_firstOf 1 = .ok (.getfield 14, 3) := by decide +kernel
theorem dX2_firstOf_4 : decode cX2_firstOf 4 = .ok (.aload_n 0, 1) := by decide +kernel
theorem dX2_firstOf_5 : decode cX2_firstOf 5 = .ok (.getfield 24, 3) := by decide +kernel
theorem dX2_firstOf_8 : decode cX2_firstOf 8 = .ok (.iload_n 1, 1) := by decide +kernel
theorem dX2_firstOf_9 : decode cX2_firstOf 9 = .ok (.invokevirtual 134, 3) := by decide +kernel
theorem dX2_firstOf_12 : decode cX2_firstOf 12 = .ok (.invokevirtual 134, 3) := by decide +kernel
theorem dX2_firstOf_15 : decode cX2_firstOf 15 = .ok (.ireturn, 1) := by decide +kernel
set_option maxRecDepth 20000 in
theorem ggX2_endOf_X0_has : GoodIn wsX2_endOf wsX0_has := goodIn_r _ [7, 8, 9, 34, 35] (by decide +kernel) (by decide +kernel)
set_option maxRecDepth 20000 in
theorem gX2_endOf_X0_has : GoodIn wsX2_endOf (wsV RX2 192 RX0 yX0_has wsX0_has) := goodIn_app (goodIn_of _ (by decide +kernel)) ggX2_endOf_X0_has
set_option maxRecDepth 20000 in
theorem ggX2_endOf_X0_at : GoodIn wsX2_endOf wsX0_at := goodIn_r _ [13, 9, 14, 4, 5, 6, 7, 8, 34, 35] (by decide +kernel) (by decide +kernel)
set_option maxRecDepth 20000 in
theorem gX2_endOf_X0_at : GoodIn wsX2_endOf (wsV RX2 134 RX0 yX0_at wsX0_at) := goodIn_app (goodIn_of _ (by decide +kernel)) ggX2_endOf_X0_at
set_option maxRecDepth 20000 in
theorem ggX2_endOf_X0_length : GoodIn wsX2_endOf wsX0_length := goodIn_r _ [18, 8, 34, 35] (by decide +kernel) (by decide +kernel)
set_option maxRecDepth 20000 in
theorem gX2_endOf_X0_length : GoodIn wsX2_endOf (wsV RX2 76 RX0 yX0_length wsX0_length) := goodIn_app (goodIn_of _ (by decide +kernel)) ggX2_endOf_X0_length
theorem dX2_endOf_0 : decode cX2_endOf 0 = .ok (.aload_n 0, 1) := by decide +kernel
theorem dX2_endOf_1 : decode cX2_endOf 1 = .ok (.getfield 24, 3) := by decide +kernel
theorem dX2_endOf_4 : decode cX2_endOf 4 = .ok (.iload_n 1, 1) := by decide +kernel
theorem dX2_endOf_5 : decode cX2_endOf 5 = .ok (.iconst 1, 1) := by decide +kernel
theorem dX2_endOf_6 : decode cX2_endOf 6 = .ok (.iadd, 1) := by decide +kernel
theorem dX2_endOf_7 : decode cX2_endOf 7 = .ok (.invokevirtual 192, 3) := by decide +kernel
theorem dX2_endOf_10 : decode cX2_endOf 10 = .ok (.ifCond .eq 16, 3) := by decide +kernel
theorem dX2_endOf_13 : decode cX2_endOf 13 = .ok (.aload_n 0, 1) := by decide +kernel
theorem dX2_endOf_14 : decode cX2_endOf 14 = .ok (.getfield 24, 3) := by decide +kernel
theorem dX2_endOf_17 : decode cX2_endOf 17 = .ok (.iload_n 1, 1) := by decide +kernel
theorem dX2_endOf_18 : decode cX2_endOf 18 = .ok (.iconst 1, 1) := by decide +kernel
theorem dX2_endOf_19 : decode cX2_endOf 19 = .ok (.iadd, 1) := by decide +kernel
theorem dX2_endOf_20 : decode cX2_endOf 20 = .ok (.invokevirtual 134, 3) := by decide +kernel
theorem dX2_endOf_23 : decode cX2_endOf 23 = .ok (.goto 10, 3) := by decide +kernel
theorem dX2_endOf_26 : decode cX2_endOf 26 = .ok (.aload_n 0, 1) := by decide +kernel
theorem dX2_endOf_27 : decode cX2_endOf 27 = .ok (.getfield 14, 3) := by decide +kernel
theorem dX2_endOf_30 : decode cX2_endOf 30 = .ok (.invokevirtual 76, 3) := by decide +kernel
theorem dX2_endOf_33 : decode cX2_endOf 33 = .ok (.ireturn, 1) := by decide +kernel
set_option maxRecDepth 20000 in
theorem ggX2_pieceOf_X0_below : GoodIn wsX2_pieceOf wsX0_below := goodIn_r _ [7, 8, 9, 10, 11, 6, 12, 13, 14, 15, 16, 17, 33, 34] (by decide +kernel) (by decide +kernel)
set_option maxRecDepth 20000 in
theorem gX2_pieceOf_X0_below : GoodIn wsX2_pieceOf (wsV RX2 114 RX0 yX0_below wsX0_below) := goodIn_app (goodIn_of _ (by decide +kernel)) ggX2_pieceOf_X0_below
theorem dX2_pieceOf_0 : decode cX2_pieceOf 0 = .ok (.aload_n 0, 1) := by decide +kernel
theorem dX2_pieceOf_1 : decode cX2_pieceOf 1 = .ok (.getfield 14, 3) := by decide +kernel
theorem dX2_pieceOf_4 : decode cX2_pieceOf 4 = .ok (.iload_n 1, 1) := by decide +kernel
theorem dX2_pieceOf_5 : decode cX2_pieceOf 5 = .ok (.iconst 1, 1) := by decide +kernel
