theorem dL_fits_39 : decode cL_fits 39 = .ok (.iload 5, 2) := by decide +kernel
theorem dL_fits_41 : decode cL_fits 41 = .ok (.iload_n 1, 1) := by decide +kernel
theorem dL_fits_42 : decode cL_fits 42 = .ok (.isub, 1) := by decide +kernel
theorem dL_fits_43 : decode cL_fits 43 = .ok (.iload_n 3, 1) := by decide +kernel
theorem dL_fits_44 : decode cL_fits 44 = .ok (.iadd, 1) := by decide +kernel
theorem dL_fits_45 : decode cL_fits 45 = .ok (.i2l, 1) := by decide +kernel
theorem dL_fits_46 : decode cL_fits 46 = .ok (.aload_n 0, 1) := by decide +kernel
theorem dL_fits_47 : decode cL_fits 47 = .ok (.iload 4, 2) := by decide +kernel
theorem dL_fits_49 : decode cL_fits 49 = .ok (.iaload, 1) := by decide +kernel
theorem dL_fits_50 : decode cL_fits 50 = .ok (.aload_n 0, 1) := by decide +kernel
theorem dL_fits_51 : decode cL_fits 51 = .ok (.iload_n 1, 1) := by decide +kernel
theorem dL_fits_52 : decode cL_fits 52 = .ok (.iaload, 1) := by decide +kernel
theorem dL_fits_53 : decode cL_fits 53 = .ok (.isub, 1) := by decide +kernel
theorem dL_fits_54 : decode cL_fits 54 = .ok (.i2l, 1) := by decide +kernel
theorem dL_fits_55 : decode cL_fits 55 = .ok (.lmul, 1) := by decide +kernel
theorem dL_fits_56 : decode cL_fits 56 = .ok (.lcmp, 1) := by decide +kernel
theorem dL_fits_57 : decode cL_fits 57 = .ok (.ifCond .le 5, 3) := by decide +kernel
theorem dL_fits_60 : decode cL_fits 60 = .ok (.iconst 0, 1) := by decide +kernel
theorem dL_fits_61 : decode cL_fits 61 = .ok (.ireturn, 1) := by decide +kernel
theorem dL_fits_62 : decode cL_fits 62 = .ok (.iinc 5 1, 3) := by decide +kernel
theorem dL_fits_65 : decode cL_fits 65 = .ok (.goto (-49), 3) := by decide +kernel
theorem dL_fits_68 : decode cL_fits 68 = .ok (.iinc 4 1, 3) := by decide +kernel
theorem dL_fits_71 : decode cL_fits 71 = .ok (.goto (-66), 3) := by decide +kernel
theorem dL_fits_74 : decode cL_fits 74 = .ok (.iconst 1, 1) := by decide +kernel
theorem dL_fits_75 : decode cL_fits 75 = .ok (.ireturn, 1) := by decide +kernel
theorem dL_steepest_0 : decode cL_steepest 0 = .ok (.iload_n 1, 1) := by decide +kernel
theorem dL_steepest_1 : decode cL_steepest 1 = .ok (.istore 4, 2) := by decide +kernel
theorem dL_steepest_3 : decode cL_steepest 3 = .ok (.iload_n 1, 1) := by decide +kernel
theorem dL_steepest_4 : decode cL_steepest 4 = .ok (.iconst 1, 1) := by decide +kernel
theorem dL_steepest_5 : decode cL_steepest 5 = .ok (.iadd, 1) := by decide +kernel
theorem dL_steepest_6 : decode cL_steepest 6 = .ok (.istore 5, 2) := by decide +kernel
theorem dL_steepest_8 : decode cL_steepest 8 = .ok (.iload 5, 2) := by decide +kernel
theorem dL_steepest_10 : decode cL_steepest 10 = .ok (.iload_n 2, 1) := by decide +kernel
theorem dL_steepest_11 : decode cL_steepest 11 = .ok (.if_icmp .ge 71, 3) := by decide +kernel
theorem dL_steepest_14 : decode cL_steepest 14 = .ok (.iload 5, 2) := by decide +kernel
theorem dL_steepest_16 : decode cL_steepest 16 = .ok (.iload_n 1, 1) := by decide +kernel
theorem dL_steepest_17 : decode cL_steepest 17 = .ok (.isub, 1) := by decide +kernel
theorem dL_steepest_18 : decode cL_steepest 18 = .ok (.iload_n 3, 1) := by decide +kernel
theorem dL_steepest_19 : decode cL_steepest 19 = .ok (.isub, 1) := by decide +kernel
theorem dL_steepest_20 : decode cL_steepest 20 = .ok (.i2l, 1) := by decide +kernel
theorem dL_steepest_21 : decode cL_steepest 21 = .ok (.lstore 6, 2) := by decide +kernel
theorem dL_steepest_23 : decode cL_steepest 23 = .ok (.lload 6, 2) := by decide +kernel
theorem dL_steepest_25 : decode cL_steepest 25 = .ok (.lconst 0, 1) := by decide +kernel
theorem dL_steepest_26 : decode cL_steepest 26 = .ok (.lcmp, 1) := by decide +kernel
theorem dL_steepest_27 : decode cL_steepest 27 = .ok (.ifCond .gt 6, 3) := by decide +kernel
theorem dL_steepest_30 : decode cL_steepest 30 = .ok (.goto 46, 3) := by decide +kernel
theorem dL_steepest_33 : decode cL_steepest 33 = .ok (.iload 4, 2) := by decide +kernel
theorem dL_steepest_35 : decode cL_steepest 35 = .ok (.iload_n 1, 1) := by decide +kernel
theorem dL_steepest_36 : decode cL_steepest 36 = .ok (.if_icmp .eq 36, 3) := by decide +kernel
theorem dL_steepest_39 : decode cL_steepest 39 = .ok (.lload 6, 2) := by decide +kernel
theorem dL_steepest_41 : decode cL_steepest 41 = .ok (.aload_n 0, 1) := by decide +kernel
theorem dL_steepest_42 : decode cL_steepest 42 = .ok (.iload 4, 2) := by decide +kernel
theorem dL_steepest_44 : decode cL_steepest 44 = .ok (.iaload, 1) := by decide +kernel
theorem dL_steepest_45 : decode cL_steepest 45 = .ok (.aload_n 0, 1) := by decide +kernel
theorem dL_steepest_46 : decode cL_steepest 46 = .ok (.iload_n 1, 1) := by decide +kernel
theorem dL_steepest_47 : decode cL_steepest 47 = .ok (.iaload, 1) := by decide +kernel
theorem dL_steepest_48 : decode cL_steepest 48 = .ok (.isub, 1) := by decide +kernel
theorem dL_steepest_49 : decode cL_steepest 49 = .ok (.i2l, 1) := by decide +kernel
theorem dL_steepest_50 : decode cL_steepest 50 = .ok (.lmul, 1) := by decide +kernel
theorem dL_steepest_51 : decode cL_steepest 51 = .ok (.iload 4, 2) := by decide +kernel
theorem dL_steepest_53 : decode cL_steepest 53 = .ok (.iload_n 1, 1) := by decide +kernel
theorem dL_steepest_54 : decode cL_steepest 54 = .ok (.isub, 1) := by decide +kernel
theorem dL_steepest_55 : decode cL_steepest 55 = .ok (.iload_n 3, 1) := by decide +kernel
theorem dL_steepest_56 : decode cL_steepest 56 = .ok (.isub, 1) := by decide +kernel
theorem dL_steepest_57 : decode cL_steepest 57 = .ok (.i2l, 1) := by decide +kernel
theorem dL_steepest_58 : decode cL_steepest 58 = .ok (.aload_n 0, 1) := by decide +kernel
theorem dL_steepest_59 : decode cL_steepest 59 = .ok (.iload 5, 2) := by decide +kernel
theorem dL_steepest_61 : decode cL_steepest 61 = .ok (.iaload, 1) := by decide +kernel
theorem dL_steepest_62 : decode cL_steepest 62 = .ok (.aload_n 0, 1) := by decide +kernel
theorem dL_steepest_63 : decode cL_steepest 63 = .ok (.iload_n 1, 1) := by decide +kernel
theorem dL_steepest_64 : decode cL_steepest 64 = .ok (.iaload, 1) := by decide +kernel
theorem dL_steepest_65 : decode cL_steepest 65 = .ok (.isub, 1) := by decide +kernel
theorem dL_steepest_66 : decode cL_steepest 66 = .ok (.i2l, 1) := by decide +kernel
theorem dL_steepest_67 : decode cL_steepest 67 = .ok (.lmul, 1) := by decide +kernel
theorem dL_steepest_68 : decode cL_steepest 68 = .ok (.lcmp, 1) := by decide +kernel
theorem dL_steepest_69 : decode cL_steepest 69 = .ok (.ifCond .le 7, 3) := by decide +kernel
theorem dL_steepest_72 : decode cL_steepest 72 = .ok (.iload 5, 2) := by decide +kernel
theorem dL_steepest_74 : decode cL_steepest 74 = .ok (.istore 4, 2) := by decide +kernel
theorem dL_steepest_76 : decode cL_steepest 76 = .ok (.iinc 5 1, 3) := by decide +kernel
theorem dL_steepest_79 : decode cL_steepest 79 = .ok (.goto (-71), 3) := by decide +kernel
theorem dL_steepest_82 : decode cL_steepest 82 = .ok (.iload 4, 2) := by decide +kernel
theorem dL_steepest_84 : decode cL_steepest 84 = .ok (.ireturn, 1) := by decide +kernel
theorem dL_behind_0 : decode cL_behind 0 = .ok (.iload_n 1, 1) := by decide +kernel
theorem dL_behind_1 : decode cL_behind 1 = .ok (.iconst 1, 1) := by decide +kernel
theorem dL_behind_2 : decode cL_behind 2 = .ok (.iadd, 1) := by decide +kernel
theorem dL_behind_3 : decode cL_behind 3 = .ok (.istore_n 3, 1) := by decide +kernel
theorem dL_behind_4 : decode cL_behind 4 = .ok (.iload_n 3, 1) := by decide +kernel
theorem dL_behind_5 : decode cL_behind 5 = .ok (.iload_n 2, 1) := by decide +kernel
theorem dL_behind_6 : decode cL_behind 6 = .ok (.if_icmp .ge 15, 3) := by decide +kernel
theorem dL_behind_9 : decode cL_behind 9 = .ok (.aload_n 0, 1) := by decide +kernel
theorem dL_behind_10 : decode cL_behind 10 = .ok (.iload_n 3, 1) := by decide +kernel
theorem dL_behind_11 : decode cL_behind 11 = .ok (.iaload, 1) := by decide +kernel
theorem dL_behind_12 : decode cL_behind 12 = .ok (.ifCond .ne 9, 3) := by decide +kernel
theorem dL_behind_15 : decode cL_behind 15 = .ok (.iinc 3 1, 3) := by decide +kernel
theorem dL_behind_18 : decode cL_behind 18 = .ok (.goto (-14), 3) := by decide +kernel
theorem dL_behind_21 : decode cL_behind 21 = .ok (.iload_n 3, 1) := by decide +kernel
theorem dL_behind_22 : decode cL_behind 22 = .ok (.ireturn, 1) := by decide +kernel
theorem dL_common_0 : decode cL_common 0 = .ok (.iload_n 0, 1) := by decide +kernel
theorem dL_common_1 : decode cL_common 1 = .ok (.istore_n 2, 1) := by decide +kernel
theorem dL_common_2 : decode cL_common 2 = .ok (.iload_n 1, 1) := by decide +kernel
theorem dL_common_3 : decode cL_common 3 = .ok (.istore_n 3, 1) := by decide +kernel
theorem dL_common_4 : decode cL_common 4 = .ok (.iload_n 3, 1) := by decide +kernel
theorem dL_common_5 : decode cL_common 5 = .ok (.ifCond .le 16, 3) := by decide +kernel
theorem dL_common_8 : decode cL_common 8 = .ok (.iload_n 2, 1) := by decide +kernel
theorem dL_common_9 : decode cL_common 9 = .ok (.iload_n 3, 1) := by decide +kernel
theorem dL_common_10 : decode cL_common 10 = .ok (.irem, 1) := by decide +kernel
theorem dL_common_11 : decode cL_common 11 = .ok (.istore 4, 2) := by decide +kernel
theorem dL_common_13 : decode cL_common 13 = .ok (.iload_n 3, 1) := by decide +kernel
theorem dL_common_14 : decode cL_common 14 = .ok (.istore_n 2, 1) := by decide +kernel
theorem dL_common_15 : decode cL_common 15 = .ok (.iload 4, 2) := by decide +kernel
theorem dL_common_17 : decode cL_common 17 = .ok (.istore_n 3, 1) := by decide +kernel
theorem dL_common_18 : decode cL_common 18 = .ok (.goto (-14), 3) := by decide +kernel
theorem dL_common_21 : decode cL_common 21 = .ok (.iload_n 2, 1) := by decide +kernel
theorem dL_common_22 : decode cL_common 22 = .ok (.ireturn, 1) := by decide +kernel
set_option maxRecDepth 20000 in
theorem ggL_cuts_L_fits : GoodIn wsL_cuts wsL_fits := goodIn_r _ [4] (by decide +kernel) (by decide +kernel)
set_option maxRecDepth 20000 in
theorem gL_cuts_L_fits : GoodIn wsL_cuts (va_wsS RL 10 yL_fits wsL_fits) := goodIn_app (goodIn_of _ (by decide +kernel)) ggL_cuts_L_fits
theorem dL_cuts_0 : decode cL_cuts 0 = .ok (.iload_n 2, 1) := by decide +kernel
theorem dL_cuts_1 : decode cL_cuts 1 = .ok (.istore 5, 2) := by decide +kernel
theorem dL_cuts_3 : decode cL_cuts 3 = .ok (.iconst 0, 1) := by decide +kernel
theorem dL_cuts_4 : decode cL_cuts 4 = .ok (.istore 6, 2) := by decide +kernel
theorem dL_cuts_6 : decode cL_cuts 6 = .ok (.iload_n 2, 1) := by decide +kernel
theorem dL_cuts_7 : decode cL_cuts 7 = .ok (.istore 7, 2) := by decide +kernel
theorem dL_cuts_9 : decode cL_cuts 9 = .ok (.iload 7, 2) := by decide +kernel
theorem dL_cuts_11 : decode cL_cuts 11 = .ok (.iload_n 3, 1) := by decide +kernel
theorem dL_cuts_12 : decode cL_cuts 12 = .ok (.if_icmp .ge 74, 3) := by decide +kernel
theorem dL_cuts_15 : decode cL_cuts 15 = .ok (.iload 7, 2) := by decide +kernel
theorem dL_cuts_17 : decode cL_cuts 17 = .ok (.iload_n 2, 1) := by decide +kernel
theorem dL_cuts_18 : decode cL_cuts 18 = .ok (.if_icmp .eq 18, 3) := by decide +kernel
theorem dL_cuts_21 : decode cL_cuts 21 = .ok (.aload_n 0, 1) := by decide +kernel
theorem dL_cuts_22 : decode cL_cuts 22 = .ok (.iload 5, 2) := by decide +kernel
theorem dL_cuts_24 : decode cL_cuts 24 = .ok (.iload 7, 2) := by decide +kernel
theorem dL_cuts_26 : decode cL_cuts 26 = .ok (.iconst 1, 1) := by decide +kernel
theorem dL_cuts_27 : decode cL_cuts 27 = .ok (.iadd, 1) := by decide +kernel
theorem dL_cuts_28 : decode cL_cuts 28 = .ok (.iload 4, 2) := by decide +kernel
theorem dL_cuts_30 : decode cL_cuts 30 = .ok (.invokestatic 10, 3) := by decide +kernel
theorem dL_cuts_33 : decode cL_cuts 33 = .ok (.ifCond .ne 7, 3) := by decide +kernel
theorem dL_cuts_36 : decode cL_cuts 36 = .ok (.iconst 1, 1) := by decide +kernel
theorem dL_cuts_37 : decode cL_cuts 37 = .ok (.goto 4, 3) := by decide +kernel
theorem dL_cuts_40 : decode cL_cuts 40 = .ok (.iconst 0, 1) := by decide +kernel
theorem dL_cuts_41 : decode cL_cuts 41 = .ok (.istore 8, 2) := by decide +kernel
theorem dL_cuts_43 : decode cL_cuts 43 = .ok (.iload 8, 2) := by decide +kernel
theorem dL_cuts_45 : decode cL_cuts 45 = .ok (.ifCond .eq 8, 3) := by decide +kernel
theorem dL_cuts_48 : decode cL_cuts 48 = .ok (.iload 7, 2) := by decide +kernel
theorem dL_cuts_50 : decode cL_cuts 50 = .ok (.goto 5, 3) := by decide +kernel
theorem dL_cuts_53 : decode cL_cuts 53 = .ok (.iload 5, 2) := by decide +kernel
theorem dL_cuts_55 : decode cL_cuts 55 = .ok (.istore 5, 2) := by decide +kernel
theorem dL_cuts_57 : decode cL_cuts 57 = .ok (.aload_n 1, 1) := by decide +kernel
theorem dL_cuts_58 : decode cL_cuts 58 = .ok (.iload 7, 2) := by decide +kernel
theorem dL_cuts_60 : decode cL_cuts 60 = .ok (.iload 8, 2) := by decide +kernel
theorem dL_cuts_62 : decode cL_cuts 62 = .ok (.ifCond .eq 7, 3) := by decide +kernel
theorem dL_cuts_65 : decode cL_cuts 65 = .ok (.iconst 1, 1) := by decide +kernel
theorem dL_cuts_66 : decode cL_cuts 66 = .ok (.goto 4, 3) := by decide +kernel
theorem dL_cuts_69 : decode cL_cuts 69 = .ok (.iconst 0, 1) := by decide +kernel
theorem dL_cuts_70 : decode cL_cuts 70 = .ok (.iastore, 1) := by decide +kernel
theorem dL_cuts_71 : decode cL_cuts 71 = .ok (.iload 6, 2) := by decide +kernel
theorem dL_cuts_73 : decode cL_cuts 73 = .ok (.aload_n 1, 1) := by decide +kernel
theorem dL_cuts_74 : decode cL_cuts 74 = .ok (.iload 7, 2) := by decide +kernel
theorem dL_cuts_76 : decode cL_cuts 76 = .ok (.iaload, 1) := by decide +kernel
theorem dL_cuts_77 : decode cL_cuts 77 = .ok (.iadd, 1) := by decide +kernel
theorem dL_cuts_78 : decode cL_cuts 78 = .ok (.istore 6, 2) := by decide +kernel
theorem dL_cuts_80 : decode cL_cuts 80 = .ok (.iinc 7 1, 3) := by decide +kernel
theorem dL_cuts_83 : decode cL_cuts 83 = .ok (.goto (-74), 3) := by decide +kernel
theorem dL_cuts_86 : decode cL_cuts 86 = .ok (.iload 6, 2) := by decide +kernel
theorem dL_cuts_88 : decode cL_cuts 88 = .ok (.ireturn, 1) := by decide +kernel
theorem dL_sorts_0 : decode cL_sorts 0 = .ok (.iload_n 2, 1) := by decide +kernel
theorem dL_sorts_1 : decode cL_sorts 1 = .ok (.istore 4, 2) := by decide +kernel
theorem dL_sorts_3 : decode cL_sorts 3 = .ok (.iload 4, 2) := by decide +kernel
theorem dL_sorts_5 : decode cL_sorts 5 = .ok (.iload_n 1, 1) := by decide +kernel
theorem dL_sorts_6 : decode cL_sorts 6 = .ok (.if_icmp .le 29, 3) := by decide +kernel
theorem dL_sorts_9 : decode cL_sorts 9 = .ok (.aload_n 0, 1) := by decide +kernel
theorem dL_sorts_10 : decode cL_sorts 10 = .ok (.iload 4, 2) := by decide +kernel
theorem dL_sorts_12 : decode cL_sorts 12 = .ok (.iconst 1, 1) := by decide +kernel
theorem dL_sorts_13 : decode cL_sorts 13 = .ok (.isub, 1) := by decide +kernel
theorem dL_sorts_14 : decode cL_sorts 14 = .ok (.iaload, 1) := by decide +kernel
theorem dL_sorts_15 : decode cL_sorts 15 = .ok (.iload_n 3, 1) := by decide +kernel
theorem dL_sorts_16 : decode cL_sorts 16 = .ok (.if_icmp .le 19, 3) := by decide +kernel
theorem dL_sorts_19 : decode cL_sorts 19 = .ok (.aload_n 0, 1) := by decide +kernel
theorem dL_sorts_20 : decode cL_sorts 20 = .ok (.iload 4, 2) := by decide +kernel
theorem dL_sorts_22 : decode cL_sorts 22 = .ok (.aload_n 0, 1) := by decide +kernel
theorem dL_sorts_23 : decode cL_sorts 23 = .ok (.iload 4, 2) := by decide +kernel
theorem dL_sorts_25 : decode cL_sorts 25 = .ok (.iconst 1, 1) := by decide +kernel
theorem dL_sorts_26 : decode cL_sorts 26 = .ok (.isub, 1) := by decide +kernel
theorem dL_sorts_27 : decode cL_sorts 27 = .ok (.iaload, 1) := by decide +kernel
theorem dL_sorts_28 : decode cL_sorts 28 = .ok (.iastore, 1) := by decide +kernel
theorem dL_sorts_29 : decode cL_sorts 29 = .ok (.iinc 4 (-1), 3) := by decide +kernel
theorem dL_sorts_32 : decode cL_sorts 32 = .ok (.goto (-29), 3) := by decide +kernel
theorem dL_sorts_35 : decode cL_sorts 35 = .ok (.aload_n 0, 1) := by decide +kernel
theorem dL_sorts_36 : decode cL_sorts 36 = .ok (.iload 4, 2) := by decide +kernel
theorem dL_sorts_38 : decode cL_sorts 38 = .ok (.iload_n 3, 1) := by decide +kernel
theorem dL_sorts_39 : decode cL_sorts 39 = .ok (.iastore, 1) := by decide +kernel
theorem dL_sorts_40 : decode cL_sorts 40 = .ok (.return_, 1) := by decide +kernel
set_option maxRecDepth 20000 in
theorem ggL_merge_L_behind : GoodIn wsL_merge wsL_behind := goodIn_r _ [5] (by decide +kernel) (by decide +kernel)
set_option maxRecDepth 20000 in
theorem gL_merge_L_behind : GoodIn wsL_merge (va_wsS RL 16 yL_behind wsL_behind) := goodIn_app (goodIn_of _ (by decide +kernel)) ggL_merge_L_behind
set_option maxRecDepth 20000 in
theorem ggL_merge_L_sorts : GoodIn wsL_merge wsL_sorts := goodIn_r _ [8] (by decide +kernel) (by decide +kernel)
set_option maxRecDepth 20000 in
theorem gL_merge_L_sorts : GoodIn wsL_merge (va_wsS RL 20 yL_sorts wsL_sorts) := goodIn_app (goodIn_of _ (by decide +kernel)) ggL_merge_L_sorts
set_option maxRecDepth 20000 in
theorem ggL_merge_L_cuts : GoodIn wsL_merge wsL_cuts := goodIn_r _ [11, 12, 13, 4, 14] (by decide +kernel) (by decide +kernel)
set_option maxRecDepth 20000 in
theorem gL_merge_L_cuts : GoodIn wsL_merge (va_wsS RL 24 yL_cuts wsL_cuts) := goodIn_app (goodIn_of _ (by decide +kernel)) ggL_merge_L_cuts
set_option maxRecDepth 20000 in
theorem ggL_merge_L_fits : GoodIn wsL_merge wsL_fits := goodIn_r _ [14] (by decide +kernel) (by decide +kernel)
set_option maxRecDepth 20000 in
theorem gL_merge_L_fits : GoodIn wsL_merge (va_wsS RL 10 yL_fits wsL_fits) := goodIn_app (goodIn_of _ (by decide +kernel)) ggL_merge_L_fits
theorem dL_merge_0 : decode cL_merge 0 = .ok (.bipush 64, 2) := by decide +kernel
theorem dL_merge_2 : decode cL_merge 2 = .ok (.newarray .int, 2) := by decide +kernel
theorem dL_merge_4 : decode cL_merge 4 = .ok (.astore 5, 2) := by decide +kernel
theorem dL_merge_6 : decode cL_merge 6 = .ok (.bipush 64, 2) := by decide +kernel
theorem dL_merge_8 : decode cL_merge 8 = .ok (.newarray .int, 2) := by decide +kernel
theorem dL_merge_10 : decode cL_merge 10 = .ok (.astore 6, 2) := by decide +kernel
theorem dL_merge_12 : decode cL_merge 12 = .ok (.iconst 0, 1) := by decide +kernel
theorem dL_merge_13 : decode cL_merge 13 = .ok (.istore 7, 2) := by decide +kernel
theorem dL_merge_15 : decode cL_merge 15 = .ok (.iconst 0, 1) := by decide +kernel
theorem dL_merge_16 : decode cL_merge 16 = .ok (.istore 8, 2) := by decide +kernel
theorem dL_merge_18 : decode cL_merge 18 = .ok (.iload 8, 2) := by decide +kernel
theorem dL_merge_20 : decode cL_merge 20 = .ok (.aload 4, 2) := by decide +kernel
theorem dL_merge_22 : decode cL_merge 22 = .ok (.iconst 0, 1) := by decide +kernel
theorem dL_merge_23 : decode cL_merge 23 = .ok (.iaload, 1) := by decide +kernel
theorem dL_merge_24 : decode cL_merge 24 = .ok (.if_icmp .lt 8, 3) := by decide +kernel
theorem dL_merge_27 : decode cL_merge 27 = .ok (.iload 8, 2) := by decide +kernel
theorem dL_merge_29 : decode cL_merge 29 = .ok (.ifCond .ne 248, 3) := by decide +kernel
theorem dL_merge_32 : decode cL_merge 32 = .ok (.aload 4, 2) := by decide +kernel
theorem dL_merge_34 : decode cL_merge 34 = .ok (.iconst 0, 1) := by decide +kernel
theorem dL_merge_35 : decode cL_merge 35 = .ok (.iaload, 1) := by decide +kernel
theorem dL_merge_36 : decode cL_merge 36 = .ok (.ifCond .ne 7, 3) := by decide +kernel
theorem dL_merge_39 : decode cL_merge 39 = .ok (.iconst 0, 1) := by decide +kernel
theorem dL_merge_40 : decode cL_merge 40 = .ok (.goto 13, 3) := by decide +kernel
theorem dL_merge_43 : decode cL_merge 43 = .ok (.aload_n 2, 1) := by decide +kernel
theorem dL_merge_44 : decode cL_merge 44 = .ok (.iload 8, 2) := by decide +kernel
theorem dL_merge_46 : decode cL_merge 46 = .ok (.aload 4, 2) := by decide +kernel
theorem dL_merge_48 : decode cL_merge 48 = .ok (.iconst 0, 1) := by decide +kernel
theorem dL_merge_49 : decode cL_merge 49 = .ok (.iaload, 1) := by decide +kernel
theorem dL_merge_50 : decode cL_merge 50 = .ok (.invokestatic 16, 3) := by decide +kernel
theorem dL_merge_53 : decode cL_merge 53 = .ok (.istore 9, 2) := by decide +kernel
theorem dL_merge_55 : decode cL_merge 55 = .ok (.iload 7, 2) := by decide +kernel
theorem dL_merge_57 : decode cL_merge 57 = .ok (.istore 10, 2) := by decide +kernel
theorem dL_merge_59 : decode cL_merge 59 = .ok (.iconst 0, 1) := by decide +kernel
theorem dL_merge_60 : decode cL_merge 60 = .ok (.istore 11, 2) := by decide +kernel
theorem dL_merge_62 : decode cL_merge 62 = .ok (.iload 8, 2) := by decide +kernel
theorem dL_merge_64 : decode cL_merge 64 = .ok (.istore 12, 2) := by decide +kernel
theorem dL_merge_66 : decode cL_merge 66 = .ok (.iload 12, 2) := by decide +kernel
theorem dL_merge_68 : decode cL_merge 68 = .ok (.iload 9, 2) := by decide +kernel
theorem dL_merge_70 : decode cL_merge 70 = .ok (.if_icmp .ge 54, 3) := by decide +kernel
theorem dL_merge_73 : decode cL_merge 73 = .ok (.iload 11, 2) := by decide +kernel
theorem dL_merge_75 : decode cL_merge 75 = .ok (.aload_n 1, 1) := by decide +kernel
theorem dL_merge_76 : decode cL_merge 76 = .ok (.iload 12, 2) := by decide +kernel
theorem dL_merge_78 : decode cL_merge 78 = .ok (.iaload, 1) := by decide +kernel
theorem dL_merge_79 : decode cL_merge 79 = .ok (.iconst 1, 1) := by decide +kernel
theorem dL_merge_80 : decode cL_merge 80 = .ok (.if_icmp .ne 7, 3) := by decide +kernel
theorem dL_merge_83 : decode cL_merge 83 = .ok (.iconst 1, 1) := by decide +kernel
theorem dL_merge_84 : decode cL_merge 84 = .ok (.goto 4, 3) := by decide +kernel
theorem dL_merge_87 : decode cL_merge 87 = .ok (.iconst 0, 1) := by decide +kernel
theorem dL_merge_88 : decode cL_merge 88 = .ok (.ior, 1) := by decide +kernel
theorem dL_merge_89 : decode cL_merge 89 = .ok (.istore 11, 2) := by decide +kernel
theorem dL_merge_91 : decode cL_merge 91 = .ok (.aload_n 1, 1) := by decide +kernel
theorem dL_merge_92 : decode cL_merge 92 = .ok (.iload 12, 2) := by decide +kernel
theorem dL_merge_94 : decode cL_merge 94 = .ok (.iaload, 1) := by decide +kernel
theorem dL_merge_95 : decode cL_merge 95 = .ok (.ifCond .ne 12, 3) := by decide +kernel
theorem dL_merge_98 : decode cL_merge 98 = .ok (.aload 5, 2) := by decide +kernel
theorem dL_merge_100 : decode cL_merge 100 = .ok (.iload 7, 2) := by decide +kernel
theorem dL_merge_102 : decode cL_merge 102 = .ok (.aload_n 0, 1) := by decide +kernel
theorem dL_merge_103 : decode cL_merge 103 = .ok (.iload 12, 2) := by decide +kernel
theorem dL_merge_105 : decode cL_merge 105 = .ok (.iaload, 1) := by decide +kernel
theorem dL_merge_106 : decode cL_merge 106 = .ok (.iastore, 1) := by decide +kernel
theorem dL_merge_107 : decode cL_merge 107 = .ok (.iload 7, 2) := by decide +kernel
theorem dL_merge_109 : decode cL_merge 109 = .ok (.iconst 1, 1) := by decide +kernel
theorem dL_merge_110 : decode cL_merge 110 = .ok (.aload_n 1, 1) := by decide +kernel
theorem dL_merge_111 : decode cL_merge 111 = .ok (.iload 12, 2) := by decide +kernel
theorem dL_merge_113 : decode cL_merge 113 = .ok (.iaload, 1) := by decide +kernel
theorem dL_merge_114 : decode cL_merge 114 = .ok (.isub, 1) := by decide +kernel
theorem dL_merge_115 : decode cL_merge 115 = .ok (.iadd, 1) := by decide +kernel
theorem dL_merge_116 : decode cL_merge 116 = .ok (.istore 7, 2) := by decide +kernel
theorem dL_merge_118 : decode cL_merge 118 = .ok (.iinc 12 1, 3) := by decide +kernel
theorem dL_merge_121 : decode cL_merge 121 = .ok (.goto (-55), 3) := by decide +kernel
theorem dL_merge_124 : decode cL_merge 124 = .ok (.iconst 0, 1) := by decide +kernel
theorem dL_merge_125 : decode cL_merge 125 = .ok (.istore 12, 2) := by decide +kernel
theorem dL_merge_127 : decode cL_merge 127 = .ok (.iload 12, 2) := by decide +kernel
theorem dL_merge_129 : decode cL_merge 129 = .ok (.aload 4, 2) := by decide +kernel
theorem dL_merge_131 : decode cL_merge 131 = .ok (.iconst 1, 1) := by decide +kernel
theorem dL_merge_132 : decode cL_merge 132 = .ok (.iaload, 1) := by decide +kernel
theorem dL_merge_133 : decode cL_merge 133 = .ok (.if_icmp .ge 67, 3) := by decide +kernel
theorem dL_merge_136 : decode cL_merge 136 = .ok (.iload 8, 2) := by decide +kernel
theorem dL_merge_138 : decode cL_merge 138 = .ok (.ifCond .le 14, 3) := by decide +kernel
theorem dL_merge_141 : decode cL_merge 141 = .ok (.aload_n 3, 1) := by decide +kernel
theorem dL_merge_142 : decode cL_merge 142 = .ok (.iload 12, 2) := by decide +kernel
theorem dL_merge_144 : decode cL_merge 144 = .ok (.iaload, 1) := by decide +kernel
theorem dL_merge_145 : decode cL_merge 145 = .ok (.aload_n 0, 1) := by decide +kernel
theorem dL_merge_146 : decode cL_merge 146 = .ok (.iload 8, 2) := by decide +kernel
theorem dL_merge_148 : decode cL_merge 148 = .ok (.iaload, 1) := by decide +kernel
theorem dL_merge_149 : decode cL_merge 149 = .ok (.if_icmp .lt 45, 3) := by decide +kernel
theorem dL_merge_152 : decode cL_merge 152 = .ok (.iload 9, 2) := by decide +kernel
theorem dL_merge_154 : decode cL_merge 154 = .ok (.aload 4, 2) := by decide +kernel
theorem dL_merge_156 : decode cL_merge 156 = .ok (.iconst 0, 1) := by decide +kernel
theorem dL_merge_157 : decode cL_merge 157 = .ok (.iaload, 1) := by decide +kernel
theorem dL_merge_158 : decode cL_merge 158 = .ok (.if_icmp .ge 17, 3) := by decide +kernel
theorem dL_merge_161 : decode cL_merge 161 = .ok (.aload_n 3, 1) := by decide +kernel
theorem dL_merge_162 : decode cL_merge 162 = .ok (.iload 12, 2) := by decide +kernel
theorem dL_merge_164 : decode cL_merge 164 = .ok (.iaload, 1) := by decide +kernel
theorem dL_merge_165 : decode cL_merge 165 = .ok (.aload_n 0, 1) := by decide +kernel
theorem dL_merge_166 : decode cL_merge 166 = .ok (.iload 9, 2) := by decide +kernel
theorem dL_merge_168 : decode cL_merge 168 = .ok (.iaload, 1) := by decide +kernel
theorem dL_merge_169 : decode cL_merge 169 = .ok (.if_icmp .le 6, 3) := by decide +kernel
theorem dL_merge_172 : decode cL_merge 172 = .ok (.goto 22, 3) := by decide +kernel
theorem dL_merge_175 : decode cL_merge 175 = .ok (.aload 5, 2) := by decide +kernel
theorem dL_merge_177 : decode cL_merge 177 = .ok (.iload 10, 2) := by decide +kernel
theorem dL_merge_179 : decode cL_merge 179 = .ok (.iload 7, 2) := by decide +kernel
theorem dL_merge_181 : decode cL_merge 181 = .ok (.aload_n 3, 1) := by decide +kernel
theorem dL_merge_182 : decode cL_merge 182 = .ok (.iload 12, 2) := by decide +kernel
theorem dL_merge_184 : decode cL_merge 184 = .ok (.iaload, 1) := by decide +kernel
theorem dL_merge_185 : decode cL_merge 185 = .ok (.invokestatic 20, 3) := by decide +kernel
theorem dL_merge_188 : decode cL_merge 188 = .ok (.iinc 7 1, 3) := by decide +kernel
theorem dL_merge_191 : decode cL_merge 191 = .ok (.iconst 1, 1) := by decide +kernel
theorem dL_merge_192 : decode cL_merge 192 = .ok (.istore 11, 2) := by decide +kernel
theorem dL_merge_194 : decode cL_merge 194 = .ok (.iinc 12 1, 3) := by decide +kernel
theorem dL_merge_197 : decode cL_merge 197 = .ok (.goto (-70), 3) := by decide +kernel
theorem dL_merge_200 : decode cL_merge 200 = .ok (.iload 11, 2) := by decide +kernel
theorem dL_merge_202 : decode cL_merge 202 = .ok (.ifCond .eq 44, 3) := by decide +kernel
theorem dL_merge_205 : decode cL_merge 205 = .ok (.aload 5, 2) := by decide +kernel
theorem dL_merge_207 : decode cL_merge 207 = .ok (.aload 6, 2) := by decide +kernel
theorem dL_merge_209 : decode cL_merge 209 = .ok (.iload 10, 2) := by decide +kernel
theorem dL_merge_211 : decode cL_merge 211 = .ok (.iload 7, 2) := by decide +kernel
theorem dL_merge_213 : decode cL_merge 213 = .ok (.aload 4, 2) := by decide +kernel
theorem dL_merge_215 : decode cL_merge 215 = .ok (.iconst 2, 1) := by decide +kernel
theorem dL_merge_216 : decode cL_merge 216 = .ok (.iaload, 1) := by decide +kernel
theorem dL_merge_217 : decode cL_merge 217 = .ok (.invokestatic 24, 3) := by decide +kernel
theorem dL_merge_220 : decode cL_merge 220 = .ok (.istore 12, 2) := by decide +kernel
theorem dL_merge_222 : decode cL_merge 222 = .ok (.aload 4, 2) := by decide +kernel
theorem dL_merge_224 : decode cL_merge 224 = .ok (.iconst 5, 1) := by decide +kernel
theorem dL_merge_225 : decode cL_merge 225 = .ok (.dup2, 1) := by decide +kernel
theorem dL_merge_226 : decode cL_merge 226 = .ok (.iaload, 1) := by decide +kernel
theorem dL_merge_227 : decode cL_merge 227 = .ok (.iload 12, 2) := by decide +kernel
theorem dL_merge_229 : decode cL_merge 229 = .ok (.iconst 1, 1) := by decide +kernel
theorem dL_merge_230 : decode cL_merge 230 = .ok (.if_icmp .le 10, 3) := by decide +kernel
theorem dL_merge_233 : decode cL_merge 233 = .ok (.iload 12, 2) := by decide +kernel
theorem dL_merge_235 : decode cL_merge 235 = .ok (.iconst 1, 1) := by decide +kernel
theorem dL_merge_236 : decode cL_merge 236 = .ok (.isub, 1) := by decide +kernel
theorem dL_merge_237 : decode cL_merge 237 = .ok (.goto 4, 3) := by decide +kernel
theorem dL_merge_240 : decode cL_merge 240 = .ok (.iconst 0, 1) := by decide +kernel
theorem dL_merge_241 : decode cL_merge 241 = .ok (.iadd, 1) := by decide +kernel
theorem dL_merge_242 : decode cL_merge 242 = .ok (.iastore, 1) := by decide +kernel
theorem dL_merge_243 : decode cL_merge 243 = .ok (.goto 16, 3) := by decide +kernel
theorem dL_merge_246 : decode cL_merge 246 = .ok (.iload 7, 2) := by decide +kernel
theorem dL_merge_248 : decode cL_merge 248 = .ok (.iload 10, 2) := by decide +kernel
theorem dL_merge_250 : decode cL_merge 250 = .ok (.if_icmp .le 9, 3) := by decide +kernel
theorem dL_merge_253 : decode cL_merge 253 = .ok (.aload 6, 2) := by decide +kernel
theorem dL_merge_255 : decode cL_merge 255 = .ok (.iload 10, 2) := by decide +kernel
theorem dL_merge_257 : decode cL_merge 257 = .ok (.iconst 1, 1) := by decide +kernel
theorem dL_merge_258 : decode cL_merge 258 = .ok (.iastore, 1) := by decide +kernel
theorem dL_merge_259 : decode cL_merge 259 = .ok (.aload 4, 2) := by decide +kernel
theorem dL_merge_261 : decode cL_merge 261 = .ok (.iconst 0, 1) := by decide +kernel
theorem dL_merge_262 : decode cL_merge 262 = .ok (.iaload, 1) := by decide +kernel
theorem dL_merge_263 : decode cL_merge 263 = .ok (.ifCond .ne 7, 3) := by decide +kernel
theorem dL_merge_266 : decode cL_merge 266 = .ok (.iconst 1, 1) := by decide +kernel
theorem dL_merge_267 : decode cL_merge 267 = .ok (.goto 5, 3) := by decide +kernel
theorem dL_merge_270 : decode cL_merge 270 = .ok (.iload 9, 2) := by decide +kernel
theorem dL_merge_272 : decode cL_merge 272 = .ok (.istore 8, 2) := by decide +kernel
theorem dL_merge_274 : decode cL_merge 274 = .ok (.goto (-256), 3) := by decide +kernel
theorem dL_merge_277 : decode cL_merge 277 = .ok (.aload 4, 2) := by decide +kernel
theorem dL_merge_279 : decode cL_merge 279 = .ok (.iconst 0, 1) := by decide +kernel
theorem dL_merge_280 : decode cL_merge 280 = .ok (.iload 7, 2) := by decide +kernel
theorem dL_merge_282 : decode cL_merge 282 = .ok (.iastore, 1) := by decide +kernel
theorem dL_merge_283 : decode cL_merge 283 = .ok (.aload 4, 2) := by decide +kernel
theorem dL_merge_285 : decode cL_merge 285 = .ok (.iconst 1, 1) := by decide +kernel
theorem dL_merge_286 : decode cL_merge 286 = .ok (.iconst 0, 1) := by decide +kernel
theorem dL_merge_287 : decode cL_merge 287 = .ok (.iastore, 1) := by decide +kernel
theorem dL_merge_288 : decode cL_merge 288 = .ok (.iconst 0, 1) := by decide +kernel
theorem dL_merge_289 : decode cL_merge 289 = .ok (.istore 8, 2) := by decide +kernel
theorem dL_merge_291 : decode cL_merge 291 = .ok (.iload 8, 2) := by decide +kernel
theorem dL_merge_293 : decode cL_merge 293 = .ok (.bipush 64, 2) := by decide +kernel
theorem dL_merge_295 : decode cL_merge 295 = .ok (.if_icmp .ge 32, 3) := by decide +kernel
theorem dL_merge_298 : decode cL_merge 298 = .ok (.aload_n 0, 1) := by decide +kernel
theorem dL_merge_299 : decode cL_merge 299 = .ok (.iload 8, 2) := by decide +kernel
theorem dL_merge_301 : decode cL_merge 301 = .ok (.aload 5, 2) := by decide +kernel
theorem dL_merge_303 : decode cL_merge 303 = .ok (.iload 8, 2) := by decide +kernel
theorem dL_merge_305 : decode cL_merge 305 = .ok (.iaload, 1) := by decide +kernel
theorem dL_merge_306 : decode cL_merge 306 = .ok (.iastore, 1) := by decide +kernel
theorem dL_merge_307 : decode cL_merge 307 = .ok (.aload_n 2, 1) := by decide +kernel
theorem dL_merge_308 : decode cL_merge 308 = .ok (.iload 8, 2) := by decide +kernel
theorem dL_merge_310 : decode cL_merge 310 = .ok (.aload 6, 2) := by decide +kernel
theorem dL_merge_312 : decode cL_merge 312 = .ok (.iload 8, 2) := by decide +kernel
theorem dL_merge_314 : decode cL_merge 314 = .ok (.iaload, 1) := by decide +kernel
theorem dL_merge_315 : decode cL_merge 315 = .ok (.iastore, 1) := by decide +kernel
theorem dL_merge_316 : decode cL_merge 316 = .ok (.aload_n 1, 1) := by decide +kernel
theorem dL_merge_317 : decode cL_merge 317 = .ok (.iload 8, 2) := by decide +kernel
theorem dL_merge_319 : decode cL_merge 319 = .ok (.iconst 0, 1) := by decide +kernel
theorem dL_merge_320 : decode cL_merge 320 = .ok (.iastore, 1) := by decide +kernel
theorem dL_merge_321 : decode cL_merge 321 = .ok (.iinc 8 1, 3) := by decide +kernel
theorem dL_merge_324 : decode cL_merge 324 = .ok (.goto (-33), 3) := by decide +kernel
theorem dL_merge_327 : decode cL_merge 327 = .ok (.iconst 0, 1) := by decide +kernel
theorem dL_merge_328 : decode cL_merge 328 = .ok (.istore 8, 2) := by decide +kernel
theorem dL_merge_330 : decode cL_merge 330 = .ok (.iload 8, 2) := by decide +kernel
theorem dL_merge_332 : decode cL_merge 332 = .ok (.iload 7, 2) := by decide +kernel
theorem dL_merge_334 : decode cL_merge 334 = .ok (.if_icmp .ge 71, 3) := by decide +kernel
theorem dL_merge_337 : decode cL_merge 337 = .ok (.aload_n 2, 1) := by decide +kernel
theorem dL_merge_338 : decode cL_merge 338 = .ok (.iload 8, 2) := by decide +kernel
theorem dL_merge_340 : decode cL_merge 340 = .ok (.iload 7, 2) := by decide +kernel
theorem dL_merge_342 : decode cL_merge 342 = .ok (.invokestatic 16, 3) := by decide +kernel
theorem dL_merge_345 : decode cL_merge 345 = .ok (.iload 7, 2) := by decide +kernel
theorem dL_merge_347 : decode cL_merge 347 = .ok (.if_icmp .ge 58, 3) := by decide +kernel
theorem dL_merge_350 : decode cL_merge 350 = .ok (.aload_n 2, 1) := by decide +kernel
theorem dL_merge_351 : decode cL_merge 351 = .ok (.iload 8, 2) := by decide +kernel
theorem dL_merge_353 : decode cL_merge 353 = .ok (.iload 7, 2) := by decide +kernel
theorem dL_merge_355 : decode cL_merge 355 = .ok (.invokestatic 16, 3) := by decide +kernel
theorem dL_merge_358 : decode cL_merge 358 = .ok (.istore 9, 2) := by decide +kernel
theorem dL_merge_360 : decode cL_merge 360 = .ok (.aload_n 0, 1) := by decide +kernel
theorem dL_merge_361 : decode cL_merge 361 = .ok (.iload 8, 2) := by decide +kernel
theorem dL_merge_363 : decode cL_merge 363 = .ok (.aload_n 2, 1) := by decide +kernel
theorem dL_merge_364 : decode cL_merge 364 = .ok (.iload 9, 2) := by decide +kernel
theorem dL_merge_366 : decode cL_merge 366 = .ok (.iload 7, 2) := by decide +kernel
theorem dL_merge_368 : decode cL_merge 368 = .ok (.invokestatic 16, 3) := by decide +kernel
theorem dL_merge_371 : decode cL_merge 371 = .ok (.aload 4, 2) := by decide +kernel
theorem dL_merge_373 : decode cL_merge 373 = .ok (.iconst 2, 1) := by decide +kernel
theorem dL_merge_374 : decode cL_merge 374 = .ok (.iaload, 1) := by decide +kernel
theorem dL_merge_375 : decode cL_merge 375 = .ok (.invokestatic 10, 3) := by decide +kernel
theorem dL_merge_378 : decode cL_merge 378 = .ok (.ifCond .eq 20, 3) := by decide +kernel
theorem dL_merge_381 : decode cL_merge 381 = .ok (.aload_n 2, 1) := by decide +kernel
theorem dL_merge_382 : decode cL_merge 382 = .ok (.iload 9, 2) := by decide +kernel
theorem dL_merge_384 : decode cL_merge 384 = .ok (.iconst 0, 1) := by decide +kernel
theorem dL_merge_385 : decode cL_merge 385 = .ok (.iastore, 1) := by decide +kernel
theorem dL_merge_386 : decode cL_merge 386 = .ok (.aload 4, 2) := by decide +kernel
theorem dL_merge_388 : decode cL_merge 388 = .ok (.bipush 6, 2) := by decide +kernel
theorem dL_merge_390 : decode cL_merge 390 = .ok (.dup2, 1) := by decide +kernel
theorem dL_merge_391 : decode cL_merge 391 = .ok (.iaload, 1) := by decide +kernel
theorem dL_merge_392 : decode cL_merge 392 = .ok (.iconst 1, 1) := by decide +kernel
theorem dL_merge_393 : decode cL_merge 393 = .ok (.iadd, 1) := by decide +kernel
theorem dL_merge_394 : decode cL_merge 394 = .ok (.iastore, 1) := by decide +kernel
theorem dL_merge_395 : decode cL_merge 395 = .ok (.goto 7, 3) := by decide +kernel
theorem dL_merge_398 : decode cL_merge 398 = .ok (.iload 9, 2) := by decide +kernel
theorem dL_merge_400 : decode cL_merge 400 = .ok (.istore 8, 2) := by decide +kernel
theorem dL_merge_402 : decode cL_merge 402 = .ok (.goto (-72), 3) := by decide +kernel
theorem dL_merge_405 : decode cL_merge 405 = .ok (.aload 4, 2) := by decide +kernel
theorem dL_merge_407 : decode cL_merge 407 = .ok (.iconst 4, 1) := by decide +kernel
theorem dL_merge_408 : decode cL_merge 408 = .ok (.dup2, 1) := by decide +kernel
theorem dL_merge_409 : decode cL_merge 409 = .ok (.iaload, 1) := by decide +kernel
theorem dL_merge_410 : decode cL_merge 410 = .ok (.iconst 1, 1) := by decide +kernel
theorem dL_merge_411 : decode cL_merge 411 = .ok (.iadd, 1) := by decide +kernel
theorem dL_merge_412 : decode cL_merge 412 = .ok (.iastore, 1) := by decide +kernel
theorem dL_merge_413 : decode cL_merge 413 = .ok (.return_, 1) := by decide +kernel
theorem dL_find_0 : decode cL_find 0 = .ok (.iconst (-1), 1) := by decide +kernel
theorem dL_find_1 : decode cL_find 1 = .ok (.istore_n 3, 1) := by decide +kernel
theorem dL_find_2 : decode cL_find 2 = .ok (.iconst 0, 1) := by decide +kernel
theorem dL_find_3 : decode cL_find 3 = .ok (.istore 4, 2) := by decide +kernel
theorem dL_find_5 : decode cL_find 5 = .ok (.iload 4, 2) := by decide +kernel
theorem dL_find_7 : decode cL_find 7 = .ok (.iload_n 1, 1) := by decide +kernel
theorem dL_find_8 : decode cL_find 8 = .ok (.if_icmp .ge 24, 3) := by decide +kernel
theorem dL_find_11 : decode cL_find 11 = .ok (.aload_n 0, 1) := by decide +kernel
theorem dL_find_12 : decode cL_find 12 = .ok (.iload 4, 2) := by decide +kernel
theorem dL_find_14 : decode cL_find 14 = .ok (.iaload, 1) := by decide +kernel
theorem dL_find_15 : decode cL_find 15 = .ok (.iload_n 2, 1) := by decide +kernel
theorem dL_find_16 : decode cL_find 16 = .ok (.if_icmp .ne 8, 3) := by decide +kernel
theorem dL_find_19 : decode cL_find 19 = .ok (.iload 4, 2) := by decide +kernel
theorem dL_find_21 : decode cL_find 21 = .ok (.goto 4, 3) := by decide +kernel
theorem dL_find_24 : decode cL_find 24 = .ok (.iload_n 3, 1) := by decide +kernel
theorem dL_find_25 : decode cL_find 25 = .ok (.istore_n 3, 1) := by decide +kernel
theorem dL_find_26 : decode cL_find 26 = .ok (.iinc 4 1, 3) := by decide +kernel
theorem dL_find_29 : decode cL_find 29 = .ok (.goto (-24), 3) := by decide +kernel
theorem dL_find_32 : decode cL_find 32 = .ok (.iload_n 3, 1) := by decide +kernel
theorem dL_find_33 : decode cL_find 33 = .ok (.ireturn, 1) := by decide +kernel
theorem dL_below_0 : decode cL_below 0 = .ok (.iconst 0, 1) := by decide +kernel
theorem dL_below_1 : decode cL_below 1 = .ok (.istore 6, 2) := by decide +kernel
theorem dL_below_3 : decode cL_below 3 = .ok (.iconst 0, 1) := by decide +kernel
theorem dL_below_4 : decode cL_below 4 = .ok (.istore 7, 2) := by decide +kernel
theorem dL_below_6 : decode cL_below 6 = .ok (.iload 7, 2) := by decide +kernel
theorem dL_below_8 : decode cL_below 8 = .ok (.aload_n 3, 1) := by decide +kernel
theorem dL_below_9 : decode cL_below 9 = .ok (.iconst 0, 1) := by decide +kernel
theorem dL_below_10 : decode cL_below 10 = .ok (.iaload, 1) := by decide +kernel
theorem dL_below_11 : decode cL_below 11 = .ok (.if_icmp .ge 37, 3) := by decide +kernel
theorem dL_below_14 : decode cL_below 14 = .ok (.iload 6, 2) := by decide +kernel
theorem dL_below_16 : decode cL_below 16 = .ok (.aload_n 1, 1) := by decide +kernel
theorem dL_below_17 : decode cL_below 17 = .ok (.iload 7, 2) := by decide +kernel
theorem dL_below_19 : decode cL_below 19 = .ok (.iaload, 1) := by decide +kernel
theorem dL_below_20 : decode cL_below 20 = .ok (.ifCond .ne 18, 3) := by decide +kernel
theorem dL_below_23 : decode cL_below 23 = .ok (.aload_n 0, 1) := by decide +kernel
theorem dL_below_24 : decode cL_below 24 = .ok (.iload 7, 2) := by decide +kernel
theorem dL_below_26 : decode cL_below 26 = .ok (.iaload, 1) := by decide +kernel
theorem dL_below_27 : decode cL_below 27 = .ok (.i2l, 1) := by decide +kernel
theorem dL_below_28 : decode cL_below 28 = .ok (.lload 4, 2) := by decide +kernel
theorem dL_below_30 : decode cL_below 30 = .ok (.lcmp, 1) := by decide +kernel
theorem dL_below_31 : decode cL_below 31 = .ok (.ifCond .ge 7, 3) := by decide +kernel
theorem dL_below_34 : decode cL_below 34 = .ok (.iconst 1, 1) := by decide +kernel
theorem dL_below_35 : decode cL_below 35 = .ok (.goto 4, 3) := by decide +kernel
theorem dL_below_38 : decode cL_below 38 = .ok (.iconst 0, 1) := by decide +kernel
theorem dL_below_39 : decode cL_below 39 = .ok (.iadd, 1) := by decide +kernel
theorem dL_below_40 : decode cL_below 40 = .ok (.istore 6, 2) := by decide +kernel
theorem dL_below_42 : decode cL_below 42 = .ok (.iinc 7 1, 3) := by decide +kernel
theorem dL_below_45 : decode cL_below 45 = .ok (.goto (-39), 3) := by decide +kernel
theorem dL_below_48 : decode cL_below 48 = .ok (.iconst 0, 1) := by decide +kernel
theorem dL_below_49 : decode cL_below 49 = .ok (.istore 7, 2) := by decide +kernel
theorem dL_below_51 : decode cL_below 51 = .ok (.iload 7, 2) := by decide +kernel
theorem dL_below_53 : decode cL_below 53 = .ok (.aload_n 3, 1) := by decide +kernel
theorem dL_below_54 : decode cL_below 54 = .ok (.iconst 1, 1) := by decide +kernel
theorem dL_below_55 : decode cL_below 55 = .ok (.iaload, 1) := by decide +kernel
theorem dL_below_56 : decode cL_below 56 = .ok (.if_icmp .ge 30, 3) := by decide +kernel
theorem dL_below_59 : decode cL_below 59 = .ok (.iload 6, 2) := by decide +kernel
theorem dL_below_61 : decode cL_below 61 = .ok (.aload_n 2, 1) := by decide +kernel
theorem dL_below_62 : decode cL_below 62 = .ok (.iload 7, 2) := by decide +kernel
theorem dL_below_64 : decode cL_below 64 = .ok (.iaload, 1) := by decide +kernel
theorem dL_below_65 : decode cL_below 65 = .ok (.i2l, 1) := by decide +kernel
theorem dL_below_66 : decode cL_below 66 = .ok (.lload 4, 2) := by decide +kernel
theorem dL_below_68 : decode cL_below 68 = .ok (.lcmp, 1) := by decide +kernel
theorem dL_below_69 : decode cL_below 69 = .ok (.ifCond .ge 7, 3) := by decide +kernel
theorem dL_below_72 : decode cL_below 72 = .ok (.iconst 1, 1) := by decide +kernel
theorem dL_below_73 : decode cL_below 73 = .ok (.goto 4, 3) := by decide +kernel
theorem dL_below_76 : decode cL_below 76 = .ok (.iconst 0, 1) := by decide +kernel
theorem dL_below_77 : decode cL_below 77 = .ok (.iadd, 1) := by decide +kernel
theorem dL_below_78 : decode cL_below 78 = .ok (.istore 6, 2) := by decide +kernel
theorem dL_below_80 : decode cL_below 80 = .ok (.iinc 7 1, 3) := by decide +kernel
theorem dL_below_83 : decode cL_below 83 = .ok (.goto (-32), 3) := by decide +kernel
theorem dL_below_86 : decode cL_below 86 = .ok (.iload 6, 2) := by decide +kernel
theorem dL_below_88 : decode cL_below 88 = .ok (.ireturn, 1) := by decide +kernel
theorem mi_L_refused_1 {w : Cond} (h : w ∈ wsL_refused_r1) : w ∈ wsL_refused := (List.mem_cons_of_mem _ (List.mem_append_left _ (List.mem_append_left _ (List.mem_append_left _ (List.mem_append_left _ (List.mem_append_left _ (List.mem_append_left _ (List.mem_append_left _ (List.mem_append_left _ h)))))))))
theorem mi_L_refused_2 {w : Cond} (h : w ∈ wsL_refused_r2) : w ∈ wsL_refused := (List.mem_cons_of_mem _ (List.mem_append_left _ (List.mem_append_left _ (List.mem_append_left _ (List.mem_append_left _ (List.mem_append_left _ (List.mem_append_left _ (List.mem_append_left _ (List.mem_append_right _ (List.mem_append_left _ h))))))))))
theorem mi_L_refused_3 {w : Cond} (h : w ∈ wsL_refused_r3) : w ∈ wsL_refused := (List.mem_cons_of_mem _ (List.mem_append_left _ (List.mem_append_left _ (List.mem_append_left _ (List.mem_append_left _ (List.mem_append_left _ (List.mem_append_left _ (List.mem_append_left _ (List.mem_append_right _ (List.mem_append_right _ (List.mem_append_left _ h)))))))))))
theorem mi_L_refused_4 {w : Cond} (h : w ∈ wsL_refused_r4) : w ∈ wsL_refused := (List.mem_cons_of_mem _ (List.mem_append_left _ (List.mem_append_left _ (List.mem_append_left _ (List.mem_append_left _ (List.mem_append_left _ (List.mem_append_left _ (List.mem_append_left _ (List.mem_append_right _ (List.mem_append_right _ (List.mem_append_right _ (List.mem_append_left _ h))))))))))))
theorem mi_L_refused_5 {w : Cond} (h : w ∈ wsL_refused_r5) : w ∈ wsL_refused := (List.mem_cons_of_mem _ (List.mem_append_left _ (List.mem_append_left _ (List.mem_append_left _ (List.mem_append_left _ (List.mem_append_left _ (List.mem_append_left _ (List.mem_append_left _ (List.mem_append_right _ (List.mem_append_right _ (List.mem_append_right _ (List.mem_append_right _ (List.mem_append_left _ h)))))))))))))
theorem mi_L_refused_6 {w : Cond} (h : w ∈ wsL_refused_r6) : w ∈ wsL_refused := (List.mem_cons_of_mem _ (List.mem_append_left _ (List.mem_append_left _ (List.mem_append_left _ (List.mem_append_left _ (List.mem_append_left _ (List.mem_append_left _ (List.mem_append_left _ (List.mem_append_right _ (List.mem_append_right _ (List.mem_append_right _ (List.mem_append_right _ (List.mem_append_right _ (List.mem_append_left _ h))))))))))))))
theorem mi_L_refused_7 {w : Cond} (h : w ∈ wsL_refused_r7) : w ∈ wsL_refused := (List.mem_cons_of_mem _ (List.mem_append_left _ (List.mem_append_left _ (List.mem_append_left _ (List.mem_append_left _ (List.mem_append_left _ (List.mem_append_left _ (List.mem_append_left _ (List.mem_append_right _ (List.mem_append_right _ (List.mem_append_right _ (List.mem_append_right _ (List.mem_append_right _ (List.mem_append_right _ (List.mem_append_left _ h)))))))))))))))
theorem mi_L_refused_8 {w : Cond} (h : w ∈ wsL_refused_r8) : w ∈ wsL_refused := (List.mem_cons_of_mem _ (List.mem_append_left _ (List.mem_append_left _ (List.mem_append_left _ (List.mem_append_left _ (List.mem_append_left _ (List.mem_append_left _ (List.mem_append_left _ (List.mem_append_right _ (List.mem_append_right _ (List.mem_append_right _ (List.mem_append_right _ (List.mem_append_right _ (List.mem_append_right _ (List.mem_append_right _ (List.mem_append_left _ h))))))))))))))))
theorem mi_L_refused_9 {w : Cond} (h : w ∈ wsL_refused_r9) : w ∈ wsL_refused := (List.mem_cons_of_mem _ (List.mem_append_left _ (List.mem_append_left _ (List.mem_append_left _ (List.mem_append_left _ (List.mem_append_left _ (List.mem_append_left _ (List.mem_append_left _ (List.mem_append_right _ (List.mem_append_right _ (List.mem_append_right _ (List.mem_append_right _ (List.mem_append_right _ (List.mem_append_right _ (List.mem_append_right _ (List.mem_append_right _ (List.mem_append_left _ h)))))))))))))))))
theorem mi_L_refused_10 {w : Cond} (h : w ∈ wsL_refused_r10) : w ∈ wsL_refused := (List.mem_cons_of_mem _ (List.mem_append_left _ (List.mem_append_left _ (List.mem_append_left _ (List.mem_append_left _ (List.mem_append_left _ (List.mem_append_left _ (List.mem_append_left _ (List.mem_append_right _ (List.mem_append_right _ (List.mem_append_right _ (List.mem_append_right _ (List.mem_append_right _ (List.mem_append_right _ (List.mem_append_right _ (List.mem_append_right _ (List.mem_append_right _ h)))))))))))))))))
set_option maxRecDepth 20000 in
theorem gi_L_refused_X2_append_0 : ∀ w ∈ wsX2_append_r1, w ∈ wsL_refused := by
  unfold wsX2_append_r1
  exact (List.forall_mem_cons.mpr ⟨(mi_L_refused_1 (List.mem_of_getElem? (i := 9) rfl)), (List.forall_mem_cons.mpr ⟨(mi_L_refused_1 (List.mem_of_getElem? (i := 10) rfl)), (List.forall_mem_cons.mpr ⟨(mi_L_refused_1 (List.mem_of_getElem? (i := 11) rfl)), (List.forall_mem_cons.mpr ⟨(mi_L_refused_1 (List.mem_of_getElem? (i := 7) rfl)), (List.forall_mem_cons.mpr ⟨(mi_L_refused_1 (List.mem_of_getElem? (i := 12) rfl)), (List.forall_mem_cons.mpr ⟨(mi_L_refused_1 (List.mem_of_getElem? (i := 13) rfl)), (List.forall_mem_cons.mpr ⟨(mi_L_refused_1 (List.mem_of_getElem? (i := 14) rfl)), (List.forall_mem_cons.mpr ⟨(mi_L_refused_1 (List.mem_of_getElem? (i := 15) rfl)), (List.forall_mem_cons.mpr ⟨(mi_L_refused_1 (List.mem_of_getElem? (i := 16) rfl)), (List.forall_mem_cons.mpr ⟨(mi_L_refused_1 (List.mem_of_getElem? (i := 17) rfl)), (List.forall_mem_cons.mpr ⟨(mi_L_refused_1 (List.mem_of_getElem? (i := 18) rfl)), (List.forall_mem_cons.mpr ⟨(mi_L_refused_1 (List.mem_of_getElem? (i := 19) rfl)), (List.forall_mem_cons.mpr ⟨(mi_L_refused_1 (List.mem_of_getElem? (i := 20) rfl)), (List.forall_mem_cons.mpr ⟨(mi_L_refused_1 (List.mem_of_getElem? (i := 21) rfl)), (List.forall_mem_cons.mpr ⟨(mi_L_refused_1 (List.mem_of_getElem? (i := 22) rfl)), (List.forall_mem_cons.mpr ⟨(mi_L_refused_1 (List.mem_of_getElem? (i := 23) rfl)), (List.forall_mem_cons.mpr ⟨(mi_L_refused_2 (List.mem_of_getElem? (i := 0) rfl)), (List.forall_mem_cons.mpr ⟨(mi_L_refused_2 (List.mem_of_getElem? (i := 1) rfl)), (List.forall_mem_cons.mpr ⟨(mi_L_refused_2 (List.mem_of_getElem? (i := 2) rfl)), (List.forall_mem_cons.mpr ⟨(mi_L_refused_2 (List.mem_of_getElem? (i := 3) rfl)), (List.forall_mem_cons.mpr ⟨(mi_L_refused_2 (List.mem_of_getElem? (i := 4) rfl)), (List.forall_mem_cons.mpr ⟨(mi_L_refused_2 (List.mem_of_getElem? (i := 5) rfl)), (List.forall_mem_cons.mpr ⟨(mi_L_refused_2 (List.mem_of_getElem? (i := 6) rfl)), (List.forall_mem_cons.mpr ⟨(mi_L_refused_2 (List.mem_of_getElem? (i := 7) rfl)), (fun _ h => absurd h List.not_mem_nil)⟩)⟩)⟩)⟩)⟩)⟩)⟩)⟩)⟩)⟩)⟩)⟩)⟩)⟩)⟩)⟩)⟩)⟩)⟩)⟩)⟩)⟩)⟩)⟩)
set_option maxRecDepth 20000 in
theorem gi_L_refused_X2_append_1 : ∀ w ∈ wsX2_append_r2, w ∈ wsL_refused := by
  unfold wsX2_append_r2
  exact (List.forall_mem_cons.mpr ⟨(mi_L_refused_2 (List.mem_of_getElem? (i := 8) rfl)), (List.forall_mem_cons.mpr ⟨(mi_L_refused_2 (List.mem_of_getElem? (i := 9) rfl)), (List.forall_mem_cons.mpr ⟨(mi_L_refused_2 (List.mem_of_getElem? (i := 10) rfl)), (List.forall_mem_cons.mpr ⟨(mi_L_refused_2 (List.mem_of_getElem? (i := 11) rfl)), (List.forall_mem_cons.mpr ⟨(mi_L_refused_2 (List.mem_of_getElem? (i := 12) rfl)), (List.forall_mem_cons.mpr ⟨(mi_L_refused_2 (List.mem_of_getElem? (i := 13) rfl)), (List.forall_mem_cons.mpr ⟨(mi_L_refused_2 (List.mem_of_getElem? (i := 14) rfl)), (List.forall_mem_cons.mpr ⟨(mi_L_refused_2 (List.mem_of_getElem? (i := 15) rfl)), (List.forall_mem_cons.mpr ⟨(mi_L_refused_2 (List.mem_of_getElem? (i := 16) rfl)), (List.forall_mem_cons.mpr ⟨(mi_L_refused_2 (List.mem_of_getElem? (i := 17) rfl)), (List.forall_mem_cons.mpr ⟨(mi_L_refused_2 (List.mem_of_getElem? (i := 18) rfl)), (List.forall_mem_cons.mpr ⟨(mi_L_refused_2 (List.mem_of_getElem? (i := 19) rfl)), (List.forall_mem_cons.mpr ⟨(mi_L_refused_2 (List.mem_of_getElem? (i := 20) rfl)), (List.forall_mem_cons.mpr ⟨(mi_L_refused_2 (List.mem_of_getElem? (i := 21) rfl)), (List.forall_mem_cons.mpr ⟨(mi_L_refused_2 (List.mem_of_getElem? (i := 22) rfl)), (List.forall_mem_cons.mpr ⟨(mi_L_refused_2 (List.mem_of_getElem? (i := 23) rfl)), (List.forall_mem_cons.mpr ⟨(mi_L_refused_3 (List.mem_of_getElem? (i := 0) rfl)), (List.forall_mem_cons.mpr ⟨(mi_L_refused_3 (List.mem_of_getElem? (i := 1) rfl)), (List.forall_mem_cons.mpr ⟨(mi_L_refused_3 (List.mem_of_getElem? (i := 2) rfl)), (List.forall_mem_cons.mpr ⟨(mi_L_refused_3 (List.mem_of_getElem? (i := 3) rfl)), (List.forall_mem_cons.mpr ⟨(mi_L_refused_3 (List.mem_of_getElem? (i := 4) rfl)), (List.forall_mem_cons.mpr ⟨(mi_L_refused_3 (List.mem_of_getElem? (i := 5) rfl)), (List.forall_mem_cons.mpr ⟨(mi_L_refused_3 (List.mem_of_getElem? (i := 6) rfl)), (List.forall_mem_cons.mpr ⟨(mi_L_refused_3 (List.mem_of_getElem? (i := 7) rfl)), (fun _ h => absurd h List.not_mem_nil)⟩)⟩)⟩)⟩)⟩)⟩)⟩)⟩)⟩)⟩)⟩)⟩)⟩)⟩)⟩)⟩)⟩)⟩)⟩)⟩)⟩)⟩)⟩)⟩)
set_option maxRecDepth 20000 in
theorem gi_L_refused_X2_append_2 : ∀ w ∈ wsX2_append_r3, w ∈ wsL_refused := by
  unfold wsX2_append_r3
  exact (List.forall_mem_cons.mpr ⟨(mi_L_refused_3 (List.mem_of_getElem? (i := 8) rfl)), (List.forall_mem_cons.mpr ⟨(mi_L_refused_3 (List.mem_of_getElem? (i := 9) rfl)), (List.forall_mem_cons.mpr ⟨(mi_L_refused_3 (List.mem_of_getElem? (i := 10) rfl)), (List.forall_mem_cons.mpr ⟨(mi_L_refused_3 (List.mem_of_getElem? (i := 11) rfl)), (List.forall_mem_cons.mpr ⟨(mi_L_refused_3 (List.mem_of_getElem? (i := 12) rfl)), (List.forall_mem_cons.mpr ⟨(mi_L_refused_3 (List.mem_of_getElem? (i := 13) rfl)), (List.forall_mem_cons.mpr ⟨(mi_L_refused_3 (List.mem_of_getElem? (i := 14) rfl)), (List.forall_mem_cons.mpr ⟨(mi_L_refused_3 (List.mem_of_getElem? (i := 15) rfl)), (List.forall_mem_cons.mpr ⟨(mi_L_refused_3 (List.mem_of_getElem? (i := 16) rfl)), (List.forall_mem_cons.mpr ⟨(mi_L_refused_3 (List.mem_of_getElem? (i := 17) rfl)), (List.forall_mem_cons.mpr ⟨(mi_L_refused_3 (List.mem_of_getElem? (i := 18) rfl)), (List.forall_mem_cons.mpr ⟨(mi_L_refused_3 (List.mem_of_getElem? (i := 19) rfl)), (List.forall_mem_cons.mpr ⟨(mi_L_refused_3 (List.mem_of_getElem? (i := 20) rfl)), (List.forall_mem_cons.mpr ⟨(mi_L_refused_3 (List.mem_of_getElem? (i := 21) rfl)), (List.forall_mem_cons.mpr ⟨(mi_L_refused_3 (List.mem_of_getElem? (i := 22) rfl)), (List.forall_mem_cons.mpr ⟨(mi_L_refused_3 (List.mem_of_getElem? (i := 23) rfl)), (List.forall_mem_cons.mpr ⟨(mi_L_refused_4 (List.mem_of_getElem? (i := 0) rfl)), (List.forall_mem_cons.mpr ⟨(mi_L_refused_4 (List.mem_of_getElem? (i := 1) rfl)), (List.forall_mem_cons.mpr ⟨(mi_L_refused_4 (List.mem_of_getElem? (i := 2) rfl)), (List.forall_mem_cons.mpr ⟨(mi_L_refused_4 (List.mem_of_getElem? (i := 3) rfl)), (List.forall_mem_cons.mpr ⟨(mi_L_refused_4 (List.mem_of_getElem? (i := 4) rfl)), (List.forall_mem_cons.mpr ⟨(mi_L_refused_4 (List.mem_of_getElem? (i := 5) rfl)), (List.forall_mem_cons.mpr ⟨(mi_L_refused_4 (List.mem_of_getElem? (i := 6) rfl)), (List.forall_mem_cons.mpr ⟨(mi_L_refused_4 (List.mem_of_getElem? (i := 7) rfl)), (fun _ h => absurd h List.not_mem_nil)⟩)⟩)⟩)⟩)⟩)⟩)⟩)⟩)⟩)⟩)⟩)⟩)⟩)⟩)⟩)⟩)⟩)⟩)⟩)⟩)⟩)⟩)⟩)⟩)
set_option maxRecDepth 20000 in
theorem gi_L_refused_X2_append_3 : ∀ w ∈ wsX2_append_r4, w ∈ wsL_refused := by
  unfold wsX2_append_r4
  exact (List.forall_mem_cons.mpr ⟨(mi_L_refused_4 (List.mem_of_getElem? (i := 8) rfl)), (List.forall_mem_cons.mpr ⟨(mi_L_refused_4 (List.mem_of_getElem? (i := 9) rfl)), (List.forall_mem_cons.mpr ⟨(mi_L_refused_4 (List.mem_of_getElem? (i := 10) rfl)), (List.forall_mem_cons.mpr ⟨(mi_L_refused_4 (List.mem_of_getElem? (i := 11) rfl)), (List.forall_mem_cons.mpr ⟨(mi_L_refused_4 (List.mem_of_getElem? (i := 12) rfl)), (List.forall_mem_cons.mpr ⟨(mi_L_refused_4 (List.mem_of_getElem? (i := 13) rfl)), (List.forall_mem_cons.mpr ⟨(mi_L_refused_4 (List.mem_of_getElem? (i := 14) rfl)), (List.forall_mem_cons.mpr ⟨(mi_L_refused_4 (List.mem_of_getElem? (i := 15) rfl)), (List.forall_mem_cons.mpr ⟨(mi_L_refused_4 (List.mem_of_getElem? (i := 16) rfl)), (List.forall_mem_cons.mpr ⟨(mi_L_refused_4 (List.mem_of_getElem? (i := 17) rfl)), (List.forall_mem_cons.mpr ⟨(mi_L_refused_4 (List.mem_of_getElem? (i := 18) rfl)), (List.forall_mem_cons.mpr ⟨(mi_L_refused_4 (List.mem_of_getElem? (i := 19) rfl)), (List.forall_mem_cons.mpr ⟨(mi_L_refused_4 (List.mem_of_getElem? (i := 20) rfl)), (List.forall_mem_cons.mpr ⟨(mi_L_refused_4 (List.mem_of_getElem? (i := 21) rfl)), (List.forall_mem_cons.mpr ⟨(mi_L_refused_4 (List.mem_of_getElem? (i := 22) rfl)), (List.forall_mem_cons.mpr ⟨(mi_L_refused_4 (List.mem_of_getElem? (i := 23) rfl)), (List.forall_mem_cons.mpr ⟨(mi_L_refused_5 (List.mem_of_getElem? (i := 0) rfl)), (List.forall_mem_cons.mpr ⟨(mi_L_refused_5 (List.mem_of_getElem? (i := 1) rfl)), (List.forall_mem_cons.mpr ⟨(mi_L_refused_5 (List.mem_of_getElem? (i := 2) rfl)), (List.forall_mem_cons.mpr ⟨(mi_L_refused_5 (List.mem_of_getElem? (i := 3) rfl)), (List.forall_mem_cons.mpr ⟨(mi_L_refused_5 (List.mem_of_getElem? (i := 4) rfl)), (List.forall_mem_cons.mpr ⟨(mi_L_refused_5 (List.mem_of_getElem? (i := 5) rfl)), (fun _ h => absurd h List.not_mem_nil)⟩)⟩)⟩)⟩)⟩)⟩)⟩)⟩)⟩)⟩)⟩)⟩)⟩)⟩)⟩)⟩)⟩)⟩)⟩)⟩)⟩)⟩)
theorem gi_L_refused_X2_append : GoodIn wsL_refused (.code yX2_append cX2_append 2 (some .int) :: ((wsX2_append_r1 ++ (wsX2_append_r2 ++ (wsX2_append_r3 ++ wsX2_append_r4))) ++ wsX20 ++ wsX00 ++ wsX10)) := goodIn_c (goodIn_sub (List.forall_mem_cons.mpr ⟨(mi_L_refused_1 (List.mem_of_getElem? (i := 8) rfl)), fun _ h => absurd h List.not_mem_nil⟩) (by decide +kernel)) (goodIn_app (goodIn_app (goodIn_app (goodIn_app (goodIn_sub gi_L_refused_X2_append_0 (by decide +kernel)) (goodIn_app (goodIn_sub gi_L_refused_X2_append_1 (by decide +kernel)) (goodIn_app (goodIn_sub gi_L_refused_X2_append_2 (by decide +kernel)) (goodIn_sub gi_L_refused_X2_append_3 (by decide +kernel))))) (goodIn_sub (fun _ h => (List.mem_cons_of_mem _ (List.mem_append_left _ (List.mem_append_left _ (List.mem_append_left _ (List.mem_append_left _ (List.mem_append_left _ (List.mem_append_left _ (List.mem_append_right _ h))))))))) (by decide +kernel))) (goodIn_sub (fun _ h => (List.mem_cons_of_mem _ (List.mem_append_left _ (List.mem_append_left _ (List.mem_append_left _ (List.mem_append_left _ (List.mem_append_left _ (List.mem_append_right _ h)))))))) (by decide +kernel))) (goodIn_sub (fun _ h => (List.mem_cons_of_mem _ (List.mem_append_left _ (List.mem_append_left _ (List.mem_append_left _ (List.mem_append_left _ (List.mem_append_right _ h))))))) (by decide +kernel)))
set_option maxRecDepth 20000 in
theorem ggL_refused_X2_append : GoodIn wsL_refused wsX2_append := goodIn_ca (goodIn_ca gi_L_refused_X2_append (goodIn_sub (fun _ h => List.mem_cons_of_mem _ (List.mem_append_left _ (List.mem_append_left _ (List.mem_append_left _ (List.mem_append_right _ h))))) (by decide +kernel))) (goodIn_sub (fun _ h => List.mem_cons_of_mem _ (List.mem_append_left _ (List.mem_append_left _ (List.mem_append_right _ h)))) (by decide +kernel))
set_option maxRecDepth 20000 in
theorem gL_refused_X2_append : GoodIn wsL_refused (wsV RL 28 RX2 yX2_append wsX2_append) := goodIn_app (goodIn_of _ (by decide +kernel)) ggL_refused_X2_append
set_option maxRecDepth 20000 in
theorem gi_L_refused_X2_insert_0 : ∀ w ∈ wsX2_insert_r1, w ∈ wsL_refused := by
  unfold wsX2_insert_r1
  exact (List.forall_mem_cons.mpr ⟨(mi_L_refused_1 (List.mem_of_getElem? (i := 21) rfl)), (List.forall_mem_cons.mpr ⟨(mi_L_refused_1 (List.mem_of_getElem? (i := 22) rfl)), (List.forall_mem_cons.mpr ⟨(mi_L_refused_1 (List.mem_of_getElem? (i := 23) rfl)), (List.forall_mem_cons.mpr ⟨(mi_L_refused_3 (List.mem_of_getElem? (i := 4) rfl)), (List.forall_mem_cons.mpr ⟨(mi_L_refused_5 (List.mem_of_getElem? (i := 10) rfl)), (List.forall_mem_cons.mpr ⟨(mi_L_refused_2 (List.mem_of_getElem? (i := 0) rfl)), (List.forall_mem_cons.mpr ⟨(mi_L_refused_1 (List.mem_of_getElem? (i := 10) rfl)), (List.forall_mem_cons.mpr ⟨(mi_L_refused_1 (List.mem_of_getElem? (i := 11) rfl)), (List.forall_mem_cons.mpr ⟨(mi_L_refused_1 (List.mem_of_getElem? (i := 7) rfl)), (List.forall_mem_cons.mpr ⟨(mi_L_refused_1 (List.mem_of_getElem? (i := 12) rfl)), (List.forall_mem_cons.mpr ⟨(mi_L_refused_1 (List.mem_of_getElem? (i := 13) rfl)), (List.forall_mem_cons.mpr ⟨(mi_L_refused_1 (List.mem_of_getElem? (i := 14) rfl)), (List.forall_mem_cons.mpr ⟨(mi_L_refused_1 (List.mem_of_getElem? (i := 15) rfl)), (List.forall_mem_cons.mpr ⟨(mi_L_refused_1 (List.mem_of_getElem? (i := 16) rfl)), (List.forall_mem_cons.mpr ⟨(mi_L_refused_5 (List.mem_of_getElem? (i := 11) rfl)), (List.forall_mem_cons.mpr ⟨(mi_L_refused_5 (List.mem_of_getElem? (i := 12) rfl)), (List.forall_mem_cons.mpr ⟨(mi_L_refused_5 (List.mem_of_getElem? (i := 13) rfl)), (List.forall_mem_cons.mpr ⟨(mi_L_refused_2 (List.mem_of_getElem? (i := 4) rfl)), (List.forall_mem_cons.mpr ⟨(mi_L_refused_5 (List.mem_of_getElem? (i := 14) rfl)), (List.forall_mem_cons.mpr ⟨(mi_L_refused_2 (List.mem_of_getElem? (i := 11) rfl)), (List.forall_mem_cons.mpr ⟨(mi_L_refused_5 (List.mem_of_getElem? (i := 15) rfl)), (List.forall_mem_cons.mpr ⟨(mi_L_refused_2 (List.mem_of_getElem? (i := 2) rfl)), (List.forall_mem_cons.mpr ⟨(mi_L_refused_2 (List.mem_of_getElem? (i := 3) rfl)), (List.forall_mem_cons.mpr ⟨(mi_L_refused_2 (List.mem_of_getElem? (i := 5) rfl)), (fun _ h => absurd h List.not_mem_nil)⟩)⟩)⟩)⟩)⟩)⟩)⟩)⟩)⟩)⟩)⟩)⟩)⟩)⟩)⟩)⟩)⟩)⟩)⟩)⟩)⟩)⟩)⟩)⟩)
set_option maxRecDepth 20000 in
theorem gi_L_refused_X2_insert_1 : ∀ w ∈ wsX2_insert_r2, w ∈ wsL_refused := by
  unfold wsX2_insert_r2
  exact (List.forall_mem_cons.mpr ⟨(mi_L_refused_2 (List.mem_of_getElem? (i := 6) rfl)), (List.forall_mem_cons.mpr ⟨(mi_L_refused_2 (List.mem_of_getElem? (i := 7) rfl)), (List.forall_mem_cons.mpr ⟨(mi_L_refused_2 (List.mem_of_getElem? (i := 8) rfl)), (List.forall_mem_cons.mpr ⟨(mi_L_refused_2 (List.mem_of_getElem? (i := 9) rfl)), (List.forall_mem_cons.mpr ⟨(mi_L_refused_2 (List.mem_of_getElem? (i := 10) rfl)), (List.forall_mem_cons.mpr ⟨(mi_L_refused_2 (List.mem_of_getElem? (i := 12) rfl)), (List.forall_mem_cons.mpr ⟨(mi_L_refused_2 (List.mem_of_getElem? (i := 13) rfl)), (List.forall_mem_cons.mpr ⟨(mi_L_refused_2 (List.mem_of_getElem? (i := 14) rfl)), (List.forall_mem_cons.mpr ⟨(mi_L_refused_2 (List.mem_of_getElem? (i := 15) rfl)), (List.forall_mem_cons.mpr ⟨(mi_L_refused_5 (List.mem_of_getElem? (i := 16) rfl)), (List.forall_mem_cons.mpr ⟨(mi_L_refused_5 (List.mem_of_getElem? (i := 17) rfl)), (List.forall_mem_cons.mpr ⟨(mi_L_refused_5 (List.mem_of_getElem? (i := 18) rfl)), (List.forall_mem_cons.mpr ⟨(mi_L_refused_5 (List.mem_of_getElem? (i := 19) rfl)), (List.forall_mem_cons.mpr ⟨(mi_L_refused_5 (List.mem_of_getElem? (i := 20) rfl)), (List.forall_mem_cons.mpr ⟨(mi_L_refused_2 (List.mem_of_getElem? (i := 20) rfl)), (List.forall_mem_cons.mpr ⟨(mi_L_refused_2 (List.mem_of_getElem? (i := 21) rfl)), (List.forall_mem_cons.mpr ⟨(mi_L_refused_2 (List.mem_of_getElem? (i := 22) rfl)), (List.forall_mem_cons.mpr ⟨(mi_L_refused_2 (List.mem_of_getElem? (i := 23) rfl)), (List.forall_mem_cons.mpr ⟨(mi_L_refused_2 (List.mem_of_getElem? (i := 16) rfl)), (List.forall_mem_cons.mpr ⟨(mi_L_refused_2 (List.mem_of_getElem? (i := 17) rfl)), (List.forall_mem_cons.mpr ⟨(mi_L_refused_2 (List.mem_of_getElem? (i := 18) rfl)), (List.forall_mem_cons.mpr ⟨(mi_L_refused_2 (List.mem_of_getElem? (i := 19) rfl)), (List.forall_mem_cons.mpr ⟨(mi_L_refused_5 (List.mem_of_getElem? (i := 21) rfl)), (List.forall_mem_cons.mpr ⟨(mi_L_refused_5 (List.mem_of_getElem? (i := 22) rfl)), (fun _ h => absurd h List.not_mem_nil)⟩)⟩)⟩)⟩)⟩)⟩)⟩)⟩)⟩)⟩)⟩)⟩)⟩)⟩)⟩)⟩)⟩)⟩)⟩)⟩)⟩)⟩)⟩)⟩)
set_option maxRecDepth 20000 in
theorem gi_L_refused_X2_insert_2 : ∀ w ∈ wsX2_insert_r3, w ∈ wsL_refused := by
  unfold wsX2_insert_r3
  exact (List.forall_mem_cons.mpr ⟨(mi_L_refused_5 (List.mem_of_getElem? (i := 23) rfl)), (List.forall_mem_cons.mpr ⟨(mi_L_refused_6 (List.mem_of_getElem? (i := 0) rfl)), (List.forall_mem_cons.mpr ⟨(mi_L_refused_6 (List.mem_of_getElem? (i := 1) rfl)), (List.forall_mem_cons.mpr ⟨(mi_L_refused_2 (List.mem_of_getElem? (i := 1) rfl)), (List.forall_mem_cons.mpr ⟨(mi_L_refused_6 (List.mem_of_getElem? (i := 2) rfl)), (List.forall_mem_cons.mpr ⟨(mi_L_refused_6 (List.mem_of_getElem? (i := 3) rfl)), (List.forall_mem_cons.mpr ⟨(mi_L_refused_6 (List.mem_of_getElem? (i := 4) rfl)), (List.forall_mem_cons.mpr ⟨(mi_L_refused_6 (List.mem_of_getElem? (i := 5) rfl)), (List.forall_mem_cons.mpr ⟨(mi_L_refused_6 (List.mem_of_getElem? (i := 6) rfl)), (List.forall_mem_cons.mpr ⟨(mi_L_refused_3 (List.mem_of_getElem? (i := 7) rfl)), (List.forall_mem_cons.mpr ⟨(mi_L_refused_3 (List.mem_of_getElem? (i := 8) rfl)), (List.forall_mem_cons.mpr ⟨(mi_L_refused_3 (List.mem_of_getElem? (i := 9) rfl)), (List.forall_mem_cons.mpr ⟨(mi_L_refused_6 (List.mem_of_getElem? (i := 7) rfl)), (List.forall_mem_cons.mpr ⟨(mi_L_refused_4 (List.mem_of_getElem? (i := 14) rfl)), (List.forall_mem_cons.mpr ⟨(mi_L_refused_4 (List.mem_of_getElem? (i := 15) rfl)), (List.forall_mem_cons.mpr ⟨(mi_L_refused_4 (List.mem_of_getElem? (i := 16) rfl)), (List.forall_mem_cons.mpr ⟨(mi_L_refused_6 (List.mem_of_getElem? (i := 8) rfl)), (List.forall_mem_cons.mpr ⟨(mi_L_refused_6 (List.mem_of_getElem? (i := 9) rfl)), (List.forall_mem_cons.mpr ⟨(mi_L_refused_6 (List.mem_of_getElem? (i := 10) rfl)), (List.forall_mem_cons.mpr ⟨(mi_L_refused_6 (List.mem_of_getElem? (i := 11) rfl)), (List.forall_mem_cons.mpr ⟨(mi_L_refused_6 (List.mem_of_getElem? (i := 12) rfl)), (List.forall_mem_cons.mpr ⟨(mi_L_refused_6 (List.mem_of_getElem? (i := 13) rfl)), (List.forall_mem_cons.mpr ⟨(mi_L_refused_1 (List.mem_of_getElem? (i := 9) rfl)), (List.forall_mem_cons.mpr ⟨(mi_L_refused_6 (List.mem_of_getElem? (i := 14) rfl)), (fun _ h => absurd h List.not_mem_nil)⟩)⟩)⟩)⟩)⟩)⟩)⟩)⟩)⟩)⟩)⟩)⟩)⟩)⟩)⟩)⟩)⟩)⟩)⟩)⟩)⟩)⟩)⟩)⟩)
set_option maxRecDepth 20000 in
theorem gi_L_refused_X2_insert_3 : ∀ w ∈ wsX2_insert_r4, w ∈ wsL_refused := by
  unfold wsX2_insert_r4
  exact (List.forall_mem_cons.mpr ⟨(mi_L_refused_6 (List.mem_of_getElem? (i := 15) rfl)), (List.forall_mem_cons.mpr ⟨(mi_L_refused_6 (List.mem_of_getElem? (i := 16) rfl)), (List.forall_mem_cons.mpr ⟨(mi_L_refused_6 (List.mem_of_getElem? (i := 17) rfl)), (List.forall_mem_cons.mpr ⟨(mi_L_refused_6 (List.mem_of_getElem? (i := 18) rfl)), (List.forall_mem_cons.mpr ⟨(mi_L_refused_6 (List.mem_of_getElem? (i := 19) rfl)), (List.forall_mem_cons.mpr ⟨(mi_L_refused_6 (List.mem_of_getElem? (i := 20) rfl)), (List.forall_mem_cons.mpr ⟨(mi_L_refused_6 (List.mem_of_getElem? (i := 21) rfl)), (List.forall_mem_cons.mpr ⟨(mi_L_refused_6 (List.mem_of_getElem? (i := 22) rfl)), (List.forall_mem_cons.mpr ⟨(mi_L_refused_3 (List.mem_of_getElem? (i := 6) rfl)), (List.forall_mem_cons.mpr ⟨(mi_L_refused_6 (List.mem_of_getElem? (i := 23) rfl)), (List.forall_mem_cons.mpr ⟨(mi_L_refused_7 (List.mem_of_getElem? (i := 0) rfl)), (List.forall_mem_cons.mpr ⟨(mi_L_refused_7 (List.mem_of_getElem? (i := 1) rfl)), (List.forall_mem_cons.mpr ⟨(mi_L_refused_7 (List.mem_of_getElem? (i := 2) rfl)), (List.forall_mem_cons.mpr ⟨(mi_L_refused_3 (List.mem_of_getElem? (i := 5) rfl)), (List.forall_mem_cons.mpr ⟨(mi_L_refused_5 (List.mem_of_getElem? (i := 1) rfl)), (List.forall_mem_cons.mpr ⟨(mi_L_refused_7 (List.mem_of_getElem? (i := 3) rfl)), (List.forall_mem_cons.mpr ⟨(mi_L_refused_3 (List.mem_of_getElem? (i := 10) rfl)), (List.forall_mem_cons.mpr ⟨(mi_L_refused_3 (List.mem_of_getElem? (i := 11) rfl)), (List.forall_mem_cons.mpr ⟨(mi_L_refused_3 (List.mem_of_getElem? (i := 12) rfl)), (List.forall_mem_cons.mpr ⟨(mi_L_refused_3 (List.mem_of_getElem? (i := 13) rfl)), (List.forall_mem_cons.mpr ⟨(mi_L_refused_3 (List.mem_of_getElem? (i := 14) rfl)), (List.forall_mem_cons.mpr ⟨(mi_L_refused_3 (List.mem_of_getElem? (i := 15) rfl)), (List.forall_mem_cons.mpr ⟨(mi_L_refused_3 (List.mem_of_getElem? (i := 16) rfl)), (List.forall_mem_cons.mpr ⟨(mi_L_refused_3 (List.mem_of_getElem? (i := 17) rfl)), (fun _ h => absurd h List.not_mem_nil)⟩)⟩)⟩)⟩)⟩)⟩)⟩)⟩)⟩)⟩)⟩)⟩)⟩)⟩)⟩)⟩)⟩)⟩)⟩)⟩)⟩)⟩)⟩)⟩)
set_option maxRecDepth 20000 in
theorem gi_L_refused_X2_insert_4 : ∀ w ∈ wsX2_insert_r5, w ∈ wsL_refused := by
  unfold wsX2_insert_r5
  exact (List.forall_mem_cons.mpr ⟨(mi_L_refused_3 (List.mem_of_getElem? (i := 18) rfl)), (List.forall_mem_cons.mpr ⟨(mi_L_refused_3 (List.mem_of_getElem? (i := 19) rfl)), (List.forall_mem_cons.mpr ⟨(mi_L_refused_3 (List.mem_of_getElem? (i := 20) rfl)), (List.forall_mem_cons.mpr ⟨(mi_L_refused_3 (List.mem_of_getElem? (i := 21) rfl)), (List.forall_mem_cons.mpr ⟨(mi_L_refused_3 (List.mem_of_getElem? (i := 22) rfl)), (List.forall_mem_cons.mpr ⟨(mi_L_refused_5 (List.mem_of_getElem? (i := 2) rfl)), (List.forall_mem_cons.mpr ⟨(mi_L_refused_5 (List.mem_of_getElem? (i := 3) rfl)), (List.forall_mem_cons.mpr ⟨(mi_L_refused_5 (List.mem_of_getElem? (i := 4) rfl)), (List.forall_mem_cons.mpr ⟨(mi_L_refused_5 (List.mem_of_getElem? (i := 5) rfl)), (List.forall_mem_cons.mpr ⟨(mi_L_refused_7 (List.mem_of_getElem? (i := 4) rfl)), (List.forall_mem_cons.mpr ⟨(mi_L_refused_7 (List.mem_of_getElem? (i := 5) rfl)), (List.forall_mem_cons.mpr ⟨(mi_L_refused_7 (List.mem_of_getElem? (i := 6) rfl)), (List.forall_mem_cons.mpr ⟨(mi_L_refused_7 (List.mem_of_getElem? (i := 7) rfl)), (List.forall_mem_cons.mpr ⟨(mi_L_refused_7 (List.mem_of_getElem? (i := 8) rfl)), (List.forall_mem_cons.mpr ⟨(mi_L_refused_7 (List.mem_of_getElem? (i := 9) rfl)), (List.forall_mem_cons.mpr ⟨(mi_L_refused_7 (List.mem_of_getElem? (i := 10) rfl)), (List.forall_mem_cons.mpr ⟨(mi_L_refused_7 (List.mem_of_getElem? (i := 11) rfl)), (List.forall_mem_cons.mpr ⟨(mi_L_refused_7 (List.mem_of_getElem? (i := 12) rfl)), (List.forall_mem_cons.mpr ⟨(mi_L_refused_7 (List.mem_of_getElem? (i := 13) rfl)), (List.forall_mem_cons.mpr ⟨(mi_L_refused_7 (List.mem_of_getElem? (i := 14) rfl)), (List.forall_mem_cons.mpr ⟨(mi_L_refused_7 (List.mem_of_getElem? (i := 15) rfl)), (List.forall_mem_cons.mpr ⟨(mi_L_refused_7 (List.mem_of_getElem? (i := 16) rfl)), (List.forall_mem_cons.mpr ⟨(mi_L_refused_7 (List.mem_of_getElem? (i := 17) rfl)), (List.forall_mem_cons.mpr ⟨(mi_L_refused_7 (List.mem_of_getElem? (i := 18) rfl)), (fun _ h => absurd h List.not_mem_nil)⟩)⟩)⟩)⟩)⟩)⟩)⟩)⟩)⟩)⟩)⟩)⟩)⟩)⟩)⟩)⟩)⟩)⟩)⟩)⟩)⟩)⟩)⟩)⟩)
set_option maxRecDepth 20000 in
theorem gi_L_refused_X2_insert_5 : ∀ w ∈ wsX2_insert_r6, w ∈ wsL_refused := by
  unfold wsX2_insert_r6
  exact (List.forall_mem_cons.mpr ⟨(mi_L_refused_7 (List.mem_of_getElem? (i := 19) rfl)), (List.forall_mem_cons.mpr ⟨(mi_L_refused_7 (List.mem_of_getElem? (i := 20) rfl)), (List.forall_mem_cons.mpr ⟨(mi_L_refused_7 (List.mem_of_getElem? (i := 21) rfl)), (List.forall_mem_cons.mpr ⟨(mi_L_refused_7 (List.mem_of_getElem? (i := 22) rfl)), (List.forall_mem_cons.mpr ⟨(mi_L_refused_7 (List.mem_of_getElem? (i := 23) rfl)), (List.forall_mem_cons.mpr ⟨(mi_L_refused_8 (List.mem_of_getElem? (i := 0) rfl)), (List.forall_mem_cons.mpr ⟨(mi_L_refused_4 (List.mem_of_getElem? (i := 3) rfl)), (List.forall_mem_cons.mpr ⟨(mi_L_refused_4 (List.mem_of_getElem? (i := 4) rfl)), (List.forall_mem_cons.mpr ⟨(mi_L_refused_8 (List.mem_of_getElem? (i := 1) rfl)), (List.forall_mem_cons.mpr ⟨(mi_L_refused_8 (List.mem_of_getElem? (i := 2) rfl)), (List.forall_mem_cons.mpr ⟨(mi_L_refused_8 (List.mem_of_getElem? (i := 3) rfl)), (List.forall_mem_cons.mpr ⟨(mi_L_refused_8 (List.mem_of_getElem? (i := 4) rfl)), (List.forall_mem_cons.mpr ⟨(mi_L_refused_8 (List.mem_of_getElem? (i := 5) rfl)), (List.forall_mem_cons.mpr ⟨(mi_L_refused_8 (List.mem_of_getElem? (i := 6) rfl)), (List.forall_mem_cons.mpr ⟨(mi_L_refused_8 (List.mem_of_getElem? (i := 7) rfl)), (List.forall_mem_cons.mpr ⟨(mi_L_refused_8 (List.mem_of_getElem? (i := 8) rfl)), (List.forall_mem_cons.mpr ⟨(mi_L_refused_8 (List.mem_of_getElem? (i := 9) rfl)), (List.forall_mem_cons.mpr ⟨(mi_L_refused_4 (List.mem_of_getElem? (i := 21) rfl)), (List.forall_mem_cons.mpr ⟨(mi_L_refused_4 (List.mem_of_getElem? (i := 22) rfl)), (List.forall_mem_cons.mpr ⟨(mi_L_refused_4 (List.mem_of_getElem? (i := 23) rfl)), (List.forall_mem_cons.mpr ⟨(mi_L_refused_5 (List.mem_of_getElem? (i := 0) rfl)), (List.forall_mem_cons.mpr ⟨(mi_L_refused_4 (List.mem_of_getElem? (i := 5) rfl)), (List.forall_mem_cons.mpr ⟨(mi_L_refused_4 (List.mem_of_getElem? (i := 6) rfl)), (List.forall_mem_cons.mpr ⟨(mi_L_refused_4 (List.mem_of_getElem? (i := 7) rfl)), (fun _ h => absurd h List.not_mem_nil)⟩)⟩)⟩)⟩)⟩)⟩)⟩)⟩)⟩)⟩)⟩)⟩)⟩)⟩)⟩)⟩)⟩)⟩)⟩)⟩)⟩)⟩)⟩)⟩)
set_option maxRecDepth 20000 in
theorem gi_L_refused_X2_insert_6 : ∀ w ∈ wsX2_insert_r7, w ∈ wsL_refused := by
  unfold wsX2_insert_r7
  exact (List.forall_mem_cons.mpr ⟨(mi_L_refused_4 (List.mem_of_getElem? (i := 8) rfl)), (List.forall_mem_cons.mpr ⟨(mi_L_refused_4 (List.mem_of_getElem? (i := 9) rfl)), (List.forall_mem_cons.mpr ⟨(mi_L_refused_4 (List.mem_of_getElem? (i := 10) rfl)), (List.forall_mem_cons.mpr ⟨(mi_L_refused_4 (List.mem_of_getElem? (i := 11) rfl)), (List.forall_mem_cons.mpr ⟨(mi_L_refused_4 (List.mem_of_getElem? (i := 12) rfl)), (List.forall_mem_cons.mpr ⟨(mi_L_refused_4 (List.mem_of_getElem? (i := 17) rfl)), (List.forall_mem_cons.mpr ⟨(mi_L_refused_4 (List.mem_of_getElem? (i := 18) rfl)), (List.forall_mem_cons.mpr ⟨(mi_L_refused_4 (List.mem_of_getElem? (i := 19) rfl)), (List.forall_mem_cons.mpr ⟨(mi_L_refused_4 (List.mem_of_getElem? (i := 20) rfl)), (List.forall_mem_cons.mpr ⟨(mi_L_refused_3 (List.mem_of_getElem? (i := 23) rfl)), (List.forall_mem_cons.mpr ⟨(mi_L_refused_4 (List.mem_of_getElem? (i := 0) rfl)), (List.forall_mem_cons.mpr ⟨(mi_L_refused_4 (List.mem_of_getElem? (i := 1) rfl)), (List.forall_mem_cons.mpr ⟨(mi_L_refused_4 (List.mem_of_getElem? (i := 2) rfl)), (List.forall_mem_cons.mpr ⟨(mi_L_refused_4 (List.mem_of_getElem? (i := 13) rfl)), (fun _ h => absurd h List.not_mem_nil)⟩)⟩)⟩)⟩)⟩)⟩)⟩)⟩)⟩)⟩)⟩)⟩)⟩)⟩)
theorem gi_L_refused_X2_insert : GoodIn wsL_refused (.code yX2_insert cX2_insert 3 (some .int) :: ((wsX2_insert_r1 ++ (wsX2_insert_r2 ++ (wsX2_insert_r3 ++ (wsX2_insert_r4 ++ (wsX2_insert_r5 ++ (wsX2_insert_r6 ++ wsX2_insert_r7)))))) ++ wsX20 ++ wsX00 ++ wsX10)) := goodIn_c (goodIn_sub (List.forall_mem_cons.mpr ⟨(mi_L_refused_5 (List.mem_of_getElem? (i := 9) rfl)), fun _ h => absurd h List.not_mem_nil⟩) (by decide +kernel)) (goodIn_app (goodIn_app (goodIn_app (goodIn_app (goodIn_sub gi_L_refused_X2_insert_0 (by decide +kernel)) (goodIn_app (goodIn_sub gi_L_refused_X2_insert_1 (by decide +kernel)) (goodIn_app (goodIn_sub gi_L_refused_X2_insert_2 (by decide +kernel)) (goodIn_app (goodIn_sub gi_L_refused_X2_insert_3 (by decide +kernel)) (goodIn_app (goodIn_sub gi_L_refused_X2_insert_4 (by decide +kernel)) (goodIn_app (goodIn_sub gi_L_refused_X2_insert_5 (by decide +kernel)) (goodIn_sub gi_L_refused_X2_insert_6 (by decide +kernel)))))))) (goodIn_sub (fun _ h => (List.mem_cons_of_mem _ (List.mem_append_left _ (List.mem_append_left _ (List.mem_append_left _ (List.mem_append_left _ (List.mem_append_left _ (List.mem_append_left _ (List.mem_append_right _ h))))))))) (by decide +kernel))) (goodIn_sub (fun _ h => (List.mem_cons_of_mem _ (List.mem_append_left _ (List.mem_append_left _ (List.mem_append_left _ (List.mem_append_left _ (List.mem_append_left _ (List.mem_append_right _ h)))))))) (by decide +kernel))) (goodIn_sub (fun _ h => (List.mem_cons_of_mem _ (List.mem_append_left _ (List.mem_append_left _ (List.mem_append_left _ (List.mem_append_left _ (List.mem_append_right _ h))))))) (by decide +kernel)))
set_option maxRecDepth 20000 in
theorem ggL_refused_X2_insert : GoodIn wsL_refused wsX2_insert := goodIn_ca (goodIn_ca gi_L_refused_X2_insert (goodIn_sub (fun _ h => List.mem_cons_of_mem _ (List.mem_append_left _ (List.mem_append_left _ (List.mem_append_right _ h)))) (by decide +kernel))) (goodIn_sub (fun _ h => List.mem_cons_of_mem _ (List.mem_append_left _ (List.mem_append_left _ (List.mem_append_left _ (List.mem_append_right _ h))))) (by decide +kernel))
set_option maxRecDepth 20000 in
theorem gL_refused_X2_insert : GoodIn wsL_refused (wsV RL 34 RX2 yX2_insert wsX2_insert) := goodIn_app (goodIn_of _ (by decide +kernel)) ggL_refused_X2_insert
set_option maxRecDepth 20000 in
theorem gi_L_refused_X2_remove_0 : ∀ w ∈ wsX2_remove_r1, w ∈ wsL_refused := by
  unfold wsX2_remove_r1
  exact (List.forall_mem_cons.mpr ⟨(mi_L_refused_8 (List.mem_of_getElem? (i := 14) rfl)), (List.forall_mem_cons.mpr ⟨(mi_L_refused_8 (List.mem_of_getElem? (i := 15) rfl)), (List.forall_mem_cons.mpr ⟨(mi_L_refused_1 (List.mem_of_getElem? (i := 23) rfl)), (List.forall_mem_cons.mpr ⟨(mi_L_refused_2 (List.mem_of_getElem? (i := 0) rfl)), (List.forall_mem_cons.mpr ⟨(mi_L_refused_3 (List.mem_of_getElem? (i := 4) rfl)), (List.forall_mem_cons.mpr ⟨(mi_L_refused_5 (List.mem_of_getElem? (i := 10) rfl)), (List.forall_mem_cons.mpr ⟨(mi_L_refused_5 (List.mem_of_getElem? (i := 16) rfl)), (List.forall_mem_cons.mpr ⟨(mi_L_refused_5 (List.mem_of_getElem? (i := 17) rfl)), (List.forall_mem_cons.mpr ⟨(mi_L_refused_5 (List.mem_of_getElem? (i := 18) rfl)), (List.forall_mem_cons.mpr ⟨(mi_L_refused_1 (List.mem_of_getElem? (i := 7) rfl)), (List.forall_mem_cons.mpr ⟨(mi_L_refused_5 (List.mem_of_getElem? (i := 19) rfl)), (List.forall_mem_cons.mpr ⟨(mi_L_refused_5 (List.mem_of_getElem? (i := 11) rfl)), (List.forall_mem_cons.mpr ⟨(mi_L_refused_5 (List.mem_of_getElem? (i := 12) rfl)), (List.forall_mem_cons.mpr ⟨(mi_L_refused_5 (List.mem_of_getElem? (i := 13) rfl)), (List.forall_mem_cons.mpr ⟨(mi_L_refused_2 (List.mem_of_getElem? (i := 4) rfl)), (List.forall_mem_cons.mpr ⟨(mi_L_refused_5 (List.mem_of_getElem? (i := 14) rfl)), (List.forall_mem_cons.mpr ⟨(mi_L_refused_2 (List.mem_of_getElem? (i := 11) rfl)), (List.forall_mem_cons.mpr ⟨(mi_L_refused_5 (List.mem_of_getElem? (i := 15) rfl)), (List.forall_mem_cons.mpr ⟨(mi_L_refused_2 (List.mem_of_getElem? (i := 2) rfl)), (List.forall_mem_cons.mpr ⟨(mi_L_refused_2 (List.mem_of_getElem? (i := 3) rfl)), (List.forall_mem_cons.mpr ⟨(mi_L_refused_2 (List.mem_of_getElem? (i := 5) rfl)), (List.forall_mem_cons.mpr ⟨(mi_L_refused_2 (List.mem_of_getElem? (i := 6) rfl)), (List.forall_mem_cons.mpr ⟨(mi_L_refused_2 (List.mem_of_getElem? (i := 7) rfl)), (List.forall_mem_cons.mpr ⟨(mi_L_refused_2 (List.mem_of_getElem? (i := 8) rfl)), (fun _ h => absurd h List.not_mem_nil)⟩)⟩)⟩)⟩)⟩)⟩)⟩)⟩)⟩)⟩)⟩)⟩)⟩)⟩)⟩)⟩)⟩)⟩)⟩)⟩)⟩)⟩)⟩)⟩)
set_option maxRecDepth 20000 in
theorem gi_L_refused_X2_remove_1 : ∀ w ∈ wsX2_remove_r2, w ∈ wsL_refused := by
  unfold wsX2_remove_r2
  exact (List.forall_mem_cons.mpr ⟨(mi_L_refused_2 (List.mem_of_getElem? (i := 9) rfl)), (List.forall_mem_cons.mpr ⟨(mi_L_refused_2 (List.mem_of_getElem? (i := 10) rfl)), (List.forall_mem_cons.mpr ⟨(mi_L_refused_2 (List.mem_of_getElem? (i := 12) rfl)), (List.forall_mem_cons.mpr ⟨(mi_L_refused_2 (List.mem_of_getElem? (i := 13) rfl)), (List.forall_mem_cons.mpr ⟨(mi_L_refused_2 (List.mem_of_getElem? (i := 14) rfl)), (List.forall_mem_cons.mpr ⟨(mi_L_refused_2 (List.mem_of_getElem? (i := 15) rfl)), (List.forall_mem_cons.mpr ⟨(mi_L_refused_5 (List.mem_of_getElem? (i := 20) rfl)), (List.forall_mem_cons.mpr ⟨(mi_L_refused_2 (List.mem_of_getElem? (i := 1) rfl)), (List.forall_mem_cons.mpr ⟨(mi_L_refused_8 (List.mem_of_getElem? (i := 16) rfl)), (List.forall_mem_cons.mpr ⟨(mi_L_refused_8 (List.mem_of_getElem? (i := 17) rfl)), (List.forall_mem_cons.mpr ⟨(mi_L_refused_8 (List.mem_of_getElem? (i := 18) rfl)), (List.forall_mem_cons.mpr ⟨(mi_L_refused_8 (List.mem_of_getElem? (i := 19) rfl)), (List.forall_mem_cons.mpr ⟨(mi_L_refused_6 (List.mem_of_getElem? (i := 7) rfl)), (List.forall_mem_cons.mpr ⟨(mi_L_refused_4 (List.mem_of_getElem? (i := 14) rfl)), (List.forall_mem_cons.mpr ⟨(mi_L_refused_4 (List.mem_of_getElem? (i := 15) rfl)), (List.forall_mem_cons.mpr ⟨(mi_L_refused_4 (List.mem_of_getElem? (i := 16) rfl)), (List.forall_mem_cons.mpr ⟨(mi_L_refused_4 (List.mem_of_getElem? (i := 13) rfl)), (List.forall_mem_cons.mpr ⟨(mi_L_refused_8 (List.mem_of_getElem? (i := 20) rfl)), (List.forall_mem_cons.mpr ⟨(mi_L_refused_8 (List.mem_of_getElem? (i := 21) rfl)), (List.forall_mem_cons.mpr ⟨(mi_L_refused_8 (List.mem_of_getElem? (i := 22) rfl)), (List.forall_mem_cons.mpr ⟨(mi_L_refused_8 (List.mem_of_getElem? (i := 23) rfl)), (List.forall_mem_cons.mpr ⟨(mi_L_refused_2 (List.mem_of_getElem? (i := 20) rfl)), (List.forall_mem_cons.mpr ⟨(mi_L_refused_2 (List.mem_of_getElem? (i := 21) rfl)), (List.forall_mem_cons.mpr ⟨(mi_L_refused_2 (List.mem_of_getElem? (i := 22) rfl)), (fun _ h => absurd h List.not_mem_nil)⟩)⟩)⟩)⟩)⟩)⟩)⟩)⟩)⟩)⟩)⟩)⟩)⟩)⟩)⟩)⟩)⟩)⟩)⟩)⟩)⟩)⟩)⟩)⟩)
set_option maxRecDepth 20000 in
theorem gi_L_refused_X2_remove_2 : ∀ w ∈ wsX2_remove_r3, w ∈ wsL_refused := by
  unfold wsX2_remove_r3
  exact (List.forall_mem_cons.mpr ⟨(mi_L_refused_2 (List.mem_of_getElem? (i := 23) rfl)), (List.forall_mem_cons.mpr ⟨(mi_L_refused_2 (List.mem_of_getElem? (i := 16) rfl)), (List.forall_mem_cons.mpr ⟨(mi_L_refused_2 (List.mem_of_getElem? (i := 17) rfl)), (List.forall_mem_cons.mpr ⟨(mi_L_refused_2 (List.mem_of_getElem? (i := 18) rfl)), (List.forall_mem_cons.mpr ⟨(mi_L_refused_2 (List.mem_of_getElem? (i := 19) rfl)), (fun _ h => absurd h List.not_mem_nil)⟩)⟩)⟩)⟩)⟩)
theorem gi_L_refused_X2_remove : GoodIn wsL_refused (.code yX2_remove cX2_remove 3 (some .int) :: ((wsX2_remove_r1 ++ (wsX2_remove_r2 ++ wsX2_remove_r3)) ++ wsX20 ++ wsX00)) := goodIn_c (goodIn_sub (List.forall_mem_cons.mpr ⟨(mi_L_refused_8 (List.mem_of_getElem? (i := 13) rfl)), fun _ h => absurd h List.not_mem_nil⟩) (by decide +kernel)) (goodIn_app (goodIn_app (goodIn_app (goodIn_sub gi_L_refused_X2_remove_0 (by decide +kernel)) (goodIn_app (goodIn_sub gi_L_refused_X2_remove_1 (by decide +kernel)) (goodIn_sub gi_L_refused_X2_remove_2 (by decide +kernel)))) (goodIn_sub (fun _ h => (List.mem_cons_of_mem _ (List.mem_append_left _ (List.mem_append_left _ (List.mem_append_left _ (List.mem_append_left _ (List.mem_append_left _ (List.mem_append_left _ (List.mem_append_right _ h))))))))) (by decide +kernel))) (goodIn_sub (fun _ h => (List.mem_cons_of_mem _ (List.mem_append_left _ (List.mem_append_left _ (List.mem_append_left _ (List.mem_append_left _ (List.mem_append_left _ (List.mem_append_right _ h)))))))) (by decide +kernel)))
set_option maxRecDepth 20000 in
theorem ggL_refused_X2_remove : GoodIn wsL_refused wsX2_remove := goodIn_ca gi_L_refused_X2_remove (goodIn_sub (fun _ h => List.mem_cons_of_mem _ (List.mem_append_left _ (List.mem_append_right _ h))) (by decide +kernel))
set_option maxRecDepth 20000 in
theorem gL_refused_X2_remove : GoodIn wsL_refused (wsV RL 37 RX2 yX2_remove wsX2_remove) := goodIn_app (goodIn_of _ (by decide +kernel)) ggL_refused_X2_remove
set_option maxRecDepth 20000 in
theorem gi_L_refused_X2_select_0 : ∀ w ∈ wsX2_select_r1, w ∈ wsL_refused := by
  unfold wsX2_select_r1
  exact (List.forall_mem_cons.mpr ⟨(mi_L_refused_9 (List.mem_of_getElem? (i := 4) rfl)), (List.forall_mem_cons.mpr ⟨(mi_L_refused_9 (List.mem_of_getElem? (i := 5) rfl)), (List.forall_mem_cons.mpr ⟨(mi_L_refused_8 (List.mem_of_getElem? (i := 20) rfl)), (List.forall_mem_cons.mpr ⟨(mi_L_refused_8 (List.mem_of_getElem? (i := 21) rfl)), (List.forall_mem_cons.mpr ⟨(mi_L_refused_8 (List.mem_of_getElem? (i := 22) rfl)), (List.forall_mem_cons.mpr ⟨(mi_L_refused_1 (List.mem_of_getElem? (i := 7) rfl)), (List.forall_mem_cons.mpr ⟨(mi_L_refused_8 (List.mem_of_getElem? (i := 23) rfl)), (List.forall_mem_cons.mpr ⟨(mi_L_refused_5 (List.mem_of_getElem? (i := 10) rfl)), (List.forall_mem_cons.mpr ⟨(mi_L_refused_2 (List.mem_of_getElem? (i := 20) rfl)), (List.forall_mem_cons.mpr ⟨(mi_L_refused_2 (List.mem_of_getElem? (i := 21) rfl)), (List.forall_mem_cons.mpr ⟨(mi_L_refused_2 (List.mem_of_getElem? (i := 22) rfl)), (List.forall_mem_cons.mpr ⟨(mi_L_refused_2 (List.mem_of_getElem? (i := 23) rfl)), (List.forall_mem_cons.mpr ⟨(mi_L_refused_1 (List.mem_of_getElem? (i := 23) rfl)), (List.forall_mem_cons.mpr ⟨(mi_L_refused_2 (List.mem_of_getElem? (i := 0) rfl)), (List.forall_mem_cons.mpr ⟨(mi_L_refused_2 (List.mem_of_getElem? (i := 16) rfl)), (List.forall_mem_cons.mpr ⟨(mi_L_refused_2 (List.mem_of_getElem? (i := 17) rfl)), (List.forall_mem_cons.mpr ⟨(mi_L_refused_2 (List.mem_of_getElem? (i := 18) rfl)), (List.forall_mem_cons.mpr ⟨(mi_L_refused_2 (List.mem_of_getElem? (i := 4) rfl)), (List.forall_mem_cons.mpr ⟨(mi_L_refused_2 (List.mem_of_getElem? (i := 19) rfl)), (List.forall_mem_cons.mpr ⟨(mi_L_refused_2 (List.mem_of_getElem? (i := 6) rfl)), (List.forall_mem_cons.mpr ⟨(mi_L_refused_9 (List.mem_of_getElem? (i := 6) rfl)), (List.forall_mem_cons.mpr ⟨(mi_L_refused_9 (List.mem_of_getElem? (i := 7) rfl)), (List.forall_mem_cons.mpr ⟨(mi_L_refused_9 (List.mem_of_getElem? (i := 8) rfl)), (List.forall_mem_cons.mpr ⟨(mi_L_refused_9 (List.mem_of_getElem? (i := 9) rfl)), (fun _ h => absurd h List.not_mem_nil)⟩)⟩)⟩)⟩)⟩)⟩)⟩)⟩)⟩)⟩)⟩)⟩)⟩)⟩)⟩)⟩)⟩)⟩)⟩)⟩)⟩)⟩)⟩)⟩)
set_option maxRecDepth 20000 in
theorem gi_L_refused_X2_select_1 : ∀ w ∈ wsX2_select_r2, w ∈ wsL_refused := by
  unfold wsX2_select_r2
  exact (List.forall_mem_cons.mpr ⟨(mi_L_refused_6 (List.mem_of_getElem? (i := 12) rfl)), (List.forall_mem_cons.mpr ⟨(mi_L_refused_9 (List.mem_of_getElem? (i := 10) rfl)), (List.forall_mem_cons.mpr ⟨(mi_L_refused_9 (List.mem_of_getElem? (i := 11) rfl)), (List.forall_mem_cons.mpr ⟨(mi_L_refused_9 (List.mem_of_getElem? (i := 12) rfl)), (List.forall_mem_cons.mpr ⟨(mi_L_refused_9 (List.mem_of_getElem? (i := 13) rfl)), (List.forall_mem_cons.mpr ⟨(mi_L_refused_6 (List.mem_of_getElem? (i := 15) rfl)), (List.forall_mem_cons.mpr ⟨(mi_L_refused_6 (List.mem_of_getElem? (i := 16) rfl)), (List.forall_mem_cons.mpr ⟨(mi_L_refused_6 (List.mem_of_getElem? (i := 17) rfl)), (List.forall_mem_cons.mpr ⟨(mi_L_refused_6 (List.mem_of_getElem? (i := 18) rfl)), (List.forall_mem_cons.mpr ⟨(mi_L_refused_6 (List.mem_of_getElem? (i := 19) rfl)), (List.forall_mem_cons.mpr ⟨(mi_L_refused_6 (List.mem_of_getElem? (i := 20) rfl)), (List.forall_mem_cons.mpr ⟨(mi_L_refused_6 (List.mem_of_getElem? (i := 21) rfl)), (List.forall_mem_cons.mpr ⟨(mi_L_refused_6 (List.mem_of_getElem? (i := 22) rfl)), (List.forall_mem_cons.mpr ⟨(mi_L_refused_3 (List.mem_of_getElem? (i := 4) rfl)), (List.forall_mem_cons.mpr ⟨(mi_L_refused_5 (List.mem_of_getElem? (i := 20) rfl)), (List.forall_mem_cons.mpr ⟨(mi_L_refused_2 (List.mem_of_getElem? (i := 8) rfl)), (List.forall_mem_cons.mpr ⟨(mi_L_refused_2 (List.mem_of_getElem? (i := 9) rfl)), (List.forall_mem_cons.mpr ⟨(mi_L_refused_2 (List.mem_of_getElem? (i := 10) rfl)), (List.forall_mem_cons.mpr ⟨(mi_L_refused_2 (List.mem_of_getElem? (i := 11) rfl)), (List.forall_mem_cons.mpr ⟨(mi_L_refused_2 (List.mem_of_getElem? (i := 12) rfl)), (List.forall_mem_cons.mpr ⟨(mi_L_refused_2 (List.mem_of_getElem? (i := 13) rfl)), (List.forall_mem_cons.mpr ⟨(mi_L_refused_2 (List.mem_of_getElem? (i := 14) rfl)), (List.forall_mem_cons.mpr ⟨(mi_L_refused_2 (List.mem_of_getElem? (i := 15) rfl)), (List.forall_mem_cons.mpr ⟨(mi_L_refused_3 (List.mem_of_getElem? (i := 6) rfl)), (fun _ h => absurd h List.not_mem_nil)⟩)⟩)⟩)⟩)⟩)⟩)⟩)⟩)⟩)⟩)⟩)⟩)⟩)⟩)⟩)⟩)⟩)⟩)⟩)⟩)⟩)⟩)⟩)⟩)
set_option maxRecDepth 20000 in
theorem gi_L_refused_X2_select_2 : ∀ w ∈ wsX2_select_r3, w ∈ wsL_refused := by
  unfold wsX2_select_r3
  exact (List.forall_mem_cons.mpr ⟨(mi_L_refused_3 (List.mem_of_getElem? (i := 7) rfl)), (List.forall_mem_cons.mpr ⟨(mi_L_refused_3 (List.mem_of_getElem? (i := 8) rfl)), (List.forall_mem_cons.mpr ⟨(mi_L_refused_3 (List.mem_of_getElem? (i := 9) rfl)), (fun _ h => absurd h List.not_mem_nil)⟩)⟩)⟩)
theorem gi_L_refused_X2_select : GoodIn wsL_refused (.code yX2_select cX2_select 2 (some .int) :: ((wsX2_select_r1 ++ (wsX2_select_r2 ++ wsX2_select_r3)) ++ wsX20 ++ wsX00)) := goodIn_c (goodIn_sub (List.forall_mem_cons.mpr ⟨(mi_L_refused_9 (List.mem_of_getElem? (i := 3) rfl)), fun _ h => absurd h List.not_mem_nil⟩) (by decide +kernel)) (goodIn_app (goodIn_app (goodIn_app (goodIn_sub gi_L_refused_X2_select_0 (by decide +kernel)) (goodIn_app (goodIn_sub gi_L_refused_X2_select_1 (by decide +kernel)) (goodIn_sub gi_L_refused_X2_select_2 (by decide +kernel)))) (goodIn_sub (fun _ h => (List.mem_cons_of_mem _ (List.mem_append_left _ (List.mem_append_left _ (List.mem_append_left _ (List.mem_append_left _ (List.mem_append_left _ (List.mem_append_left _ (List.mem_append_right _ h))))))))) (by decide +kernel))) (goodIn_sub (fun _ h => (List.mem_cons_of_mem _ (List.mem_append_left _ (List.mem_append_left _ (List.mem_append_left _ (List.mem_append_left _ (List.mem_append_left _ (List.mem_append_right _ h)))))))) (by decide +kernel)))
set_option maxRecDepth 20000 in
theorem ggL_refused_X2_select : GoodIn wsL_refused wsX2_select := goodIn_ca gi_L_refused_X2_select (goodIn_sub (fun _ h => List.mem_cons_of_mem _ (List.mem_append_right _ h)) (by decide +kernel))
set_option maxRecDepth 20000 in
theorem gL_refused_X2_select : GoodIn wsL_refused (wsV RL 40 RX2 yX2_select wsX2_select) := goodIn_app (goodIn_of _ (by decide +kernel)) ggL_refused_X2_select
set_option maxRecDepth 20000 in
theorem gi_L_refused_X2_ceiling_0 : ∀ w ∈ wsX2_ceiling_r1, w ∈ wsL_refused := by
  unfold wsX2_ceiling_r1
  exact (List.forall_mem_cons.mpr ⟨(mi_L_refused_8 (List.mem_of_getElem? (i := 14) rfl)), (List.forall_mem_cons.mpr ⟨(mi_L_refused_8 (List.mem_of_getElem? (i := 15) rfl)), (List.forall_mem_cons.mpr ⟨(mi_L_refused_9 (List.mem_of_getElem? (i := 18) rfl)), (List.forall_mem_cons.mpr ⟨(mi_L_refused_9 (List.mem_of_getElem? (i := 19) rfl)), (List.forall_mem_cons.mpr ⟨(mi_L_refused_9 (List.mem_of_getElem? (i := 20) rfl)), (List.forall_mem_cons.mpr ⟨(mi_L_refused_1 (List.mem_of_getElem? (i := 7) rfl)), (List.forall_mem_cons.mpr ⟨(mi_L_refused_9 (List.mem_of_getElem? (i := 21) rfl)), (List.forall_mem_cons.mpr ⟨(mi_L_refused_1 (List.mem_of_getElem? (i := 23) rfl)), (List.forall_mem_cons.mpr ⟨(mi_L_refused_2 (List.mem_of_getElem? (i := 0) rfl)), (List.forall_mem_cons.mpr ⟨(mi_L_refused_3 (List.mem_of_getElem? (i := 4) rfl)), (List.forall_mem_cons.mpr ⟨(mi_L_refused_2 (List.mem_of_getElem? (i := 1) rfl)), (List.forall_mem_cons.mpr ⟨(mi_L_refused_2 (List.mem_of_getElem? (i := 2) rfl)), (List.forall_mem_cons.mpr ⟨(mi_L_refused_2 (List.mem_of_getElem? (i := 3) rfl)), (List.forall_mem_cons.mpr ⟨(mi_L_refused_2 (List.mem_of_getElem? (i := 4) rfl)), (List.forall_mem_cons.mpr ⟨(mi_L_refused_2 (List.mem_of_getElem? (i := 5) rfl)), (List.forall_mem_cons.mpr ⟨(mi_L_refused_2 (List.mem_of_getElem? (i := 6) rfl)), (List.forall_mem_cons.mpr ⟨(mi_L_refused_2 (List.mem_of_getElem? (i := 7) rfl)), (List.forall_mem_cons.mpr ⟨(mi_L_refused_2 (List.mem_of_getElem? (i := 8) rfl)), (List.forall_mem_cons.mpr ⟨(mi_L_refused_2 (List.mem_of_getElem? (i := 9) rfl)), (List.forall_mem_cons.mpr ⟨(mi_L_refused_2 (List.mem_of_getElem? (i := 10) rfl)), (List.forall_mem_cons.mpr ⟨(mi_L_refused_2 (List.mem_of_getElem? (i := 11) rfl)), (List.forall_mem_cons.mpr ⟨(mi_L_refused_2 (List.mem_of_getElem? (i := 12) rfl)), (List.forall_mem_cons.mpr ⟨(mi_L_refused_2 (List.mem_of_getElem? (i := 13) rfl)), (List.forall_mem_cons.mpr ⟨(mi_L_refused_2 (List.mem_of_getElem? (i := 14) rfl)), (fun _ h => absurd h List.not_mem_nil)⟩)⟩)⟩)⟩)⟩)⟩)⟩)⟩)⟩)⟩)⟩)⟩)⟩)⟩)⟩)⟩)⟩)⟩)⟩)⟩)⟩)⟩)⟩)⟩)
set_option maxRecDepth 20000 in
theorem gi_L_refused_X2_ceiling_1 : ∀ w ∈ wsX2_ceiling_r2, w ∈ wsL_refused := by
  unfold wsX2_ceiling_r2
  exact (List.forall_mem_cons.mpr ⟨(mi_L_refused_2 (List.mem_of_getElem? (i := 15) rfl)), (List.forall_mem_cons.mpr ⟨(mi_L_refused_5 (List.mem_of_getElem? (i := 20) rfl)), (List.forall_mem_cons.mpr ⟨(mi_L_refused_8 (List.mem_of_getElem? (i := 20) rfl)), (List.forall_mem_cons.mpr ⟨(mi_L_refused_8 (List.mem_of_getElem? (i := 21) rfl)), (List.forall_mem_cons.mpr ⟨(mi_L_refused_8 (List.mem_of_getElem? (i := 22) rfl)), (List.forall_mem_cons.mpr ⟨(mi_L_refused_8 (List.mem_of_getElem? (i := 23) rfl)), (List.forall_mem_cons.mpr ⟨(mi_L_refused_5 (List.mem_of_getElem? (i := 10) rfl)), (List.forall_mem_cons.mpr ⟨(mi_L_refused_2 (List.mem_of_getElem? (i := 20) rfl)), (List.forall_mem_cons.mpr ⟨(mi_L_refused_2 (List.mem_of_getElem? (i := 21) rfl)), (List.forall_mem_cons.mpr ⟨(mi_L_refused_2 (List.mem_of_getElem? (i := 22) rfl)), (List.forall_mem_cons.mpr ⟨(mi_L_refused_2 (List.mem_of_getElem? (i := 23) rfl)), (List.forall_mem_cons.mpr ⟨(mi_L_refused_2 (List.mem_of_getElem? (i := 16) rfl)), (List.forall_mem_cons.mpr ⟨(mi_L_refused_2 (List.mem_of_getElem? (i := 17) rfl)), (List.forall_mem_cons.mpr ⟨(mi_L_refused_2 (List.mem_of_getElem? (i := 18) rfl)), (List.forall_mem_cons.mpr ⟨(mi_L_refused_2 (List.mem_of_getElem? (i := 19) rfl)), (List.forall_mem_cons.mpr ⟨(mi_L_refused_9 (List.mem_of_getElem? (i := 6) rfl)), (List.forall_mem_cons.mpr ⟨(mi_L_refused_9 (List.mem_of_getElem? (i := 7) rfl)), (List.forall_mem_cons.mpr ⟨(mi_L_refused_9 (List.mem_of_getElem? (i := 8) rfl)), (List.forall_mem_cons.mpr ⟨(mi_L_refused_9 (List.mem_of_getElem? (i := 9) rfl)), (List.forall_mem_cons.mpr ⟨(mi_L_refused_6 (List.mem_of_getElem? (i := 12) rfl)), (List.forall_mem_cons.mpr ⟨(mi_L_refused_9 (List.mem_of_getElem? (i := 10) rfl)), (List.forall_mem_cons.mpr ⟨(mi_L_refused_9 (List.mem_of_getElem? (i := 11) rfl)), (List.forall_mem_cons.mpr ⟨(mi_L_refused_9 (List.mem_of_getElem? (i := 12) rfl)), (List.forall_mem_cons.mpr ⟨(mi_L_refused_9 (List.mem_of_getElem? (i := 13) rfl)), (fun _ h => absurd h List.not_mem_nil)⟩)⟩)⟩)⟩)⟩)⟩)⟩)⟩)⟩)⟩)⟩)⟩)⟩)⟩)⟩)⟩)⟩)⟩)⟩)⟩)⟩)⟩)⟩)⟩)
set_option maxRecDepth 20000 in
theorem gi_L_refused_X2_ceiling_2 : ∀ w ∈ wsX2_ceiling_r3, w ∈ wsL_refused := by
  unfold wsX2_ceiling_r3
  exact (List.forall_mem_cons.mpr ⟨(mi_L_refused_6 (List.mem_of_getElem? (i := 15) rfl)), (List.forall_mem_cons.mpr ⟨(mi_L_refused_6 (List.mem_of_getElem? (i := 16) rfl)), (List.forall_mem_cons.mpr ⟨(mi_L_refused_6 (List.mem_of_getElem? (i := 17) rfl)), (List.forall_mem_cons.mpr ⟨(mi_L_refused_6 (List.mem_of_getElem? (i := 18) rfl)), (List.forall_mem_cons.mpr ⟨(mi_L_refused_6 (List.mem_of_getElem? (i := 19) rfl)), (List.forall_mem_cons.mpr ⟨(mi_L_refused_6 (List.mem_of_getElem? (i := 20) rfl)), (List.forall_mem_cons.mpr ⟨(mi_L_refused_6 (List.mem_of_getElem? (i := 21) rfl)), (List.forall_mem_cons.mpr ⟨(mi_L_refused_6 (List.mem_of_getElem? (i := 22) rfl)), (List.forall_mem_cons.mpr ⟨(mi_L_refused_3 (List.mem_of_getElem? (i := 6) rfl)), (List.forall_mem_cons.mpr ⟨(mi_L_refused_3 (List.mem_of_getElem? (i := 7) rfl)), (List.forall_mem_cons.mpr ⟨(mi_L_refused_3 (List.mem_of_getElem? (i := 8) rfl)), (List.forall_mem_cons.mpr ⟨(mi_L_refused_3 (List.mem_of_getElem? (i := 9) rfl)), (fun _ h => absurd h List.not_mem_nil)⟩)⟩)⟩)⟩)⟩)⟩)⟩)⟩)⟩)⟩)⟩)⟩)
theorem gi_L_refused_X2_ceiling : GoodIn wsL_refused (.code yX2_ceiling cX2_ceiling 3 (some .int) :: ((wsX2_ceiling_r1 ++ (wsX2_ceiling_r2 ++ wsX2_ceiling_r3)) ++ wsX20 ++ wsX00)) := goodIn_c (goodIn_sub (List.forall_mem_cons.mpr ⟨(mi_L_refused_9 (List.mem_of_getElem? (i := 17) rfl)), fun _ h => absurd h List.not_mem_nil⟩) (by decide +kernel)) (goodIn_app (goodIn_app (goodIn_app (goodIn_sub gi_L_refused_X2_ceiling_0 (by decide +kernel)) (goodIn_app (goodIn_sub gi_L_refused_X2_ceiling_1 (by decide +kernel)) (goodIn_sub gi_L_refused_X2_ceiling_2 (by decide +kernel)))) (goodIn_sub (fun _ h => (List.mem_cons_of_mem _ (List.mem_append_left _ (List.mem_append_left _ (List.mem_append_left _ (List.mem_append_left _ (List.mem_append_left _ (List.mem_append_left _ (List.mem_append_right _ h))))))))) (by decide +kernel))) (goodIn_sub (fun _ h => (List.mem_cons_of_mem _ (List.mem_append_left _ (List.mem_append_left _ (List.mem_append_left _ (List.mem_append_left _ (List.mem_append_left _ (List.mem_append_right _ h)))))))) (by decide +kernel)))
set_option maxRecDepth 20000 in
theorem ggL_refused_X2_ceiling : GoodIn wsL_refused wsX2_ceiling := goodIn_ca gi_L_refused_X2_ceiling (goodIn_sub (fun _ h => List.mem_cons_of_mem _ (List.mem_append_left _ (List.mem_append_right _ h))) (by decide +kernel))
set_option maxRecDepth 20000 in
theorem gL_refused_X2_ceiling : GoodIn wsL_refused (wsV RL 43 RX2 yX2_ceiling wsX2_ceiling) := goodIn_app (goodIn_of _ (by decide +kernel)) ggL_refused_X2_ceiling
set_option maxRecDepth 20000 in
theorem ggL_refused_X2_start : GoodIn wsL_refused wsX2_start := goodIn_ca (goodIn_r _ [218, 10, 219, 220, 221, 8, 222, 197, 198, 157, 38, 39, 29, 40, 31, 36, 117, 33, 34, 35, 37, 227, 228, 229, 230, 231, 232, 233, 234, 235, 236, 237, 238, 239, 240, 241, 242, 243] (by decide +kernel) (by decide +kernel)) (goodIn_sub (fun _ h => List.mem_cons_of_mem _ (List.mem_append_right _ h)) (by decide +kernel))
set_option maxRecDepth 20000 in
theorem gL_refused_X2_start : GoodIn wsL_refused (wsV RL 46 RX2 yX2_start wsX2_start) := goodIn_app (goodIn_of _ (by decide +kernel)) ggL_refused_X2_start
set_option maxRecDepth 20000 in
theorem gi_L_refused_X2_rebuild_0 : ∀ w ∈ wsX2_rebuild_r1, w ∈ wsL_refused := by
  unfold wsX2_rebuild_r1
  exact (List.forall_mem_cons.mpr ⟨(mi_L_refused_1 (List.mem_of_getElem? (i := 13) rfl)), (List.forall_mem_cons.mpr ⟨(mi_L_refused_1 (List.mem_of_getElem? (i := 14) rfl)), (List.forall_mem_cons.mpr ⟨(mi_L_refused_5 (List.mem_of_getElem? (i := 1) rfl)), (List.forall_mem_cons.mpr ⟨(mi_L_refused_6 (List.mem_of_getElem? (i := 1) rfl)), (List.forall_mem_cons.mpr ⟨(mi_L_refused_6 (List.mem_of_getElem? (i := 12) rfl)), (List.forall_mem_cons.mpr ⟨(mi_L_refused_1 (List.mem_of_getElem? (i := 9) rfl)), (List.forall_mem_cons.mpr ⟨(mi_L_refused_9 (List.mem_of_getElem? (i := 10) rfl)), (List.forall_mem_cons.mpr ⟨(mi_L_refused_9 (List.mem_of_getElem? (i := 11) rfl)), (List.forall_mem_cons.mpr ⟨(mi_L_refused_9 (List.mem_of_getElem? (i := 12) rfl)), (List.forall_mem_cons.mpr ⟨(mi_L_refused_1 (List.mem_of_getElem? (i := 7) rfl)), (List.forall_mem_cons.mpr ⟨(mi_L_refused_9 (List.mem_of_getElem? (i := 13) rfl)), (List.forall_mem_cons.mpr ⟨(mi_L_refused_1 (List.mem_of_getElem? (i := 23) rfl)), (List.forall_mem_cons.mpr ⟨(mi_L_refused_2 (List.mem_of_getElem? (i := 0) rfl)), (List.forall_mem_cons.mpr ⟨(mi_L_refused_6 (List.mem_of_getElem? (i := 15) rfl)), (List.forall_mem_cons.mpr ⟨(mi_L_refused_6 (List.mem_of_getElem? (i := 16) rfl)), (List.forall_mem_cons.mpr ⟨(mi_L_refused_6 (List.mem_of_getElem? (i := 17) rfl)), (List.forall_mem_cons.mpr ⟨(mi_L_refused_2 (List.mem_of_getElem? (i := 4) rfl)), (List.forall_mem_cons.mpr ⟨(mi_L_refused_6 (List.mem_of_getElem? (i := 18) rfl)), (List.forall_mem_cons.mpr ⟨(mi_L_refused_2 (List.mem_of_getElem? (i := 6) rfl)), (List.forall_mem_cons.mpr ⟨(mi_L_refused_2 (List.mem_of_getElem? (i := 16) rfl)), (List.forall_mem_cons.mpr ⟨(mi_L_refused_2 (List.mem_of_getElem? (i := 17) rfl)), (List.forall_mem_cons.mpr ⟨(mi_L_refused_2 (List.mem_of_getElem? (i := 18) rfl)), (List.forall_mem_cons.mpr ⟨(mi_L_refused_2 (List.mem_of_getElem? (i := 19) rfl)), (List.forall_mem_cons.mpr ⟨(mi_L_refused_6 (List.mem_of_getElem? (i := 19) rfl)), (fun _ h => absurd h List.not_mem_nil)⟩)⟩)⟩)⟩)⟩)⟩)⟩)⟩)⟩)⟩)⟩)⟩)⟩)⟩)⟩)⟩)⟩)⟩)⟩)⟩)⟩)⟩)⟩)⟩)
set_option maxRecDepth 20000 in
theorem gi_L_refused_X2_rebuild_1 : ∀ w ∈ wsX2_rebuild_r2, w ∈ wsL_refused := by
  unfold wsX2_rebuild_r2
  exact (List.forall_mem_cons.mpr ⟨(mi_L_refused_6 (List.mem_of_getElem? (i := 20) rfl)), (List.forall_mem_cons.mpr ⟨(mi_L_refused_6 (List.mem_of_getElem? (i := 21) rfl)), (List.forall_mem_cons.mpr ⟨(mi_L_refused_6 (List.mem_of_getElem? (i := 22) rfl)), (List.forall_mem_cons.mpr ⟨(mi_L_refused_3 (List.mem_of_getElem? (i := 4) rfl)), (List.forall_mem_cons.mpr ⟨(mi_L_refused_5 (List.mem_of_getElem? (i := 20) rfl)), (List.forall_mem_cons.mpr ⟨(mi_L_refused_2 (List.mem_of_getElem? (i := 8) rfl)), (List.forall_mem_cons.mpr ⟨(mi_L_refused_2 (List.mem_of_getElem? (i := 9) rfl)), (List.forall_mem_cons.mpr ⟨(mi_L_refused_2 (List.mem_of_getElem? (i := 10) rfl)), (List.forall_mem_cons.mpr ⟨(mi_L_refused_2 (List.mem_of_getElem? (i := 11) rfl)), (List.forall_mem_cons.mpr ⟨(mi_L_refused_2 (List.mem_of_getElem? (i := 12) rfl)), (List.forall_mem_cons.mpr ⟨(mi_L_refused_2 (List.mem_of_getElem? (i := 13) rfl)), (List.forall_mem_cons.mpr ⟨(mi_L_refused_2 (List.mem_of_getElem? (i := 14) rfl)), (List.forall_mem_cons.mpr ⟨(mi_L_refused_2 (List.mem_of_getElem? (i := 15) rfl)), (List.forall_mem_cons.mpr ⟨(mi_L_refused_3 (List.mem_of_getElem? (i := 6) rfl)), (List.forall_mem_cons.mpr ⟨(mi_L_refused_3 (List.mem_of_getElem? (i := 7) rfl)), (List.forall_mem_cons.mpr ⟨(mi_L_refused_3 (List.mem_of_getElem? (i := 8) rfl)), (List.forall_mem_cons.mpr ⟨(mi_L_refused_3 (List.mem_of_getElem? (i := 9) rfl)), (List.forall_mem_cons.mpr ⟨(mi_L_refused_7 (List.mem_of_getElem? (i := 17) rfl)), (List.forall_mem_cons.mpr ⟨(mi_L_refused_7 (List.mem_of_getElem? (i := 18) rfl)), (List.forall_mem_cons.mpr ⟨(mi_L_refused_7 (List.mem_of_getElem? (i := 19) rfl)), (List.forall_mem_cons.mpr ⟨(mi_L_refused_7 (List.mem_of_getElem? (i := 20) rfl)), (List.forall_mem_cons.mpr ⟨(mi_L_refused_5 (List.mem_of_getElem? (i := 10) rfl)), (List.forall_mem_cons.mpr ⟨(mi_L_refused_7 (List.mem_of_getElem? (i := 21) rfl)), (List.forall_mem_cons.mpr ⟨(mi_L_refused_7 (List.mem_of_getElem? (i := 22) rfl)), (fun _ h => absurd h List.not_mem_nil)⟩)⟩)⟩)⟩)⟩)⟩)⟩)⟩)⟩)⟩)⟩)⟩)⟩)⟩)⟩)⟩)⟩)⟩)⟩)⟩)⟩)⟩)⟩)⟩)
set_option maxRecDepth 20000 in
theorem gi_L_refused_X2_rebuild_2 : ∀ w ∈ wsX2_rebuild_r3, w ∈ wsL_refused := by
  unfold wsX2_rebuild_r3
  exact (List.forall_mem_cons.mpr ⟨(mi_L_refused_7 (List.mem_of_getElem? (i := 23) rfl)), (List.forall_mem_cons.mpr ⟨(mi_L_refused_8 (List.mem_of_getElem? (i := 0) rfl)), (List.forall_mem_cons.mpr ⟨(mi_L_refused_4 (List.mem_of_getElem? (i := 3) rfl)), (List.forall_mem_cons.mpr ⟨(mi_L_refused_4 (List.mem_of_getElem? (i := 4) rfl)), (List.forall_mem_cons.mpr ⟨(mi_L_refused_3 (List.mem_of_getElem? (i := 0) rfl)), (List.forall_mem_cons.mpr ⟨(mi_L_refused_3 (List.mem_of_getElem? (i := 1) rfl)), (List.forall_mem_cons.mpr ⟨(mi_L_refused_3 (List.mem_of_getElem? (i := 2) rfl)), (List.forall_mem_cons.mpr ⟨(mi_L_refused_3 (List.mem_of_getElem? (i := 3) rfl)), (List.forall_mem_cons.mpr ⟨(mi_L_refused_3 (List.mem_of_getElem? (i := 5) rfl)), (List.forall_mem_cons.mpr ⟨(mi_L_refused_3 (List.mem_of_getElem? (i := 10) rfl)), (List.forall_mem_cons.mpr ⟨(mi_L_refused_3 (List.mem_of_getElem? (i := 11) rfl)), (List.forall_mem_cons.mpr ⟨(mi_L_refused_3 (List.mem_of_getElem? (i := 12) rfl)), (List.forall_mem_cons.mpr ⟨(mi_L_refused_3 (List.mem_of_getElem? (i := 13) rfl)), (List.forall_mem_cons.mpr ⟨(mi_L_refused_3 (List.mem_of_getElem? (i := 14) rfl)), (List.forall_mem_cons.mpr ⟨(mi_L_refused_3 (List.mem_of_getElem? (i := 15) rfl)), (List.forall_mem_cons.mpr ⟨(mi_L_refused_3 (List.mem_of_getElem? (i := 16) rfl)), (List.forall_mem_cons.mpr ⟨(mi_L_refused_3 (List.mem_of_getElem? (i := 17) rfl)), (List.forall_mem_cons.mpr ⟨(mi_L_refused_3 (List.mem_of_getElem? (i := 18) rfl)), (List.forall_mem_cons.mpr ⟨(mi_L_refused_3 (List.mem_of_getElem? (i := 19) rfl)), (List.forall_mem_cons.mpr ⟨(mi_L_refused_3 (List.mem_of_getElem? (i := 20) rfl)), (List.forall_mem_cons.mpr ⟨(mi_L_refused_3 (List.mem_of_getElem? (i := 21) rfl)), (List.forall_mem_cons.mpr ⟨(mi_L_refused_3 (List.mem_of_getElem? (i := 22) rfl)), (List.forall_mem_cons.mpr ⟨(mi_L_refused_3 (List.mem_of_getElem? (i := 23) rfl)), (List.forall_mem_cons.mpr ⟨(mi_L_refused_4 (List.mem_of_getElem? (i := 0) rfl)), (fun _ h => absurd h List.not_mem_nil)⟩)⟩)⟩)⟩)⟩)⟩)⟩)⟩)⟩)⟩)⟩)⟩)⟩)⟩)⟩)⟩)⟩)⟩)⟩)⟩)⟩)⟩)⟩)⟩)
set_option maxRecDepth 20000 in
theorem gi_L_refused_X2_rebuild_3 : ∀ w ∈ wsX2_rebuild_r4, w ∈ wsL_refused := by
  unfold wsX2_rebuild_r4
  exact (List.forall_mem_cons.mpr ⟨(mi_L_refused_4 (List.mem_of_getElem? (i := 1) rfl)), (List.forall_mem_cons.mpr ⟨(mi_L_refused_4 (List.mem_of_getElem? (i := 2) rfl)), (List.forall_mem_cons.mpr ⟨(mi_L_refused_4 (List.mem_of_getElem? (i := 5) rfl)), (List.forall_mem_cons.mpr ⟨(mi_L_refused_4 (List.mem_of_getElem? (i := 6) rfl)), (List.forall_mem_cons.mpr ⟨(mi_L_refused_4 (List.mem_of_getElem? (i := 7) rfl)), (List.forall_mem_cons.mpr ⟨(mi_L_refused_4 (List.mem_of_getElem? (i := 8) rfl)), (List.forall_mem_cons.mpr ⟨(mi_L_refused_4 (List.mem_of_getElem? (i := 9) rfl)), (List.forall_mem_cons.mpr ⟨(mi_L_refused_4 (List.mem_of_getElem? (i := 10) rfl)), (List.forall_mem_cons.mpr ⟨(mi_L_refused_4 (List.mem_of_getElem? (i := 11) rfl)), (List.forall_mem_cons.mpr ⟨(mi_L_refused_4 (List.mem_of_getElem? (i := 12) rfl)), (List.forall_mem_cons.mpr ⟨(mi_L_refused_4 (List.mem_of_getElem? (i := 13) rfl)), (List.forall_mem_cons.mpr ⟨(mi_L_refused_4 (List.mem_of_getElem? (i := 14) rfl)), (List.forall_mem_cons.mpr ⟨(mi_L_refused_4 (List.mem_of_getElem? (i := 15) rfl)), (List.forall_mem_cons.mpr ⟨(mi_L_refused_4 (List.mem_of_getElem? (i := 16) rfl)), (List.forall_mem_cons.mpr ⟨(mi_L_refused_4 (List.mem_of_getElem? (i := 17) rfl)), (List.forall_mem_cons.mpr ⟨(mi_L_refused_4 (List.mem_of_getElem? (i := 18) rfl)), (List.forall_mem_cons.mpr ⟨(mi_L_refused_4 (List.mem_of_getElem? (i := 19) rfl)), (List.forall_mem_cons.mpr ⟨(mi_L_refused_4 (List.mem_of_getElem? (i := 20) rfl)), (List.forall_mem_cons.mpr ⟨(mi_L_refused_4 (List.mem_of_getElem? (i := 21) rfl)), (List.forall_mem_cons.mpr ⟨(mi_L_refused_4 (List.mem_of_getElem? (i := 22) rfl)), (List.forall_mem_cons.mpr ⟨(mi_L_refused_4 (List.mem_of_getElem? (i := 23) rfl)), (List.forall_mem_cons.mpr ⟨(mi_L_refused_5 (List.mem_of_getElem? (i := 0) rfl)), (List.forall_mem_cons.mpr ⟨(mi_L_refused_5 (List.mem_of_getElem? (i := 2) rfl)), (List.forall_mem_cons.mpr ⟨(mi_L_refused_5 (List.mem_of_getElem? (i := 3) rfl)), (fun _ h => absurd h List.not_mem_nil)⟩)⟩)⟩)⟩)⟩)⟩)⟩)⟩)⟩)⟩)⟩)⟩)⟩)⟩)⟩)⟩)⟩)⟩)⟩)⟩)⟩)⟩)⟩)⟩)
set_option maxRecDepth 20000 in
theorem gi_L_refused_X2_rebuild_4 : ∀ w ∈ wsX2_rebuild_r5, w ∈ wsL_refused := by
  unfold wsX2_rebuild_r5
  exact (List.forall_mem_cons.mpr ⟨(mi_L_refused_5 (List.mem_of_getElem? (i := 4) rfl)), (List.forall_mem_cons.mpr ⟨(mi_L_refused_5 (List.mem_of_getElem? (i := 5) rfl)), (fun _ h => absurd h List.not_mem_nil)⟩)⟩)
theorem gi_L_refused_X2_rebuild : GoodIn wsL_refused (.code yX2_rebuild cX2_rebuild 4 (some .int) :: ((wsX2_rebuild_r1 ++ (wsX2_rebuild_r2 ++ (wsX2_rebuild_r3 ++ (wsX2_rebuild_r4 ++ wsX2_rebuild_r5)))) ++ wsX20 ++ wsX00 ++ wsX10)) := goodIn_c (goodIn_sub (List.forall_mem_cons.mpr ⟨(mi_L_refused_10 (List.mem_of_getElem? (i := 9) rfl)), fun _ h => absurd h List.not_mem_nil⟩) (by decide +kernel)) (goodIn_app (goodIn_app (goodIn_app (goodIn_app (goodIn_sub gi_L_refused_X2_rebuild_0 (by decide +kernel)) (goodIn_app (goodIn_sub gi_L_refused_X2_rebuild_1 (by decide +kernel)) (goodIn_app (goodIn_sub gi_L_refused_X2_rebuild_2 (by decide +kernel)) (goodIn_app (goodIn_sub gi_L_refused_X2_rebuild_3 (by decide +kernel)) (goodIn_sub gi_L_refused_X2_rebuild_4 (by decide +kernel)))))) (goodIn_sub (fun _ h => (List.mem_cons_of_mem _ (List.mem_append_left _ (List.mem_append_left _ (List.mem_append_left _ (List.mem_append_left _ (List.mem_append_left _ (List.mem_append_left _ (List.mem_append_right _ h))))))))) (by decide +kernel))) (goodIn_sub (fun _ h => (List.mem_cons_of_mem _ (List.mem_append_left _ (List.mem_append_left _ (List.mem_append_left _ (List.mem_append_left _ (List.mem_append_left _ (List.mem_append_right _ h)))))))) (by decide +kernel))) (goodIn_sub (fun _ h => (List.mem_cons_of_mem _ (List.mem_append_left _ (List.mem_append_left _ (List.mem_append_left _ (List.mem_append_left _ (List.mem_append_right _ h))))))) (by decide +kernel)))
set_option maxRecDepth 20000 in
theorem ggL_refused_X2_rebuild : GoodIn wsL_refused wsX2_rebuild := goodIn_ca gi_L_refused_X2_rebuild (goodIn_sub (fun _ h => List.mem_cons_of_mem _ (List.mem_append_left _ (List.mem_append_left _ (List.mem_append_left _ (List.mem_append_right _ h))))) (by decide +kernel))
set_option maxRecDepth 20000 in
theorem gL_refused_X2_rebuild : GoodIn wsL_refused (wsV RL 49 RX2 yX2_rebuild wsX2_rebuild) := goodIn_app (goodIn_of _ (by decide +kernel)) ggL_refused_X2_rebuild
theorem dL_refused_0 : decode cL_refused 0 = .ok (.iload_n 1, 1) := by decide +kernel
theorem dL_refused_1 : decode cL_refused 1 = .ok (.ifCond .ne 11, 3) := by decide +kernel
theorem dL_refused_4 : decode cL_refused 4 = .ok (.aload_n 0, 1) := by decide +kernel
theorem dL_refused_5 : decode cL_refused 5 = .ok (.iload_n 2, 1) := by decide +kernel
theorem dL_refused_6 : decode cL_refused 6 = .ok (.invokevirtual 28, 3) := by decide +kernel
theorem dL_refused_9 : decode cL_refused 9 = .ok (.goto 74, 3) := by decide +kernel
theorem dL_refused_12 : decode cL_refused 12 = .ok (.iload_n 1, 1) := by decide +kernel
theorem dL_refused_13 : decode cL_refused 13 = .ok (.iconst 1, 1) := by decide +kernel
theorem dL_refused_14 : decode cL_refused 14 = .ok (.if_icmp .ne 11, 3) := by decide +kernel
theorem dL_refused_17 : decode cL_refused 17 = .ok (.aload_n 0, 1) := by decide +kernel
theorem dL_refused_18 : decode cL_refused 18 = .ok (.iload_n 2, 1) := by decide +kernel
theorem dL_refused_19 : decode cL_refused 19 = .ok (.invokevirtual 34, 3) := by decide +kernel
theorem dL_refused_22 : decode cL_refused 22 = .ok (.goto 61, 3) := by decide +kernel
theorem dL_refused_25 : decode cL_refused 25 = .ok (.iload_n 1, 1) := by decide +kernel
theorem dL_refused_26 : decode cL_refused 26 = .ok (.iconst 2, 1) := by decide +kernel
theorem dL_refused_27 : decode cL_refused 27 = .ok (.if_icmp .ne 11, 3) := by decide +kernel
theorem dL_refused_30 : decode cL_refused 30 = .ok (.aload_n 0, 1) := by decide +kernel
theorem dL_refused_31 : decode cL_refused 31 = .ok (.iload_n 2, 1) := by decide +kernel
theorem dL_refused_32 : decode cL_refused 32 = .ok (.invokevirtual 37, 3) := by decide +kernel
theorem dL_refused_35 : decode cL_refused 35 = .ok (.goto 48, 3) := by decide +kernel
theorem dL_refused_38 : decode cL_refused 38 = .ok (.iload_n 1, 1) := by decide +kernel
theorem dL_refused_39 : decode cL_refused 39 = .ok (.iconst 3, 1) := by decide +kernel
theorem dL_refused_40 : decode cL_refused 40 = .ok (.if_icmp .ne 11, 3) := by decide +kernel
theorem dL_refused_43 : decode cL_refused 43 = .ok (.aload_n 0, 1) := by decide +kernel
theorem dL_refused_44 : decode cL_refused 44 = .ok (.iload_n 2, 1) := by decide +kernel
theorem dL_refused_45 : decode cL_refused 45 = .ok (.invokevirtual 40, 3) := by decide +kernel
theorem dL_refused_48 : decode cL_refused 48 = .ok (.goto 35, 3) := by decide +kernel
theorem dL_refused_51 : decode cL_refused 51 = .ok (.iload_n 1, 1) := by decide +kernel
theorem dL_refused_52 : decode cL_refused 52 = .ok (.iconst 4, 1) := by decide +kernel
theorem dL_refused_53 : decode cL_refused 53 = .ok (.if_icmp .ne 11, 3) := by decide +kernel
theorem dL_refused_56 : decode cL_refused 56 = .ok (.aload_n 0, 1) := by decide +kernel
theorem dL_refused_57 : decode cL_refused 57 = .ok (.iload_n 2, 1) := by decide +kernel
theorem dL_refused_58 : decode cL_refused 58 = .ok (.invokevirtual 43, 3) := by decide +kernel
theorem dL_refused_61 : decode cL_refused 61 = .ok (.goto 22, 3) := by decide +kernel
theorem dL_refused_64 : decode cL_refused 64 = .ok (.iload_n 1, 1) := by decide +kernel
theorem dL_refused_65 : decode cL_refused 65 = .ok (.iconst 5, 1) := by decide +kernel
theorem dL_refused_66 : decode cL_refused 66 = .ok (.if_icmp .ne 11, 3) := by decide +kernel
theorem dL_refused_69 : decode cL_refused 69 = .ok (.aload_n 0, 1) := by decide +kernel
theorem dL_refused_70 : decode cL_refused 70 = .ok (.iload_n 2, 1) := by decide +kernel
theorem dL_refused_71 : decode cL_refused 71 = .ok (.invokevirtual 46, 3) := by decide +kernel
theorem dL_refused_74 : decode cL_refused 74 = .ok (.goto 9, 3) := by decide +kernel
theorem dL_refused_77 : decode cL_refused 77 = .ok (.aload_n 0, 1) := by decide +kernel
theorem dL_refused_78 : decode cL_refused 78 = .ok (.iload_n 2, 1) := by decide +kernel
theorem dL_refused_79 : decode cL_refused 79 = .ok (.iload_n 3, 1) := by decide +kernel
theorem dL_refused_80 : decode cL_refused 80 = .ok (.invokevirtual 49, 3) := by decide +kernel
theorem dL_refused_83 : decode cL_refused 83 = .ok (.iconst 0, 1) := by decide +kernel
theorem dL_refused_84 : decode cL_refused 84 = .ok (.imul, 1) := by decide +kernel
theorem dL_refused_85 : decode cL_refused 85 = .ok (.ireturn, 1) := by decide +kernel
theorem dL_refused_86 : decode cL_refused 86 = .ok (.astore 4, 2) := by decide +kernel
theorem dL_refused_88 : decode cL_refused 88 = .ok (.iconst 1, 1) := by decide +kernel
theorem dL_refused_89 : decode cL_refused 89 = .ok (.ireturn, 1) := by decide +kernel
theorem dL_refused_90 : decode cL_refused 90 = .ok (.astore 4, 2) := by decide +kernel
theorem dL_refused_92 : decode cL_refused 92 = .ok (.iconst 2, 1) := by decide +kernel
theorem dL_refused_93 : decode cL_refused 93 = .ok (.ireturn, 1) := by decide +kernel
theorem dL_refused_94 : decode cL_refused 94 = .ok (.astore 4, 2) := by decide +kernel
theorem dL_refused_96 : decode cL_refused 96 = .ok (.iconst 3, 1) := by decide +kernel
theorem dL_refused_97 : decode cL_refused 97 = .ok (.ireturn, 1) := by decide +kernel
theorem dL_refused_98 : decode cL_refused 98 = .ok (.astore 4, 2) := by decide +kernel
theorem dL_refused_100 : decode cL_refused 100 = .ok (.iconst 4, 1) := by decide +kernel
theorem dL_refused_101 : decode cL_refused 101 = .ok (.ireturn, 1) := by decide +kernel
set_option maxRecDepth 20000 in
theorem ggL_guess_L_steepest : GoodIn wsL_guess wsL_steepest := goodIn_r _ [4] (by decide +kernel) (by decide +kernel)
set_option maxRecDepth 20000 in
theorem gL_guess_L_steepest : GoodIn wsL_guess (va_wsS RL 61 yL_steepest wsL_steepest) := goodIn_app (goodIn_of _ (by decide +kernel)) ggL_guess_L_steepest
theorem dL_guess_0 : decode cL_guess 0 = .ok (.aload_n 1, 1) := by decide +kernel
theorem dL_guess_1 : decode cL_guess 1 = .ok (.iload_n 2, 1) := by decide +kernel
theorem dL_guess_2 : decode cL_guess 2 = .ok (.iload_n 3, 1) := by decide +kernel
theorem dL_guess_3 : decode cL_guess 3 = .ok (.iload 4, 2) := by decide +kernel
theorem dL_guess_5 : decode cL_guess 5 = .ok (.invokestatic 61, 3) := by decide +kernel
theorem dL_guess_8 : decode cL_guess 8 = .ok (.istore 5, 2) := by decide +kernel
theorem dL_guess_10 : decode cL_guess 10 = .ok (.iload 5, 2) := by decide +kernel
theorem dL_guess_12 : decode cL_guess 12 = .ok (.iload_n 2, 1) := by decide +kernel
theorem dL_guess_13 : decode cL_guess 13 = .ok (.if_icmp .ne 8, 3) := by decide +kernel
theorem dL_guess_16 : decode cL_guess 16 = .ok (.iload_n 2, 1) := by decide +kernel
theorem dL_guess_17 : decode cL_guess 17 = .ok (.i2l, 1) := by decide +kernel
theorem dL_guess_18 : decode cL_guess 18 = .ok (.goto 31, 3) := by decide +kernel
theorem dL_guess_21 : decode cL_guess 21 = .ok (.iload_n 2, 1) := by decide +kernel
theorem dL_guess_22 : decode cL_guess 22 = .ok (.i2l, 1) := by decide +kernel
theorem dL_guess_23 : decode cL_guess 23 = .ok (.iload 5, 2) := by decide +kernel
theorem dL_guess_25 : decode cL_guess 25 = .ok (.iload_n 2, 1) := by decide +kernel
theorem dL_guess_26 : decode cL_guess 26 = .ok (.isub, 1) := by decide +kernel
theorem dL_guess_27 : decode cL_guess 27 = .ok (.iload 4, 2) := by decide +kernel
theorem dL_guess_29 : decode cL_guess 29 = .ok (.isub, 1) := by decide +kernel
theorem dL_guess_30 : decode cL_guess 30 = .ok (.i2l, 1) := by decide +kernel
theorem dL_guess_31 : decode cL_guess 31 = .ok (.iload_n 0, 1) := by decide +kernel
theorem dL_guess_32 : decode cL_guess 32 = .ok (.aload_n 1, 1) := by decide +kernel
theorem dL_guess_33 : decode cL_guess 33 = .ok (.iload_n 2, 1) := by decide +kernel
theorem dL_guess_34 : decode cL_guess 34 = .ok (.iaload, 1) := by decide +kernel
theorem dL_guess_35 : decode cL_guess 35 = .ok (.isub, 1) := by decide +kernel
theorem dL_guess_36 : decode cL_guess 36 = .ok (.i2l, 1) := by decide +kernel
theorem dL_guess_37 : decode cL_guess 37 = .ok (.lmul, 1) := by decide +kernel
theorem dL_guess_38 : decode cL_guess 38 = .ok (.aload_n 1, 1) := by decide +kernel
theorem dL_guess_39 : decode cL_guess 39 = .ok (.iload 5, 2) := by decide +kernel
theorem dL_guess_41 : decode cL_guess 41 = .ok (.iaload, 1) := by decide +kernel
theorem dL_guess_42 : decode cL_guess 42 = .ok (.aload_n 1, 1) := by decide +kernel
theorem dL_guess_43 : decode cL_guess 43 = .ok (.iload_n 2, 1) := by decide +kernel
theorem dL_guess_44 : decode cL_guess 44 = .ok (.iaload, 1) := by decide +kernel
theorem dL_guess_45 : decode cL_guess 45 = .ok (.isub, 1) := by decide +kernel
theorem dL_guess_46 : decode cL_guess 46 = .ok (.i2l, 1) := by decide +kernel
theorem dL_guess_47 : decode cL_guess 47 = .ok (.ldiv, 1) := by decide +kernel
theorem dL_guess_48 : decode cL_guess 48 = .ok (.ladd, 1) := by decide +kernel
theorem dL_guess_49 : decode cL_guess 49 = .ok (.lreturn, 1) := by decide +kernel
set_option maxRecDepth 20000 in
theorem ggL_pieces_L_behind : GoodIn wsL_pieces wsL_behind := goodIn_r _ [5] (by decide +kernel) (by decide +kernel)
set_option maxRecDepth 20000 in
theorem gL_pieces_L_behind : GoodIn wsL_pieces (va_wsS RL 16 yL_behind wsL_behind) := goodIn_app (goodIn_of _ (by decide +kernel)) ggL_pieces_L_behind
set_option maxRecDepth 20000 in
theorem ggL_pieces_L_steepest : GoodIn wsL_pieces wsL_steepest := goodIn_r _ [8] (by decide +kernel) (by decide +kernel)
set_option maxRecDepth 20000 in
theorem gL_pieces_L_steepest : GoodIn wsL_pieces (va_wsS RL 61 yL_steepest wsL_steepest) := goodIn_app (goodIn_of _ (by decide +kernel)) ggL_pieces_L_steepest
set_option maxRecDepth 20000 in
theorem ggL_pieces_L_common : GoodIn wsL_pieces wsL_common := goodIn_r _ [11] (by decide +kernel) (by decide +kernel)
set_option maxRecDepth 20000 in
theorem gL_pieces_L_common : GoodIn wsL_pieces (va_wsS RL 65 yL_common wsL_common) := goodIn_app (goodIn_of _ (by decide +kernel)) ggL_pieces_L_common
set_option maxRecDepth 20000 in
theorem ggL_pieces_L_fits : GoodIn wsL_pieces wsL_fits := goodIn_r _ [14] (by decide +kernel) (by decide +kernel)
set_option maxRecDepth 20000 in
theorem gL_pieces_L_fits : GoodIn wsL_pieces (va_wsS RL 10 yL_fits wsL_fits) := goodIn_app (goodIn_of _ (by decide +kernel)) ggL_pieces_L_fits
set_option maxRecDepth 20000 in
theorem ggL_pieces_X2_start : GoodIn wsL_pieces wsX2_start := goodIn_ca (goodIn_r _ [19, 20, 21, 22, 23, 18, 24, 25, 26, 27, 28, 29, 30, 31, 32, 33, 34, 35, 36, 37, 38, 311, 312, 313, 314, 315, 316, 317, 318, 319, 320, 321, 322, 323, 324, 325, 326, 327] (by decide +kernel) (by decide +kernel)) (goodIn_sub (fun _ h => List.mem_cons_of_mem _ (List.mem_append_left _ (List.mem_append_left _ (List.mem_append_left _ (List.mem_append_right _ h))))) (by decide +kernel))
set_option maxRecDepth 20000 in
theorem gL_pieces_X2_start : GoodIn wsL_pieces (wsV RL 46 RX2 yX2_start wsX2_start) := goodIn_app (goodIn_of _ (by decide +kernel)) ggL_pieces_X2_start
set_option maxRecDepth 20000 in
theorem ggL_pieces_X2_firstKey : GoodIn wsL_pieces wsX2_firstKey := goodIn_ca (goodIn_r _ [42, 21, 22, 23, 18, 24, 25, 26, 20, 27, 28, 29, 30, 31, 32, 33, 43, 44, 45, 46, 47, 34, 35, 36, 37, 38, 311, 312, 313, 314, 315, 316, 317, 318, 319, 320, 321, 322, 323, 324, 325, 326, 327] (by decide +kernel) (by decide +kernel)) (goodIn_sub (fun _ h => List.mem_cons_of_mem _ (List.mem_append_left _ (List.mem_append_left _ (List.mem_append_left _ (List.mem_append_right _ h))))) (by decide +kernel))
set_option maxRecDepth 20000 in
theorem gL_pieces_X2_firstKey : GoodIn wsL_pieces (wsV RL 68 RX2 yX2_firstKey wsX2_firstKey) := goodIn_app (goodIn_of _ (by decide +kernel)) ggL_pieces_X2_firstKey
set_option maxRecDepth 20000 in
theorem ggL_pieces_X2_rise : GoodIn wsL_pieces wsX2_rise := goodIn_ca (goodIn_r _ [51, 52, 21, 22, 23, 18, 24, 25, 26, 20, 27, 28, 29, 30, 31, 32, 33, 34, 35, 36, 37, 38, 311, 312, 313, 314, 315, 316, 317, 318, 319, 320, 321, 322, 323, 324, 325, 326, 327] (by decide +kernel) (by decide +kernel)) (goodIn_sub (fun _ h => List.mem_cons_of_mem _ (List.mem_append_left _ (List.mem_append_left _ (List.mem_append_left _ (List.mem_append_right _ h))))) (by decide +kernel))
set_option maxRecDepth 20000 in
theorem gL_pieces_X2_rise : GoodIn wsL_pieces (wsV RL 71 RX2 yX2_rise wsX2_rise) := goodIn_app (goodIn_of _ (by decide +kernel)) ggL_pieces_X2_rise
set_option maxRecDepth 20000 in
theorem ggL_pieces_X2_run : GoodIn wsL_pieces wsX2_run := goodIn_ca (goodIn_r _ [56, 57, 21, 22, 23, 18, 24, 25, 26, 20, 27, 28, 29, 30, 31, 32, 33, 34, 35, 36, 37, 38, 311, 312, 313, 314, 315, 316, 317, 318, 319, 320, 321, 322, 323, 324, 325, 326, 327] (by decide +kernel) (by decide +kernel)) (goodIn_sub (fun _ h => List.mem_cons_of_mem _ (List.mem_append_left _ (List.mem_append_left _ (List.mem_append_left _ (List.mem_append_right _ h))))) (by decide +kernel))
set_option maxRecDepth 20000 in
theorem gL_pieces_X2_run : GoodIn wsL_pieces (wsV RL 74 RX2 yX2_run wsX2_run) := goodIn_app (goodIn_of _ (by decide +kernel)) ggL_pieces_X2_run
set_option maxRecDepth 20000 in
theorem ggL_pieces_L_guess : GoodIn wsL_pieces wsL_guess := goodIn_r _ [60, 6, 7, 4, 8] (by decide +kernel) (by decide +kernel)
set_option maxRecDepth 20000 in
theorem gL_pieces_L_guess : GoodIn wsL_pieces (va_wsS RL 77 yL_guess wsL_guess) := goodIn_app (goodIn_of _ (by decide +kernel)) ggL_pieces_L_guess
theorem mi_L_pieces_1 {w : Cond} (h : w ∈ wsL_pieces_r1) : w ∈ wsL_pieces := (List.mem_cons_of_mem _ (List.mem_append_left _ (List.mem_append_left _ (List.mem_append_left _ (List.mem_append_left _ (List.mem_append_left _ (List.mem_append_left _ (List.mem_append_left _ (List.mem_append_left _ h)))))))))
theorem mi_L_pieces_2 {w : Cond} (h : w ∈ wsL_pieces_r2) : w ∈ wsL_pieces := (List.mem_cons_of_mem _ (List.mem_append_left _ (List.mem_append_left _ (List.mem_append_left _ (List.mem_append_left _ (List.mem_append_left _ (List.mem_append_left _ (List.mem_append_left _ (List.mem_append_right _ (List.mem_append_left _ h))))))))))
theorem mi_L_pieces_3 {w : Cond} (h : w ∈ wsL_pieces_r3) : w ∈ wsL_pieces := (List.mem_cons_of_mem _ (List.mem_append_left _ (List.mem_append_left _ (List.mem_append_left _ (List.mem_append_left _ (List.mem_append_left _ (List.mem_append_left _ (List.mem_append_left _ (List.mem_append_right _ (List.mem_append_right _ (List.mem_append_left _ h)))))))))))
theorem mi_L_pieces_4 {w : Cond} (h : w ∈ wsL_pieces_r4) : w ∈ wsL_pieces := (List.mem_cons_of_mem _ (List.mem_append_left _ (List.mem_append_left _ (List.mem_append_left _ (List.mem_append_left _ (List.mem_append_left _ (List.mem_append_left _ (List.mem_append_left _ (List.mem_append_right _ (List.mem_append_right _ (List.mem_append_right _ (List.mem_append_left _ h))))))))))))
theorem mi_L_pieces_5 {w : Cond} (h : w ∈ wsL_pieces_r5) : w ∈ wsL_pieces := (List.mem_cons_of_mem _ (List.mem_append_left _ (List.mem_append_left _ (List.mem_append_left _ (List.mem_append_left _ (List.mem_append_left _ (List.mem_append_left _ (List.mem_append_left _ (List.mem_append_right _ (List.mem_append_right _ (List.mem_append_right _ (List.mem_append_right _ (List.mem_append_left _ h)))))))))))))
theorem mi_L_pieces_6 {w : Cond} (h : w ∈ wsL_pieces_r6) : w ∈ wsL_pieces := (List.mem_cons_of_mem _ (List.mem_append_left _ (List.mem_append_left _ (List.mem_append_left _ (List.mem_append_left _ (List.mem_append_left _ (List.mem_append_left _ (List.mem_append_left _ (List.mem_append_right _ (List.mem_append_right _ (List.mem_append_right _ (List.mem_append_right _ (List.mem_append_right _ (List.mem_append_left _ h))))))))))))))
theorem mi_L_pieces_7 {w : Cond} (h : w ∈ wsL_pieces_r7) : w ∈ wsL_pieces := (List.mem_cons_of_mem _ (List.mem_append_left _ (List.mem_append_left _ (List.mem_append_left _ (List.mem_append_left _ (List.mem_append_left _ (List.mem_append_left _ (List.mem_append_left _ (List.mem_append_right _ (List.mem_append_right _ (List.mem_append_right _ (List.mem_append_right _ (List.mem_append_right _ (List.mem_append_right _ (List.mem_append_left _ h)))))))))))))))
theorem mi_L_pieces_8 {w : Cond} (h : w ∈ wsL_pieces_r8) : w ∈ wsL_pieces := (List.mem_cons_of_mem _ (List.mem_append_left _ (List.mem_append_left _ (List.mem_append_left _ (List.mem_append_left _ (List.mem_append_left _ (List.mem_append_left _ (List.mem_append_left _ (List.mem_append_right _ (List.mem_append_right _ (List.mem_append_right _ (List.mem_append_right _ (List.mem_append_right _ (List.mem_append_right _ (List.mem_append_right _ (List.mem_append_left _ h))))))))))))))))
theorem mi_L_pieces_9 {w : Cond} (h : w ∈ wsL_pieces_r9) : w ∈ wsL_pieces := (List.mem_cons_of_mem _ (List.mem_append_left _ (List.mem_append_left _ (List.mem_append_left _ (List.mem_append_left _ (List.mem_append_left _ (List.mem_append_left _ (List.mem_append_left _ (List.mem_append_right _ (List.mem_append_right _ (List.mem_append_right _ (List.mem_append_right _ (List.mem_append_right _ (List.mem_append_right _ (List.mem_append_right _ (List.mem_append_right _ (List.mem_append_left _ h)))))))))))))))))
theorem mi_L_pieces_10 {w : Cond} (h : w ∈ wsL_pieces_r10) : w ∈ wsL_pieces := (List.mem_cons_of_mem _ (List.mem_append_left _ (List.mem_append_left _ (List.mem_append_left _ (List.mem_append_left _ (List.mem_append_left _ (List.mem_append_left _ (List.mem_append_left _ (List.mem_append_right _ (List.mem_append_right _ (List.mem_append_right _ (List.mem_append_right _ (List.mem_append_right _ (List.mem_append_right _ (List.mem_append_right _ (List.mem_append_right _ (List.mem_append_right _ (List.mem_append_left _ h))))))))))))))))))
theorem mi_L_pieces_11 {w : Cond} (h : w ∈ wsL_pieces_r11) : w ∈ wsL_pieces := (List.mem_cons_of_mem _ (List.mem_append_left _ (List.mem_append_left _ (List.mem_append_left _ (List.mem_append_left _ (List.mem_append_left _ (List.mem_append_left _ (List.mem_append_left _ (List.mem_append_right _ (List.mem_append_right _ (List.mem_append_right _ (List.mem_append_right _ (List.mem_append_right _ (List.mem_append_right _ (List.mem_append_right _ (List.mem_append_right _ (List.mem_append_right _ (List.mem_append_right _ (List.mem_append_left _ h)))))))))))))))))))
theorem mi_L_pieces_12 {w : Cond} (h : w ∈ wsL_pieces_r12) : w ∈ wsL_pieces := (List.mem_cons_of_mem _ (List.mem_append_left _ (List.mem_append_left _ (List.mem_append_left _ (List.mem_append_left _ (List.mem_append_left _ (List.mem_append_left _ (List.mem_append_left _ (List.mem_append_right _ (List.mem_append_right _ (List.mem_append_right _ (List.mem_append_right _ (List.mem_append_right _ (List.mem_append_right _ (List.mem_append_right _ (List.mem_append_right _ (List.mem_append_right _ (List.mem_append_right _ (List.mem_append_right _ (List.mem_append_left _ h))))))))))))))))))))
theorem mi_L_pieces_13 {w : Cond} (h : w ∈ wsL_pieces_r13) : w ∈ wsL_pieces := (List.mem_cons_of_mem _ (List.mem_append_left _ (List.mem_append_left _ (List.mem_append_left _ (List.mem_append_left _ (List.mem_append_left _ (List.mem_append_left _ (List.mem_append_left _ (List.mem_append_right _ (List.mem_append_right _ (List.mem_append_right _ (List.mem_append_right _ (List.mem_append_right _ (List.mem_append_right _ (List.mem_append_right _ (List.mem_append_right _ (List.mem_append_right _ (List.mem_append_right _ (List.mem_append_right _ (List.mem_append_right _ h))))))))))))))))))))
set_option maxRecDepth 20000 in
theorem gi_L_pieces_X2_guess_0 : ∀ w ∈ wsX2_guess_r1, w ∈ wsL_pieces := by
  unfold wsX2_guess_r1
  exact (List.forall_mem_cons.mpr ⟨(mi_L_pieces_3 (List.mem_of_getElem? (i := 16) rfl)), (List.forall_mem_cons.mpr ⟨(mi_L_pieces_3 (List.mem_of_getElem? (i := 17) rfl)), (List.forall_mem_cons.mpr ⟨(mi_L_pieces_1 (List.mem_of_getElem? (i := 17) rfl)), (List.forall_mem_cons.mpr ⟨(mi_L_pieces_3 (List.mem_of_getElem? (i := 18) rfl)), (List.forall_mem_cons.mpr ⟨(mi_L_pieces_3 (List.mem_of_getElem? (i := 19) rfl)), (List.forall_mem_cons.mpr ⟨(mi_L_pieces_3 (List.mem_of_getElem? (i := 20) rfl)), (List.forall_mem_cons.mpr ⟨(mi_L_pieces_3 (List.mem_of_getElem? (i := 21) rfl)), (List.forall_mem_cons.mpr ⟨(mi_L_pieces_3 (List.mem_of_getElem? (i := 22) rfl)), (List.forall_mem_cons.mpr ⟨(mi_L_pieces_3 (List.mem_of_getElem? (i := 23) rfl)), (List.forall_mem_cons.mpr ⟨(mi_L_pieces_4 (List.mem_of_getElem? (i := 0) rfl)), (List.forall_mem_cons.mpr ⟨(mi_L_pieces_4 (List.mem_of_getElem? (i := 1) rfl)), (List.forall_mem_cons.mpr ⟨(mi_L_pieces_4 (List.mem_of_getElem? (i := 2) rfl)), (List.forall_mem_cons.mpr ⟨(mi_L_pieces_2 (List.mem_of_getElem? (i := 22) rfl)), (List.forall_mem_cons.mpr ⟨(mi_L_pieces_1 (List.mem_of_getElem? (i := 19) rfl)), (List.forall_mem_cons.mpr ⟨(mi_L_pieces_4 (List.mem_of_getElem? (i := 3) rfl)), (List.forall_mem_cons.mpr ⟨(mi_L_pieces_4 (List.mem_of_getElem? (i := 4) rfl)), (List.forall_mem_cons.mpr ⟨(mi_L_pieces_4 (List.mem_of_getElem? (i := 5) rfl)), (List.forall_mem_cons.mpr ⟨(mi_L_pieces_2 (List.mem_of_getElem? (i := 5) rfl)), (List.forall_mem_cons.mpr ⟨(mi_L_pieces_4 (List.mem_of_getElem? (i := 6) rfl)), (List.forall_mem_cons.mpr ⟨(mi_L_pieces_2 (List.mem_of_getElem? (i := 7) rfl)), (List.forall_mem_cons.mpr ⟨(mi_L_pieces_4 (List.mem_of_getElem? (i := 7) rfl)), (List.forall_mem_cons.mpr ⟨(mi_L_pieces_2 (List.mem_of_getElem? (i := 10) rfl)), (List.forall_mem_cons.mpr ⟨(mi_L_pieces_2 (List.mem_of_getElem? (i := 11) rfl)), (List.forall_mem_cons.mpr ⟨(mi_L_pieces_2 (List.mem_of_getElem? (i := 12) rfl)), (fun _ h => absurd h List.not_mem_nil)⟩)⟩)⟩)⟩)⟩)⟩)⟩)⟩)⟩)⟩)⟩)⟩)⟩)⟩)⟩)⟩)⟩)⟩)⟩)⟩)⟩)⟩)⟩)⟩)
set_option maxRecDepth 20000 in
theorem gi_L_pieces_X2_guess_1 : ∀ w ∈ wsX2_guess_r2, w ∈ wsL_pieces := by
  unfold wsX2_guess_r2
  exact (List.forall_mem_cons.mpr ⟨(mi_L_pieces_2 (List.mem_of_getElem? (i := 8) rfl)), (List.forall_mem_cons.mpr ⟨(mi_L_pieces_2 (List.mem_of_getElem? (i := 13) rfl)), (List.forall_mem_cons.mpr ⟨(mi_L_pieces_2 (List.mem_of_getElem? (i := 3) rfl)), (List.forall_mem_cons.mpr ⟨(mi_L_pieces_2 (List.mem_of_getElem? (i := 4) rfl)), (List.forall_mem_cons.mpr ⟨(mi_L_pieces_2 (List.mem_of_getElem? (i := 6) rfl)), (List.forall_mem_cons.mpr ⟨(mi_L_pieces_4 (List.mem_of_getElem? (i := 8) rfl)), (List.forall_mem_cons.mpr ⟨(mi_L_pieces_4 (List.mem_of_getElem? (i := 9) rfl)), (List.forall_mem_cons.mpr ⟨(mi_L_pieces_4 (List.mem_of_getElem? (i := 10) rfl)), (List.forall_mem_cons.mpr ⟨(mi_L_pieces_4 (List.mem_of_getElem? (i := 11) rfl)), (List.forall_mem_cons.mpr ⟨(mi_L_pieces_3 (List.mem_of_getElem? (i := 8) rfl)), (List.forall_mem_cons.mpr ⟨(mi_L_pieces_4 (List.mem_of_getElem? (i := 12) rfl)), (List.forall_mem_cons.mpr ⟨(mi_L_pieces_3 (List.mem_of_getElem? (i := 3) rfl)), (List.forall_mem_cons.mpr ⟨(mi_L_pieces_2 (List.mem_of_getElem? (i := 9) rfl)), (List.forall_mem_cons.mpr ⟨(mi_L_pieces_2 (List.mem_of_getElem? (i := 18) rfl)), (List.forall_mem_cons.mpr ⟨(mi_L_pieces_2 (List.mem_of_getElem? (i := 19) rfl)), (List.forall_mem_cons.mpr ⟨(mi_L_pieces_2 (List.mem_of_getElem? (i := 20) rfl)), (List.forall_mem_cons.mpr ⟨(mi_L_pieces_2 (List.mem_of_getElem? (i := 21) rfl)), (List.forall_mem_cons.mpr ⟨(mi_L_pieces_4 (List.mem_of_getElem? (i := 13) rfl)), (List.forall_mem_cons.mpr ⟨(mi_L_pieces_4 (List.mem_of_getElem? (i := 14) rfl)), (List.forall_mem_cons.mpr ⟨(mi_L_pieces_4 (List.mem_of_getElem? (i := 15) rfl)), (List.forall_mem_cons.mpr ⟨(mi_L_pieces_4 (List.mem_of_getElem? (i := 16) rfl)), (fun _ h => absurd h List.not_mem_nil)⟩)⟩)⟩)⟩)⟩)⟩)⟩)⟩)⟩)⟩)⟩)⟩)⟩)⟩)⟩)⟩)⟩)⟩)⟩)⟩)⟩)
theorem gi_L_pieces_X2_guess : GoodIn wsL_pieces (.code yX2_guess cX2_guess 2 (some .long) :: ((wsX2_guess_r1 ++ wsX2_guess_r2) ++ wsX20 ++ wsX00)) := goodIn_c (goodIn_sub (List.forall_mem_cons.mpr ⟨(mi_L_pieces_3 (List.mem_of_getElem? (i := 15) rfl)), fun _ h => absurd h List.not_mem_nil⟩) (by decide +kernel)) (goodIn_app (goodIn_app (goodIn_app (goodIn_sub gi_L_pieces_X2_guess_0 (by decide +kernel)) (goodIn_sub gi_L_pieces_X2_guess_1 (by decide +kernel))) (goodIn_sub (fun _ h => (List.mem_cons_of_mem _ (List.mem_append_left _ (List.mem_append_left _ (List.mem_append_left _ (List.mem_append_left _ (List.mem_append_left _ (List.mem_append_left _ (List.mem_append_right _ h))))))))) (by decide +kernel))) (goodIn_sub (fun _ h => (List.mem_cons_of_mem _ (List.mem_append_left _ (List.mem_append_left _ (List.mem_append_left _ (List.mem_append_left _ (List.mem_append_left _ (List.mem_append_right _ h)))))))) (by decide +kernel)))
set_option maxRecDepth 20000 in
theorem ggL_pieces_X2_guess : GoodIn wsL_pieces wsX2_guess := goodIn_ca gi_L_pieces_X2_guess (goodIn_sub (fun _ h => List.mem_cons_of_mem _ (List.mem_append_left _ (List.mem_append_left _ (List.mem_append_right _ h)))) (by decide +kernel))
set_option maxRecDepth 20000 in
theorem gL_pieces_X2_guess : GoodIn wsL_pieces (wsV RL 81 RX2 yX2_guess wsX2_guess) := goodIn_app (goodIn_of _ (by decide +kernel)) ggL_pieces_X2_guess
set_option maxRecDepth 20000 in
theorem ggL_pieces_X2_pieces : GoodIn wsL_pieces wsX2_pieces := goodIn_r _ [93, 20, 94, 95, 96, 30, 97, 32, 311, 312, 313, 314, 315, 316, 317, 318, 319, 320, 321, 322, 323, 324, 325, 326, 327] (by decide +kernel) (by decide +kernel)
set_option maxRecDepth 20000 in
theorem gL_pieces_X2_pieces : GoodIn wsL_pieces (wsV RL 84 RX2 yX2_pieces wsX2_pieces) := goodIn_app (goodIn_of _ (by decide +kernel)) ggL_pieces_X2_pieces
set_option maxRecDepth 20000 in
theorem gi_L_pieces_X2_worstError_0 : ∀ w ∈ wsX2_worstError_r1, w ∈ wsL_pieces := by
  unfold wsX2_worstError_r1
  exact (List.forall_mem_cons.mpr ⟨(mi_L_pieces_1 (List.mem_of_getElem? (i := 19) rfl)), (List.forall_mem_cons.mpr ⟨(mi_L_pieces_2 (List.mem_of_getElem? (i := 22) rfl)), (List.forall_mem_cons.mpr ⟨(mi_L_pieces_5 (List.mem_of_getElem? (i := 5) rfl)), (List.forall_mem_cons.mpr ⟨(mi_L_pieces_5 (List.mem_of_getElem? (i := 6) rfl)), (List.forall_mem_cons.mpr ⟨(mi_L_pieces_5 (List.mem_of_getElem? (i := 7) rfl)), (List.forall_mem_cons.mpr ⟨(mi_L_pieces_5 (List.mem_of_getElem? (i := 8) rfl)), (List.forall_mem_cons.mpr ⟨(mi_L_pieces_5 (List.mem_of_getElem? (i := 9) rfl)), (List.forall_mem_cons.mpr ⟨(mi_L_pieces_5 (List.mem_of_getElem? (i := 10) rfl)), (List.forall_mem_cons.mpr ⟨(mi_L_pieces_5 (List.mem_of_getElem? (i := 11) rfl)), (List.forall_mem_cons.mpr ⟨(mi_L_pieces_4 (List.mem_of_getElem? (i := 21) rfl)), (List.forall_mem_cons.mpr ⟨(mi_L_pieces_4 (List.mem_of_getElem? (i := 22) rfl)), (List.forall_mem_cons.mpr ⟨(mi_L_pieces_4 (List.mem_of_getElem? (i := 23) rfl)), (List.forall_mem_cons.mpr ⟨(mi_L_pieces_2 (List.mem_of_getElem? (i := 5) rfl)), (List.forall_mem_cons.mpr ⟨(mi_L_pieces_5 (List.mem_of_getElem? (i := 0) rfl)), (List.forall_mem_cons.mpr ⟨(mi_L_pieces_2 (List.mem_of_getElem? (i := 7) rfl)), (List.forall_mem_cons.mpr ⟨(mi_L_pieces_5 (List.mem_of_getElem? (i := 12) rfl)), (List.forall_mem_cons.mpr ⟨(mi_L_pieces_5 (List.mem_of_getElem? (i := 13) rfl)), (List.forall_mem_cons.mpr ⟨(mi_L_pieces_5 (List.mem_of_getElem? (i := 14) rfl)), (List.forall_mem_cons.mpr ⟨(mi_L_pieces_1 (List.mem_of_getElem? (i := 17) rfl)), (List.forall_mem_cons.mpr ⟨(mi_L_pieces_5 (List.mem_of_getElem? (i := 15) rfl)), (List.forall_mem_cons.mpr ⟨(mi_L_pieces_2 (List.mem_of_getElem? (i := 2) rfl)), (List.forall_mem_cons.mpr ⟨(mi_L_pieces_2 (List.mem_of_getElem? (i := 3) rfl)), (List.forall_mem_cons.mpr ⟨(mi_L_pieces_2 (List.mem_of_getElem? (i := 4) rfl)), (List.forall_mem_cons.mpr ⟨(mi_L_pieces_2 (List.mem_of_getElem? (i := 6) rfl)), (fun _ h => absurd h List.not_mem_nil)⟩)⟩)⟩)⟩)⟩)⟩)⟩)⟩)⟩)⟩)⟩)⟩)⟩)⟩)⟩)⟩)⟩)⟩)⟩)⟩)⟩)⟩)⟩)⟩)
set_option maxRecDepth 20000 in
theorem gi_L_pieces_X2_worstError_1 : ∀ w ∈ wsX2_worstError_r2, w ∈ wsL_pieces := by
  unfold wsX2_worstError_r2
  exact (List.forall_mem_cons.mpr ⟨(mi_L_pieces_2 (List.mem_of_getElem? (i := 8) rfl)), (List.forall_mem_cons.mpr ⟨(mi_L_pieces_2 (List.mem_of_getElem? (i := 9) rfl)), (List.forall_mem_cons.mpr ⟨(mi_L_pieces_2 (List.mem_of_getElem? (i := 10) rfl)), (List.forall_mem_cons.mpr ⟨(mi_L_pieces_2 (List.mem_of_getElem? (i := 11) rfl)), (List.forall_mem_cons.mpr ⟨(mi_L_pieces_2 (List.mem_of_getElem? (i := 12) rfl)), (List.forall_mem_cons.mpr ⟨(mi_L_pieces_2 (List.mem_of_getElem? (i := 13) rfl)), (List.forall_mem_cons.mpr ⟨(mi_L_pieces_4 (List.mem_of_getElem? (i := 8) rfl)), (List.forall_mem_cons.mpr ⟨(mi_L_pieces_4 (List.mem_of_getElem? (i := 9) rfl)), (List.forall_mem_cons.mpr ⟨(mi_L_pieces_4 (List.mem_of_getElem? (i := 10) rfl)), (List.forall_mem_cons.mpr ⟨(mi_L_pieces_4 (List.mem_of_getElem? (i := 11) rfl)), (List.forall_mem_cons.mpr ⟨(mi_L_pieces_3 (List.mem_of_getElem? (i := 8) rfl)), (List.forall_mem_cons.mpr ⟨(mi_L_pieces_4 (List.mem_of_getElem? (i := 12) rfl)), (List.forall_mem_cons.mpr ⟨(mi_L_pieces_3 (List.mem_of_getElem? (i := 3) rfl)), (List.forall_mem_cons.mpr ⟨(mi_L_pieces_2 (List.mem_of_getElem? (i := 18) rfl)), (List.forall_mem_cons.mpr ⟨(mi_L_pieces_2 (List.mem_of_getElem? (i := 19) rfl)), (List.forall_mem_cons.mpr ⟨(mi_L_pieces_2 (List.mem_of_getElem? (i := 20) rfl)), (List.forall_mem_cons.mpr ⟨(mi_L_pieces_2 (List.mem_of_getElem? (i := 21) rfl)), (List.forall_mem_cons.mpr ⟨(mi_L_pieces_4 (List.mem_of_getElem? (i := 13) rfl)), (List.forall_mem_cons.mpr ⟨(mi_L_pieces_4 (List.mem_of_getElem? (i := 14) rfl)), (List.forall_mem_cons.mpr ⟨(mi_L_pieces_4 (List.mem_of_getElem? (i := 15) rfl)), (List.forall_mem_cons.mpr ⟨(mi_L_pieces_4 (List.mem_of_getElem? (i := 16) rfl)), (fun _ h => absurd h List.not_mem_nil)⟩)⟩)⟩)⟩)⟩)⟩)⟩)⟩)⟩)⟩)⟩)⟩)⟩)⟩)⟩)⟩)⟩)⟩)⟩)⟩)⟩)
theorem gi_L_pieces_X2_worstError : GoodIn wsL_pieces (.code yX2_worstError cX2_worstError 8 (some .int) :: ((wsX2_worstError_r1 ++ wsX2_worstError_r2) ++ wsX20 ++ wsX00)) := goodIn_c (goodIn_sub (List.forall_mem_cons.mpr ⟨(mi_L_pieces_5 (List.mem_of_getElem? (i := 4) rfl)), fun _ h => absurd h List.not_mem_nil⟩) (by decide +kernel)) (goodIn_app (goodIn_app (goodIn_app (goodIn_sub gi_L_pieces_X2_worstError_0 (by decide +kernel)) (goodIn_sub gi_L_pieces_X2_worstError_1 (by decide +kernel))) (goodIn_sub (fun _ h => (List.mem_cons_of_mem _ (List.mem_append_left _ (List.mem_append_left _ (List.mem_append_left _ (List.mem_append_left _ (List.mem_append_left _ (List.mem_append_left _ (List.mem_append_right _ h))))))))) (by decide +kernel))) (goodIn_sub (fun _ h => (List.mem_cons_of_mem _ (List.mem_append_left _ (List.mem_append_left _ (List.mem_append_left _ (List.mem_append_left _ (List.mem_append_left _ (List.mem_append_right _ h)))))))) (by decide +kernel)))
set_option maxRecDepth 20000 in
theorem ggL_pieces_X2_worstError : GoodIn wsL_pieces wsX2_worstError := gi_L_pieces_X2_worstError
set_option maxRecDepth 20000 in
theorem gL_pieces_X2_worstError : GoodIn wsL_pieces (wsV RL 88 RX2 yX2_worstError wsX2_worstError) := goodIn_app (goodIn_of _ (by decide +kernel)) ggL_pieces_X2_worstError
set_option maxRecDepth 20000 in
theorem ggL_pieces_X2_slopes : GoodIn wsL_pieces wsX2_slopes := goodIn_r _ [116, 20, 94, 95, 96, 30, 97, 32, 117, 118, 119, 18, 120, 121, 122, 123, 124, 52, 57, 34, 35, 36, 37, 33, 38, 28, 29, 31, 311, 312, 313, 314, 315, 316, 317, 318, 319, 320, 321, 322, 323, 324, 325, 326, 327] (by decide +kernel) (by decide +kernel)
set_option maxRecDepth 20000 in
theorem gL_pieces_X2_slopes : GoodIn wsL_pieces (wsV RL 91 RX2 yX2_slopes wsX2_slopes) := goodIn_app (goodIn_of _ (by decide +kernel)) ggL_pieces_X2_slopes
set_option maxRecDepth 20000 in
theorem ggL_pieces_X2_commonest : GoodIn wsL_pieces wsX2_commonest := goodIn_r _ [128, 20, 94, 95, 96, 30, 97, 32, 129, 130, 131, 18, 132, 121, 122, 123, 124, 52, 57, 34, 35, 36, 37, 33, 38, 28, 29, 31, 311, 312, 313, 314, 315, 316, 317, 318, 319, 320, 321, 322, 323, 324, 325, 326, 327] (by decide +kernel) (by decide +kernel)
set_option maxRecDepth 20000 in
theorem gL_pieces_X2_commonest : GoodIn wsL_pieces (wsV RL 94 RX2 yX2_commonest wsX2_commonest) := goodIn_app (goodIn_of _ (by decide +kernel)) ggL_pieces_X2_commonest
set_option maxRecDepth 20000 in
theorem gi_L_pieces_L_refused_0 : ∀ w ∈ wsL_refused_r1, w ∈ wsL_pieces := by
  unfold wsL_refused_r1
  exact (List.forall_mem_cons.mpr ⟨(mi_L_pieces_6 (List.mem_of_getElem? (i := 15) rfl)), (List.forall_mem_cons.mpr ⟨(mi_L_pieces_6 (List.mem_of_getElem? (i := 16) rfl)), (List.forall_mem_cons.mpr ⟨(mi_L_pieces_6 (List.mem_of_getElem? (i := 17) rfl)), (List.forall_mem_cons.mpr ⟨(mi_L_pieces_6 (List.mem_of_getElem? (i := 18) rfl)), (List.forall_mem_cons.mpr ⟨(mi_L_pieces_6 (List.mem_of_getElem? (i := 19) rfl)), (List.forall_mem_cons.mpr ⟨(mi_L_pieces_6 (List.mem_of_getElem? (i := 20) rfl)), (List.forall_mem_cons.mpr ⟨(mi_L_pieces_6 (List.mem_of_getElem? (i := 21) rfl)), (List.forall_mem_cons.mpr ⟨(mi_L_pieces_1 (List.mem_of_getElem? (i := 17) rfl)), (List.forall_mem_cons.mpr ⟨(mi_L_pieces_6 (List.mem_of_getElem? (i := 22) rfl)), (List.forall_mem_cons.mpr ⟨(mi_L_pieces_1 (List.mem_of_getElem? (i := 19) rfl)), (List.forall_mem_cons.mpr ⟨(mi_L_pieces_3 (List.mem_of_getElem? (i := 16) rfl)), (List.forall_mem_cons.mpr ⟨(mi_L_pieces_3 (List.mem_of_getElem? (i := 17) rfl)), (List.forall_mem_cons.mpr ⟨(mi_L_pieces_3 (List.mem_of_getElem? (i := 18) rfl)), (List.forall_mem_cons.mpr ⟨(mi_L_pieces_3 (List.mem_of_getElem? (i := 19) rfl)), (List.forall_mem_cons.mpr ⟨(mi_L_pieces_3 (List.mem_of_getElem? (i := 20) rfl)), (List.forall_mem_cons.mpr ⟨(mi_L_pieces_3 (List.mem_of_getElem? (i := 21) rfl)), (List.forall_mem_cons.mpr ⟨(mi_L_pieces_3 (List.mem_of_getElem? (i := 22) rfl)), (List.forall_mem_cons.mpr ⟨(mi_L_pieces_6 (List.mem_of_getElem? (i := 23) rfl)), (List.forall_mem_cons.mpr ⟨(mi_L_pieces_7 (List.mem_of_getElem? (i := 0) rfl)), (List.forall_mem_cons.mpr ⟨(mi_L_pieces_7 (List.mem_of_getElem? (i := 1) rfl)), (List.forall_mem_cons.mpr ⟨(mi_L_pieces_7 (List.mem_of_getElem? (i := 2) rfl)), (List.forall_mem_cons.mpr ⟨(mi_L_pieces_7 (List.mem_of_getElem? (i := 3) rfl)), (List.forall_mem_cons.mpr ⟨(mi_L_pieces_7 (List.mem_of_getElem? (i := 4) rfl)), (List.forall_mem_cons.mpr ⟨(mi_L_pieces_2 (List.mem_of_getElem? (i := 22) rfl)), (fun _ h => absurd h List.not_mem_nil)⟩)⟩)⟩)⟩)⟩)⟩)⟩)⟩)⟩)⟩)⟩)⟩)⟩)⟩)⟩)⟩)⟩)⟩)⟩)⟩)⟩)⟩)⟩)⟩)
set_option maxRecDepth 20000 in
theorem gi_L_pieces_L_refused_1 : ∀ w ∈ wsL_refused_r2, w ∈ wsL_pieces := by
  unfold wsL_refused_r2
  exact (List.forall_mem_cons.mpr ⟨(mi_L_pieces_7 (List.mem_of_getElem? (i := 5) rfl)), (List.forall_mem_cons.mpr ⟨(mi_L_pieces_4 (List.mem_of_getElem? (i := 3) rfl)), (List.forall_mem_cons.mpr ⟨(mi_L_pieces_4 (List.mem_of_getElem? (i := 4) rfl)), (List.forall_mem_cons.mpr ⟨(mi_L_pieces_4 (List.mem_of_getElem? (i := 5) rfl)), (List.forall_mem_cons.mpr ⟨(mi_L_pieces_2 (List.mem_of_getElem? (i := 5) rfl)), (List.forall_mem_cons.mpr ⟨(mi_L_pieces_4 (List.mem_of_getElem? (i := 6) rfl)), (List.forall_mem_cons.mpr ⟨(mi_L_pieces_2 (List.mem_of_getElem? (i := 7) rfl)), (List.forall_mem_cons.mpr ⟨(mi_L_pieces_4 (List.mem_of_getElem? (i := 7) rfl)), (List.forall_mem_cons.mpr ⟨(mi_L_pieces_2 (List.mem_of_getElem? (i := 10) rfl)), (List.forall_mem_cons.mpr ⟨(mi_L_pieces_2 (List.mem_of_getElem? (i := 11) rfl)), (List.forall_mem_cons.mpr ⟨(mi_L_pieces_2 (List.mem_of_getElem? (i := 12) rfl)), (List.forall_mem_cons.mpr ⟨(mi_L_pieces_2 (List.mem_of_getElem? (i := 8) rfl)), (List.forall_mem_cons.mpr ⟨(mi_L_pieces_2 (List.mem_of_getElem? (i := 13) rfl)), (List.forall_mem_cons.mpr ⟨(mi_L_pieces_2 (List.mem_of_getElem? (i := 3) rfl)), (List.forall_mem_cons.mpr ⟨(mi_L_pieces_2 (List.mem_of_getElem? (i := 4) rfl)), (List.forall_mem_cons.mpr ⟨(mi_L_pieces_2 (List.mem_of_getElem? (i := 6) rfl)), (List.forall_mem_cons.mpr ⟨(mi_L_pieces_4 (List.mem_of_getElem? (i := 21) rfl)), (List.forall_mem_cons.mpr ⟨(mi_L_pieces_4 (List.mem_of_getElem? (i := 22) rfl)), (List.forall_mem_cons.mpr ⟨(mi_L_pieces_4 (List.mem_of_getElem? (i := 23) rfl)), (List.forall_mem_cons.mpr ⟨(mi_L_pieces_5 (List.mem_of_getElem? (i := 0) rfl)), (List.forall_mem_cons.mpr ⟨(mi_L_pieces_7 (List.mem_of_getElem? (i := 6) rfl)), (List.forall_mem_cons.mpr ⟨(mi_L_pieces_7 (List.mem_of_getElem? (i := 7) rfl)), (List.forall_mem_cons.mpr ⟨(mi_L_pieces_7 (List.mem_of_getElem? (i := 8) rfl)), (List.forall_mem_cons.mpr ⟨(mi_L_pieces_7 (List.mem_of_getElem? (i := 9) rfl)), (fun _ h => absurd h List.not_mem_nil)⟩)⟩)⟩)⟩)⟩)⟩)⟩)⟩)⟩)⟩)⟩)⟩)⟩)⟩)⟩)⟩)⟩)⟩)⟩)⟩)⟩)⟩)⟩)⟩)
set_option maxRecDepth 20000 in
theorem gi_L_pieces_L_refused_2 : ∀ w ∈ wsL_refused_r3, w ∈ wsL_pieces := by
  unfold wsL_refused_r3
  exact (List.forall_mem_cons.mpr ⟨(mi_L_pieces_7 (List.mem_of_getElem? (i := 10) rfl)), (List.forall_mem_cons.mpr ⟨(mi_L_pieces_7 (List.mem_of_getElem? (i := 11) rfl)), (List.forall_mem_cons.mpr ⟨(mi_L_pieces_7 (List.mem_of_getElem? (i := 12) rfl)), (List.forall_mem_cons.mpr ⟨(mi_L_pieces_7 (List.mem_of_getElem? (i := 13) rfl)), (List.forall_mem_cons.mpr ⟨(mi_L_pieces_7 (List.mem_of_getElem? (i := 14) rfl)), (List.forall_mem_cons.mpr ⟨(mi_L_pieces_7 (List.mem_of_getElem? (i := 15) rfl)), (List.forall_mem_cons.mpr ⟨(mi_L_pieces_7 (List.mem_of_getElem? (i := 16) rfl)), (List.forall_mem_cons.mpr ⟨(mi_L_pieces_7 (List.mem_of_getElem? (i := 17) rfl)), (List.forall_mem_cons.mpr ⟨(mi_L_pieces_7 (List.mem_of_getElem? (i := 18) rfl)), (List.forall_mem_cons.mpr ⟨(mi_L_pieces_7 (List.mem_of_getElem? (i := 19) rfl)), (List.forall_mem_cons.mpr ⟨(mi_L_pieces_7 (List.mem_of_getElem? (i := 20) rfl)), (List.forall_mem_cons.mpr ⟨(mi_L_pieces_7 (List.mem_of_getElem? (i := 21) rfl)), (List.forall_mem_cons.mpr ⟨(mi_L_pieces_7 (List.mem_of_getElem? (i := 22) rfl)), (List.forall_mem_cons.mpr ⟨(mi_L_pieces_7 (List.mem_of_getElem? (i := 23) rfl)), (List.forall_mem_cons.mpr ⟨(mi_L_pieces_8 (List.mem_of_getElem? (i := 0) rfl)), (List.forall_mem_cons.mpr ⟨(mi_L_pieces_8 (List.mem_of_getElem? (i := 1) rfl)), (List.forall_mem_cons.mpr ⟨(mi_L_pieces_8 (List.mem_of_getElem? (i := 2) rfl)), (List.forall_mem_cons.mpr ⟨(mi_L_pieces_8 (List.mem_of_getElem? (i := 3) rfl)), (List.forall_mem_cons.mpr ⟨(mi_L_pieces_8 (List.mem_of_getElem? (i := 4) rfl)), (List.forall_mem_cons.mpr ⟨(mi_L_pieces_8 (List.mem_of_getElem? (i := 5) rfl)), (List.forall_mem_cons.mpr ⟨(mi_L_pieces_8 (List.mem_of_getElem? (i := 6) rfl)), (List.forall_mem_cons.mpr ⟨(mi_L_pieces_8 (List.mem_of_getElem? (i := 7) rfl)), (List.forall_mem_cons.mpr ⟨(mi_L_pieces_8 (List.mem_of_getElem? (i := 8) rfl)), (List.forall_mem_cons.mpr ⟨(mi_L_pieces_8 (List.mem_of_getElem? (i := 9) rfl)), (fun _ h => absurd h List.not_mem_nil)⟩)⟩)⟩)⟩)⟩)⟩)⟩)⟩)⟩)⟩)⟩)⟩)⟩)⟩)⟩)⟩)⟩)⟩)⟩)⟩)⟩)⟩)⟩)⟩)
set_option maxRecDepth 20000 in
theorem gi_L_pieces_L_refused_3 : ∀ w ∈ wsL_refused_r4, w ∈ wsL_pieces := by
  unfold wsL_refused_r4
  exact (List.forall_mem_cons.mpr ⟨(mi_L_pieces_8 (List.mem_of_getElem? (i := 10) rfl)), (List.forall_mem_cons.mpr ⟨(mi_L_pieces_8 (List.mem_of_getElem? (i := 11) rfl)), (List.forall_mem_cons.mpr ⟨(mi_L_pieces_8 (List.mem_of_getElem? (i := 12) rfl)), (List.forall_mem_cons.mpr ⟨(mi_L_pieces_3 (List.mem_of_getElem? (i := 3) rfl)), (List.forall_mem_cons.mpr ⟨(mi_L_pieces_3 (List.mem_of_getElem? (i := 8) rfl)), (List.forall_mem_cons.mpr ⟨(mi_L_pieces_8 (List.mem_of_getElem? (i := 13) rfl)), (List.forall_mem_cons.mpr ⟨(mi_L_pieces_8 (List.mem_of_getElem? (i := 14) rfl)), (List.forall_mem_cons.mpr ⟨(mi_L_pieces_8 (List.mem_of_getElem? (i := 15) rfl)), (List.forall_mem_cons.mpr ⟨(mi_L_pieces_8 (List.mem_of_getElem? (i := 16) rfl)), (List.forall_mem_cons.mpr ⟨(mi_L_pieces_8 (List.mem_of_getElem? (i := 17) rfl)), (List.forall_mem_cons.mpr ⟨(mi_L_pieces_8 (List.mem_of_getElem? (i := 18) rfl)), (List.forall_mem_cons.mpr ⟨(mi_L_pieces_8 (List.mem_of_getElem? (i := 19) rfl)), (List.forall_mem_cons.mpr ⟨(mi_L_pieces_8 (List.mem_of_getElem? (i := 20) rfl)), (List.forall_mem_cons.mpr ⟨(mi_L_pieces_8 (List.mem_of_getElem? (i := 21) rfl)), (List.forall_mem_cons.mpr ⟨(mi_L_pieces_8 (List.mem_of_getElem? (i := 22) rfl)), (List.forall_mem_cons.mpr ⟨(mi_L_pieces_8 (List.mem_of_getElem? (i := 23) rfl)), (List.forall_mem_cons.mpr ⟨(mi_L_pieces_9 (List.mem_of_getElem? (i := 0) rfl)), (List.forall_mem_cons.mpr ⟨(mi_L_pieces_9 (List.mem_of_getElem? (i := 1) rfl)), (List.forall_mem_cons.mpr ⟨(mi_L_pieces_9 (List.mem_of_getElem? (i := 2) rfl)), (List.forall_mem_cons.mpr ⟨(mi_L_pieces_9 (List.mem_of_getElem? (i := 3) rfl)), (List.forall_mem_cons.mpr ⟨(mi_L_pieces_9 (List.mem_of_getElem? (i := 4) rfl)), (List.forall_mem_cons.mpr ⟨(mi_L_pieces_9 (List.mem_of_getElem? (i := 5) rfl)), (List.forall_mem_cons.mpr ⟨(mi_L_pieces_9 (List.mem_of_getElem? (i := 6) rfl)), (List.forall_mem_cons.mpr ⟨(mi_L_pieces_9 (List.mem_of_getElem? (i := 7) rfl)), (fun _ h => absurd h List.not_mem_nil)⟩)⟩)⟩)⟩)⟩)⟩)⟩)⟩)⟩)⟩)⟩)⟩)⟩)⟩)⟩)⟩)⟩)⟩)⟩)⟩)⟩)⟩)⟩)⟩)
set_option maxRecDepth 20000 in
theorem gi_L_pieces_L_refused_4 : ∀ w ∈ wsL_refused_r5, w ∈ wsL_pieces := by
  unfold wsL_refused_r5
  exact (List.forall_mem_cons.mpr ⟨(mi_L_pieces_9 (List.mem_of_getElem? (i := 8) rfl)), (List.forall_mem_cons.mpr ⟨(mi_L_pieces_9 (List.mem_of_getElem? (i := 9) rfl)), (List.forall_mem_cons.mpr ⟨(mi_L_pieces_9 (List.mem_of_getElem? (i := 10) rfl)), (List.forall_mem_cons.mpr ⟨(mi_L_pieces_9 (List.mem_of_getElem? (i := 11) rfl)), (List.forall_mem_cons.mpr ⟨(mi_L_pieces_9 (List.mem_of_getElem? (i := 12) rfl)), (List.forall_mem_cons.mpr ⟨(mi_L_pieces_9 (List.mem_of_getElem? (i := 13) rfl)), (List.forall_mem_cons.mpr ⟨(mi_L_pieces_9 (List.mem_of_getElem? (i := 14) rfl)), (List.forall_mem_cons.mpr ⟨(mi_L_pieces_9 (List.mem_of_getElem? (i := 15) rfl)), (List.forall_mem_cons.mpr ⟨(mi_L_pieces_9 (List.mem_of_getElem? (i := 16) rfl)), (List.forall_mem_cons.mpr ⟨(mi_L_pieces_9 (List.mem_of_getElem? (i := 17) rfl)), (List.forall_mem_cons.mpr ⟨(mi_L_pieces_9 (List.mem_of_getElem? (i := 18) rfl)), (List.forall_mem_cons.mpr ⟨(mi_L_pieces_9 (List.mem_of_getElem? (i := 19) rfl)), (List.forall_mem_cons.mpr ⟨(mi_L_pieces_9 (List.mem_of_getElem? (i := 20) rfl)), (List.forall_mem_cons.mpr ⟨(mi_L_pieces_9 (List.mem_of_getElem? (i := 21) rfl)), (List.forall_mem_cons.mpr ⟨(mi_L_pieces_9 (List.mem_of_getElem? (i := 22) rfl)), (List.forall_mem_cons.mpr ⟨(mi_L_pieces_9 (List.mem_of_getElem? (i := 23) rfl)), (List.forall_mem_cons.mpr ⟨(mi_L_pieces_10 (List.mem_of_getElem? (i := 0) rfl)), (List.forall_mem_cons.mpr ⟨(mi_L_pieces_10 (List.mem_of_getElem? (i := 1) rfl)), (List.forall_mem_cons.mpr ⟨(mi_L_pieces_10 (List.mem_of_getElem? (i := 2) rfl)), (List.forall_mem_cons.mpr ⟨(mi_L_pieces_10 (List.mem_of_getElem? (i := 3) rfl)), (List.forall_mem_cons.mpr ⟨(mi_L_pieces_2 (List.mem_of_getElem? (i := 9) rfl)), (List.forall_mem_cons.mpr ⟨(mi_L_pieces_10 (List.mem_of_getElem? (i := 4) rfl)), (List.forall_mem_cons.mpr ⟨(mi_L_pieces_10 (List.mem_of_getElem? (i := 5) rfl)), (List.forall_mem_cons.mpr ⟨(mi_L_pieces_10 (List.mem_of_getElem? (i := 6) rfl)), (fun _ h => absurd h List.not_mem_nil)⟩)⟩)⟩)⟩)⟩)⟩)⟩)⟩)⟩)⟩)⟩)⟩)⟩)⟩)⟩)⟩)⟩)⟩)⟩)⟩)⟩)⟩)⟩)⟩)
set_option maxRecDepth 20000 in
theorem gi_L_pieces_L_refused_5 : ∀ w ∈ wsL_refused_r6, w ∈ wsL_pieces := by
  unfold wsL_refused_r6
  exact (List.forall_mem_cons.mpr ⟨(mi_L_pieces_10 (List.mem_of_getElem? (i := 7) rfl)), (List.forall_mem_cons.mpr ⟨(mi_L_pieces_10 (List.mem_of_getElem? (i := 8) rfl)), (List.forall_mem_cons.mpr ⟨(mi_L_pieces_10 (List.mem_of_getElem? (i := 9) rfl)), (List.forall_mem_cons.mpr ⟨(mi_L_pieces_10 (List.mem_of_getElem? (i := 10) rfl)), (List.forall_mem_cons.mpr ⟨(mi_L_pieces_10 (List.mem_of_getElem? (i := 11) rfl)), (List.forall_mem_cons.mpr ⟨(mi_L_pieces_10 (List.mem_of_getElem? (i := 12) rfl)), (List.forall_mem_cons.mpr ⟨(mi_L_pieces_10 (List.mem_of_getElem? (i := 13) rfl)), (List.forall_mem_cons.mpr ⟨(mi_L_pieces_10 (List.mem_of_getElem? (i := 14) rfl)), (List.forall_mem_cons.mpr ⟨(mi_L_pieces_10 (List.mem_of_getElem? (i := 15) rfl)), (List.forall_mem_cons.mpr ⟨(mi_L_pieces_10 (List.mem_of_getElem? (i := 16) rfl)), (List.forall_mem_cons.mpr ⟨(mi_L_pieces_10 (List.mem_of_getElem? (i := 17) rfl)), (List.forall_mem_cons.mpr ⟨(mi_L_pieces_10 (List.mem_of_getElem? (i := 18) rfl)), (List.forall_mem_cons.mpr ⟨(mi_L_pieces_10 (List.mem_of_getElem? (i := 19) rfl)), (List.forall_mem_cons.mpr ⟨(mi_L_pieces_10 (List.mem_of_getElem? (i := 20) rfl)), (List.forall_mem_cons.mpr ⟨(mi_L_pieces_10 (List.mem_of_getElem? (i := 21) rfl)), (List.forall_mem_cons.mpr ⟨(mi_L_pieces_10 (List.mem_of_getElem? (i := 22) rfl)), (List.forall_mem_cons.mpr ⟨(mi_L_pieces_10 (List.mem_of_getElem? (i := 23) rfl)), (List.forall_mem_cons.mpr ⟨(mi_L_pieces_11 (List.mem_of_getElem? (i := 0) rfl)), (List.forall_mem_cons.mpr ⟨(mi_L_pieces_11 (List.mem_of_getElem? (i := 1) rfl)), (List.forall_mem_cons.mpr ⟨(mi_L_pieces_11 (List.mem_of_getElem? (i := 2) rfl)), (List.forall_mem_cons.mpr ⟨(mi_L_pieces_11 (List.mem_of_getElem? (i := 3) rfl)), (List.forall_mem_cons.mpr ⟨(mi_L_pieces_11 (List.mem_of_getElem? (i := 4) rfl)), (List.forall_mem_cons.mpr ⟨(mi_L_pieces_11 (List.mem_of_getElem? (i := 5) rfl)), (List.forall_mem_cons.mpr ⟨(mi_L_pieces_11 (List.mem_of_getElem? (i := 6) rfl)), (fun _ h => absurd h List.not_mem_nil)⟩)⟩)⟩)⟩)⟩)⟩)⟩)⟩)⟩)⟩)⟩)⟩)⟩)⟩)⟩)⟩)⟩)⟩)⟩)⟩)⟩)⟩)⟩)⟩)
set_option maxRecDepth 20000 in
theorem gi_L_pieces_L_refused_6 : ∀ w ∈ wsL_refused_r7, w ∈ wsL_pieces := by
  unfold wsL_refused_r7
  exact (List.forall_mem_cons.mpr ⟨(mi_L_pieces_11 (List.mem_of_getElem? (i := 7) rfl)), (List.forall_mem_cons.mpr ⟨(mi_L_pieces_11 (List.mem_of_getElem? (i := 8) rfl)), (List.forall_mem_cons.mpr ⟨(mi_L_pieces_11 (List.mem_of_getElem? (i := 9) rfl)), (List.forall_mem_cons.mpr ⟨(mi_L_pieces_11 (List.mem_of_getElem? (i := 10) rfl)), (List.forall_mem_cons.mpr ⟨(mi_L_pieces_11 (List.mem_of_getElem? (i := 11) rfl)), (List.forall_mem_cons.mpr ⟨(mi_L_pieces_11 (List.mem_of_getElem? (i := 12) rfl)), (List.forall_mem_cons.mpr ⟨(mi_L_pieces_11 (List.mem_of_getElem? (i := 13) rfl)), (List.forall_mem_cons.mpr ⟨(mi_L_pieces_11 (List.mem_of_getElem? (i := 14) rfl)), (List.forall_mem_cons.mpr ⟨(mi_L_pieces_2 (List.mem_of_getElem? (i := 18) rfl)), (List.forall_mem_cons.mpr ⟨(mi_L_pieces_2 (List.mem_of_getElem? (i := 19) rfl)), (List.forall_mem_cons.mpr ⟨(mi_L_pieces_2 (List.mem_of_getElem? (i := 20) rfl)), (List.forall_mem_cons.mpr ⟨(mi_L_pieces_2 (List.mem_of_getElem? (i := 21) rfl)), (List.forall_mem_cons.mpr ⟨(mi_L_pieces_2 (List.mem_of_getElem? (i := 2) rfl)), (List.forall_mem_cons.mpr ⟨(mi_L_pieces_5 (List.mem_of_getElem? (i := 12) rfl)), (List.forall_mem_cons.mpr ⟨(mi_L_pieces_5 (List.mem_of_getElem? (i := 13) rfl)), (List.forall_mem_cons.mpr ⟨(mi_L_pieces_5 (List.mem_of_getElem? (i := 14) rfl)), (List.forall_mem_cons.mpr ⟨(mi_L_pieces_5 (List.mem_of_getElem? (i := 15) rfl)), (List.forall_mem_cons.mpr ⟨(mi_L_pieces_11 (List.mem_of_getElem? (i := 15) rfl)), (List.forall_mem_cons.mpr ⟨(mi_L_pieces_11 (List.mem_of_getElem? (i := 16) rfl)), (List.forall_mem_cons.mpr ⟨(mi_L_pieces_11 (List.mem_of_getElem? (i := 17) rfl)), (List.forall_mem_cons.mpr ⟨(mi_L_pieces_11 (List.mem_of_getElem? (i := 18) rfl)), (List.forall_mem_cons.mpr ⟨(mi_L_pieces_11 (List.mem_of_getElem? (i := 19) rfl)), (List.forall_mem_cons.mpr ⟨(mi_L_pieces_11 (List.mem_of_getElem? (i := 20) rfl)), (List.forall_mem_cons.mpr ⟨(mi_L_pieces_11 (List.mem_of_getElem? (i := 21) rfl)), (fun _ h => absurd h List.not_mem_nil)⟩)⟩)⟩)⟩)⟩)⟩)⟩)⟩)⟩)⟩)⟩)⟩)⟩)⟩)⟩)⟩)⟩)⟩)⟩)⟩)⟩)⟩)⟩)⟩)
set_option maxRecDepth 20000 in
theorem gi_L_pieces_L_refused_7 : ∀ w ∈ wsL_refused_r8, w ∈ wsL_pieces := by
  unfold wsL_refused_r8
  exact (List.forall_mem_cons.mpr ⟨(mi_L_pieces_11 (List.mem_of_getElem? (i := 22) rfl)), (List.forall_mem_cons.mpr ⟨(mi_L_pieces_11 (List.mem_of_getElem? (i := 23) rfl)), (List.forall_mem_cons.mpr ⟨(mi_L_pieces_12 (List.mem_of_getElem? (i := 0) rfl)), (List.forall_mem_cons.mpr ⟨(mi_L_pieces_12 (List.mem_of_getElem? (i := 1) rfl)), (List.forall_mem_cons.mpr ⟨(mi_L_pieces_12 (List.mem_of_getElem? (i := 2) rfl)), (List.forall_mem_cons.mpr ⟨(mi_L_pieces_12 (List.mem_of_getElem? (i := 3) rfl)), (List.forall_mem_cons.mpr ⟨(mi_L_pieces_12 (List.mem_of_getElem? (i := 4) rfl)), (List.forall_mem_cons.mpr ⟨(mi_L_pieces_12 (List.mem_of_getElem? (i := 5) rfl)), (List.forall_mem_cons.mpr ⟨(mi_L_pieces_12 (List.mem_of_getElem? (i := 6) rfl)), (List.forall_mem_cons.mpr ⟨(mi_L_pieces_12 (List.mem_of_getElem? (i := 7) rfl)), (List.forall_mem_cons.mpr ⟨(mi_L_pieces_12 (List.mem_of_getElem? (i := 8) rfl)), (List.forall_mem_cons.mpr ⟨(mi_L_pieces_12 (List.mem_of_getElem? (i := 9) rfl)), (List.forall_mem_cons.mpr ⟨(mi_L_pieces_12 (List.mem_of_getElem? (i := 10) rfl)), (List.forall_mem_cons.mpr ⟨(mi_L_pieces_12 (List.mem_of_getElem? (i := 11) rfl)), (List.forall_mem_cons.mpr ⟨(mi_L_pieces_12 (List.mem_of_getElem? (i := 12) rfl)), (List.forall_mem_cons.mpr ⟨(mi_L_pieces_12 (List.mem_of_getElem? (i := 13) rfl)), (List.forall_mem_cons.mpr ⟨(mi_L_pieces_12 (List.mem_of_getElem? (i := 14) rfl)), (List.forall_mem_cons.mpr ⟨(mi_L_pieces_12 (List.mem_of_getElem? (i := 15) rfl)), (List.forall_mem_cons.mpr ⟨(mi_L_pieces_12 (List.mem_of_getElem? (i := 16) rfl)), (List.forall_mem_cons.mpr ⟨(mi_L_pieces_12 (List.mem_of_getElem? (i := 17) rfl)), (List.forall_mem_cons.mpr ⟨(mi_L_pieces_12 (List.mem_of_getElem? (i := 18) rfl)), (List.forall_mem_cons.mpr ⟨(mi_L_pieces_12 (List.mem_of_getElem? (i := 19) rfl)), (List.forall_mem_cons.mpr ⟨(mi_L_pieces_12 (List.mem_of_getElem? (i := 20) rfl)), (List.forall_mem_cons.mpr ⟨(mi_L_pieces_12 (List.mem_of_getElem? (i := 21) rfl)), (fun _ h => absurd h List.not_mem_nil)⟩)⟩)⟩)⟩)⟩)⟩)⟩)⟩)⟩)⟩)⟩)⟩)⟩)⟩)⟩)⟩)⟩)⟩)⟩)⟩)⟩)⟩)⟩)⟩)
set_option maxRecDepth 20000 in
theorem gi_L_pieces_L_refused_8 : ∀ w ∈ wsL_refused_r9, w ∈ wsL_pieces := by
  unfold wsL_refused_r9
  exact (List.forall_mem_cons.mpr ⟨(mi_L_pieces_12 (List.mem_of_getElem? (i := 22) rfl)), (List.forall_mem_cons.mpr ⟨(mi_L_pieces_12 (List.mem_of_getElem? (i := 23) rfl)), (List.forall_mem_cons.mpr ⟨(mi_L_pieces_13 (List.mem_of_getElem? (i := 0) rfl)), (List.forall_mem_cons.mpr ⟨(mi_L_pieces_13 (List.mem_of_getElem? (i := 1) rfl)), (List.forall_mem_cons.mpr ⟨(mi_L_pieces_2 (List.mem_of_getElem? (i := 0) rfl)), (List.forall_mem_cons.mpr ⟨(mi_L_pieces_2 (List.mem_of_getElem? (i := 1) rfl)), (List.forall_mem_cons.mpr ⟨(mi_L_pieces_13 (List.mem_of_getElem? (i := 2) rfl)), (List.forall_mem_cons.mpr ⟨(mi_L_pieces_13 (List.mem_of_getElem? (i := 3) rfl)), (List.forall_mem_cons.mpr ⟨(mi_L_pieces_13 (List.mem_of_getElem? (i := 4) rfl)), (List.forall_mem_cons.mpr ⟨(mi_L_pieces_13 (List.mem_of_getElem? (i := 5) rfl)), (List.forall_mem_cons.mpr ⟨(mi_L_pieces_13 (List.mem_of_getElem? (i := 6) rfl)), (List.forall_mem_cons.mpr ⟨(mi_L_pieces_13 (List.mem_of_getElem? (i := 7) rfl)), (List.forall_mem_cons.mpr ⟨(mi_L_pieces_13 (List.mem_of_getElem? (i := 8) rfl)), (List.forall_mem_cons.mpr ⟨(mi_L_pieces_13 (List.mem_of_getElem? (i := 9) rfl)), (List.forall_mem_cons.mpr ⟨(mi_L_pieces_13 (List.mem_of_getElem? (i := 10) rfl)), (List.forall_mem_cons.mpr ⟨(mi_L_pieces_13 (List.mem_of_getElem? (i := 11) rfl)), (List.forall_mem_cons.mpr ⟨(mi_L_pieces_13 (List.mem_of_getElem? (i := 12) rfl)), (List.forall_mem_cons.mpr ⟨(mi_L_pieces_13 (List.mem_of_getElem? (i := 13) rfl)), (List.forall_mem_cons.mpr ⟨(mi_L_pieces_13 (List.mem_of_getElem? (i := 14) rfl)), (List.forall_mem_cons.mpr ⟨(mi_L_pieces_13 (List.mem_of_getElem? (i := 15) rfl)), (List.forall_mem_cons.mpr ⟨(mi_L_pieces_13 (List.mem_of_getElem? (i := 16) rfl)), (List.forall_mem_cons.mpr ⟨(mi_L_pieces_13 (List.mem_of_getElem? (i := 17) rfl)), (List.forall_mem_cons.mpr ⟨(mi_L_pieces_1 (List.mem_of_getElem? (i := 14) rfl)), (List.forall_mem_cons.mpr ⟨(mi_L_pieces_1 (List.mem_of_getElem? (i := 15) rfl)), (fun _ h => absurd h List.not_mem_nil)⟩)⟩)⟩)⟩)⟩)⟩)⟩)⟩)⟩)⟩)⟩)⟩)⟩)⟩)⟩)⟩)⟩)⟩)⟩)⟩)⟩)⟩)⟩)⟩)
set_option maxRecDepth 20000 in
theorem gi_L_pieces_L_refused_9 : ∀ w ∈ wsL_refused_r10, w ∈ wsL_pieces := by
  unfold wsL_refused_r10
  exact (List.forall_mem_cons.mpr ⟨(mi_L_pieces_1 (List.mem_of_getElem? (i := 16) rfl)), (List.forall_mem_cons.mpr ⟨(mi_L_pieces_1 (List.mem_of_getElem? (i := 18) rfl)), (List.forall_mem_cons.mpr ⟨(mi_L_pieces_1 (List.mem_of_getElem? (i := 20) rfl)), (List.forall_mem_cons.mpr ⟨(mi_L_pieces_1 (List.mem_of_getElem? (i := 21) rfl)), (List.forall_mem_cons.mpr ⟨(mi_L_pieces_1 (List.mem_of_getElem? (i := 22) rfl)), (List.forall_mem_cons.mpr ⟨(mi_L_pieces_1 (List.mem_of_getElem? (i := 23) rfl)), (List.forall_mem_cons.mpr ⟨(mi_L_pieces_13 (List.mem_of_getElem? (i := 18) rfl)), (List.forall_mem_cons.mpr ⟨(mi_L_pieces_13 (List.mem_of_getElem? (i := 19) rfl)), (List.forall_mem_cons.mpr ⟨(mi_L_pieces_13 (List.mem_of_getElem? (i := 20) rfl)), (List.forall_mem_cons.mpr ⟨(mi_L_pieces_13 (List.mem_of_getElem? (i := 21) rfl)), (fun _ h => absurd h List.not_mem_nil)⟩)⟩)⟩)⟩)⟩)⟩)⟩)⟩)⟩)⟩)
theorem gi_L_pieces_L_refused : GoodIn wsL_pieces (.codeWith yL_refused cL_refused 5 (some .int) [(0, 85, 86, 53), (0, 85, 90, 55), (0, 85, 94, 57), (0, 85, 98, 59)] :: ((wsL_refused_r1 ++ (wsL_refused_r2 ++ (wsL_refused_r3 ++ (wsL_refused_r4 ++ (wsL_refused_r5 ++ (wsL_refused_r6 ++ (wsL_refused_r7 ++ (wsL_refused_r8 ++ (wsL_refused_r9 ++ wsL_refused_r10))))))))) ++ wsX20 ++ wsX00 ++ wsX10)) := goodIn_c (goodIn_sub (List.forall_mem_cons.mpr ⟨(mi_L_pieces_6 (List.mem_of_getElem? (i := 14) rfl)), fun _ h => absurd h List.not_mem_nil⟩) (by decide +kernel)) (goodIn_app (goodIn_app (goodIn_app (goodIn_app (goodIn_sub gi_L_pieces_L_refused_0 (by decide +kernel)) (goodIn_app (goodIn_sub gi_L_pieces_L_refused_1 (by decide +kernel)) (goodIn_app (goodIn_sub gi_L_pieces_L_refused_2 (by decide +kernel)) (goodIn_app (goodIn_sub gi_L_pieces_L_refused_3 (by decide +kernel)) (goodIn_app (goodIn_sub gi_L_pieces_L_refused_4 (by decide +kernel)) (goodIn_app (goodIn_sub gi_L_pieces_L_refused_5 (by decide +kernel)) (goodIn_app (goodIn_sub gi_L_pieces_L_refused_6 (by decide +kernel)) (goodIn_app (goodIn_sub gi_L_pieces_L_refused_7 (by decide +kernel)) (goodIn_app (goodIn_sub gi_L_pieces_L_refused_8 (by decide +kernel)) (goodIn_sub gi_L_pieces_L_refused_9 (by decide +kernel))))))))))) (goodIn_sub (fun _ h => (List.mem_cons_of_mem _ (List.mem_append_left _ (List.mem_append_left _ (List.mem_append_left _ (List.mem_append_left _ (List.mem_append_left _ (List.mem_append_left _ (List.mem_append_right _ h))))))))) (by decide +kernel))) (goodIn_sub (fun _ h => (List.mem_cons_of_mem _ (List.mem_append_left _ (List.mem_append_left _ (List.mem_append_left _ (List.mem_append_left _ (List.mem_append_left _ (List.mem_append_right _ h)))))))) (by decide +kernel))) (goodIn_sub (fun _ h => (List.mem_cons_of_mem _ (List.mem_append_left _ (List.mem_append_left _ (List.mem_append_left _ (List.mem_append_left _ (List.mem_append_right _ h))))))) (by decide +kernel)))
set_option maxRecDepth 20000 in
theorem ggL_pieces_L_refused : GoodIn wsL_pieces wsL_refused := goodIn_ca (goodIn_ca (goodIn_ca (goodIn_ca gi_L_pieces_L_refused (goodIn_sub (fun _ h => List.mem_cons_of_mem _ (List.mem_append_left _ (List.mem_append_left _ (List.mem_append_right _ h)))) (by decide +kernel))) (goodIn_sub (fun _ h => List.mem_cons_of_mem _ (List.mem_append_left _ (List.mem_append_right _ h))) (by decide +kernel))) (goodIn_sub (fun _ h => List.mem_cons_of_mem _ (List.mem_append_right _ h)) (by decide +kernel))) (goodIn_sub (fun _ h => List.mem_cons_of_mem _ (List.mem_append_left _ (List.mem_append_left _ (List.mem_append_left _ (List.mem_append_right _ h))))) (by decide +kernel))
set_option maxRecDepth 20000 in
theorem gL_pieces_L_refused : GoodIn wsL_pieces (va_wsS RL 97 yL_refused wsL_refused) := goodIn_app (goodIn_of _ (by decide +kernel)) ggL_pieces_L_refused
theorem dL_pieces_0 : decode cL_pieces 0 = .ok (.bipush 64, 2) := by decide +kernel
theorem dL_pieces_2 : decode cL_pieces 2 = .ok (.newarray .int, 2) := by decide +kernel
theorem dL_pieces_4 : decode cL_pieces 4 = .ok (.astore 4, 2) := by decide +kernel
theorem dL_pieces_6 : decode cL_pieces 6 = .ok (.bipush 64, 2) := by decide +kernel
theorem dL_pieces_8 : decode cL_pieces 8 = .ok (.newarray .int, 2) := by decide +kernel
theorem dL_pieces_10 : decode cL_pieces 10 = .ok (.astore 5, 2) := by decide +kernel
theorem dL_pieces_12 : decode cL_pieces 12 = .ok (.iconst 0, 1) := by decide +kernel
theorem dL_pieces_13 : decode cL_pieces 13 = .ok (.istore 6, 2) := by decide +kernel
theorem dL_pieces_15 : decode cL_pieces 15 = .ok (.lconst 0, 1) := by decide +kernel
theorem dL_pieces_16 : decode cL_pieces 16 = .ok (.lstore 7, 2) := by decide +kernel
theorem dL_pieces_18 : decode cL_pieces 18 = .ok (.iconst 0, 1) := by decide +kernel
theorem dL_pieces_19 : decode cL_pieces 19 = .ok (.istore 9, 2) := by decide +kernel
theorem dL_pieces_21 : decode cL_pieces 21 = .ok (.iload 9, 2) := by decide +kernel
theorem dL_pieces_23 : decode cL_pieces 23 = .ok (.aload_n 3, 1) := by decide +kernel
theorem dL_pieces_24 : decode cL_pieces 24 = .ok (.iconst 0, 1) := by decide +kernel
theorem dL_pieces_25 : decode cL_pieces 25 = .ok (.iaload, 1) := by decide +kernel
theorem dL_pieces_26 : decode cL_pieces 26 = .ok (.if_icmp .ge 296, 3) := by decide +kernel
theorem dL_pieces_29 : decode cL_pieces 29 = .ok (.aload_n 2, 1) := by decide +kernel
theorem dL_pieces_30 : decode cL_pieces 30 = .ok (.iload 9, 2) := by decide +kernel
theorem dL_pieces_32 : decode cL_pieces 32 = .ok (.aload_n 3, 1) := by decide +kernel
theorem dL_pieces_33 : decode cL_pieces 33 = .ok (.iconst 0, 1) := by decide +kernel
theorem dL_pieces_34 : decode cL_pieces 34 = .ok (.iaload, 1) := by decide +kernel
theorem dL_pieces_35 : decode cL_pieces 35 = .ok (.invokestatic 16, 3) := by decide +kernel
theorem dL_pieces_38 : decode cL_pieces 38 = .ok (.istore 10, 2) := by decide +kernel
theorem dL_pieces_40 : decode cL_pieces 40 = .ok (.aload_n 1, 1) := by decide +kernel
theorem dL_pieces_41 : decode cL_pieces 41 = .ok (.iload 9, 2) := by decide +kernel
theorem dL_pieces_43 : decode cL_pieces 43 = .ok (.iload 10, 2) := by decide +kernel
theorem dL_pieces_45 : decode cL_pieces 45 = .ok (.aload_n 3, 1) := by decide +kernel
theorem dL_pieces_46 : decode cL_pieces 46 = .ok (.iconst 2, 1) := by decide +kernel
theorem dL_pieces_47 : decode cL_pieces 47 = .ok (.iaload, 1) := by decide +kernel
theorem dL_pieces_48 : decode cL_pieces 48 = .ok (.invokestatic 61, 3) := by decide +kernel
theorem dL_pieces_51 : decode cL_pieces 51 = .ok (.istore 11, 2) := by decide +kernel
theorem dL_pieces_53 : decode cL_pieces 53 = .ok (.iload 11, 2) := by decide +kernel
theorem dL_pieces_55 : decode cL_pieces 55 = .ok (.iload 9, 2) := by decide +kernel
theorem dL_pieces_57 : decode cL_pieces 57 = .ok (.if_icmp .ne 7, 3) := by decide +kernel
theorem dL_pieces_60 : decode cL_pieces 60 = .ok (.iconst 0, 1) := by decide +kernel
theorem dL_pieces_61 : decode cL_pieces 61 = .ok (.goto 12, 3) := by decide +kernel
theorem dL_pieces_64 : decode cL_pieces 64 = .ok (.iload 11, 2) := by decide +kernel
theorem dL_pieces_66 : decode cL_pieces 66 = .ok (.iload 9, 2) := by decide +kernel
theorem dL_pieces_68 : decode cL_pieces 68 = .ok (.isub, 1) := by decide +kernel
theorem dL_pieces_69 : decode cL_pieces 69 = .ok (.aload_n 3, 1) := by decide +kernel
theorem dL_pieces_70 : decode cL_pieces 70 = .ok (.iconst 2, 1) := by decide +kernel
theorem dL_pieces_71 : decode cL_pieces 71 = .ok (.iaload, 1) := by decide +kernel
theorem dL_pieces_72 : decode cL_pieces 72 = .ok (.isub, 1) := by decide +kernel
theorem dL_pieces_73 : decode cL_pieces 73 = .ok (.istore 12, 2) := by decide +kernel
theorem dL_pieces_75 : decode cL_pieces 75 = .ok (.iload 11, 2) := by decide +kernel
theorem dL_pieces_77 : decode cL_pieces 77 = .ok (.iload 9, 2) := by decide +kernel
theorem dL_pieces_79 : decode cL_pieces 79 = .ok (.if_icmp .ne 7, 3) := by decide +kernel
theorem dL_pieces_82 : decode cL_pieces 82 = .ok (.iconst 1, 1) := by decide +kernel
theorem dL_pieces_83 : decode cL_pieces 83 = .ok (.goto 12, 3) := by decide +kernel
theorem dL_pieces_86 : decode cL_pieces 86 = .ok (.aload_n 1, 1) := by decide +kernel
