theorem dX3_gathers_48 : decode cX3_gathers 48 = .ok (.iconst 0, 1) := by decide +kernel
theorem dX3_gathers_49 : decode cX3_gathers 49 = .ok (.istore_n 3, 1) := by decide +kernel
theorem dX3_gathers_50 : decode cX3_gathers 50 = .ok (.iload_n 3, 1) := by decide +kernel
theorem dX3_gathers_51 : decode cX3_gathers 51 = .ok (.aload_n 0, 1) := by decide +kernel
theorem dX3_gathers_52 : decode cX3_gathers 52 = .ok (.getfield 69, 3) := by decide +kernel
theorem dX3_gathers_55 : decode cX3_gathers 55 = .ok (.if_icmp .ge 49, 3) := by decide +kernel
theorem dX3_gathers_58 : decode cX3_gathers 58 = .ok (.aload_n 0, 1) := by decide +kernel
theorem dX3_gathers_59 : decode cX3_gathers 59 = .ok (.aload_n 0, 1) := by decide +kernel
theorem dX3_gathers_60 : decode cX3_gathers 60 = .ok (.getfield 27, 3) := by decide +kernel
theorem dX3_gathers_63 : decode cX3_gathers 63 = .ok (.iload_n 3, 1) := by decide +kernel
theorem dX3_gathers_64 : decode cX3_gathers 64 = .ok (.iaload, 1) := by decide +kernel
theorem dX3_gathers_65 : decode cX3_gathers 65 = .ok (.invokevirtual 108, 3) := by decide +kernel
theorem dX3_gathers_68 : decode cX3_gathers 68 = .ok (.istore 4, 2) := by decide +kernel
theorem dX3_gathers_70 : decode cX3_gathers 70 = .ok (.iload 4, 2) := by decide +kernel
theorem dX3_gathers_72 : decode cX3_gathers 72 = .ok (.iload_n 1, 1) := by decide +kernel
theorem dX3_gathers_73 : decode cX3_gathers 73 = .ok (.if_icmp .eq 13, 3) := by decide +kernel
theorem dX3_gathers_76 : decode cX3_gathers 76 = .ok (.iload 4, 2) := by decide +kernel
theorem dX3_gathers_78 : decode cX3_gathers 78 = .ok (.iconst (-1), 1) := by decide +kernel
theorem dX3_gathers_79 : decode cX3_gathers 79 = .ok (.if_icmp .ne 19, 3) := by decide +kernel
theorem dX3_gathers_82 : decode cX3_gathers 82 = .ok (.iload_n 1, 1) := by decide +kernel
theorem dX3_gathers_83 : decode cX3_gathers 83 = .ok (.ifCond .ne 15, 3) := by decide +kernel
theorem dX3_gathers_86 : decode cX3_gathers 86 = .ok (.aload_n 0, 1) := by decide +kernel
theorem dX3_gathers_87 : decode cX3_gathers 87 = .ok (.aload_n 0, 1) := by decide +kernel
theorem dX3_gathers_88 : decode cX3_gathers 88 = .ok (.getfield 27, 3) := by decide +kernel
theorem dX3_gathers_91 : decode cX3_gathers 91 = .ok (.iload_n 3, 1) := by decide +kernel
theorem dX3_gathers_92 : decode cX3_gathers 92 = .ok (.iaload, 1) := by decide +kernel
theorem dX3_gathers_93 : decode cX3_gathers 93 = .ok (.invokevirtual 105, 3) := by decide +kernel
theorem dX3_gathers_96 : decode cX3_gathers 96 = .ok (.iconst 1, 1) := by decide +kernel
theorem dX3_gathers_97 : decode cX3_gathers 97 = .ok (.istore_n 2, 1) := by decide +kernel
theorem dX3_gathers_98 : decode cX3_gathers 98 = .ok (.iinc 3 1, 3) := by decide +kernel
theorem dX3_gathers_101 : decode cX3_gathers 101 = .ok (.goto (-51), 3) := by decide +kernel
theorem dX3_gathers_104 : decode cX3_gathers 104 = .ok (.iload_n 2, 1) := by decide +kernel
theorem dX3_gathers_105 : decode cX3_gathers 105 = .ok (.ireturn, 1) := by decide +kernel
theorem dX3_becomes_0 : decode cX3_becomes 0 = .ok (.aload_n 0, 1) := by decide +kernel
theorem dX3_becomes_1 : decode cX3_becomes 1 = .ok (.aload_n 0, 1) := by decide +kernel
theorem dX3_becomes_2 : decode cX3_becomes 2 = .ok (.getfield 102, 3) := by decide +kernel
theorem dX3_becomes_5 : decode cX3_becomes 5 = .ok (.putfield 51, 3) := by decide +kernel
theorem dX3_becomes_8 : decode cX3_becomes 8 = .ok (.aload_n 0, 1) := by decide +kernel
theorem dX3_becomes_9 : decode cX3_becomes 9 = .ok (.iload_n 1, 1) := by decide +kernel
theorem dX3_becomes_10 : decode cX3_becomes 10 = .ok (.putfield 48, 3) := by decide +kernel
theorem dX3_becomes_13 : decode cX3_becomes 13 = .ok (.aload_n 0, 1) := by decide +kernel
theorem dX3_becomes_14 : decode cX3_becomes 14 = .ok (.iconst 0, 1) := by decide +kernel
theorem dX3_becomes_15 : decode cX3_becomes 15 = .ok (.putfield 69, 3) := by decide +kernel
theorem dX3_becomes_18 : decode cX3_becomes 18 = .ok (.iconst 0, 1) := by decide +kernel
theorem dX3_becomes_19 : decode cX3_becomes 19 = .ok (.istore_n 2, 1) := by decide +kernel
theorem dX3_becomes_20 : decode cX3_becomes 20 = .ok (.iload_n 2, 1) := by decide +kernel
theorem dX3_becomes_21 : decode cX3_becomes 21 = .ok (.aload_n 0, 1) := by decide +kernel
theorem dX3_becomes_22 : decode cX3_becomes 22 = .ok (.getfield 51, 3) := by decide +kernel
theorem dX3_becomes_25 : decode cX3_becomes 25 = .ok (.if_icmp .ge 28, 3) := by decide +kernel
theorem dX3_becomes_28 : decode cX3_becomes 28 = .ok (.aload_n 0, 1) := by decide +kernel
theorem dX3_becomes_29 : decode cX3_becomes 29 = .ok (.getfield 16, 3) := by decide +kernel
theorem dX3_becomes_32 : decode cX3_becomes 32 = .ok (.iload_n 2, 1) := by decide +kernel
theorem dX3_becomes_33 : decode cX3_becomes 33 = .ok (.aload_n 0, 1) := by decide +kernel
theorem dX3_becomes_34 : decode cX3_becomes 34 = .ok (.getfield 30, 3) := by decide +kernel
theorem dX3_becomes_37 : decode cX3_becomes 37 = .ok (.iload_n 2, 1) := by decide +kernel
theorem dX3_becomes_38 : decode cX3_becomes 38 = .ok (.iaload, 1) := by decide +kernel
theorem dX3_becomes_39 : decode cX3_becomes 39 = .ok (.iastore, 1) := by decide +kernel
theorem dX3_becomes_40 : decode cX3_becomes 40 = .ok (.aload_n 0, 1) := by decide +kernel
theorem dX3_becomes_41 : decode cX3_becomes 41 = .ok (.getfield 20, 3) := by decide +kernel
theorem dX3_becomes_44 : decode cX3_becomes 44 = .ok (.iload_n 2, 1) := by decide +kernel
theorem dX3_becomes_45 : decode cX3_becomes 45 = .ok (.iconst 0, 1) := by decide +kernel
theorem dX3_becomes_46 : decode cX3_becomes 46 = .ok (.bastore, 1) := by decide +kernel
theorem dX3_becomes_47 : decode cX3_becomes 47 = .ok (.iinc 2 1, 3) := by decide +kernel
theorem dX3_becomes_50 : decode cX3_becomes 50 = .ok (.goto (-30), 3) := by decide +kernel
theorem dX3_becomes_53 : decode cX3_becomes 53 = .ok (.iconst 0, 1) := by decide +kernel
theorem dX3_becomes_54 : decode cX3_becomes 54 = .ok (.istore_n 2, 1) := by decide +kernel
theorem dX3_becomes_55 : decode cX3_becomes 55 = .ok (.iload_n 2, 1) := by decide +kernel
theorem dX3_becomes_56 : decode cX3_becomes 56 = .ok (.aload_n 0, 1) := by decide +kernel
theorem dX3_becomes_57 : decode cX3_becomes 57 = .ok (.getfield 48, 3) := by decide +kernel
theorem dX3_becomes_60 : decode cX3_becomes 60 = .ok (.if_icmp .ge 21, 3) := by decide +kernel
theorem dX3_becomes_63 : decode cX3_becomes 63 = .ok (.aload_n 0, 1) := by decide +kernel
theorem dX3_becomes_64 : decode cX3_becomes 64 = .ok (.getfield 24, 3) := by decide +kernel
theorem dX3_becomes_67 : decode cX3_becomes 67 = .ok (.iload_n 2, 1) := by decide +kernel
theorem dX3_becomes_68 : decode cX3_becomes 68 = .ok (.aload_n 0, 1) := by decide +kernel
theorem dX3_becomes_69 : decode cX3_becomes 69 = .ok (.getfield 33, 3) := by decide +kernel
theorem dX3_becomes_72 : decode cX3_becomes 72 = .ok (.iload_n 2, 1) := by decide +kernel
theorem dX3_becomes_73 : decode cX3_becomes 73 = .ok (.iaload, 1) := by decide +kernel
theorem dX3_becomes_74 : decode cX3_becomes 74 = .ok (.iastore, 1) := by decide +kernel
theorem dX3_becomes_75 : decode cX3_becomes 75 = .ok (.iinc 2 1, 3) := by decide +kernel
theorem dX3_becomes_78 : decode cX3_becomes 78 = .ok (.goto (-23), 3) := by decide +kernel
theorem dX3_becomes_81 : decode cX3_becomes 81 = .ok (.return_, 1) := by decide +kernel
set_option maxRecDepth 20000 in
theorem ggX3_joinsPieces_X3_behind : GoodIn wsX3_joinsPieces wsX3_behind := goodIn_r _ [9, 1, 3, 10, 18, 19, 20, 21, 22, 23, 24, 25, 26, 27, 28, 29, 30, 31, 32, 33, 34, 35] (by decide +kernel) (by decide +kernel)
set_option maxRecDepth 20000 in
theorem gX3_joinsPieces_X3_behind : GoodIn wsX3_joinsPieces (wsV RX3 54 RX3 yX3_behind wsX3_behind) := goodIn_app (goodIn_of _ (by decide +kernel)) ggX3_joinsPieces_X3_behind
set_option maxRecDepth 20000 in
theorem ggX3_joinsPieces_X3_fits : GoodIn wsX3_joinsPieces wsX3_fits := goodIn_r _ [14, 15, 16, 17, 18, 19, 20, 21, 22, 23, 24, 25, 26, 27, 28, 29, 30, 31, 32, 33, 34, 35] (by decide +kernel) (by decide +kernel)
set_option maxRecDepth 20000 in
theorem gX3_joinsPieces_X3_fits : GoodIn wsX3_joinsPieces (wsV RX3 58 RX3 yX3_fits wsX3_fits) := goodIn_app (goodIn_of _ (by decide +kernel)) ggX3_joinsPieces_X3_fits
theorem dX3_joinsPieces_0 : decode cX3_joinsPieces 0 = .ok (.iconst 0, 1) := by decide +kernel
theorem dX3_joinsPieces_1 : decode cX3_joinsPieces 1 = .ok (.istore_n 1, 1) := by decide +kernel
theorem dX3_joinsPieces_2 : decode cX3_joinsPieces 2 = .ok (.iload_n 1, 1) := by decide +kernel
theorem dX3_joinsPieces_3 : decode cX3_joinsPieces 3 = .ok (.iconst 1, 1) := by decide +kernel
theorem dX3_joinsPieces_4 : decode cX3_joinsPieces 4 = .ok (.iadd, 1) := by decide +kernel
theorem dX3_joinsPieces_5 : decode cX3_joinsPieces 5 = .ok (.aload_n 0, 1) := by decide +kernel
theorem dX3_joinsPieces_6 : decode cX3_joinsPieces 6 = .ok (.getfield 48, 3) := by decide +kernel
theorem dX3_joinsPieces_9 : decode cX3_joinsPieces 9 = .ok (.if_icmp .ge 90, 3) := by decide +kernel
theorem dX3_joinsPieces_12 : decode cX3_joinsPieces 12 = .ok (.aload_n 0, 1) := by decide +kernel
theorem dX3_joinsPieces_13 : decode cX3_joinsPieces 13 = .ok (.aload_n 0, 1) := by decide +kernel
theorem dX3_joinsPieces_14 : decode cX3_joinsPieces 14 = .ok (.getfield 16, 3) := by decide +kernel
theorem dX3_joinsPieces_17 : decode cX3_joinsPieces 17 = .ok (.aload_n 0, 1) := by decide +kernel
theorem dX3_joinsPieces_18 : decode cX3_joinsPieces 18 = .ok (.getfield 24, 3) := by decide +kernel
theorem dX3_joinsPieces_21 : decode cX3_joinsPieces 21 = .ok (.iload_n 1, 1) := by decide +kernel
theorem dX3_joinsPieces_22 : decode cX3_joinsPieces 22 = .ok (.iaload, 1) := by decide +kernel
theorem dX3_joinsPieces_23 : decode cX3_joinsPieces 23 = .ok (.aload_n 0, 1) := by decide +kernel
theorem dX3_joinsPieces_24 : decode cX3_joinsPieces 24 = .ok (.iload_n 1, 1) := by decide +kernel
theorem dX3_joinsPieces_25 : decode cX3_joinsPieces 25 = .ok (.iconst 1, 1) := by decide +kernel
theorem dX3_joinsPieces_26 : decode cX3_joinsPieces 26 = .ok (.iadd, 1) := by decide +kernel
theorem dX3_joinsPieces_27 : decode cX3_joinsPieces 27 = .ok (.invokevirtual 54, 3) := by decide +kernel
theorem dX3_joinsPieces_30 : decode cX3_joinsPieces 30 = .ok (.invokevirtual 58, 3) := by decide +kernel
theorem dX3_joinsPieces_33 : decode cX3_joinsPieces 33 = .ok (.ifCond .ne 9, 3) := by decide +kernel
theorem dX3_joinsPieces_36 : decode cX3_joinsPieces 36 = .ok (.iinc 1 1, 3) := by decide +kernel
theorem dX3_joinsPieces_39 : decode cX3_joinsPieces 39 = .ok (.goto (-37), 3) := by decide +kernel
theorem dX3_joinsPieces_42 : decode cX3_joinsPieces 42 = .ok (.iload_n 1, 1) := by decide +kernel
theorem dX3_joinsPieces_43 : decode cX3_joinsPieces 43 = .ok (.iconst 1, 1) := by decide +kernel
theorem dX3_joinsPieces_44 : decode cX3_joinsPieces 44 = .ok (.iadd, 1) := by decide +kernel
theorem dX3_joinsPieces_45 : decode cX3_joinsPieces 45 = .ok (.istore_n 2, 1) := by decide +kernel
theorem dX3_joinsPieces_46 : decode cX3_joinsPieces 46 = .ok (.iload_n 2, 1) := by decide +kernel
theorem dX3_joinsPieces_47 : decode cX3_joinsPieces 47 = .ok (.iconst 1, 1) := by decide +kernel
theorem dX3_joinsPieces_48 : decode cX3_joinsPieces 48 = .ok (.iadd, 1) := by decide +kernel
theorem dX3_joinsPieces_49 : decode cX3_joinsPieces 49 = .ok (.aload_n 0, 1) := by decide +kernel
theorem dX3_joinsPieces_50 : decode cX3_joinsPieces 50 = .ok (.getfield 48, 3) := by decide +kernel
theorem dX3_joinsPieces_53 : decode cX3_joinsPieces 53 = .ok (.if_icmp .ge 23, 3) := by decide +kernel
theorem dX3_joinsPieces_56 : decode cX3_joinsPieces 56 = .ok (.aload_n 0, 1) := by decide +kernel
theorem dX3_joinsPieces_57 : decode cX3_joinsPieces 57 = .ok (.getfield 24, 3) := by decide +kernel
theorem dX3_joinsPieces_60 : decode cX3_joinsPieces 60 = .ok (.iload_n 2, 1) := by decide +kernel
theorem dX3_joinsPieces_61 : decode cX3_joinsPieces 61 = .ok (.aload_n 0, 1) := by decide +kernel
theorem dX3_joinsPieces_62 : decode cX3_joinsPieces 62 = .ok (.getfield 24, 3) := by decide +kernel
theorem dX3_joinsPieces_65 : decode cX3_joinsPieces 65 = .ok (.iload_n 2, 1) := by decide +kernel
theorem dX3_joinsPieces_66 : decode cX3_joinsPieces 66 = .ok (.iconst 1, 1) := by decide +kernel
theorem dX3_joinsPieces_67 : decode cX3_joinsPieces 67 = .ok (.iadd, 1) := by decide +kernel
theorem dX3_joinsPieces_68 : decode cX3_joinsPieces 68 = .ok (.iaload, 1) := by decide +kernel
theorem dX3_joinsPieces_69 : decode cX3_joinsPieces 69 = .ok (.iastore, 1) := by decide +kernel
theorem dX3_joinsPieces_70 : decode cX3_joinsPieces 70 = .ok (.iinc 2 1, 3) := by decide +kernel
theorem dX3_joinsPieces_73 : decode cX3_joinsPieces 73 = .ok (.goto (-27), 3) := by decide +kernel
theorem dX3_joinsPieces_76 : decode cX3_joinsPieces 76 = .ok (.aload_n 0, 1) := by decide +kernel
theorem dX3_joinsPieces_77 : decode cX3_joinsPieces 77 = .ok (.dup, 1) := by decide +kernel
theorem dX3_joinsPieces_78 : decode cX3_joinsPieces 78 = .ok (.getfield 48, 3) := by decide +kernel
theorem dX3_joinsPieces_81 : decode cX3_joinsPieces 81 = .ok (.iconst 1, 1) := by decide +kernel
theorem dX3_joinsPieces_82 : decode cX3_joinsPieces 82 = .ok (.isub, 1) := by decide +kernel
theorem dX3_joinsPieces_83 : decode cX3_joinsPieces 83 = .ok (.putfield 48, 3) := by decide +kernel
theorem dX3_joinsPieces_86 : decode cX3_joinsPieces 86 = .ok (.aload_n 0, 1) := by decide +kernel
theorem dX3_joinsPieces_87 : decode cX3_joinsPieces 87 = .ok (.dup, 1) := by decide +kernel
theorem dX3_joinsPieces_88 : decode cX3_joinsPieces 88 = .ok (.getfield 111, 3) := by decide +kernel
theorem dX3_joinsPieces_91 : decode cX3_joinsPieces 91 = .ok (.iconst 1, 1) := by decide +kernel
theorem dX3_joinsPieces_92 : decode cX3_joinsPieces 92 = .ok (.iadd, 1) := by decide +kernel
theorem dX3_joinsPieces_93 : decode cX3_joinsPieces 93 = .ok (.putfield 111, 3) := by decide +kernel
theorem dX3_joinsPieces_96 : decode cX3_joinsPieces 96 = .ok (.goto (-94), 3) := by decide +kernel
theorem dX3_joinsPieces_99 : decode cX3_joinsPieces 99 = .ok (.return_, 1) := by decide +kernel
set_option maxRecDepth 20000 in
theorem ggX3_mergesAll_X3_gathers : GoodIn wsX3_mergesAll wsX3_gathers := goodIn_r _ [12, 13, 14, 15, 5, 6, 16, 17, 18, 11, 19, 2, 20, 21, 22, 23, 24, 1, 25, 26, 27, 28, 29, 50, 51, 52, 53, 54, 55, 56, 57, 58, 59, 60, 61, 62, 63, 64, 65, 66, 67] (by decide +kernel) (by decide +kernel)
set_option maxRecDepth 20000 in
theorem gX3_mergesAll_X3_gathers : GoodIn wsX3_mergesAll (wsV RX3 114 RX3 yX3_gathers wsX3_gathers) := goodIn_app (goodIn_of _ (by decide +kernel)) ggX3_mergesAll_X3_gathers
set_option maxRecDepth 20000 in
theorem ggX3_mergesAll_X3_cuts : GoodIn wsX3_mergesAll wsX3_cuts := goodIn_r _ [33, 1, 25, 3, 34, 35, 36, 11, 37, 38, 39, 40, 50, 51, 52, 53, 54, 55, 56, 57, 58, 59, 60, 61, 62, 63, 64, 65, 66, 67] (by decide +kernel) (by decide +kernel)
set_option maxRecDepth 20000 in
theorem gX3_mergesAll_X3_cuts : GoodIn wsX3_mergesAll (wsV RX3 117 RX3 yX3_cuts wsX3_cuts) := goodIn_app (goodIn_of _ (by decide +kernel)) ggX3_mergesAll_X3_cuts
set_option maxRecDepth 20000 in
theorem ggX3_mergesAll_X3_makes : GoodIn wsX3_mergesAll wsX3_makes := goodIn_r _ [24, 1, 25, 50, 51, 52, 53, 54, 55, 56, 57, 58, 59, 60, 61, 62, 63, 64, 65, 66, 67] (by decide +kernel) (by decide +kernel)
set_option maxRecDepth 20000 in
theorem gX3_mergesAll_X3_makes : GoodIn wsX3_mergesAll (wsV RX3 105 RX3 yX3_makes wsX3_makes) := goodIn_app (goodIn_of _ (by decide +kernel)) ggX3_mergesAll_X3_makes
set_option maxRecDepth 20000 in
theorem ggX3_mergesAll_X3_becomes : GoodIn wsX3_mergesAll wsX3_becomes := goodIn_r _ [44, 1, 20, 2, 5, 15, 25, 14, 13, 3, 50, 51, 52, 53, 54, 55, 56, 57, 58, 59, 60, 61, 62, 63, 64, 65, 66, 67] (by decide +kernel) (by decide +kernel)
set_option maxRecDepth 20000 in
theorem gX3_mergesAll_X3_becomes : GoodIn wsX3_mergesAll (wsV RX3 124 RX3 yX3_becomes wsX3_becomes) := goodIn_app (goodIn_of _ (by decide +kernel)) ggX3_mergesAll_X3_becomes
set_option maxRecDepth 20000 in
theorem ggX3_mergesAll_X3_joinsPieces : GoodIn wsX3_mergesAll wsX3_joinsPieces := goodIn_r _ [48, 2, 15, 13, 49, 16, 17, 18, 11, 19, 20, 34, 35, 36, 37, 38, 39, 40, 50, 51, 52, 53, 54, 55, 56, 57, 58, 59, 60, 61, 62, 63, 64, 65, 66, 67] (by decide +kernel) (by decide +kernel)
set_option maxRecDepth 20000 in
theorem gX3_mergesAll_X3_joinsPieces : GoodIn wsX3_mergesAll (wsV RX3 127 RX3 yX3_joinsPieces wsX3_joinsPieces) := goodIn_app (goodIn_of _ (by decide +kernel)) ggX3_mergesAll_X3_joinsPieces
theorem dX3_mergesAll_0 : decode cX3_mergesAll 0 = .ok (.aload_n 0, 1) := by decide +kernel
theorem dX3_mergesAll_1 : decode cX3_mergesAll 1 = .ok (.iconst 0, 1) := by decide +kernel
theorem dX3_mergesAll_2 : decode cX3_mergesAll 2 = .ok (.putfield 102, 3) := by decide +kernel
theorem dX3_mergesAll_5 : decode cX3_mergesAll 5 = .ok (.iconst 0, 1) := by decide +kernel
theorem dX3_mergesAll_6 : decode cX3_mergesAll 6 = .ok (.istore_n 1, 1) := by decide +kernel
theorem dX3_mergesAll_7 : decode cX3_mergesAll 7 = .ok (.iconst 0, 1) := by decide +kernel
theorem dX3_mergesAll_8 : decode cX3_mergesAll 8 = .ok (.istore_n 2, 1) := by decide +kernel
theorem dX3_mergesAll_9 : decode cX3_mergesAll 9 = .ok (.iload_n 2, 1) := by decide +kernel
theorem dX3_mergesAll_10 : decode cX3_mergesAll 10 = .ok (.aload_n 0, 1) := by decide +kernel
theorem dX3_mergesAll_11 : decode cX3_mergesAll 11 = .ok (.getfield 48, 3) := by decide +kernel
theorem dX3_mergesAll_14 : decode cX3_mergesAll 14 = .ok (.if_icmp .ge 80, 3) := by decide +kernel
theorem dX3_mergesAll_17 : decode cX3_mergesAll 17 = .ok (.aload_n 0, 1) := by decide +kernel
theorem dX3_mergesAll_18 : decode cX3_mergesAll 18 = .ok (.getfield 102, 3) := by decide +kernel
theorem dX3_mergesAll_21 : decode cX3_mergesAll 21 = .ok (.istore_n 3, 1) := by decide +kernel
theorem dX3_mergesAll_22 : decode cX3_mergesAll 22 = .ok (.aload_n 0, 1) := by decide +kernel
theorem dX3_mergesAll_23 : decode cX3_mergesAll 23 = .ok (.iload_n 2, 1) := by decide +kernel
theorem dX3_mergesAll_24 : decode cX3_mergesAll 24 = .ok (.invokevirtual 114, 3) := by decide +kernel
theorem dX3_mergesAll_27 : decode cX3_mergesAll 27 = .ok (.istore 4, 2) := by decide +kernel
theorem dX3_mergesAll_29 : decode cX3_mergesAll 29 = .ok (.iload_n 1, 1) := by decide +kernel
theorem dX3_mergesAll_30 : decode cX3_mergesAll 30 = .ok (.istore 5, 2) := by decide +kernel
theorem dX3_mergesAll_32 : decode cX3_mergesAll 32 = .ok (.iload 4, 2) := by decide +kernel
theorem dX3_mergesAll_34 : decode cX3_mergesAll 34 = .ok (.ifCond .eq 14, 3) := by decide +kernel
theorem dX3_mergesAll_37 : decode cX3_mergesAll 37 = .ok (.aload_n 0, 1) := by decide +kernel
theorem dX3_mergesAll_38 : decode cX3_mergesAll 38 = .ok (.iload_n 3, 1) := by decide +kernel
theorem dX3_mergesAll_39 : decode cX3_mergesAll 39 = .ok (.iload_n 1, 1) := by decide +kernel
theorem dX3_mergesAll_40 : decode cX3_mergesAll 40 = .ok (.invokevirtual 117, 3) := by decide +kernel
theorem dX3_mergesAll_43 : decode cX3_mergesAll 43 = .ok (.istore 5, 2) := by decide +kernel
theorem dX3_mergesAll_45 : decode cX3_mergesAll 45 = .ok (.goto 15, 3) := by decide +kernel
theorem dX3_mergesAll_48 : decode cX3_mergesAll 48 = .ok (.aload_n 0, 1) := by decide +kernel
theorem dX3_mergesAll_49 : decode cX3_mergesAll 49 = .ok (.getfield 33, 3) := by decide +kernel
theorem dX3_mergesAll_52 : decode cX3_mergesAll 52 = .ok (.iload_n 1, 1) := by decide +kernel
theorem dX3_mergesAll_53 : decode cX3_mergesAll 53 = .ok (.iload_n 3, 1) := by decide +kernel
theorem dX3_mergesAll_54 : decode cX3_mergesAll 54 = .ok (.iastore, 1) := by decide +kernel
theorem dX3_mergesAll_55 : decode cX3_mergesAll 55 = .ok (.iload_n 1, 1) := by decide +kernel
theorem dX3_mergesAll_56 : decode cX3_mergesAll 56 = .ok (.iconst 1, 1) := by decide +kernel
theorem dX3_mergesAll_57 : decode cX3_mergesAll 57 = .ok (.iadd, 1) := by decide +kernel
theorem dX3_mergesAll_58 : decode cX3_mergesAll 58 = .ok (.istore 5, 2) := by decide +kernel
theorem dX3_mergesAll_60 : decode cX3_mergesAll 60 = .ok (.aload_n 0, 1) := by decide +kernel
theorem dX3_mergesAll_61 : decode cX3_mergesAll 61 = .ok (.dup, 1) := by decide +kernel
theorem dX3_mergesAll_62 : decode cX3_mergesAll 62 = .ok (.getfield 121, 3) := by decide +kernel
theorem dX3_mergesAll_65 : decode cX3_mergesAll 65 = .ok (.iload 5, 2) := by decide +kernel
theorem dX3_mergesAll_67 : decode cX3_mergesAll 67 = .ok (.iload_n 1, 1) := by decide +kernel
theorem dX3_mergesAll_68 : decode cX3_mergesAll 68 = .ok (.if_icmp .le 12, 3) := by decide +kernel
theorem dX3_mergesAll_71 : decode cX3_mergesAll 71 = .ok (.iload 5, 2) := by decide +kernel
theorem dX3_mergesAll_73 : decode cX3_mergesAll 73 = .ok (.iload_n 1, 1) := by decide +kernel
theorem dX3_mergesAll_74 : decode cX3_mergesAll 74 = .ok (.isub, 1) := by decide +kernel
theorem dX3_mergesAll_75 : decode cX3_mergesAll 75 = .ok (.iconst 1, 1) := by decide +kernel
theorem dX3_mergesAll_76 : decode cX3_mergesAll 76 = .ok (.isub, 1) := by decide +kernel
theorem dX3_mergesAll_77 : decode cX3_mergesAll 77 = .ok (.goto 4, 3) := by decide +kernel
theorem dX3_mergesAll_80 : decode cX3_mergesAll 80 = .ok (.iconst 0, 1) := by decide +kernel
theorem dX3_mergesAll_81 : decode cX3_mergesAll 81 = .ok (.iadd, 1) := by decide +kernel
theorem dX3_mergesAll_82 : decode cX3_mergesAll 82 = .ok (.putfield 121, 3) := by decide +kernel
theorem dX3_mergesAll_85 : decode cX3_mergesAll 85 = .ok (.iload 5, 2) := by decide +kernel
theorem dX3_mergesAll_87 : decode cX3_mergesAll 87 = .ok (.istore_n 1, 1) := by decide +kernel
theorem dX3_mergesAll_88 : decode cX3_mergesAll 88 = .ok (.iinc 2 1, 3) := by decide +kernel
theorem dX3_mergesAll_91 : decode cX3_mergesAll 91 = .ok (.goto (-82), 3) := by decide +kernel
theorem dX3_mergesAll_94 : decode cX3_mergesAll 94 = .ok (.aload_n 0, 1) := by decide +kernel
theorem dX3_mergesAll_95 : decode cX3_mergesAll 95 = .ok (.getfield 48, 3) := by decide +kernel
theorem dX3_mergesAll_98 : decode cX3_mergesAll 98 = .ok (.ifCond .ne 55, 3) := by decide +kernel
theorem dX3_mergesAll_101 : decode cX3_mergesAll 101 = .ok (.aload_n 0, 1) := by decide +kernel
theorem dX3_mergesAll_102 : decode cX3_mergesAll 102 = .ok (.getfield 69, 3) := by decide +kernel
theorem dX3_mergesAll_105 : decode cX3_mergesAll 105 = .ok (.ifCond .le 48, 3) := by decide +kernel
theorem dX3_mergesAll_108 : decode cX3_mergesAll 108 = .ok (.iconst 0, 1) := by decide +kernel
theorem dX3_mergesAll_109 : decode cX3_mergesAll 109 = .ok (.istore_n 2, 1) := by decide +kernel
theorem dX3_mergesAll_110 : decode cX3_mergesAll 110 = .ok (.iload_n 2, 1) := by decide +kernel
theorem dX3_mergesAll_111 : decode cX3_mergesAll 111 = .ok (.aload_n 0, 1) := by decide +kernel
theorem dX3_mergesAll_112 : decode cX3_mergesAll 112 = .ok (.getfield 69, 3) := by decide +kernel
theorem dX3_mergesAll_115 : decode cX3_mergesAll 115 = .ok (.if_icmp .ge 19, 3) := by decide +kernel
theorem dX3_mergesAll_118 : decode cX3_mergesAll 118 = .ok (.aload_n 0, 1) := by decide +kernel
theorem dX3_mergesAll_119 : decode cX3_mergesAll 119 = .ok (.aload_n 0, 1) := by decide +kernel
theorem dX3_mergesAll_120 : decode cX3_mergesAll 120 = .ok (.getfield 27, 3) := by decide +kernel
theorem dX3_mergesAll_123 : decode cX3_mergesAll 123 = .ok (.iload_n 2, 1) := by decide +kernel
theorem dX3_mergesAll_124 : decode cX3_mergesAll 124 = .ok (.iaload, 1) := by decide +kernel
theorem dX3_mergesAll_125 : decode cX3_mergesAll 125 = .ok (.invokevirtual 105, 3) := by decide +kernel
theorem dX3_mergesAll_128 : decode cX3_mergesAll 128 = .ok (.iinc 2 1, 3) := by decide +kernel
theorem dX3_mergesAll_131 : decode cX3_mergesAll 131 = .ok (.goto (-21), 3) := by decide +kernel
theorem dX3_mergesAll_134 : decode cX3_mergesAll 134 = .ok (.aload_n 0, 1) := by decide +kernel
theorem dX3_mergesAll_135 : decode cX3_mergesAll 135 = .ok (.iconst 0, 1) := by decide +kernel
theorem dX3_mergesAll_136 : decode cX3_mergesAll 136 = .ok (.iconst 0, 1) := by decide +kernel
theorem dX3_mergesAll_137 : decode cX3_mergesAll 137 = .ok (.invokevirtual 117, 3) := by decide +kernel
theorem dX3_mergesAll_140 : decode cX3_mergesAll 140 = .ok (.istore_n 1, 1) := by decide +kernel
theorem dX3_mergesAll_141 : decode cX3_mergesAll 141 = .ok (.aload_n 0, 1) := by decide +kernel
theorem dX3_mergesAll_142 : decode cX3_mergesAll 142 = .ok (.dup, 1) := by decide +kernel
theorem dX3_mergesAll_143 : decode cX3_mergesAll 143 = .ok (.getfield 121, 3) := by decide +kernel
theorem dX3_mergesAll_146 : decode cX3_mergesAll 146 = .ok (.iload_n 1, 1) := by decide +kernel
theorem dX3_mergesAll_147 : decode cX3_mergesAll 147 = .ok (.iconst 1, 1) := by decide +kernel
theorem dX3_mergesAll_148 : decode cX3_mergesAll 148 = .ok (.isub, 1) := by decide +kernel
theorem dX3_mergesAll_149 : decode cX3_mergesAll 149 = .ok (.iadd, 1) := by decide +kernel
theorem dX3_mergesAll_150 : decode cX3_mergesAll 150 = .ok (.putfield 121, 3) := by decide +kernel
theorem dX3_mergesAll_153 : decode cX3_mergesAll 153 = .ok (.aload_n 0, 1) := by decide +kernel
theorem dX3_mergesAll_154 : decode cX3_mergesAll 154 = .ok (.iload_n 1, 1) := by decide +kernel
theorem dX3_mergesAll_155 : decode cX3_mergesAll 155 = .ok (.invokevirtual 124, 3) := by decide +kernel
theorem dX3_mergesAll_158 : decode cX3_mergesAll 158 = .ok (.aload_n 0, 1) := by decide +kernel
theorem dX3_mergesAll_159 : decode cX3_mergesAll 159 = .ok (.invokevirtual 127, 3) := by decide +kernel
theorem dX3_mergesAll_162 : decode cX3_mergesAll 162 = .ok (.aload_n 0, 1) := by decide +kernel
theorem dX3_mergesAll_163 : decode cX3_mergesAll 163 = .ok (.dup, 1) := by decide +kernel
theorem dX3_mergesAll_164 : decode cX3_mergesAll 164 = .ok (.getfield 130, 3) := by decide +kernel
theorem dX3_mergesAll_167 : decode cX3_mergesAll 167 = .ok (.iconst 1, 1) := by decide +kernel
theorem dX3_mergesAll_168 : decode cX3_mergesAll 168 = .ok (.iadd, 1) := by decide +kernel
theorem dX3_mergesAll_169 : decode cX3_mergesAll 169 = .ok (.putfield 130, 3) := by decide +kernel
theorem dX3_mergesAll_172 : decode cX3_mergesAll 172 = .ok (.return_, 1) := by decide +kernel
set_option maxRecDepth 20000 in
theorem ggX3_merge_X3_mergesAll : GoodIn wsX3_merge wsX3_mergesAll := goodIn_r _ [7, 8, 2, 9, 10, 11, 12, 13, 14, 15, 16, 6, 17, 18, 19, 20, 21, 22, 23, 24, 25, 26, 27, 28, 29, 30, 31, 32, 33, 34, 35, 36, 37, 38, 39, 40, 41, 42, 43, 44, 45, 46, 47, 48, 49, 50, 51, 52, 53, 54, 55, 56, 57, 58, 59, 60, 61, 62, 63, 64, 65, 66, 67, 68, 69, 70, 71, 72] (by decide +kernel) (by decide +kernel)
set_option maxRecDepth 20000 in
theorem gX3_merge_X3_mergesAll : GoodIn wsX3_merge (wsV RX3 96 RX3 yX3_mergesAll wsX3_mergesAll) := goodIn_app (goodIn_of _ (by decide +kernel)) ggX3_merge_X3_mergesAll
theorem dX3_merge_0 : decode cX3_merge 0 = .ok (.aload_n 0, 1) := by decide +kernel
theorem dX3_merge_1 : decode cX3_merge 1 = .ok (.iconst 0, 1) := by decide +kernel
theorem dX3_merge_2 : decode cX3_merge 2 = .ok (.putfield 36, 3) := by decide +kernel
theorem dX3_merge_5 : decode cX3_merge 5 = .ok (.aload_n 0, 1) := by decide +kernel
theorem dX3_merge_6 : decode cX3_merge 6 = .ok (.invokevirtual 96, 3) := by decide +kernel
theorem dX3_merge_9 : decode cX3_merge 9 = .ok (.aload_n 0, 1) := by decide +kernel
theorem dX3_merge_10 : decode cX3_merge 10 = .ok (.getfield 48, 3) := by decide +kernel
theorem dX3_merge_13 : decode cX3_merge 13 = .ok (.ireturn, 1) := by decide +kernel
set_option maxRecDepth 20000 in
theorem ggX3_rebuild_X3_makes : GoodIn wsX3_rebuild wsX3_makes := goodIn_r _ [15, 4, 16, 33, 34, 35, 36, 37, 38, 39, 40, 41, 42, 43, 44, 45, 46, 47, 48, 49, 50] (by decide +kernel) (by decide +kernel)
set_option maxRecDepth 20000 in
theorem gX3_rebuild_X3_makes : GoodIn wsX3_rebuild (wsV RX3 105 RX3 yX3_makes wsX3_makes) := goodIn_app (goodIn_of _ (by decide +kernel)) ggX3_rebuild_X3_makes
set_option maxRecDepth 20000 in
theorem ggX3_rebuild_X3_cuts : GoodIn wsX3_rebuild wsX3_cuts := goodIn_r _ [20, 4, 16, 21, 22, 23, 24, 14, 25, 26, 27, 2, 33, 34, 35, 36, 37, 38, 39, 40, 41, 42, 43, 44, 45, 46, 47, 48, 49, 50] (by decide +kernel) (by decide +kernel)
set_option maxRecDepth 20000 in
theorem gX3_rebuild_X3_cuts : GoodIn wsX3_rebuild (wsV RX3 117 RX3 yX3_cuts wsX3_cuts) := goodIn_app (goodIn_of _ (by decide +kernel)) ggX3_rebuild_X3_cuts
set_option maxRecDepth 20000 in
theorem ggX3_rebuild_X3_becomes : GoodIn wsX3_rebuild wsX3_becomes := goodIn_r _ [31, 4, 5, 10, 8, 7, 16, 6, 32, 21, 33, 34, 35, 36, 37, 38, 39, 40, 41, 42, 43, 44, 45, 46, 47, 48, 49, 50] (by decide +kernel) (by decide +kernel)
set_option maxRecDepth 20000 in
theorem gX3_rebuild_X3_becomes : GoodIn wsX3_rebuild (wsV RX3 124 RX3 yX3_becomes wsX3_becomes) := goodIn_app (goodIn_of _ (by decide +kernel)) ggX3_rebuild_X3_becomes
theorem dX3_rebuild_0 : decode cX3_rebuild 0 = .ok (.aload_n 0, 1) := by decide +kernel
theorem dX3_rebuild_1 : decode cX3_rebuild 1 = .ok (.iload_n 1, 1) := by decide +kernel
theorem dX3_rebuild_2 : decode cX3_rebuild 2 = .ok (.ifCond .lt 20, 3) := by decide +kernel
theorem dX3_rebuild_5 : decode cX3_rebuild 5 = .ok (.iload_n 1, 1) := by decide +kernel
theorem dX3_rebuild_6 : decode cX3_rebuild 6 = .ok (.bipush 20, 2) := by decide +kernel
theorem dX3_rebuild_8 : decode cX3_rebuild 8 = .ok (.if_icmp .gt 14, 3) := by decide +kernel
theorem dX3_rebuild_11 : decode cX3_rebuild 11 = .ok (.iload_n 2, 1) := by decide +kernel
theorem dX3_rebuild_12 : decode cX3_rebuild 12 = .ok (.iconst 1, 1) := by decide +kernel
theorem dX3_rebuild_13 : decode cX3_rebuild 13 = .ok (.if_icmp .lt 9, 3) := by decide +kernel
theorem dX3_rebuild_16 : decode cX3_rebuild 16 = .ok (.iload_n 2, 1) := by decide +kernel
theorem dX3_rebuild_17 : decode cX3_rebuild 17 = .ok (.bipush 16, 2) := by decide +kernel
theorem dX3_rebuild_19 : decode cX3_rebuild 19 = .ok (.if_icmp .le 7, 3) := by decide +kernel
theorem dX3_rebuild_22 : decode cX3_rebuild 22 = .ok (.iconst 1, 1) := by decide +kernel
theorem dX3_rebuild_23 : decode cX3_rebuild 23 = .ok (.goto 4, 3) := by decide +kernel
theorem dX3_rebuild_26 : decode cX3_rebuild 26 = .ok (.iconst 0, 1) := by decide +kernel
theorem dX3_rebuild_27 : decode cX3_rebuild 27 = .ok (.putfield 36, 3) := by decide +kernel
theorem dX3_rebuild_30 : decode cX3_rebuild 30 = .ok (.aload_n 0, 1) := by decide +kernel
theorem dX3_rebuild_31 : decode cX3_rebuild 31 = .ok (.getfield 36, 3) := by decide +kernel
theorem dX3_rebuild_34 : decode cX3_rebuild 34 = .ok (.ifCond .le 5, 3) := by decide +kernel
theorem dX3_rebuild_37 : decode cX3_rebuild 37 = .ok (.iconst 0, 1) := by decide +kernel
theorem dX3_rebuild_38 : decode cX3_rebuild 38 = .ok (.ireturn, 1) := by decide +kernel
theorem dX3_rebuild_39 : decode cX3_rebuild 39 = .ok (.aload_n 0, 1) := by decide +kernel
theorem dX3_rebuild_40 : decode cX3_rebuild 40 = .ok (.iload_n 1, 1) := by decide +kernel
theorem dX3_rebuild_41 : decode cX3_rebuild 41 = .ok (.putfield 7, 3) := by decide +kernel
theorem dX3_rebuild_44 : decode cX3_rebuild 44 = .ok (.aload_n 0, 1) := by decide +kernel
theorem dX3_rebuild_45 : decode cX3_rebuild 45 = .ok (.iload_n 2, 1) := by decide +kernel
theorem dX3_rebuild_46 : decode cX3_rebuild 46 = .ok (.putfield 13, 3) := by decide +kernel
theorem dX3_rebuild_49 : decode cX3_rebuild 49 = .ok (.aload_n 0, 1) := by decide +kernel
theorem dX3_rebuild_50 : decode cX3_rebuild 50 = .ok (.iconst 0, 1) := by decide +kernel
theorem dX3_rebuild_51 : decode cX3_rebuild 51 = .ok (.putfield 102, 3) := by decide +kernel
theorem dX3_rebuild_54 : decode cX3_rebuild 54 = .ok (.iconst 0, 1) := by decide +kernel
theorem dX3_rebuild_55 : decode cX3_rebuild 55 = .ok (.istore_n 3, 1) := by decide +kernel
theorem dX3_rebuild_56 : decode cX3_rebuild 56 = .ok (.iload_n 3, 1) := by decide +kernel
theorem dX3_rebuild_57 : decode cX3_rebuild 57 = .ok (.aload_n 0, 1) := by decide +kernel
theorem dX3_rebuild_58 : decode cX3_rebuild 58 = .ok (.getfield 51, 3) := by decide +kernel
theorem dX3_rebuild_61 : decode cX3_rebuild 61 = .ok (.if_icmp .ge 28, 3) := by decide +kernel
theorem dX3_rebuild_64 : decode cX3_rebuild 64 = .ok (.aload_n 0, 1) := by decide +kernel
theorem dX3_rebuild_65 : decode cX3_rebuild 65 = .ok (.getfield 20, 3) := by decide +kernel
theorem dX3_rebuild_68 : decode cX3_rebuild 68 = .ok (.iload_n 3, 1) := by decide +kernel
theorem dX3_rebuild_69 : decode cX3_rebuild 69 = .ok (.baload, 1) := by decide +kernel
theorem dX3_rebuild_70 : decode cX3_rebuild 70 = .ok (.ifCond .ne 13, 3) := by decide +kernel
theorem dX3_rebuild_73 : decode cX3_rebuild 73 = .ok (.aload_n 0, 1) := by decide +kernel
theorem dX3_rebuild_74 : decode cX3_rebuild 74 = .ok (.aload_n 0, 1) := by decide +kernel
theorem dX3_rebuild_75 : decode cX3_rebuild 75 = .ok (.getfield 16, 3) := by decide +kernel
theorem dX3_rebuild_78 : decode cX3_rebuild 78 = .ok (.iload_n 3, 1) := by decide +kernel
theorem dX3_rebuild_79 : decode cX3_rebuild 79 = .ok (.iaload, 1) := by decide +kernel
theorem dX3_rebuild_80 : decode cX3_rebuild 80 = .ok (.invokevirtual 105, 3) := by decide +kernel
theorem dX3_rebuild_83 : decode cX3_rebuild 83 = .ok (.iinc 3 1, 3) := by decide +kernel
theorem dX3_rebuild_86 : decode cX3_rebuild 86 = .ok (.goto (-30), 3) := by decide +kernel
theorem dX3_rebuild_89 : decode cX3_rebuild 89 = .ok (.iconst 0, 1) := by decide +kernel
theorem dX3_rebuild_90 : decode cX3_rebuild 90 = .ok (.istore_n 3, 1) := by decide +kernel
theorem dX3_rebuild_91 : decode cX3_rebuild 91 = .ok (.iload_n 3, 1) := by decide +kernel
theorem dX3_rebuild_92 : decode cX3_rebuild 92 = .ok (.aload_n 0, 1) := by decide +kernel
theorem dX3_rebuild_93 : decode cX3_rebuild 93 = .ok (.getfield 69, 3) := by decide +kernel
theorem dX3_rebuild_96 : decode cX3_rebuild 96 = .ok (.if_icmp .ge 19, 3) := by decide +kernel
theorem dX3_rebuild_99 : decode cX3_rebuild 99 = .ok (.aload_n 0, 1) := by decide +kernel
theorem dX3_rebuild_100 : decode cX3_rebuild 100 = .ok (.aload_n 0, 1) := by decide +kernel
theorem dX3_rebuild_101 : decode cX3_rebuild 101 = .ok (.getfield 27, 3) := by decide +kernel
theorem dX3_rebuild_104 : decode cX3_rebuild 104 = .ok (.iload_n 3, 1) := by decide +kernel
theorem dX3_rebuild_105 : decode cX3_rebuild 105 = .ok (.iaload, 1) := by decide +kernel
theorem dX3_rebuild_106 : decode cX3_rebuild 106 = .ok (.invokevirtual 105, 3) := by decide +kernel
theorem dX3_rebuild_109 : decode cX3_rebuild 109 = .ok (.iinc 3 1, 3) := by decide +kernel
theorem dX3_rebuild_112 : decode cX3_rebuild 112 = .ok (.goto (-21), 3) := by decide +kernel
theorem dX3_rebuild_115 : decode cX3_rebuild 115 = .ok (.aload_n 0, 1) := by decide +kernel
theorem dX3_rebuild_116 : decode cX3_rebuild 116 = .ok (.aload_n 0, 1) := by decide +kernel
theorem dX3_rebuild_117 : decode cX3_rebuild 117 = .ok (.iconst 0, 1) := by decide +kernel
theorem dX3_rebuild_118 : decode cX3_rebuild 118 = .ok (.iconst 0, 1) := by decide +kernel
theorem dX3_rebuild_119 : decode cX3_rebuild 119 = .ok (.invokevirtual 117, 3) := by decide +kernel
theorem dX3_rebuild_122 : decode cX3_rebuild 122 = .ok (.invokevirtual 124, 3) := by decide +kernel
theorem dX3_rebuild_125 : decode cX3_rebuild 125 = .ok (.aload_n 0, 1) := by decide +kernel
theorem dX3_rebuild_126 : decode cX3_rebuild 126 = .ok (.getfield 48, 3) := by decide +kernel
theorem dX3_rebuild_129 : decode cX3_rebuild 129 = .ok (.ireturn, 1) := by decide +kernel
theorem dX3_below_0 : decode cX3_below 0 = .ok (.iconst 0, 1) := by decide +kernel
theorem dX3_below_1 : decode cX3_below 1 = .ok (.istore_n 3, 1) := by decide +kernel
theorem dX3_below_2 : decode cX3_below 2 = .ok (.iconst 0, 1) := by decide +kernel
theorem dX3_below_3 : decode cX3_below 3 = .ok (.istore 4, 2) := by decide +kernel
theorem dX3_below_5 : decode cX3_below 5 = .ok (.iload 4, 2) := by decide +kernel
theorem dX3_below_7 : decode cX3_below 7 = .ok (.aload_n 0, 1) := by decide +kernel
theorem dX3_below_8 : decode cX3_below 8 = .ok (.getfield 51, 3) := by decide +kernel
theorem dX3_below_11 : decode cX3_below 11 = .ok (.if_icmp .ge 40, 3) := by decide +kernel
theorem dX3_below_14 : decode cX3_below 14 = .ok (.iload_n 3, 1) := by decide +kernel
theorem dX3_below_15 : decode cX3_below 15 = .ok (.aload_n 0, 1) := by decide +kernel
theorem dX3_below_16 : decode cX3_below 16 = .ok (.getfield 20, 3) := by decide +kernel
theorem dX3_below_19 : decode cX3_below 19 = .ok (.iload 4, 2) := by decide +kernel
theorem dX3_below_21 : decode cX3_below 21 = .ok (.baload, 1) := by decide +kernel
theorem dX3_below_22 : decode cX3_below 22 = .ok (.ifCond .ne 20, 3) := by decide +kernel
theorem dX3_below_25 : decode cX3_below 25 = .ok (.aload_n 0, 1) := by decide +kernel
theorem dX3_below_26 : decode cX3_below 26 = .ok (.getfield 16, 3) := by decide +kernel
theorem dX3_below_29 : decode cX3_below 29 = .ok (.iload 4, 2) := by decide +kernel
theorem dX3_below_31 : decode cX3_below 31 = .ok (.iaload, 1) := by decide +kernel
theorem dX3_below_32 : decode cX3_below 32 = .ok (.i2l, 1) := by decide +kernel
theorem dX3_below_33 : decode cX3_below 33 = .ok (.lload_n 1, 1) := by decide +kernel
theorem dX3_below_34 : decode cX3_below 34 = .ok (.lcmp, 1) := by decide +kernel
theorem dX3_below_35 : decode cX3_below 35 = .ok (.ifCond .ge 7, 3) := by decide +kernel
theorem dX3_below_38 : decode cX3_below 38 = .ok (.iconst 1, 1) := by decide +kernel
theorem dX3_below_39 : decode cX3_below 39 = .ok (.goto 4, 3) := by decide +kernel
theorem dX3_below_42 : decode cX3_below 42 = .ok (.iconst 0, 1) := by decide +kernel
theorem dX3_below_43 : decode cX3_below 43 = .ok (.iadd, 1) := by decide +kernel
theorem dX3_below_44 : decode cX3_below 44 = .ok (.istore_n 3, 1) := by decide +kernel
theorem dX3_below_45 : decode cX3_below 45 = .ok (.iinc 4 1, 3) := by decide +kernel
theorem dX3_below_48 : decode cX3_below 48 = .ok (.goto (-43), 3) := by decide +kernel
theorem dX3_below_51 : decode cX3_below 51 = .ok (.iconst 0, 1) := by decide +kernel
theorem dX3_below_52 : decode cX3_below 52 = .ok (.istore 4, 2) := by decide +kernel
theorem dX3_below_54 : decode cX3_below 54 = .ok (.iload 4, 2) := by decide +kernel
theorem dX3_below_56 : decode cX3_below 56 = .ok (.aload_n 0, 1) := by decide +kernel
theorem dX3_below_57 : decode cX3_below 57 = .ok (.getfield 69, 3) := by decide +kernel
theorem dX3_below_60 : decode cX3_below 60 = .ok (.if_icmp .ge 30, 3) := by decide +kernel
theorem dX3_below_63 : decode cX3_below 63 = .ok (.iload_n 3, 1) := by decide +kernel
theorem dX3_below_64 : decode cX3_below 64 = .ok (.aload_n 0, 1) := by decide +kernel
theorem dX3_below_65 : decode cX3_below 65 = .ok (.getfield 27, 3) := by decide +kernel
theorem dX3_below_68 : decode cX3_below 68 = .ok (.iload 4, 2) := by decide +kernel
theorem dX3_below_70 : decode cX3_below 70 = .ok (.iaload, 1) := by decide +kernel
theorem dX3_below_71 : decode cX3_below 71 = .ok (.i2l, 1) := by decide +kernel
theorem dX3_below_72 : decode cX3_below 72 = .ok (.lload_n 1, 1) := by decide +kernel
theorem dX3_below_73 : decode cX3_below 73 = .ok (.lcmp, 1) := by decide +kernel
theorem dX3_below_74 : decode cX3_below 74 = .ok (.ifCond .ge 7, 3) := by decide +kernel
theorem dX3_below_77 : decode cX3_below 77 = .ok (.iconst 1, 1) := by decide +kernel
theorem dX3_below_78 : decode cX3_below 78 = .ok (.goto 4, 3) := by decide +kernel
theorem dX3_below_81 : decode cX3_below 81 = .ok (.iconst 0, 1) := by decide +kernel
theorem dX3_below_82 : decode cX3_below 82 = .ok (.iadd, 1) := by decide +kernel
theorem dX3_below_83 : decode cX3_below 83 = .ok (.istore_n 3, 1) := by decide +kernel
theorem dX3_below_84 : decode cX3_below 84 = .ok (.iinc 4 1, 3) := by decide +kernel
theorem dX3_below_87 : decode cX3_below 87 = .ok (.goto (-33), 3) := by decide +kernel
theorem dX3_below_90 : decode cX3_below 90 = .ok (.iload_n 3, 1) := by decide +kernel
theorem dX3_below_91 : decode cX3_below 91 = .ok (.ireturn, 1) := by decide +kernel
set_option maxRecDepth 20000 in
theorem ggX3_keys_X3_below : GoodIn wsX3_keys wsX3_below := goodIn_r _ [6, 7, 8, 9, 10, 11, 12, 13, 14, 15, 16, 17, 18, 19, 20, 21, 22, 23, 24, 25, 26, 27, 28, 29] (by decide +kernel) (by decide +kernel)
set_option maxRecDepth 20000 in
theorem gX3_keys_X3_below : GoodIn wsX3_keys (wsV RX3 135 RX3 yX3_below wsX3_below) := goodIn_app (goodIn_of _ (by decide +kernel)) ggX3_keys_X3_below
theorem dX3_keys_0 : decode cX3_keys 0 = .ok (.aload_n 0, 1) := by decide +kernel
theorem dX3_keys_1 : decode cX3_keys 1 = .ok (.ldc2_w 133, 3) := by decide +kernel
theorem dX3_keys_4 : decode cX3_keys 4 = .ok (.invokevirtual 135, 3) := by decide +kernel
theorem dX3_keys_7 : decode cX3_keys 7 = .ok (.ireturn, 1) := by decide +kernel
set_option maxRecDepth 20000 in
theorem ggX3_size_X3_keys : GoodIn wsX3_size wsX3_keys := goodIn_r _ [6, 7, 8, 9, 10, 5, 11, 12, 13, 14, 15, 16, 17, 18, 19, 20, 21, 22, 23, 24, 25, 26, 27, 28, 29, 30, 31, 32, 33, 34] (by decide +kernel) (by decide +kernel)
set_option maxRecDepth 20000 in
theorem gX3_size_X3_keys : GoodIn wsX3_size (wsV RX3 99 RX3 yX3_keys wsX3_keys) := goodIn_app (goodIn_of _ (by decide +kernel)) ggX3_size_X3_keys
theorem dX3_size_0 : decode cX3_size 0 = .ok (.aload_n 0, 1) := by decide +kernel
theorem dX3_size_1 : decode cX3_size 1 = .ok (.iconst 0, 1) := by decide +kernel
theorem dX3_size_2 : decode cX3_size 2 = .ok (.putfield 36, 3) := by decide +kernel
theorem dX3_size_5 : decode cX3_size 5 = .ok (.aload_n 0, 1) := by decide +kernel
theorem dX3_size_6 : decode cX3_size 6 = .ok (.invokevirtual 99, 3) := by decide +kernel
theorem dX3_size_9 : decode cX3_size 9 = .ok (.ireturn, 1) := by decide +kernel
set_option maxRecDepth 20000 in
theorem ggX3_contains_X3_isThere : GoodIn wsX3_contains wsX3_isThere := goodIn_r _ [6, 7, 8, 9, 10, 5, 11, 12, 13, 14, 15, 16, 17, 18, 19, 20, 21, 22, 23, 24, 25, 26, 27, 28, 29, 30, 31, 32, 33, 34, 35, 36, 37, 38, 39, 40, 41] (by decide +kernel) (by decide +kernel)
set_option maxRecDepth 20000 in
theorem gX3_contains_X3_isThere : GoodIn wsX3_contains (wsV RX3 93 RX3 yX3_isThere wsX3_isThere) := goodIn_app (goodIn_of _ (by decide +kernel)) ggX3_contains_X3_isThere
theorem dX3_contains_0 : decode cX3_contains 0 = .ok (.aload_n 0, 1) := by decide +kernel
theorem dX3_contains_1 : decode cX3_contains 1 = .ok (.iconst 0, 1) := by decide +kernel
theorem dX3_contains_2 : decode cX3_contains 2 = .ok (.putfield 36, 3) := by decide +kernel
theorem dX3_contains_5 : decode cX3_contains 5 = .ok (.aload_n 0, 1) := by decide +kernel
theorem dX3_contains_6 : decode cX3_contains 6 = .ok (.iload_n 1, 1) := by decide +kernel
theorem dX3_contains_7 : decode cX3_contains 7 = .ok (.invokevirtual 93, 3) := by decide +kernel
theorem dX3_contains_10 : decode cX3_contains 10 = .ok (.ireturn, 1) := by decide +kernel
set_option maxRecDepth 20000 in
theorem ggX3_rank_X3_below : GoodIn wsX3_rank wsX3_below := goodIn_r _ [6, 7, 8, 9, 10, 11, 12, 13, 14, 15, 16, 17, 18, 19, 20, 21, 22, 23, 24, 25, 26, 27, 28, 29] (by decide +kernel) (by decide +kernel)
set_option maxRecDepth 20000 in
theorem gX3_rank_X3_below : GoodIn wsX3_rank (wsV RX3 135 RX3 yX3_below wsX3_below) := goodIn_app (goodIn_of _ (by decide +kernel)) ggX3_rank_X3_below
theorem dX3_rank_0 : decode cX3_rank 0 = .ok (.aload_n 0, 1) := by decide +kernel
theorem dX3_rank_1 : decode cX3_rank 1 = .ok (.iconst 0, 1) := by decide +kernel
theorem dX3_rank_2 : decode cX3_rank 2 = .ok (.putfield 36, 3) := by decide +kernel
theorem dX3_rank_5 : decode cX3_rank 5 = .ok (.aload_n 0, 1) := by decide +kernel
theorem dX3_rank_6 : decode cX3_rank 6 = .ok (.iload_n 1, 1) := by decide +kernel
theorem dX3_rank_7 : decode cX3_rank 7 = .ok (.i2l, 1) := by decide +kernel
theorem dX3_rank_8 : decode cX3_rank 8 = .ok (.invokevirtual 135, 3) := by decide +kernel
theorem dX3_rank_11 : decode cX3_rank 11 = .ok (.ireturn, 1) := by decide +kernel
set_option maxRecDepth 20000 in
theorem ggX3_behindSo_X3_below : GoodIn wsX3_behindSo wsX3_below := goodIn_r _ [10, 1, 2, 3, 4, 5, 11, 12, 13, 14, 15, 16, 17, 18, 19, 20, 21, 22, 23, 24, 25, 26, 27, 28] (by decide +kernel) (by decide +kernel)
set_option maxRecDepth 20000 in
theorem gX3_behindSo_X3_below : GoodIn wsX3_behindSo (wsV RX3 135 RX3 yX3_below wsX3_below) := goodIn_app (goodIn_of _ (by decide +kernel)) ggX3_behindSo_X3_below
theorem dX3_behindSo_0 : decode cX3_behindSo 0 = .ok (.iconst 0, 1) := by decide +kernel
theorem dX3_behindSo_1 : decode cX3_behindSo 1 = .ok (.istore_n 2, 1) := by decide +kernel
theorem dX3_behindSo_2 : decode cX3_behindSo 2 = .ok (.iconst 0, 1) := by decide +kernel
theorem dX3_behindSo_3 : decode cX3_behindSo 3 = .ok (.istore_n 3, 1) := by decide +kernel
theorem dX3_behindSo_4 : decode cX3_behindSo 4 = .ok (.iload_n 3, 1) := by decide +kernel
theorem dX3_behindSo_5 : decode cX3_behindSo 5 = .ok (.aload_n 0, 1) := by decide +kernel
theorem dX3_behindSo_6 : decode cX3_behindSo 6 = .ok (.getfield 51, 3) := by decide +kernel
theorem dX3_behindSo_9 : decode cX3_behindSo 9 = .ok (.if_icmp .ge 44, 3) := by decide +kernel
theorem dX3_behindSo_12 : decode cX3_behindSo 12 = .ok (.aload_n 0, 1) := by decide +kernel
theorem dX3_behindSo_13 : decode cX3_behindSo 13 = .ok (.getfield 20, 3) := by decide +kernel
theorem dX3_behindSo_16 : decode cX3_behindSo 16 = .ok (.iload_n 3, 1) := by decide +kernel
theorem dX3_behindSo_17 : decode cX3_behindSo 17 = .ok (.baload, 1) := by decide +kernel
theorem dX3_behindSo_18 : decode cX3_behindSo 18 = .ok (.ifCond .ne 27, 3) := by decide +kernel
theorem dX3_behindSo_21 : decode cX3_behindSo 21 = .ok (.aload_n 0, 1) := by decide +kernel
theorem dX3_behindSo_22 : decode cX3_behindSo 22 = .ok (.aload_n 0, 1) := by decide +kernel
theorem dX3_behindSo_23 : decode cX3_behindSo 23 = .ok (.getfield 16, 3) := by decide +kernel
theorem dX3_behindSo_26 : decode cX3_behindSo 26 = .ok (.iload_n 3, 1) := by decide +kernel
theorem dX3_behindSo_27 : decode cX3_behindSo 27 = .ok (.iaload, 1) := by decide +kernel
theorem dX3_behindSo_28 : decode cX3_behindSo 28 = .ok (.i2l, 1) := by decide +kernel
theorem dX3_behindSo_29 : decode cX3_behindSo 29 = .ok (.invokevirtual 135, 3) := by decide +kernel
theorem dX3_behindSo_32 : decode cX3_behindSo 32 = .ok (.iload_n 1, 1) := by decide +kernel
theorem dX3_behindSo_33 : decode cX3_behindSo 33 = .ok (.if_icmp .ne 12, 3) := by decide +kernel
theorem dX3_behindSo_36 : decode cX3_behindSo 36 = .ok (.aload_n 0, 1) := by decide +kernel
theorem dX3_behindSo_37 : decode cX3_behindSo 37 = .ok (.getfield 16, 3) := by decide +kernel
theorem dX3_behindSo_40 : decode cX3_behindSo 40 = .ok (.iload_n 3, 1) := by decide +kernel
theorem dX3_behindSo_41 : decode cX3_behindSo 41 = .ok (.iaload, 1) := by decide +kernel
theorem dX3_behindSo_42 : decode cX3_behindSo 42 = .ok (.goto 4, 3) := by decide +kernel
theorem dX3_behindSo_45 : decode cX3_behindSo 45 = .ok (.iload_n 2, 1) := by decide +kernel
theorem dX3_behindSo_46 : decode cX3_behindSo 46 = .ok (.istore_n 2, 1) := by decide +kernel
theorem dX3_behindSo_47 : decode cX3_behindSo 47 = .ok (.iinc 3 1, 3) := by decide +kernel
theorem dX3_behindSo_50 : decode cX3_behindSo 50 = .ok (.goto (-46), 3) := by decide +kernel
theorem dX3_behindSo_53 : decode cX3_behindSo 53 = .ok (.iconst 0, 1) := by decide +kernel
theorem dX3_behindSo_54 : decode cX3_behindSo 54 = .ok (.istore_n 3, 1) := by decide +kernel
theorem dX3_behindSo_55 : decode cX3_behindSo 55 = .ok (.iload_n 3, 1) := by decide +kernel
theorem dX3_behindSo_56 : decode cX3_behindSo 56 = .ok (.aload_n 0, 1) := by decide +kernel
theorem dX3_behindSo_57 : decode cX3_behindSo 57 = .ok (.getfield 69, 3) := by decide +kernel
theorem dX3_behindSo_60 : decode cX3_behindSo 60 = .ok (.if_icmp .ge 35, 3) := by decide +kernel
theorem dX3_behindSo_63 : decode cX3_behindSo 63 = .ok (.aload_n 0, 1) := by decide +kernel
theorem dX3_behindSo_64 : decode cX3_behindSo 64 = .ok (.aload_n 0, 1) := by decide +kernel
theorem dX3_behindSo_65 : decode cX3_behindSo 65 = .ok (.getfield 27, 3) := by decide +kernel
theorem dX3_behindSo_68 : decode cX3_behindSo 68 = .ok (.iload_n 3, 1) := by decide +kernel
theorem dX3_behindSo_69 : decode cX3_behindSo 69 = .ok (.iaload, 1) := by decide +kernel
theorem dX3_behindSo_70 : decode cX3_behindSo 70 = .ok (.i2l, 1) := by decide +kernel
theorem dX3_behindSo_71 : decode cX3_behindSo 71 = .ok (.invokevirtual 135, 3) := by decide +kernel
theorem dX3_behindSo_74 : decode cX3_behindSo 74 = .ok (.iload_n 1, 1) := by decide +kernel
theorem dX3_behindSo_75 : decode cX3_behindSo 75 = .ok (.if_icmp .ne 12, 3) := by decide +kernel
theorem dX3_behindSo_78 : decode cX3_behindSo 78 = .ok (.aload_n 0, 1) := by decide +kernel
theorem dX3_behindSo_79 : decode cX3_behindSo 79 = .ok (.getfield 27, 3) := by decide +kernel
theorem dX3_behindSo_82 : decode cX3_behindSo 82 = .ok (.iload_n 3, 1) := by decide +kernel
theorem dX3_behindSo_83 : decode cX3_behindSo 83 = .ok (.iaload, 1) := by decide +kernel
theorem dX3_behindSo_84 : decode cX3_behindSo 84 = .ok (.goto 4, 3) := by decide +kernel
theorem dX3_behindSo_87 : decode cX3_behindSo 87 = .ok (.iload_n 2, 1) := by decide +kernel
theorem dX3_behindSo_88 : decode cX3_behindSo 88 = .ok (.istore_n 2, 1) := by decide +kernel
theorem dX3_behindSo_89 : decode cX3_behindSo 89 = .ok (.iinc 3 1, 3) := by decide +kernel
theorem dX3_behindSo_92 : decode cX3_behindSo 92 = .ok (.goto (-37), 3) := by decide +kernel
theorem dX3_behindSo_95 : decode cX3_behindSo 95 = .ok (.iload_n 2, 1) := by decide +kernel
theorem dX3_behindSo_96 : decode cX3_behindSo 96 = .ok (.ireturn, 1) := by decide +kernel
set_option maxRecDepth 20000 in
theorem ggX3_select_X3_keys : GoodIn wsX3_select wsX3_keys := goodIn_r _ [6, 7, 8, 9, 10, 5, 11, 12, 13, 14, 15, 16, 21, 22, 23, 24, 25, 26, 27, 28, 29, 30, 31, 32, 33, 34, 35, 36, 37, 38] (by decide +kernel) (by decide +kernel)
set_option maxRecDepth 20000 in
theorem gX3_select_X3_keys : GoodIn wsX3_select (wsV RX3 99 RX3 yX3_keys wsX3_keys) := goodIn_app (goodIn_of _ (by decide +kernel)) ggX3_select_X3_keys
set_option maxRecDepth 20000 in
theorem ggX3_select_X3_behindSo : GoodIn wsX3_select wsX3_behindSo := goodIn_r _ [20, 12, 13, 14, 15, 16, 8, 9, 10, 5, 11, 21, 22, 23, 24, 25, 26, 27, 28, 29, 30, 31, 32, 33, 34, 35, 36, 37, 38] (by decide +kernel) (by decide +kernel)
set_option maxRecDepth 20000 in
theorem gX3_select_X3_behindSo : GoodIn wsX3_select (wsV RX3 139 RX3 yX3_behindSo wsX3_behindSo) := goodIn_app (goodIn_of _ (by decide +kernel)) ggX3_select_X3_behindSo
theorem dX3_select_0 : decode cX3_select 0 = .ok (.aload_n 0, 1) := by decide +kernel
theorem dX3_select_1 : decode cX3_select 1 = .ok (.iload_n 1, 1) := by decide +kernel
theorem dX3_select_2 : decode cX3_select 2 = .ok (.ifCond .lt 15, 3) := by decide +kernel
theorem dX3_select_5 : decode cX3_select 5 = .ok (.iload_n 1, 1) := by decide +kernel
theorem dX3_select_6 : decode cX3_select 6 = .ok (.aload_n 0, 1) := by decide +kernel
theorem dX3_select_7 : decode cX3_select 7 = .ok (.invokevirtual 99, 3) := by decide +kernel
theorem dX3_select_10 : decode cX3_select 10 = .ok (.if_icmp .ge 7, 3) := by decide +kernel
theorem dX3_select_13 : decode cX3_select 13 = .ok (.iconst 0, 1) := by decide +kernel
theorem dX3_select_14 : decode cX3_select 14 = .ok (.goto 4, 3) := by decide +kernel
theorem dX3_select_17 : decode cX3_select 17 = .ok (.iconst 1, 1) := by decide +kernel
theorem dX3_select_18 : decode cX3_select 18 = .ok (.putfield 36, 3) := by decide +kernel
theorem dX3_select_21 : decode cX3_select 21 = .ok (.aload_n 0, 1) := by decide +kernel
theorem dX3_select_22 : decode cX3_select 22 = .ok (.getfield 36, 3) := by decide +kernel
theorem dX3_select_25 : decode cX3_select 25 = .ok (.ifCond .le 7, 3) := by decide +kernel
theorem dX3_select_28 : decode cX3_select 28 = .ok (.iconst 0, 1) := by decide +kernel
theorem dX3_select_29 : decode cX3_select 29 = .ok (.goto 8, 3) := by decide +kernel
theorem dX3_select_32 : decode cX3_select 32 = .ok (.aload_n 0, 1) := by decide +kernel
theorem dX3_select_33 : decode cX3_select 33 = .ok (.iload_n 1, 1) := by decide +kernel
theorem dX3_select_34 : decode cX3_select 34 = .ok (.invokevirtual 139, 3) := by decide +kernel
theorem dX3_select_37 : decode cX3_select 37 = .ok (.ireturn, 1) := by decide +kernel
set_option maxRecDepth 20000 in
theorem ggX3_ceiling_X3_below : GoodIn wsX3_ceiling wsX3_below := goodIn_r _ [6, 7, 8, 9, 10, 11, 21, 22, 23, 24, 25, 26, 27, 28, 29, 30, 31, 32, 33, 34, 35, 36, 37, 38] (by decide +kernel) (by decide +kernel)
set_option maxRecDepth 20000 in
theorem gX3_ceiling_X3_below : GoodIn wsX3_ceiling (wsV RX3 135 RX3 yX3_below wsX3_below) := goodIn_app (goodIn_of _ (by decide +kernel)) ggX3_ceiling_X3_below
set_option maxRecDepth 20000 in
theorem ggX3_ceiling_X3_keys : GoodIn wsX3_ceiling wsX3_keys := goodIn_r _ [15, 16, 2, 3, 4, 5, 6, 7, 8, 9, 10, 11, 21, 22, 23, 24, 25, 26, 27, 28, 29, 30, 31, 32, 33, 34, 35, 36, 37, 38] (by decide +kernel) (by decide +kernel)
set_option maxRecDepth 20000 in
theorem gX3_ceiling_X3_keys : GoodIn wsX3_ceiling (wsV RX3 99 RX3 yX3_keys wsX3_keys) := goodIn_app (goodIn_of _ (by decide +kernel)) ggX3_ceiling_X3_keys
set_option maxRecDepth 20000 in
theorem ggX3_ceiling_X3_behindSo : GoodIn wsX3_ceiling wsX3_behindSo := goodIn_r _ [20, 7, 8, 9, 10, 11, 2, 3, 4, 5, 6, 21, 22, 23, 24, 25, 26, 27, 28, 29, 30, 31, 32, 33, 34, 35, 36, 37, 38] (by decide +kernel) (by decide +kernel)
set_option maxRecDepth 20000 in
theorem gX3_ceiling_X3_behindSo : GoodIn wsX3_ceiling (wsV RX3 139 RX3 yX3_behindSo wsX3_behindSo) := goodIn_app (goodIn_of _ (by decide +kernel)) ggX3_ceiling_X3_behindSo
theorem dX3_ceiling_0 : decode cX3_ceiling 0 = .ok (.aload_n 0, 1) := by decide +kernel
theorem dX3_ceiling_1 : decode cX3_ceiling 1 = .ok (.iload_n 1, 1) := by decide +kernel
theorem dX3_ceiling_2 : decode cX3_ceiling 2 = .ok (.i2l, 1) := by decide +kernel
theorem dX3_ceiling_3 : decode cX3_ceiling 3 = .ok (.invokevirtual 135, 3) := by decide +kernel
theorem dX3_ceiling_6 : decode cX3_ceiling 6 = .ok (.istore_n 2, 1) := by decide +kernel
theorem dX3_ceiling_7 : decode cX3_ceiling 7 = .ok (.aload_n 0, 1) := by decide +kernel
theorem dX3_ceiling_8 : decode cX3_ceiling 8 = .ok (.iload_n 2, 1) := by decide +kernel
theorem dX3_ceiling_9 : decode cX3_ceiling 9 = .ok (.aload_n 0, 1) := by decide +kernel
theorem dX3_ceiling_10 : decode cX3_ceiling 10 = .ok (.invokevirtual 99, 3) := by decide +kernel
theorem dX3_ceiling_13 : decode cX3_ceiling 13 = .ok (.if_icmp .ge 7, 3) := by decide +kernel
theorem dX3_ceiling_16 : decode cX3_ceiling 16 = .ok (.iconst 0, 1) := by decide +kernel
theorem dX3_ceiling_17 : decode cX3_ceiling 17 = .ok (.goto 4, 3) := by decide +kernel
theorem dX3_ceiling_20 : decode cX3_ceiling 20 = .ok (.iconst 1, 1) := by decide +kernel
theorem dX3_ceiling_21 : decode cX3_ceiling 21 = .ok (.putfield 36, 3) := by decide +kernel
theorem dX3_ceiling_24 : decode cX3_ceiling 24 = .ok (.aload_n 0, 1) := by decide +kernel
theorem dX3_ceiling_25 : decode cX3_ceiling 25 = .ok (.getfield 36, 3) := by decide +kernel
theorem dX3_ceiling_28 : decode cX3_ceiling 28 = .ok (.ifCond .le 7, 3) := by decide +kernel
theorem dX3_ceiling_31 : decode cX3_ceiling 31 = .ok (.iconst 0, 1) := by decide +kernel
theorem dX3_ceiling_32 : decode cX3_ceiling 32 = .ok (.goto 8, 3) := by decide +kernel
theorem dX3_ceiling_35 : decode cX3_ceiling 35 = .ok (.aload_n 0, 1) := by decide +kernel
theorem dX3_ceiling_36 : decode cX3_ceiling 36 = .ok (.iload_n 2, 1) := by decide +kernel
theorem dX3_ceiling_37 : decode cX3_ceiling 37 = .ok (.invokevirtual 139, 3) := by decide +kernel
theorem dX3_ceiling_40 : decode cX3_ceiling 40 = .ok (.ireturn, 1) := by decide +kernel
set_option maxRecDepth 20000 in
theorem ggX3_count_X3_below : GoodIn wsX3_count wsX3_below := goodIn_r _ [6, 7, 8, 9, 10, 11, 12, 13, 14, 15, 16, 17, 18, 19, 20, 21, 22, 23, 24, 25, 26, 27, 28, 29] (by decide +kernel) (by decide +kernel)
set_option maxRecDepth 20000 in
theorem gX3_count_X3_below : GoodIn wsX3_count (wsV RX3 135 RX3 yX3_below wsX3_below) := goodIn_app (goodIn_of _ (by decide +kernel)) ggX3_count_X3_below
theorem dX3_count_0 : decode cX3_count 0 = .ok (.aload_n 0, 1) := by decide +kernel
theorem dX3_count_1 : decode cX3_count 1 = .ok (.iconst 0, 1) := by decide +kernel
theorem dX3_count_2 : decode cX3_count 2 = .ok (.putfield 36, 3) := by decide +kernel
theorem dX3_count_5 : decode cX3_count 5 = .ok (.iload_n 1, 1) := by decide +kernel
theorem dX3_count_6 : decode cX3_count 6 = .ok (.iload_n 2, 1) := by decide +kernel
theorem dX3_count_7 : decode cX3_count 7 = .ok (.if_icmp .le 7, 3) := by decide +kernel
theorem dX3_count_10 : decode cX3_count 10 = .ok (.iconst 0, 1) := by decide +kernel
theorem dX3_count_11 : decode cX3_count 11 = .ok (.goto 18, 3) := by decide +kernel
theorem dX3_count_14 : decode cX3_count 14 = .ok (.aload_n 0, 1) := by decide +kernel
theorem dX3_count_15 : decode cX3_count 15 = .ok (.iload_n 2, 1) := by decide +kernel
theorem dX3_count_16 : decode cX3_count 16 = .ok (.i2l, 1) := by decide +kernel
theorem dX3_count_17 : decode cX3_count 17 = .ok (.lconst 1, 1) := by decide +kernel
theorem dX3_count_18 : decode cX3_count 18 = .ok (.ladd, 1) := by decide +kernel
theorem dX3_count_19 : decode cX3_count 19 = .ok (.invokevirtual 135, 3) := by decide +kernel
theorem dX3_count_22 : decode cX3_count 22 = .ok (.aload_n 0, 1) := by decide +kernel
theorem dX3_count_23 : decode cX3_count 23 = .ok (.iload_n 1, 1) := by decide +kernel
theorem dX3_count_24 : decode cX3_count 24 = .ok (.i2l, 1) := by decide +kernel
theorem dX3_count_25 : decode cX3_count 25 = .ok (.invokevirtual 135, 3) := by decide +kernel
theorem dX3_count_28 : decode cX3_count 28 = .ok (.isub, 1) := by decide +kernel
theorem dX3_count_29 : decode cX3_count 29 = .ok (.ireturn, 1) := by decide +kernel
set_option maxRecDepth 20000 in
theorem ggX3_place_X3_placeOf : GoodIn wsX3_place wsX3_placeOf := goodIn_r _ [6, 7, 8, 9, 10, 11, 12, 13, 14, 15, 16, 17, 18, 19, 20, 21, 22, 23, 24, 25, 26] (by decide +kernel) (by decide +kernel)
set_option maxRecDepth 20000 in
theorem gX3_place_X3_placeOf : GoodIn wsX3_place (wsV RX3 66 RX3 yX3_placeOf wsX3_placeOf) := goodIn_app (goodIn_of _ (by decide +kernel)) ggX3_place_X3_placeOf
theorem dX3_place_0 : decode cX3_place 0 = .ok (.aload_n 0, 1) := by decide +kernel
theorem dX3_place_1 : decode cX3_place 1 = .ok (.iconst 0, 1) := by decide +kernel
theorem dX3_place_2 : decode cX3_place 2 = .ok (.putfield 36, 3) := by decide +kernel
theorem dX3_place_5 : decode cX3_place 5 = .ok (.aload_n 0, 1) := by decide +kernel
theorem dX3_place_6 : decode cX3_place 6 = .ok (.iload_n 1, 1) := by decide +kernel
theorem dX3_place_7 : decode cX3_place 7 = .ok (.invokevirtual 66, 3) := by decide +kernel
theorem dX3_place_10 : decode cX3_place 10 = .ok (.ireturn, 1) := by decide +kernel
set_option maxRecDepth 20000 in
theorem ggX3_guessOf_X3_lays : GoodIn wsX3_guessOf wsX3_lays := goodIn_r _ [9, 3, 1, 2, 4, 10, 11, 12, 8, 13, 14, 15, 16, 17, 18, 19, 20, 21, 22, 23, 24, 25, 26, 27, 28, 29, 30, 31, 32, 33, 34, 35, 36, 37, 38, 39, 40, 41] (by decide +kernel) (by decide +kernel)
set_option maxRecDepth 20000 in
theorem gX3_guessOf_X3_lays : GoodIn wsX3_guessOf (wsV RX3 142 RX3 yX3_lays wsX3_lays) := goodIn_app (goodIn_of _ (by decide +kernel)) ggX3_guessOf_X3_lays
theorem dX3_guessOf_0 : decode cX3_guessOf 0 = .ok (.aload_n 0, 1) := by decide +kernel
theorem dX3_guessOf_1 : decode cX3_guessOf 1 = .ok (.iload_n 2, 1) := by decide +kernel
theorem dX3_guessOf_2 : decode cX3_guessOf 2 = .ok (.invokevirtual 142, 3) := by decide +kernel
theorem dX3_guessOf_5 : decode cX3_guessOf 5 = .ok (.aload_n 0, 1) := by decide +kernel
theorem dX3_guessOf_6 : decode cX3_guessOf 6 = .ok (.getfield 24, 3) := by decide +kernel
theorem dX3_guessOf_9 : decode cX3_guessOf 9 = .ok (.iload_n 2, 1) := by decide +kernel
theorem dX3_guessOf_10 : decode cX3_guessOf 10 = .ok (.iaload, 1) := by decide +kernel
theorem dX3_guessOf_11 : decode cX3_guessOf 11 = .ok (.i2l, 1) := by decide +kernel
theorem dX3_guessOf_12 : decode cX3_guessOf 12 = .ok (.aload_n 0, 1) := by decide +kernel
theorem dX3_guessOf_13 : decode cX3_guessOf 13 = .ok (.getfield 41, 3) := by decide +kernel
theorem dX3_guessOf_16 : decode cX3_guessOf 16 = .ok (.iload_n 1, 1) := by decide +kernel
theorem dX3_guessOf_17 : decode cX3_guessOf 17 = .ok (.i2l, 1) := by decide +kernel
theorem dX3_guessOf_18 : decode cX3_guessOf 18 = .ok (.aload_n 0, 1) := by decide +kernel
theorem dX3_guessOf_19 : decode cX3_guessOf 19 = .ok (.getfield 16, 3) := by decide +kernel
theorem dX3_guessOf_22 : decode cX3_guessOf 22 = .ok (.aload_n 0, 1) := by decide +kernel
theorem dX3_guessOf_23 : decode cX3_guessOf 23 = .ok (.getfield 24, 3) := by decide +kernel
theorem dX3_guessOf_26 : decode cX3_guessOf 26 = .ok (.iload_n 2, 1) := by decide +kernel
theorem dX3_guessOf_27 : decode cX3_guessOf 27 = .ok (.iaload, 1) := by decide +kernel
theorem dX3_guessOf_28 : decode cX3_guessOf 28 = .ok (.iaload, 1) := by decide +kernel
theorem dX3_guessOf_29 : decode cX3_guessOf 29 = .ok (.i2l, 1) := by decide +kernel
theorem dX3_guessOf_30 : decode cX3_guessOf 30 = .ok (.lsub, 1) := by decide +kernel
theorem dX3_guessOf_31 : decode cX3_guessOf 31 = .ok (.lmul, 1) := by decide +kernel
theorem dX3_guessOf_32 : decode cX3_guessOf 32 = .ok (.aload_n 0, 1) := by decide +kernel
theorem dX3_guessOf_33 : decode cX3_guessOf 33 = .ok (.getfield 45, 3) := by decide +kernel
theorem dX3_guessOf_36 : decode cX3_guessOf 36 = .ok (.ldiv, 1) := by decide +kernel
theorem dX3_guessOf_37 : decode cX3_guessOf 37 = .ok (.ladd, 1) := by decide +kernel
theorem dX3_guessOf_38 : decode cX3_guessOf 38 = .ok (.lreturn, 1) := by decide +kernel
set_option maxRecDepth 20000 in
theorem ggX3_guess_X3_isKey : GoodIn wsX3_guess wsX3_isKey := goodIn_r _ [6, 7, 8] (by decide +kernel) (by decide +kernel)
set_option maxRecDepth 20000 in
theorem gX3_guess_X3_isKey : GoodIn wsX3_guess (va_wsS RX3 79 yX3_isKey wsX3_isKey) := goodIn_app (goodIn_of _ (by decide +kernel)) ggX3_guess_X3_isKey
set_option maxRecDepth 20000 in
theorem ggX3_guess_X3_pieceOf : GoodIn wsX3_guess wsX3_pieceOf := goodIn_r _ [12, 13, 14, 15, 39, 40, 41, 42, 43, 44, 45, 46, 47, 48, 49, 50, 51, 52, 53, 54, 55, 56] (by decide +kernel) (by decide +kernel)
set_option maxRecDepth 20000 in
theorem gX3_guess_X3_pieceOf : GoodIn wsX3_guess (wsV RX3 108 RX3 yX3_pieceOf wsX3_pieceOf) := goodIn_app (goodIn_of _ (by decide +kernel)) ggX3_guess_X3_pieceOf
set_option maxRecDepth 20000 in
theorem ggX3_guess_X3_guessOf : GoodIn wsX3_guess wsX3_guessOf := goodIn_r _ [19, 15, 20, 14, 21, 22, 23, 24, 5, 25, 26, 27, 28, 29, 13, 30, 31, 32, 33, 34, 35, 36, 37, 38, 39, 40, 41, 42, 43, 44, 45, 46, 47, 48, 49, 50, 51, 52, 53, 54, 55, 56] (by decide +kernel) (by decide +kernel)
set_option maxRecDepth 20000 in
theorem gX3_guess_X3_guessOf : GoodIn wsX3_guess (wsV RX3 147 RX3 yX3_guessOf wsX3_guessOf) := goodIn_app (goodIn_of _ (by decide +kernel)) ggX3_guess_X3_guessOf
theorem dX3_guess_0 : decode cX3_guess 0 = .ok (.aload_n 0, 1) := by decide +kernel
theorem dX3_guess_1 : decode cX3_guess 1 = .ok (.iload_n 1, 1) := by decide +kernel
theorem dX3_guess_2 : decode cX3_guess 2 = .ok (.invokestatic 79, 3) := by decide +kernel
theorem dX3_guess_5 : decode cX3_guess 5 = .ok (.ifCond .eq 7, 3) := by decide +kernel
theorem dX3_guess_8 : decode cX3_guess 8 = .ok (.iconst 0, 1) := by decide +kernel
theorem dX3_guess_9 : decode cX3_guess 9 = .ok (.goto 4, 3) := by decide +kernel
theorem dX3_guess_12 : decode cX3_guess 12 = .ok (.iconst 1, 1) := by decide +kernel
theorem dX3_guess_13 : decode cX3_guess 13 = .ok (.putfield 36, 3) := by decide +kernel
theorem dX3_guess_16 : decode cX3_guess 16 = .ok (.aload_n 0, 1) := by decide +kernel
theorem dX3_guess_17 : decode cX3_guess 17 = .ok (.iload_n 1, 1) := by decide +kernel
theorem dX3_guess_18 : decode cX3_guess 18 = .ok (.invokevirtual 108, 3) := by decide +kernel
theorem dX3_guess_21 : decode cX3_guess 21 = .ok (.istore_n 2, 1) := by decide +kernel
theorem dX3_guess_22 : decode cX3_guess 22 = .ok (.aload_n 0, 1) := by decide +kernel
theorem dX3_guess_23 : decode cX3_guess 23 = .ok (.getfield 36, 3) := by decide +kernel
theorem dX3_guess_26 : decode cX3_guess 26 = .ok (.ifCond .gt 8, 3) := by decide +kernel
theorem dX3_guess_29 : decode cX3_guess 29 = .ok (.iload_n 2, 1) := by decide +kernel
theorem dX3_guess_30 : decode cX3_guess 30 = .ok (.iconst (-1), 1) := by decide +kernel
theorem dX3_guess_31 : decode cX3_guess 31 = .ok (.if_icmp .ne 9, 3) := by decide +kernel
theorem dX3_guess_34 : decode cX3_guess 34 = .ok (.ldc2_w 145, 3) := by decide +kernel
theorem dX3_guess_37 : decode cX3_guess 37 = .ok (.goto 9, 3) := by decide +kernel
theorem dX3_guess_40 : decode cX3_guess 40 = .ok (.aload_n 0, 1) := by decide +kernel
theorem dX3_guess_41 : decode cX3_guess 41 = .ok (.iload_n 1, 1) := by decide +kernel
theorem dX3_guess_42 : decode cX3_guess 42 = .ok (.iload_n 2, 1) := by decide +kernel
theorem dX3_guess_43 : decode cX3_guess 43 = .ok (.invokevirtual 147, 3) := by decide +kernel
theorem dX3_guess_46 : decode cX3_guess 46 = .ok (.lreturn, 1) := by decide +kernel
set_option maxRecDepth 20000 in
theorem ggX3_looks_X3_isKey : GoodIn wsX3_looks wsX3_isKey := goodIn_r _ [9, 10, 11] (by decide +kernel) (by decide +kernel)
set_option maxRecDepth 20000 in
theorem gX3_looks_X3_isKey : GoodIn wsX3_looks (va_wsS RX3 79 yX3_isKey wsX3_isKey) := goodIn_app (goodIn_of _ (by decide +kernel)) ggX3_looks_X3_isKey
set_option maxRecDepth 20000 in
theorem ggX3_looks_X3_pieceOf : GoodIn wsX3_looks wsX3_pieceOf := goodIn_r _ [15, 16, 5, 3, 39, 40, 41, 42, 43, 44, 45, 46, 47, 48, 49, 50, 51, 52, 53, 54, 55, 56] (by decide +kernel) (by decide +kernel)
set_option maxRecDepth 20000 in
theorem gX3_looks_X3_pieceOf : GoodIn wsX3_looks (wsV RX3 108 RX3 yX3_pieceOf wsX3_pieceOf) := goodIn_app (goodIn_of _ (by decide +kernel)) ggX3_looks_X3_pieceOf
set_option maxRecDepth 20000 in
theorem ggX3_looks_X3_guessOf : GoodIn wsX3_looks wsX3_guessOf := goodIn_r _ [20, 3, 21, 5, 22, 23, 24, 25, 8, 26, 27, 28, 29, 30, 16, 31, 32, 33, 34, 35, 2, 36, 37, 38, 39, 40, 41, 42, 43, 44, 45, 46, 47, 48, 49, 50, 51, 52, 53, 54, 55, 56] (by decide +kernel) (by decide +kernel)
set_option maxRecDepth 20000 in
theorem gX3_looks_X3_guessOf : GoodIn wsX3_looks (wsV RX3 147 RX3 yX3_guessOf wsX3_guessOf) := goodIn_app (goodIn_of _ (by decide +kernel)) ggX3_looks_X3_guessOf
set_option maxRecDepth 20000 in
theorem ggX3_looks_X3_behind : GoodIn wsX3_looks wsX3_behind := goodIn_r _ [30, 16, 3, 31, 39, 40, 41, 42, 43, 44, 45, 46, 47, 48, 49, 50, 51, 52, 53, 54, 55, 56] (by decide +kernel) (by decide +kernel)
set_option maxRecDepth 20000 in
theorem gX3_looks_X3_behind : GoodIn wsX3_looks (wsV RX3 54 RX3 yX3_behind wsX3_behind) := goodIn_app (goodIn_of _ (by decide +kernel)) ggX3_looks_X3_behind
theorem dX3_looks_0 : decode cX3_looks 0 = .ok (.aload_n 0, 1) := by decide +kernel
theorem dX3_looks_1 : decode cX3_looks 1 = .ok (.iload_n 1, 1) := by decide +kernel
theorem dX3_looks_2 : decode cX3_looks 2 = .ok (.invokestatic 79, 3) := by decide +kernel
theorem dX3_looks_5 : decode cX3_looks 5 = .ok (.ifCond .eq 7, 3) := by decide +kernel
theorem dX3_looks_8 : decode cX3_looks 8 = .ok (.iconst 0, 1) := by decide +kernel
theorem dX3_looks_9 : decode cX3_looks 9 = .ok (.goto 4, 3) := by decide +kernel
theorem dX3_looks_12 : decode cX3_looks 12 = .ok (.iconst 1, 1) := by decide +kernel
theorem dX3_looks_13 : decode cX3_looks 13 = .ok (.putfield 36, 3) := by decide +kernel
theorem dX3_looks_16 : decode cX3_looks 16 = .ok (.aload_n 0, 1) := by decide +kernel
theorem dX3_looks_17 : decode cX3_looks 17 = .ok (.iload_n 1, 1) := by decide +kernel
theorem dX3_looks_18 : decode cX3_looks 18 = .ok (.invokevirtual 108, 3) := by decide +kernel
theorem dX3_looks_21 : decode cX3_looks 21 = .ok (.istore_n 2, 1) := by decide +kernel
theorem dX3_looks_22 : decode cX3_looks 22 = .ok (.aload_n 0, 1) := by decide +kernel
theorem dX3_looks_23 : decode cX3_looks 23 = .ok (.getfield 36, 3) := by decide +kernel
theorem dX3_looks_26 : decode cX3_looks 26 = .ok (.ifCond .gt 8, 3) := by decide +kernel
theorem dX3_looks_29 : decode cX3_looks 29 = .ok (.iload_n 2, 1) := by decide +kernel
theorem dX3_looks_30 : decode cX3_looks 30 = .ok (.iconst (-1), 1) := by decide +kernel
theorem dX3_looks_31 : decode cX3_looks 31 = .ok (.if_icmp .ne 5, 3) := by decide +kernel
theorem dX3_looks_34 : decode cX3_looks 34 = .ok (.iconst 0, 1) := by decide +kernel
theorem dX3_looks_35 : decode cX3_looks 35 = .ok (.ireturn, 1) := by decide +kernel
theorem dX3_looks_36 : decode cX3_looks 36 = .ok (.aload_n 0, 1) := by decide +kernel
theorem dX3_looks_37 : decode cX3_looks 37 = .ok (.iload_n 1, 1) := by decide +kernel
theorem dX3_looks_38 : decode cX3_looks 38 = .ok (.iload_n 2, 1) := by decide +kernel
theorem dX3_looks_39 : decode cX3_looks 39 = .ok (.invokevirtual 147, 3) := by decide +kernel
theorem dX3_looks_42 : decode cX3_looks 42 = .ok (.lstore_n 3, 1) := by decide +kernel
theorem dX3_looks_43 : decode cX3_looks 43 = .ok (.aload_n 0, 1) := by decide +kernel
theorem dX3_looks_44 : decode cX3_looks 44 = .ok (.iload_n 2, 1) := by decide +kernel
theorem dX3_looks_45 : decode cX3_looks 45 = .ok (.invokevirtual 54, 3) := by decide +kernel
theorem dX3_looks_48 : decode cX3_looks 48 = .ok (.istore 5, 2) := by decide +kernel
theorem dX3_looks_50 : decode cX3_looks 50 = .ok (.lload_n 3, 1) := by decide +kernel
theorem dX3_looks_51 : decode cX3_looks 51 = .ok (.aload_n 0, 1) := by decide +kernel
theorem dX3_looks_52 : decode cX3_looks 52 = .ok (.getfield 7, 3) := by decide +kernel
theorem dX3_looks_55 : decode cX3_looks 55 = .ok (.i2l, 1) := by decide +kernel
theorem dX3_looks_56 : decode cX3_looks 56 = .ok (.lsub, 1) := by decide +kernel
theorem dX3_looks_57 : decode cX3_looks 57 = .ok (.aload_n 0, 1) := by decide +kernel
theorem dX3_looks_58 : decode cX3_looks 58 = .ok (.getfield 24, 3) := by decide +kernel
theorem dX3_looks_61 : decode cX3_looks 61 = .ok (.iload_n 2, 1) := by decide +kernel
theorem dX3_looks_62 : decode cX3_looks 62 = .ok (.iaload, 1) := by decide +kernel
theorem dX3_looks_63 : decode cX3_looks 63 = .ok (.i2l, 1) := by decide +kernel
theorem dX3_looks_64 : decode cX3_looks 64 = .ok (.lcmp, 1) := by decide +kernel
theorem dX3_looks_65 : decode cX3_looks 65 = .ok (.ifCond .le 13, 3) := by decide +kernel
theorem dX3_looks_68 : decode cX3_looks 68 = .ok (.lload_n 3, 1) := by decide +kernel
theorem dX3_looks_69 : decode cX3_looks 69 = .ok (.aload_n 0, 1) := by decide +kernel
theorem dX3_looks_70 : decode cX3_looks 70 = .ok (.getfield 7, 3) := by decide +kernel
theorem dX3_looks_73 : decode cX3_looks 73 = .ok (.i2l, 1) := by decide +kernel
theorem dX3_looks_74 : decode cX3_looks 74 = .ok (.lsub, 1) := by decide +kernel
theorem dX3_looks_75 : decode cX3_looks 75 = .ok (.goto 10, 3) := by decide +kernel
theorem dX3_looks_78 : decode cX3_looks 78 = .ok (.aload_n 0, 1) := by decide +kernel
theorem dX3_looks_79 : decode cX3_looks 79 = .ok (.getfield 24, 3) := by decide +kernel
theorem dX3_looks_82 : decode cX3_looks 82 = .ok (.iload_n 2, 1) := by decide +kernel
theorem dX3_looks_83 : decode cX3_looks 83 = .ok (.iaload, 1) := by decide +kernel
theorem dX3_looks_84 : decode cX3_looks 84 = .ok (.i2l, 1) := by decide +kernel
theorem dX3_looks_85 : decode cX3_looks 85 = .ok (.lstore 6, 2) := by decide +kernel
theorem dX3_looks_87 : decode cX3_looks 87 = .ok (.lload 6, 2) := by decide +kernel
theorem dX3_looks_89 : decode cX3_looks 89 = .ok (.iload 5, 2) := by decide +kernel
theorem dX3_looks_91 : decode cX3_looks 91 = .ok (.i2l, 1) := by decide +kernel
theorem dX3_looks_92 : decode cX3_looks 92 = .ok (.lcmp, 1) := by decide +kernel
theorem dX3_looks_93 : decode cX3_looks 93 = .ok (.ifCond .ge 8, 3) := by decide +kernel
theorem dX3_looks_96 : decode cX3_looks 96 = .ok (.lload 6, 2) := by decide +kernel
