theorem dX2_pieceOf_6 : decode cX2_pieceOf 6 = .ok (.iadd, 1) := by decide +kernel
theorem dX2_pieceOf_7 : decode cX2_pieceOf 7 = .ok (.invokevirtual 114, 3) := by decide +kernel
theorem dX2_pieceOf_10 : decode cX2_pieceOf 10 = .ok (.istore_n 2, 1) := by decide +kernel
theorem dX2_pieceOf_11 : decode cX2_pieceOf 11 = .ok (.aload_n 0, 1) := by decide +kernel
theorem dX2_pieceOf_12 : decode cX2_pieceOf 12 = .ok (.getfield 24, 3) := by decide +kernel
theorem dX2_pieceOf_15 : decode cX2_pieceOf 15 = .ok (.iload_n 2, 1) := by decide +kernel
theorem dX2_pieceOf_16 : decode cX2_pieceOf 16 = .ok (.invokevirtual 114, 3) := by decide +kernel
theorem dX2_pieceOf_19 : decode cX2_pieceOf 19 = .ok (.iconst 1, 1) := by decide +kernel
theorem dX2_pieceOf_20 : decode cX2_pieceOf 20 = .ok (.isub, 1) := by decide +kernel
theorem dX2_pieceOf_21 : decode cX2_pieceOf 21 = .ok (.ireturn, 1) := by decide +kernel
set_option maxRecDepth 20000 in
theorem ggX2_guessBy_X0_at : GoodIn wsX2_guessBy wsX0_at := goodIn_r _ [9, 10, 11, 12, 13, 8, 14, 15, 41, 42] (by decide +kernel) (by decide +kernel)
set_option maxRecDepth 20000 in
theorem gX2_guessBy_X0_at : GoodIn wsX2_guessBy (wsV RX2 134 RX0 yX0_at wsX0_at) := goodIn_app (goodIn_of _ (by decide +kernel)) ggX2_guessBy_X0_at
set_option maxRecDepth 20000 in
theorem ggX2_guessBy_X2_firstOf : GoodIn wsX2_guessBy wsX2_firstOf := goodIn_r _ [20, 21, 3, 5, 6, 7, 8, 9, 10, 11, 12, 13, 14, 15, 26, 27, 28, 29, 30, 31, 32, 33, 34, 35, 36, 37, 38, 39, 40, 41, 42] (by decide +kernel) (by decide +kernel)
set_option maxRecDepth 20000 in
theorem gX2_guessBy_X2_firstOf : GoodIn wsX2_guessBy (wsV RX2 177 RX2 yX2_firstOf wsX2_firstOf) := goodIn_app (goodIn_of _ (by decide +kernel)) ggX2_guessBy_X2_firstOf
set_option maxRecDepth 20000 in
theorem ggX2_guessBy_J9_floorDiv_f86c9 : GoodIn wsX2_guessBy wsJ9_floorDiv_f86c9 := goodIn_r _ [25] (by decide +kernel) (by decide +kernel)
set_option maxRecDepth 20000 in
theorem gX2_guessBy_J9_floorDiv_f86c9 : GoodIn wsX2_guessBy (va_wsS RX2 233 yJ9_floorDiv_f86c9 wsJ9_floorDiv_f86c9) := goodIn_app (goodIn_of _ (by decide +kernel)) ggX2_guessBy_J9_floorDiv_f86c9
theorem dX2_guessBy_0 : decode cX2_guessBy 0 = .ok (.aload_n 0, 1) := by decide +kernel
theorem dX2_guessBy_1 : decode cX2_guessBy 1 = .ok (.getfield 30, 3) := by decide +kernel
theorem dX2_guessBy_4 : decode cX2_guessBy 4 = .ok (.iload_n 1, 1) := by decide +kernel
theorem dX2_guessBy_5 : decode cX2_guessBy 5 = .ok (.invokevirtual 134, 3) := by decide +kernel
theorem dX2_guessBy_8 : decode cX2_guessBy 8 = .ok (.i2l, 1) := by decide +kernel
theorem dX2_guessBy_9 : decode cX2_guessBy 9 = .ok (.lstore_n 3, 1) := by decide +kernel
theorem dX2_guessBy_10 : decode cX2_guessBy 10 = .ok (.lload_n 3, 1) := by decide +kernel
theorem dX2_guessBy_11 : decode cX2_guessBy 11 = .ok (.lconst 1, 1) := by decide +kernel
theorem dX2_guessBy_12 : decode cX2_guessBy 12 = .ok (.lcmp, 1) := by decide +kernel
theorem dX2_guessBy_13 : decode cX2_guessBy 13 = .ok (.ifCond .ge 7, 3) := by decide +kernel
theorem dX2_guessBy_16 : decode cX2_guessBy 16 = .ok (.ldc2_w 231, 3) := by decide +kernel
theorem dX2_guessBy_19 : decode cX2_guessBy 19 = .ok (.lreturn, 1) := by decide +kernel
theorem dX2_guessBy_20 : decode cX2_guessBy 20 = .ok (.iload_n 2, 1) := by decide +kernel
theorem dX2_guessBy_21 : decode cX2_guessBy 21 = .ok (.i2l, 1) := by decide +kernel
theorem dX2_guessBy_22 : decode cX2_guessBy 22 = .ok (.aload_n 0, 1) := by decide +kernel
theorem dX2_guessBy_23 : decode cX2_guessBy 23 = .ok (.iload_n 1, 1) := by decide +kernel
theorem dX2_guessBy_24 : decode cX2_guessBy 24 = .ok (.invokevirtual 177, 3) := by decide +kernel
theorem dX2_guessBy_27 : decode cX2_guessBy 27 = .ok (.i2l, 1) := by decide +kernel
theorem dX2_guessBy_28 : decode cX2_guessBy 28 = .ok (.lsub, 1) := by decide +kernel
theorem dX2_guessBy_29 : decode cX2_guessBy 29 = .ok (.lstore 5, 2) := by decide +kernel
theorem dX2_guessBy_31 : decode cX2_guessBy 31 = .ok (.aload_n 0, 1) := by decide +kernel
theorem dX2_guessBy_32 : decode cX2_guessBy 32 = .ok (.getfield 24, 3) := by decide +kernel
theorem dX2_guessBy_35 : decode cX2_guessBy 35 = .ok (.iload_n 1, 1) := by decide +kernel
theorem dX2_guessBy_36 : decode cX2_guessBy 36 = .ok (.invokevirtual 134, 3) := by decide +kernel
theorem dX2_guessBy_39 : decode cX2_guessBy 39 = .ok (.i2l, 1) := by decide +kernel
theorem dX2_guessBy_40 : decode cX2_guessBy 40 = .ok (.aload_n 0, 1) := by decide +kernel
theorem dX2_guessBy_41 : decode cX2_guessBy 41 = .ok (.getfield 27, 3) := by decide +kernel
theorem dX2_guessBy_44 : decode cX2_guessBy 44 = .ok (.iload_n 1, 1) := by decide +kernel
theorem dX2_guessBy_45 : decode cX2_guessBy 45 = .ok (.invokevirtual 134, 3) := by decide +kernel
theorem dX2_guessBy_48 : decode cX2_guessBy 48 = .ok (.i2l, 1) := by decide +kernel
theorem dX2_guessBy_49 : decode cX2_guessBy 49 = .ok (.lload 5, 2) := by decide +kernel
theorem dX2_guessBy_51 : decode cX2_guessBy 51 = .ok (.lmul, 1) := by decide +kernel
theorem dX2_guessBy_52 : decode cX2_guessBy 52 = .ok (.lload_n 3, 1) := by decide +kernel
theorem dX2_guessBy_53 : decode cX2_guessBy 53 = .ok (.invokestatic 233, 3) := by decide +kernel
theorem dX2_guessBy_56 : decode cX2_guessBy 56 = .ok (.ladd, 1) := by decide +kernel
theorem dX2_guessBy_57 : decode cX2_guessBy 57 = .ok (.lreturn, 1) := by decide +kernel
set_option maxRecDepth 20000 in
theorem ggX2_looksBy_X2_guessBy : GoodIn wsX2_looksBy wsX2_guessBy := goodIn_r _ [15, 16, 17, 1, 18, 19, 20, 21, 22, 23, 24, 25, 26, 27, 28, 29, 30, 31, 32, 14, 33, 10, 34, 35, 36, 37, 47, 48, 49, 50, 51, 52, 53, 54, 55, 56, 57, 58, 59, 60, 61, 62, 63] (by decide +kernel) (by decide +kernel)
set_option maxRecDepth 20000 in
theorem gX2_looksBy_X2_guessBy : GoodIn wsX2_looksBy (wsV RX2 153 RX2 yX2_guessBy wsX2_guessBy) := goodIn_app (goodIn_of _ (by decide +kernel)) ggX2_looksBy_X2_guessBy
set_option maxRecDepth 20000 in
theorem ggX2_looksBy_X0_at : GoodIn wsX2_looksBy wsX0_at := goodIn_r _ [23, 24, 25, 26, 27, 22, 28, 29, 62, 63] (by decide +kernel) (by decide +kernel)
set_option maxRecDepth 20000 in
theorem gX2_looksBy_X0_at : GoodIn wsX2_looksBy (wsV RX2 134 RX0 yX0_at wsX0_at) := goodIn_app (goodIn_of _ (by decide +kernel)) ggX2_looksBy_X0_at
set_option maxRecDepth 20000 in
theorem ggX2_looksBy_X2_endOf : GoodIn wsX2_looksBy wsX2_endOf := goodIn_r _ [41, 1, 10, 42, 26, 27, 22, 28, 29, 24, 19, 20, 21, 23, 25, 43, 44, 45, 46, 47, 48, 49, 50, 51, 52, 53, 54, 55, 56, 57, 58, 59, 60, 61, 62, 63] (by decide +kernel) (by decide +kernel)
set_option maxRecDepth 20000 in
theorem gX2_looksBy_X2_endOf : GoodIn wsX2_looksBy (wsV RX2 161 RX2 yX2_endOf wsX2_endOf) := goodIn_app (goodIn_of _ (by decide +kernel)) ggX2_looksBy_X2_endOf
theorem dX2_looksBy_0 : decode cX2_looksBy 0 = .ok (.aload_n 0, 1) := by decide +kernel
theorem dX2_looksBy_1 : decode cX2_looksBy 1 = .ok (.iload_n 1, 1) := by decide +kernel
theorem dX2_looksBy_2 : decode cX2_looksBy 2 = .ok (.iload_n 2, 1) := by decide +kernel
theorem dX2_looksBy_3 : decode cX2_looksBy 3 = .ok (.invokevirtual 153, 3) := by decide +kernel
theorem dX2_looksBy_6 : decode cX2_looksBy 6 = .ok (.lstore_n 3, 1) := by decide +kernel
theorem dX2_looksBy_7 : decode cX2_looksBy 7 = .ok (.aload_n 0, 1) := by decide +kernel
theorem dX2_looksBy_8 : decode cX2_looksBy 8 = .ok (.getfield 24, 3) := by decide +kernel
theorem dX2_looksBy_11 : decode cX2_looksBy 11 = .ok (.iload_n 1, 1) := by decide +kernel
theorem dX2_looksBy_12 : decode cX2_looksBy 12 = .ok (.invokevirtual 134, 3) := by decide +kernel
theorem dX2_looksBy_15 : decode cX2_looksBy 15 = .ok (.istore 5, 2) := by decide +kernel
theorem dX2_looksBy_17 : decode cX2_looksBy 17 = .ok (.aload_n 0, 1) := by decide +kernel
theorem dX2_looksBy_18 : decode cX2_looksBy 18 = .ok (.iload_n 1, 1) := by decide +kernel
theorem dX2_looksBy_19 : decode cX2_looksBy 19 = .ok (.invokevirtual 161, 3) := by decide +kernel
theorem dX2_looksBy_22 : decode cX2_looksBy 22 = .ok (.istore 6, 2) := by decide +kernel
theorem dX2_looksBy_24 : decode cX2_looksBy 24 = .ok (.iload 6, 2) := by decide +kernel
theorem dX2_looksBy_26 : decode cX2_looksBy 26 = .ok (.i2l, 1) := by decide +kernel
theorem dX2_looksBy_27 : decode cX2_looksBy 27 = .ok (.iload 5, 2) := by decide +kernel
theorem dX2_looksBy_29 : decode cX2_looksBy 29 = .ok (.i2l, 1) := by decide +kernel
theorem dX2_looksBy_30 : decode cX2_looksBy 30 = .ok (.lload_n 3, 1) := by decide +kernel
theorem dX2_looksBy_31 : decode cX2_looksBy 31 = .ok (.aload_n 0, 1) := by decide +kernel
theorem dX2_looksBy_32 : decode cX2_looksBy 32 = .ok (.getfield 46, 3) := by decide +kernel
theorem dX2_looksBy_35 : decode cX2_looksBy 35 = .ok (.i2l, 1) := by decide +kernel
theorem dX2_looksBy_36 : decode cX2_looksBy 36 = .ok (.lsub, 1) := by decide +kernel
theorem dX2_looksBy_37 : decode cX2_looksBy 37 = .ok (.invokestatic 170, 3) := by decide +kernel
theorem dX2_looksBy_40 : decode cX2_looksBy 40 = .ok (.invokestatic 236, 3) := by decide +kernel
theorem dX2_looksBy_43 : decode cX2_looksBy 43 = .ok (.l2i, 1) := by decide +kernel
theorem dX2_looksBy_44 : decode cX2_looksBy 44 = .ok (.istore 7, 2) := by decide +kernel
theorem dX2_looksBy_46 : decode cX2_looksBy 46 = .ok (.iload 6, 2) := by decide +kernel
theorem dX2_looksBy_48 : decode cX2_looksBy 48 = .ok (.i2l, 1) := by decide +kernel
theorem dX2_looksBy_49 : decode cX2_looksBy 49 = .ok (.lload_n 3, 1) := by decide +kernel
theorem dX2_looksBy_50 : decode cX2_looksBy 50 = .ok (.aload_n 0, 1) := by decide +kernel
theorem dX2_looksBy_51 : decode cX2_looksBy 51 = .ok (.getfield 46, 3) := by decide +kernel
theorem dX2_looksBy_54 : decode cX2_looksBy 54 = .ok (.i2l, 1) := by decide +kernel
theorem dX2_looksBy_55 : decode cX2_looksBy 55 = .ok (.ladd, 1) := by decide +kernel
theorem dX2_looksBy_56 : decode cX2_looksBy 56 = .ok (.lconst 1, 1) := by decide +kernel
theorem dX2_looksBy_57 : decode cX2_looksBy 57 = .ok (.ladd, 1) := by decide +kernel
theorem dX2_looksBy_58 : decode cX2_looksBy 58 = .ok (.invokestatic 236, 3) := by decide +kernel
theorem dX2_looksBy_61 : decode cX2_looksBy 61 = .ok (.l2i, 1) := by decide +kernel
theorem dX2_looksBy_62 : decode cX2_looksBy 62 = .ok (.istore 8, 2) := by decide +kernel
theorem dX2_looksBy_64 : decode cX2_looksBy 64 = .ok (.iconst 0, 1) := by decide +kernel
theorem dX2_looksBy_65 : decode cX2_looksBy 65 = .ok (.istore 9, 2) := by decide +kernel
theorem dX2_looksBy_67 : decode cX2_looksBy 67 = .ok (.iload 9, 2) := by decide +kernel
theorem dX2_looksBy_69 : decode cX2_looksBy 69 = .ok (.bipush 64, 2) := by decide +kernel
theorem dX2_looksBy_71 : decode cX2_looksBy 71 = .ok (.if_icmp .ge 51, 3) := by decide +kernel
theorem dX2_looksBy_74 : decode cX2_looksBy 74 = .ok (.iload 7, 2) := by decide +kernel
theorem dX2_looksBy_76 : decode cX2_looksBy 76 = .ok (.iload 8, 2) := by decide +kernel
theorem dX2_looksBy_78 : decode cX2_looksBy 78 = .ok (.if_icmp .ge 44, 3) := by decide +kernel
theorem dX2_looksBy_81 : decode cX2_looksBy 81 = .ok (.iload 7, 2) := by decide +kernel
theorem dX2_looksBy_83 : decode cX2_looksBy 83 = .ok (.iload 8, 2) := by decide +kernel
theorem dX2_looksBy_85 : decode cX2_looksBy 85 = .ok (.iadd, 1) := by decide +kernel
theorem dX2_looksBy_86 : decode cX2_looksBy 86 = .ok (.iconst 2, 1) := by decide +kernel
theorem dX2_looksBy_87 : decode cX2_looksBy 87 = .ok (.idiv, 1) := by decide +kernel
theorem dX2_looksBy_88 : decode cX2_looksBy 88 = .ok (.istore 10, 2) := by decide +kernel
theorem dX2_looksBy_90 : decode cX2_looksBy 90 = .ok (.aload_n 0, 1) := by decide +kernel
theorem dX2_looksBy_91 : decode cX2_looksBy 91 = .ok (.getfield 14, 3) := by decide +kernel
theorem dX2_looksBy_94 : decode cX2_looksBy 94 = .ok (.iload 10, 2) := by decide +kernel
theorem dX2_looksBy_96 : decode cX2_looksBy 96 = .ok (.invokevirtual 134, 3) := by decide +kernel
theorem dX2_looksBy_99 : decode cX2_looksBy 99 = .ok (.iload_n 2, 1) := by decide +kernel
theorem dX2_looksBy_100 : decode cX2_looksBy 100 = .ok (.if_icmp .ge 12, 3) := by decide +kernel
theorem dX2_looksBy_103 : decode cX2_looksBy 103 = .ok (.iload 10, 2) := by decide +kernel
theorem dX2_looksBy_105 : decode cX2_looksBy 105 = .ok (.iconst 1, 1) := by decide +kernel
theorem dX2_looksBy_106 : decode cX2_looksBy 106 = .ok (.iadd, 1) := by decide +kernel
theorem dX2_looksBy_107 : decode cX2_looksBy 107 = .ok (.istore 7, 2) := by decide +kernel
theorem dX2_looksBy_109 : decode cX2_looksBy 109 = .ok (.goto 7, 3) := by decide +kernel
theorem dX2_looksBy_112 : decode cX2_looksBy 112 = .ok (.iload 10, 2) := by decide +kernel
theorem dX2_looksBy_114 : decode cX2_looksBy 114 = .ok (.istore 8, 2) := by decide +kernel
theorem dX2_looksBy_116 : decode cX2_looksBy 116 = .ok (.iinc 9 1, 3) := by decide +kernel
theorem dX2_looksBy_119 : decode cX2_looksBy 119 = .ok (.goto (-52), 3) := by decide +kernel
theorem dX2_looksBy_122 : decode cX2_looksBy 122 = .ok (.iload 9, 2) := by decide +kernel
theorem dX2_looksBy_124 : decode cX2_looksBy 124 = .ok (.ireturn, 1) := by decide +kernel
set_option maxRecDepth 20000 in
theorem ggX2_alike_X0_at : GoodIn wsX2_alike wsX0_at := goodIn_r _ [7, 8, 9, 10, 11, 6, 12, 13, 29, 30] (by decide +kernel) (by decide +kernel)
set_option maxRecDepth 20000 in
theorem gX2_alike_X0_at : GoodIn wsX2_alike (wsV RX2 134 RX0 yX0_at wsX0_at) := goodIn_app (goodIn_of _ (by decide +kernel)) ggX2_alike_X0_at
theorem dX2_alike_0 : decode cX2_alike 0 = .ok (.aload_n 0, 1) := by decide +kernel
theorem dX2_alike_1 : decode cX2_alike 1 = .ok (.getfield 27, 3) := by decide +kernel
theorem dX2_alike_4 : decode cX2_alike 4 = .ok (.iload_n 1, 1) := by decide +kernel
theorem dX2_alike_5 : decode cX2_alike 5 = .ok (.invokevirtual 134, 3) := by decide +kernel
theorem dX2_alike_8 : decode cX2_alike 8 = .ok (.aload_n 0, 1) := by decide +kernel
theorem dX2_alike_9 : decode cX2_alike 9 = .ok (.getfield 27, 3) := by decide +kernel
theorem dX2_alike_12 : decode cX2_alike 12 = .ok (.iload_n 2, 1) := by decide +kernel
theorem dX2_alike_13 : decode cX2_alike 13 = .ok (.invokevirtual 134, 3) := by decide +kernel
theorem dX2_alike_16 : decode cX2_alike 16 = .ok (.if_icmp .ne 26, 3) := by decide +kernel
theorem dX2_alike_19 : decode cX2_alike 19 = .ok (.aload_n 0, 1) := by decide +kernel
theorem dX2_alike_20 : decode cX2_alike 20 = .ok (.getfield 30, 3) := by decide +kernel
theorem dX2_alike_23 : decode cX2_alike 23 = .ok (.iload_n 1, 1) := by decide +kernel
theorem dX2_alike_24 : decode cX2_alike 24 = .ok (.invokevirtual 134, 3) := by decide +kernel
theorem dX2_alike_27 : decode cX2_alike 27 = .ok (.aload_n 0, 1) := by decide +kernel
theorem dX2_alike_28 : decode cX2_alike 28 = .ok (.getfield 30, 3) := by decide +kernel
theorem dX2_alike_31 : decode cX2_alike 31 = .ok (.iload_n 2, 1) := by decide +kernel
theorem dX2_alike_32 : decode cX2_alike 32 = .ok (.invokevirtual 134, 3) := by decide +kernel
theorem dX2_alike_35 : decode cX2_alike 35 = .ok (.if_icmp .ne 7, 3) := by decide +kernel
theorem dX2_alike_38 : decode cX2_alike 38 = .ok (.iconst 1, 1) := by decide +kernel
theorem dX2_alike_39 : decode cX2_alike 39 = .ok (.goto 4, 3) := by decide +kernel
theorem dX2_alike_42 : decode cX2_alike 42 = .ok (.iconst 0, 1) := by decide +kernel
theorem dX2_alike_43 : decode cX2_alike 43 = .ok (.ireturn, 1) := by decide +kernel
set_option maxRecDepth 20000 in
theorem ggX2_firstAlike_X2_alike : GoodIn wsX2_firstAlike wsX2_alike := goodIn_r _ [5, 6, 7, 8, 9, 10, 11, 12, 13, 14, 15, 16, 17, 18, 19, 20, 21, 22, 23, 24, 25, 26, 27, 28, 29, 30, 31, 32, 33, 34, 35] (by decide +kernel) (by decide +kernel)
set_option maxRecDepth 20000 in
theorem gX2_firstAlike_X2_alike : GoodIn wsX2_firstAlike (wsV RX2 239 RX2 yX2_alike wsX2_alike) := goodIn_app (goodIn_of _ (by decide +kernel)) ggX2_firstAlike_X2_alike
theorem dX2_firstAlike_0 : decode cX2_firstAlike 0 = .ok (.iconst 0, 1) := by decide +kernel
theorem dX2_firstAlike_1 : decode cX2_firstAlike 1 = .ok (.istore_n 2, 1) := by decide +kernel
theorem dX2_firstAlike_2 : decode cX2_firstAlike 2 = .ok (.iload_n 2, 1) := by decide +kernel
theorem dX2_firstAlike_3 : decode cX2_firstAlike 3 = .ok (.iload_n 1, 1) := by decide +kernel
theorem dX2_firstAlike_4 : decode cX2_firstAlike 4 = .ok (.if_icmp .ge 20, 3) := by decide +kernel
theorem dX2_firstAlike_7 : decode cX2_firstAlike 7 = .ok (.aload_n 0, 1) := by decide +kernel
theorem dX2_firstAlike_8 : decode cX2_firstAlike 8 = .ok (.iload_n 1, 1) := by decide +kernel
theorem dX2_firstAlike_9 : decode cX2_firstAlike 9 = .ok (.iload_n 2, 1) := by decide +kernel
theorem dX2_firstAlike_10 : decode cX2_firstAlike 10 = .ok (.invokevirtual 239, 3) := by decide +kernel
theorem dX2_firstAlike_13 : decode cX2_firstAlike 13 = .ok (.ifCond .eq 5, 3) := by decide +kernel
theorem dX2_firstAlike_16 : decode cX2_firstAlike 16 = .ok (.iload_n 2, 1) := by decide +kernel
theorem dX2_firstAlike_17 : decode cX2_firstAlike 17 = .ok (.ireturn, 1) := by decide +kernel
theorem dX2_firstAlike_18 : decode cX2_firstAlike 18 = .ok (.iinc 2 1, 3) := by decide +kernel
theorem dX2_firstAlike_21 : decode cX2_firstAlike 21 = .ok (.goto (-19), 3) := by decide +kernel
theorem dX2_firstAlike_24 : decode cX2_firstAlike 24 = .ok (.iload_n 1, 1) := by decide +kernel
theorem dX2_firstAlike_25 : decode cX2_firstAlike 25 = .ok (.ireturn, 1) := by decide +kernel
set_option maxRecDepth 20000 in
theorem ggX2_alikeFrom_X0_length : GoodIn wsX2_alikeFrom wsX0_length := goodIn_r _ [6, 7, 39, 40] (by decide +kernel) (by decide +kernel)
set_option maxRecDepth 20000 in
theorem gX2_alikeFrom_X0_length : GoodIn wsX2_alikeFrom (wsV RX2 76 RX0 yX0_length wsX0_length) := goodIn_app (goodIn_of _ (by decide +kernel)) ggX2_alikeFrom_X0_length
set_option maxRecDepth 20000 in
theorem ggX2_alikeFrom_X2_alike : GoodIn wsX2_alikeFrom wsX2_alike := goodIn_r _ [12, 13, 14, 15, 16, 17, 5, 18, 19, 20, 21, 22, 23, 7, 24, 25, 26, 27, 28, 29, 30, 31, 32, 33, 34, 35, 36, 37, 38, 39, 40] (by decide +kernel) (by decide +kernel)
set_option maxRecDepth 20000 in
theorem gX2_alikeFrom_X2_alike : GoodIn wsX2_alikeFrom (wsV RX2 239 RX2 yX2_alike wsX2_alike) := goodIn_app (goodIn_of _ (by decide +kernel)) ggX2_alikeFrom_X2_alike
theorem dX2_alikeFrom_0 : decode cX2_alikeFrom 0 = .ok (.iconst 0, 1) := by decide +kernel
theorem dX2_alikeFrom_1 : decode cX2_alikeFrom 1 = .ok (.istore_n 2, 1) := by decide +kernel
theorem dX2_alikeFrom_2 : decode cX2_alikeFrom 2 = .ok (.iload_n 1, 1) := by decide +kernel
theorem dX2_alikeFrom_3 : decode cX2_alikeFrom 3 = .ok (.istore_n 3, 1) := by decide +kernel
theorem dX2_alikeFrom_4 : decode cX2_alikeFrom 4 = .ok (.iload_n 3, 1) := by decide +kernel
theorem dX2_alikeFrom_5 : decode cX2_alikeFrom 5 = .ok (.aload_n 0, 1) := by decide +kernel
theorem dX2_alikeFrom_6 : decode cX2_alikeFrom 6 = .ok (.getfield 24, 3) := by decide +kernel
theorem dX2_alikeFrom_9 : decode cX2_alikeFrom 9 = .ok (.invokevirtual 76, 3) := by decide +kernel
theorem dX2_alikeFrom_12 : decode cX2_alikeFrom 12 = .ok (.if_icmp .ge 21, 3) := by decide +kernel
theorem dX2_alikeFrom_15 : decode cX2_alikeFrom 15 = .ok (.aload_n 0, 1) := by decide +kernel
theorem dX2_alikeFrom_16 : decode cX2_alikeFrom 16 = .ok (.iload_n 1, 1) := by decide +kernel
theorem dX2_alikeFrom_17 : decode cX2_alikeFrom 17 = .ok (.iload_n 3, 1) := by decide +kernel
theorem dX2_alikeFrom_18 : decode cX2_alikeFrom 18 = .ok (.invokevirtual 239, 3) := by decide +kernel
theorem dX2_alikeFrom_21 : decode cX2_alikeFrom 21 = .ok (.ifCond .eq 6, 3) := by decide +kernel
theorem dX2_alikeFrom_24 : decode cX2_alikeFrom 24 = .ok (.iinc 2 1, 3) := by decide +kernel
theorem dX2_alikeFrom_27 : decode cX2_alikeFrom 27 = .ok (.iinc 3 1, 3) := by decide +kernel
theorem dX2_alikeFrom_30 : decode cX2_alikeFrom 30 = .ok (.goto (-26), 3) := by decide +kernel
theorem dX2_alikeFrom_33 : decode cX2_alikeFrom 33 = .ok (.iload_n 2, 1) := by decide +kernel
theorem dX2_alikeFrom_34 : decode cX2_alikeFrom 34 = .ok (.ireturn, 1) := by decide +kernel
set_option maxRecDepth 20000 in
theorem ggX2_mergeAll_X0_clear : GoodIn wsX2_mergeAll wsX0_clear := goodIn_r _ [12, 13, 137, 138] (by decide +kernel) (by decide +kernel)
set_option maxRecDepth 20000 in
theorem gX2_mergeAll_X0_clear : GoodIn wsX2_mergeAll (wsV RX2 215 RX0 yX0_clear wsX0_clear) := goodIn_app (goodIn_of _ (by decide +kernel)) ggX2_mergeAll_X0_clear
set_option maxRecDepth 20000 in
theorem ggX2_mergeAll_X0_length : GoodIn wsX2_mergeAll wsX0_length := goodIn_r _ [17, 13, 137, 138] (by decide +kernel) (by decide +kernel)
set_option maxRecDepth 20000 in
theorem gX2_mergeAll_X0_length : GoodIn wsX2_mergeAll (wsV RX2 76 RX0 yX0_length wsX0_length) := goodIn_app (goodIn_of _ (by decide +kernel)) ggX2_mergeAll_X0_length
set_option maxRecDepth 20000 in
theorem ggX2_mergeAll_X2_gather : GoodIn wsX2_mergeAll wsX2_gather := goodIn_r _ [22, 5, 4, 1, 6, 23, 24, 25, 11, 26, 27, 28, 29, 30, 31, 13, 32, 33, 34, 35, 122, 123, 124, 125, 126, 127, 128, 129, 130, 131, 132, 133, 134, 135, 136, 137, 138] (by decide +kernel) (by decide +kernel)
set_option maxRecDepth 20000 in
theorem gX2_mergeAll_X2_gather : GoodIn wsX2_mergeAll (wsV RX2 242 RX2 yX2_gather wsX2_gather) := goodIn_app (goodIn_of _ (by decide +kernel)) ggX2_mergeAll_X2_gather
theorem mi_X2_mergeAll_1 {w : Cond} (h : w ∈ wsX2_mergeAll_r1) : w ∈ wsX2_mergeAll := (List.mem_cons_of_mem _ (List.mem_append_left _ (List.mem_append_left _ (List.mem_append_left _ (List.mem_append_left _ h)))))
theorem mi_X2_mergeAll_2 {w : Cond} (h : w ∈ wsX2_mergeAll_r2) : w ∈ wsX2_mergeAll := (List.mem_cons_of_mem _ (List.mem_append_left _ (List.mem_append_left _ (List.mem_append_left _ (List.mem_append_right _ (List.mem_append_left _ h))))))
theorem mi_X2_mergeAll_3 {w : Cond} (h : w ∈ wsX2_mergeAll_r3) : w ∈ wsX2_mergeAll := (List.mem_cons_of_mem _ (List.mem_append_left _ (List.mem_append_left _ (List.mem_append_left _ (List.mem_append_right _ (List.mem_append_right _ (List.mem_append_left _ h)))))))
theorem mi_X2_mergeAll_4 {w : Cond} (h : w ∈ wsX2_mergeAll_r4) : w ∈ wsX2_mergeAll := (List.mem_cons_of_mem _ (List.mem_append_left _ (List.mem_append_left _ (List.mem_append_left _ (List.mem_append_right _ (List.mem_append_right _ (List.mem_append_right _ (List.mem_append_left _ h))))))))
theorem mi_X2_mergeAll_5 {w : Cond} (h : w ∈ wsX2_mergeAll_r5) : w ∈ wsX2_mergeAll := (List.mem_cons_of_mem _ (List.mem_append_left _ (List.mem_append_left _ (List.mem_append_left _ (List.mem_append_right _ (List.mem_append_right _ (List.mem_append_right _ (List.mem_append_right _ (List.mem_append_left _ h)))))))))
theorem mi_X2_mergeAll_6 {w : Cond} (h : w ∈ wsX2_mergeAll_r6) : w ∈ wsX2_mergeAll := (List.mem_cons_of_mem _ (List.mem_append_left _ (List.mem_append_left _ (List.mem_append_left _ (List.mem_append_right _ (List.mem_append_right _ (List.mem_append_right _ (List.mem_append_right _ (List.mem_append_right _ h)))))))))
set_option maxRecDepth 20000 in
theorem gi_X2_mergeAll_X2_cutFresh_0 : ∀ w ∈ wsX2_cutFresh_r1, w ∈ wsX2_mergeAll := by
  unfold wsX2_cutFresh_r1
  exact (List.forall_mem_cons.mpr ⟨(mi_X2_mergeAll_1 (List.mem_of_getElem? (i := 0) rfl)), (List.forall_mem_cons.mpr ⟨(mi_X2_mergeAll_2 (List.mem_of_getElem? (i := 15) rfl)), (List.forall_mem_cons.mpr ⟨(mi_X2_mergeAll_2 (List.mem_of_getElem? (i := 16) rfl)), (List.forall_mem_cons.mpr ⟨(mi_X2_mergeAll_1 (List.mem_of_getElem? (i := 1) rfl)), (List.forall_mem_cons.mpr ⟨(mi_X2_mergeAll_2 (List.mem_of_getElem? (i := 17) rfl)), (List.forall_mem_cons.mpr ⟨(mi_X2_mergeAll_1 (List.mem_of_getElem? (i := 13) rfl)), (List.forall_mem_cons.mpr ⟨(mi_X2_mergeAll_1 (List.mem_of_getElem? (i := 14) rfl)), (List.forall_mem_cons.mpr ⟨(mi_X2_mergeAll_1 (List.mem_of_getElem? (i := 15) rfl)), (List.forall_mem_cons.mpr ⟨(mi_X2_mergeAll_1 (List.mem_of_getElem? (i := 10) rfl)), (List.forall_mem_cons.mpr ⟨(mi_X2_mergeAll_1 (List.mem_of_getElem? (i := 16) rfl)), (List.forall_mem_cons.mpr ⟨(mi_X2_mergeAll_1 (List.mem_of_getElem? (i := 12) rfl)), (List.forall_mem_cons.mpr ⟨(mi_X2_mergeAll_1 (List.mem_of_getElem? (i := 22) rfl)), (List.forall_mem_cons.mpr ⟨(mi_X2_mergeAll_1 (List.mem_of_getElem? (i := 23) rfl)), (List.forall_mem_cons.mpr ⟨(mi_X2_mergeAll_2 (List.mem_of_getElem? (i := 0) rfl)), (List.forall_mem_cons.mpr ⟨(mi_X2_mergeAll_2 (List.mem_of_getElem? (i := 1) rfl)), (List.forall_mem_cons.mpr ⟨(mi_X2_mergeAll_2 (List.mem_of_getElem? (i := 2) rfl)), (List.forall_mem_cons.mpr ⟨(mi_X2_mergeAll_2 (List.mem_of_getElem? (i := 3) rfl)), (List.forall_mem_cons.mpr ⟨(mi_X2_mergeAll_2 (List.mem_of_getElem? (i := 4) rfl)), (List.forall_mem_cons.mpr ⟨(mi_X2_mergeAll_2 (List.mem_of_getElem? (i := 5) rfl)), (List.forall_mem_cons.mpr ⟨(mi_X2_mergeAll_2 (List.mem_of_getElem? (i := 6) rfl)), (List.forall_mem_cons.mpr ⟨(mi_X2_mergeAll_2 (List.mem_of_getElem? (i := 18) rfl)), (List.forall_mem_cons.mpr ⟨(mi_X2_mergeAll_2 (List.mem_of_getElem? (i := 19) rfl)), (List.forall_mem_cons.mpr ⟨(mi_X2_mergeAll_2 (List.mem_of_getElem? (i := 20) rfl)), (List.forall_mem_cons.mpr ⟨(mi_X2_mergeAll_2 (List.mem_of_getElem? (i := 21) rfl)), (fun _ h => absurd h List.not_mem_nil)⟩)⟩)⟩)⟩)⟩)⟩)⟩)⟩)⟩)⟩)⟩)⟩)⟩)⟩)⟩)⟩)⟩)⟩)⟩)⟩)⟩)⟩)⟩)⟩)
set_option maxRecDepth 20000 in
theorem gi_X2_mergeAll_X2_cutFresh_1 : ∀ w ∈ wsX2_cutFresh_r2, w ∈ wsX2_mergeAll := by
  unfold wsX2_cutFresh_r2
  exact (List.forall_mem_cons.mpr ⟨(mi_X2_mergeAll_2 (List.mem_of_getElem? (i := 22) rfl)), (List.forall_mem_cons.mpr ⟨(mi_X2_mergeAll_2 (List.mem_of_getElem? (i := 23) rfl)), (List.forall_mem_cons.mpr ⟨(mi_X2_mergeAll_3 (List.mem_of_getElem? (i := 0) rfl)), (List.forall_mem_cons.mpr ⟨(mi_X2_mergeAll_3 (List.mem_of_getElem? (i := 1) rfl)), (List.forall_mem_cons.mpr ⟨(mi_X2_mergeAll_3 (List.mem_of_getElem? (i := 2) rfl)), (List.forall_mem_cons.mpr ⟨(mi_X2_mergeAll_3 (List.mem_of_getElem? (i := 3) rfl)), (List.forall_mem_cons.mpr ⟨(mi_X2_mergeAll_3 (List.mem_of_getElem? (i := 4) rfl)), (List.forall_mem_cons.mpr ⟨(mi_X2_mergeAll_3 (List.mem_of_getElem? (i := 5) rfl)), (List.forall_mem_cons.mpr ⟨(mi_X2_mergeAll_3 (List.mem_of_getElem? (i := 6) rfl)), (List.forall_mem_cons.mpr ⟨(mi_X2_mergeAll_3 (List.mem_of_getElem? (i := 7) rfl)), (List.forall_mem_cons.mpr ⟨(mi_X2_mergeAll_3 (List.mem_of_getElem? (i := 8) rfl)), (List.forall_mem_cons.mpr ⟨(mi_X2_mergeAll_3 (List.mem_of_getElem? (i := 9) rfl)), (List.forall_mem_cons.mpr ⟨(mi_X2_mergeAll_3 (List.mem_of_getElem? (i := 10) rfl)), (List.forall_mem_cons.mpr ⟨(mi_X2_mergeAll_2 (List.mem_of_getElem? (i := 7) rfl)), (List.forall_mem_cons.mpr ⟨(mi_X2_mergeAll_2 (List.mem_of_getElem? (i := 8) rfl)), (List.forall_mem_cons.mpr ⟨(mi_X2_mergeAll_2 (List.mem_of_getElem? (i := 9) rfl)), (List.forall_mem_cons.mpr ⟨(mi_X2_mergeAll_2 (List.mem_of_getElem? (i := 10) rfl)), (fun _ h => absurd h List.not_mem_nil)⟩)⟩)⟩)⟩)⟩)⟩)⟩)⟩)⟩)⟩)⟩)⟩)⟩)⟩)⟩)⟩)⟩)
theorem gi_X2_mergeAll_X2_cutFresh : GoodIn wsX2_mergeAll (.code yX2_cutFresh cX2_cutFresh 4 none :: ((wsX2_cutFresh_r1 ++ wsX2_cutFresh_r2) ++ wsX20 ++ wsX00 ++ wsX10)) := goodIn_c (goodIn_sub (List.forall_mem_cons.mpr ⟨(mi_X2_mergeAll_2 (List.mem_of_getElem? (i := 14) rfl)), fun _ h => absurd h List.not_mem_nil⟩) (by decide +kernel)) (goodIn_app (goodIn_app (goodIn_app (goodIn_app (goodIn_sub gi_X2_mergeAll_X2_cutFresh_0 (by decide +kernel)) (goodIn_sub gi_X2_mergeAll_X2_cutFresh_1 (by decide +kernel))) (goodIn_sub (fun _ h => (List.mem_cons_of_mem _ (List.mem_append_left _ (List.mem_append_left _ (List.mem_append_right _ h))))) (by decide +kernel))) (goodIn_sub (fun _ h => (List.mem_cons_of_mem _ (List.mem_append_left _ (List.mem_append_right _ h)))) (by decide +kernel))) (goodIn_sub (fun _ h => (List.mem_cons_of_mem _ (List.mem_append_right _ h))) (by decide +kernel)))
set_option maxRecDepth 20000 in
theorem ggX2_mergeAll_X2_cutFresh : GoodIn wsX2_mergeAll wsX2_cutFresh := gi_X2_mergeAll_X2_cutFresh
set_option maxRecDepth 20000 in
theorem gX2_mergeAll_X2_cutFresh : GoodIn wsX2_mergeAll (wsV RX2 246 RX2 yX2_cutFresh wsX2_cutFresh) := goodIn_app (goodIn_of _ (by decide +kernel)) ggX2_mergeAll_X2_cutFresh
set_option maxRecDepth 20000 in
theorem gi_X2_mergeAll_X2_mergePiece_0 : ∀ w ∈ wsX2_mergePiece_r1, w ∈ wsX2_mergeAll := by
  unfold wsX2_mergePiece_r1
  exact (List.forall_mem_cons.mpr ⟨(mi_X2_mergeAll_1 (List.mem_of_getElem? (i := 3) rfl)), (List.forall_mem_cons.mpr ⟨(mi_X2_mergeAll_1 (List.mem_of_getElem? (i := 2) rfl)), (List.forall_mem_cons.mpr ⟨(mi_X2_mergeAll_1 (List.mem_of_getElem? (i := 0) rfl)), (List.forall_mem_cons.mpr ⟨(mi_X2_mergeAll_1 (List.mem_of_getElem? (i := 1) rfl)), (List.forall_mem_cons.mpr ⟨(mi_X2_mergeAll_3 (List.mem_of_getElem? (i := 15) rfl)), (List.forall_mem_cons.mpr ⟨(mi_X2_mergeAll_3 (List.mem_of_getElem? (i := 16) rfl)), (List.forall_mem_cons.mpr ⟨(mi_X2_mergeAll_3 (List.mem_of_getElem? (i := 17) rfl)), (List.forall_mem_cons.mpr ⟨(mi_X2_mergeAll_1 (List.mem_of_getElem? (i := 20) rfl)), (List.forall_mem_cons.mpr ⟨(mi_X2_mergeAll_3 (List.mem_of_getElem? (i := 18) rfl)), (List.forall_mem_cons.mpr ⟨(mi_X2_mergeAll_1 (List.mem_of_getElem? (i := 4) rfl)), (List.forall_mem_cons.mpr ⟨(mi_X2_mergeAll_1 (List.mem_of_getElem? (i := 22) rfl)), (List.forall_mem_cons.mpr ⟨(mi_X2_mergeAll_1 (List.mem_of_getElem? (i := 23) rfl)), (List.forall_mem_cons.mpr ⟨(mi_X2_mergeAll_2 (List.mem_of_getElem? (i := 0) rfl)), (List.forall_mem_cons.mpr ⟨(mi_X2_mergeAll_1 (List.mem_of_getElem? (i := 10) rfl)), (List.forall_mem_cons.mpr ⟨(mi_X2_mergeAll_2 (List.mem_of_getElem? (i := 1) rfl)), (List.forall_mem_cons.mpr ⟨(mi_X2_mergeAll_2 (List.mem_of_getElem? (i := 2) rfl)), (List.forall_mem_cons.mpr ⟨(mi_X2_mergeAll_2 (List.mem_of_getElem? (i := 3) rfl)), (List.forall_mem_cons.mpr ⟨(mi_X2_mergeAll_2 (List.mem_of_getElem? (i := 4) rfl)), (List.forall_mem_cons.mpr ⟨(mi_X2_mergeAll_2 (List.mem_of_getElem? (i := 5) rfl)), (List.forall_mem_cons.mpr ⟨(mi_X2_mergeAll_2 (List.mem_of_getElem? (i := 6) rfl)), (List.forall_mem_cons.mpr ⟨(mi_X2_mergeAll_1 (List.mem_of_getElem? (i := 12) rfl)), (List.forall_mem_cons.mpr ⟨(mi_X2_mergeAll_3 (List.mem_of_getElem? (i := 19) rfl)), (List.forall_mem_cons.mpr ⟨(mi_X2_mergeAll_3 (List.mem_of_getElem? (i := 20) rfl)), (List.forall_mem_cons.mpr ⟨(mi_X2_mergeAll_3 (List.mem_of_getElem? (i := 21) rfl)), (fun _ h => absurd h List.not_mem_nil)⟩)⟩)⟩)⟩)⟩)⟩)⟩)⟩)⟩)⟩)⟩)⟩)⟩)⟩)⟩)⟩)⟩)⟩)⟩)⟩)⟩)⟩)⟩)⟩)
set_option maxRecDepth 20000 in
theorem gi_X2_mergeAll_X2_mergePiece_1 : ∀ w ∈ wsX2_mergePiece_r2, w ∈ wsX2_mergeAll := by
  unfold wsX2_mergePiece_r2
  exact (List.forall_mem_cons.mpr ⟨(mi_X2_mergeAll_3 (List.mem_of_getElem? (i := 22) rfl)), (List.forall_mem_cons.mpr ⟨(mi_X2_mergeAll_3 (List.mem_of_getElem? (i := 23) rfl)), (List.forall_mem_cons.mpr ⟨(mi_X2_mergeAll_4 (List.mem_of_getElem? (i := 0) rfl)), (List.forall_mem_cons.mpr ⟨(mi_X2_mergeAll_1 (List.mem_of_getElem? (i := 13) rfl)), (List.forall_mem_cons.mpr ⟨(mi_X2_mergeAll_1 (List.mem_of_getElem? (i := 14) rfl)), (List.forall_mem_cons.mpr ⟨(mi_X2_mergeAll_1 (List.mem_of_getElem? (i := 15) rfl)), (List.forall_mem_cons.mpr ⟨(mi_X2_mergeAll_1 (List.mem_of_getElem? (i := 16) rfl)), (List.forall_mem_cons.mpr ⟨(mi_X2_mergeAll_4 (List.mem_of_getElem? (i := 1) rfl)), (List.forall_mem_cons.mpr ⟨(mi_X2_mergeAll_4 (List.mem_of_getElem? (i := 2) rfl)), (List.forall_mem_cons.mpr ⟨(mi_X2_mergeAll_4 (List.mem_of_getElem? (i := 3) rfl)), (List.forall_mem_cons.mpr ⟨(mi_X2_mergeAll_4 (List.mem_of_getElem? (i := 4) rfl)), (List.forall_mem_cons.mpr ⟨(mi_X2_mergeAll_1 (List.mem_of_getElem? (i := 17) rfl)), (List.forall_mem_cons.mpr ⟨(mi_X2_mergeAll_1 (List.mem_of_getElem? (i := 18) rfl)), (List.forall_mem_cons.mpr ⟨(mi_X2_mergeAll_1 (List.mem_of_getElem? (i := 19) rfl)), (List.forall_mem_cons.mpr ⟨(mi_X2_mergeAll_1 (List.mem_of_getElem? (i := 21) rfl)), (List.forall_mem_cons.mpr ⟨(mi_X2_mergeAll_1 (List.mem_of_getElem? (i := 5) rfl)), (List.forall_mem_cons.mpr ⟨(mi_X2_mergeAll_2 (List.mem_of_getElem? (i := 7) rfl)), (List.forall_mem_cons.mpr ⟨(mi_X2_mergeAll_2 (List.mem_of_getElem? (i := 8) rfl)), (List.forall_mem_cons.mpr ⟨(mi_X2_mergeAll_2 (List.mem_of_getElem? (i := 9) rfl)), (List.forall_mem_cons.mpr ⟨(mi_X2_mergeAll_2 (List.mem_of_getElem? (i := 10) rfl)), (List.forall_mem_cons.mpr ⟨(mi_X2_mergeAll_2 (List.mem_of_getElem? (i := 11) rfl)), (List.forall_mem_cons.mpr ⟨(mi_X2_mergeAll_2 (List.mem_of_getElem? (i := 12) rfl)), (List.forall_mem_cons.mpr ⟨(mi_X2_mergeAll_2 (List.mem_of_getElem? (i := 13) rfl)), (List.forall_mem_cons.mpr ⟨(mi_X2_mergeAll_2 (List.mem_of_getElem? (i := 14) rfl)), (fun _ h => absurd h List.not_mem_nil)⟩)⟩)⟩)⟩)⟩)⟩)⟩)⟩)⟩)⟩)⟩)⟩)⟩)⟩)⟩)⟩)⟩)⟩)⟩)⟩)⟩)⟩)⟩)⟩)
set_option maxRecDepth 20000 in
theorem gi_X2_mergeAll_X2_mergePiece_2 : ∀ w ∈ wsX2_mergePiece_r3, w ∈ wsX2_mergeAll := by
  unfold wsX2_mergePiece_r3
  exact (List.forall_mem_cons.mpr ⟨(mi_X2_mergeAll_2 (List.mem_of_getElem? (i := 15) rfl)), (List.forall_mem_cons.mpr ⟨(mi_X2_mergeAll_2 (List.mem_of_getElem? (i := 16) rfl)), (List.forall_mem_cons.mpr ⟨(mi_X2_mergeAll_2 (List.mem_of_getElem? (i := 17) rfl)), (List.forall_mem_cons.mpr ⟨(mi_X2_mergeAll_2 (List.mem_of_getElem? (i := 18) rfl)), (List.forall_mem_cons.mpr ⟨(mi_X2_mergeAll_2 (List.mem_of_getElem? (i := 19) rfl)), (List.forall_mem_cons.mpr ⟨(mi_X2_mergeAll_2 (List.mem_of_getElem? (i := 20) rfl)), (List.forall_mem_cons.mpr ⟨(mi_X2_mergeAll_2 (List.mem_of_getElem? (i := 21) rfl)), (List.forall_mem_cons.mpr ⟨(mi_X2_mergeAll_2 (List.mem_of_getElem? (i := 22) rfl)), (List.forall_mem_cons.mpr ⟨(mi_X2_mergeAll_2 (List.mem_of_getElem? (i := 23) rfl)), (List.forall_mem_cons.mpr ⟨(mi_X2_mergeAll_3 (List.mem_of_getElem? (i := 0) rfl)), (List.forall_mem_cons.mpr ⟨(mi_X2_mergeAll_3 (List.mem_of_getElem? (i := 1) rfl)), (List.forall_mem_cons.mpr ⟨(mi_X2_mergeAll_3 (List.mem_of_getElem? (i := 2) rfl)), (List.forall_mem_cons.mpr ⟨(mi_X2_mergeAll_3 (List.mem_of_getElem? (i := 3) rfl)), (List.forall_mem_cons.mpr ⟨(mi_X2_mergeAll_3 (List.mem_of_getElem? (i := 4) rfl)), (List.forall_mem_cons.mpr ⟨(mi_X2_mergeAll_3 (List.mem_of_getElem? (i := 5) rfl)), (List.forall_mem_cons.mpr ⟨(mi_X2_mergeAll_3 (List.mem_of_getElem? (i := 6) rfl)), (List.forall_mem_cons.mpr ⟨(mi_X2_mergeAll_3 (List.mem_of_getElem? (i := 7) rfl)), (List.forall_mem_cons.mpr ⟨(mi_X2_mergeAll_3 (List.mem_of_getElem? (i := 8) rfl)), (List.forall_mem_cons.mpr ⟨(mi_X2_mergeAll_3 (List.mem_of_getElem? (i := 9) rfl)), (List.forall_mem_cons.mpr ⟨(mi_X2_mergeAll_3 (List.mem_of_getElem? (i := 10) rfl)), (fun _ h => absurd h List.not_mem_nil)⟩)⟩)⟩)⟩)⟩)⟩)⟩)⟩)⟩)⟩)⟩)⟩)⟩)⟩)⟩)⟩)⟩)⟩)⟩)⟩)
theorem gi_X2_mergeAll_X2_mergePiece : GoodIn wsX2_mergeAll (.code yX2_mergePiece cX2_mergePiece 6 none :: ((wsX2_mergePiece_r1 ++ (wsX2_mergePiece_r2 ++ wsX2_mergePiece_r3)) ++ wsX20 ++ wsX00 ++ wsX10)) := goodIn_c (goodIn_sub (List.forall_mem_cons.mpr ⟨(mi_X2_mergeAll_3 (List.mem_of_getElem? (i := 14) rfl)), fun _ h => absurd h List.not_mem_nil⟩) (by decide +kernel)) (goodIn_app (goodIn_app (goodIn_app (goodIn_app (goodIn_sub gi_X2_mergeAll_X2_mergePiece_0 (by decide +kernel)) (goodIn_app (goodIn_sub gi_X2_mergeAll_X2_mergePiece_1 (by decide +kernel)) (goodIn_sub gi_X2_mergeAll_X2_mergePiece_2 (by decide +kernel)))) (goodIn_sub (fun _ h => (List.mem_cons_of_mem _ (List.mem_append_left _ (List.mem_append_left _ (List.mem_append_right _ h))))) (by decide +kernel))) (goodIn_sub (fun _ h => (List.mem_cons_of_mem _ (List.mem_append_left _ (List.mem_append_right _ h)))) (by decide +kernel))) (goodIn_sub (fun _ h => (List.mem_cons_of_mem _ (List.mem_append_right _ h))) (by decide +kernel)))
set_option maxRecDepth 20000 in
theorem ggX2_mergeAll_X2_mergePiece : GoodIn wsX2_mergeAll wsX2_mergePiece := gi_X2_mergeAll_X2_mergePiece
set_option maxRecDepth 20000 in
theorem gX2_mergeAll_X2_mergePiece : GoodIn wsX2_mergeAll (wsV RX2 249 RX2 yX2_mergePiece wsX2_mergePiece) := goodIn_app (goodIn_of _ (by decide +kernel)) ggX2_mergeAll_X2_mergePiece
set_option maxRecDepth 20000 in
theorem ggX2_mergeAll_X2_clearRow : GoodIn wsX2_mergeAll wsX2_clearRow := goodIn_r _ [81, 5, 6, 82, 4, 8, 9, 10, 11, 12, 13, 83, 84, 85, 21, 86, 3, 87, 88, 122, 123, 124, 125, 126, 127, 128, 129, 130, 131, 132, 133, 134, 135, 136, 137, 138] (by decide +kernel) (by decide +kernel)
set_option maxRecDepth 20000 in
theorem gX2_mergeAll_X2_clearRow : GoodIn wsX2_mergeAll (wsV RX2 131 RX2 yX2_clearRow wsX2_clearRow) := goodIn_app (goodIn_of _ (by decide +kernel)) ggX2_mergeAll_X2_clearRow
set_option maxRecDepth 20000 in
theorem ggX2_mergeAll_X0_at : GoodIn wsX2_mergeAll wsX0_at := goodIn_r _ [26, 27, 28, 29, 30, 11, 31, 13, 137, 138] (by decide +kernel) (by decide +kernel)
set_option maxRecDepth 20000 in
theorem gX2_mergeAll_X0_at : GoodIn wsX2_mergeAll (wsV RX2 134 RX0 yX0_at wsX0_at) := goodIn_app (goodIn_of _ (by decide +kernel)) ggX2_mergeAll_X0_at
set_option maxRecDepth 20000 in
theorem ggX2_mergeAll_X0_push : GoodIn wsX2_mergeAll wsX0_push := goodIn_r _ [35, 13, 27, 137, 138] (by decide +kernel) (by decide +kernel)
set_option maxRecDepth 20000 in
theorem gX2_mergeAll_X0_push : GoodIn wsX2_mergeAll (wsV RX2 199 RX0 yX0_push wsX0_push) := goodIn_app (goodIn_of _ (by decide +kernel)) ggX2_mergeAll_X0_push
set_option maxRecDepth 20000 in
theorem gi_X2_mergeAll_X2_joinFresh_0 : ∀ w ∈ wsX2_joinFresh_r1, w ∈ wsX2_mergeAll := by
  unfold wsX2_joinFresh_r1
  exact (List.forall_mem_cons.mpr ⟨(mi_X2_mergeAll_1 (List.mem_of_getElem? (i := 1) rfl)), (List.forall_mem_cons.mpr ⟨(mi_X2_mergeAll_1 (List.mem_of_getElem? (i := 4) rfl)), (List.forall_mem_cons.mpr ⟨(mi_X2_mergeAll_4 (List.mem_of_getElem? (i := 20) rfl)), (List.forall_mem_cons.mpr ⟨(mi_X2_mergeAll_1 (List.mem_of_getElem? (i := 13) rfl)), (List.forall_mem_cons.mpr ⟨(mi_X2_mergeAll_1 (List.mem_of_getElem? (i := 14) rfl)), (List.forall_mem_cons.mpr ⟨(mi_X2_mergeAll_1 (List.mem_of_getElem? (i := 15) rfl)), (List.forall_mem_cons.mpr ⟨(mi_X2_mergeAll_1 (List.mem_of_getElem? (i := 10) rfl)), (List.forall_mem_cons.mpr ⟨(mi_X2_mergeAll_1 (List.mem_of_getElem? (i := 16) rfl)), (List.forall_mem_cons.mpr ⟨(mi_X2_mergeAll_1 (List.mem_of_getElem? (i := 12) rfl)), (List.forall_mem_cons.mpr ⟨(mi_X2_mergeAll_1 (List.mem_of_getElem? (i := 22) rfl)), (List.forall_mem_cons.mpr ⟨(mi_X2_mergeAll_1 (List.mem_of_getElem? (i := 23) rfl)), (List.forall_mem_cons.mpr ⟨(mi_X2_mergeAll_2 (List.mem_of_getElem? (i := 0) rfl)), (List.forall_mem_cons.mpr ⟨(mi_X2_mergeAll_2 (List.mem_of_getElem? (i := 1) rfl)), (List.forall_mem_cons.mpr ⟨(mi_X2_mergeAll_2 (List.mem_of_getElem? (i := 2) rfl)), (List.forall_mem_cons.mpr ⟨(mi_X2_mergeAll_2 (List.mem_of_getElem? (i := 3) rfl)), (List.forall_mem_cons.mpr ⟨(mi_X2_mergeAll_2 (List.mem_of_getElem? (i := 4) rfl)), (List.forall_mem_cons.mpr ⟨(mi_X2_mergeAll_2 (List.mem_of_getElem? (i := 5) rfl)), (List.forall_mem_cons.mpr ⟨(mi_X2_mergeAll_2 (List.mem_of_getElem? (i := 6) rfl)), (List.forall_mem_cons.mpr ⟨(mi_X2_mergeAll_4 (List.mem_of_getElem? (i := 0) rfl)), (List.forall_mem_cons.mpr ⟨(mi_X2_mergeAll_4 (List.mem_of_getElem? (i := 21) rfl)), (List.forall_mem_cons.mpr ⟨(mi_X2_mergeAll_4 (List.mem_of_getElem? (i := 22) rfl)), (List.forall_mem_cons.mpr ⟨(mi_X2_mergeAll_4 (List.mem_of_getElem? (i := 23) rfl)), (List.forall_mem_cons.mpr ⟨(mi_X2_mergeAll_1 (List.mem_of_getElem? (i := 20) rfl)), (List.forall_mem_cons.mpr ⟨(mi_X2_mergeAll_5 (List.mem_of_getElem? (i := 0) rfl)), (fun _ h => absurd h List.not_mem_nil)⟩)⟩)⟩)⟩)⟩)⟩)⟩)⟩)⟩)⟩)⟩)⟩)⟩)⟩)⟩)⟩)⟩)⟩)⟩)⟩)⟩)⟩)⟩)⟩)
set_option maxRecDepth 20000 in
theorem gi_X2_mergeAll_X2_joinFresh_1 : ∀ w ∈ wsX2_joinFresh_r2, w ∈ wsX2_mergeAll := by
  unfold wsX2_joinFresh_r2
  exact (List.forall_mem_cons.mpr ⟨(mi_X2_mergeAll_2 (List.mem_of_getElem? (i := 15) rfl)), (List.forall_mem_cons.mpr ⟨(mi_X2_mergeAll_2 (List.mem_of_getElem? (i := 18) rfl)), (List.forall_mem_cons.mpr ⟨(mi_X2_mergeAll_2 (List.mem_of_getElem? (i := 19) rfl)), (List.forall_mem_cons.mpr ⟨(mi_X2_mergeAll_2 (List.mem_of_getElem? (i := 20) rfl)), (List.forall_mem_cons.mpr ⟨(mi_X2_mergeAll_2 (List.mem_of_getElem? (i := 21) rfl)), (List.forall_mem_cons.mpr ⟨(mi_X2_mergeAll_2 (List.mem_of_getElem? (i := 22) rfl)), (List.forall_mem_cons.mpr ⟨(mi_X2_mergeAll_2 (List.mem_of_getElem? (i := 23) rfl)), (List.forall_mem_cons.mpr ⟨(mi_X2_mergeAll_3 (List.mem_of_getElem? (i := 0) rfl)), (List.forall_mem_cons.mpr ⟨(mi_X2_mergeAll_3 (List.mem_of_getElem? (i := 1) rfl)), (List.forall_mem_cons.mpr ⟨(mi_X2_mergeAll_3 (List.mem_of_getElem? (i := 2) rfl)), (List.forall_mem_cons.mpr ⟨(mi_X2_mergeAll_3 (List.mem_of_getElem? (i := 3) rfl)), (List.forall_mem_cons.mpr ⟨(mi_X2_mergeAll_3 (List.mem_of_getElem? (i := 4) rfl)), (List.forall_mem_cons.mpr ⟨(mi_X2_mergeAll_3 (List.mem_of_getElem? (i := 5) rfl)), (List.forall_mem_cons.mpr ⟨(mi_X2_mergeAll_3 (List.mem_of_getElem? (i := 6) rfl)), (List.forall_mem_cons.mpr ⟨(mi_X2_mergeAll_5 (List.mem_of_getElem? (i := 1) rfl)), (List.forall_mem_cons.mpr ⟨(mi_X2_mergeAll_5 (List.mem_of_getElem? (i := 2) rfl)), (List.forall_mem_cons.mpr ⟨(mi_X2_mergeAll_5 (List.mem_of_getElem? (i := 3) rfl)), (List.forall_mem_cons.mpr ⟨(mi_X2_mergeAll_5 (List.mem_of_getElem? (i := 4) rfl)), (List.forall_mem_cons.mpr ⟨(mi_X2_mergeAll_2 (List.mem_of_getElem? (i := 16) rfl)), (List.forall_mem_cons.mpr ⟨(mi_X2_mergeAll_1 (List.mem_of_getElem? (i := 2) rfl)), (List.forall_mem_cons.mpr ⟨(mi_X2_mergeAll_4 (List.mem_of_getElem? (i := 14) rfl)), (List.forall_mem_cons.mpr ⟨(mi_X2_mergeAll_4 (List.mem_of_getElem? (i := 15) rfl)), (List.forall_mem_cons.mpr ⟨(mi_X2_mergeAll_3 (List.mem_of_getElem? (i := 7) rfl)), (List.forall_mem_cons.mpr ⟨(mi_X2_mergeAll_3 (List.mem_of_getElem? (i := 8) rfl)), (fun _ h => absurd h List.not_mem_nil)⟩)⟩)⟩)⟩)⟩)⟩)⟩)⟩)⟩)⟩)⟩)⟩)⟩)⟩)⟩)⟩)⟩)⟩)⟩)⟩)⟩)⟩)⟩)⟩)
set_option maxRecDepth 20000 in
theorem gi_X2_mergeAll_X2_joinFresh_2 : ∀ w ∈ wsX2_joinFresh_r3, w ∈ wsX2_mergeAll := by
  unfold wsX2_joinFresh_r3
  exact (List.forall_mem_cons.mpr ⟨(mi_X2_mergeAll_3 (List.mem_of_getElem? (i := 9) rfl)), (List.forall_mem_cons.mpr ⟨(mi_X2_mergeAll_3 (List.mem_of_getElem? (i := 10) rfl)), (List.forall_mem_cons.mpr ⟨(mi_X2_mergeAll_2 (List.mem_of_getElem? (i := 7) rfl)), (List.forall_mem_cons.mpr ⟨(mi_X2_mergeAll_2 (List.mem_of_getElem? (i := 8) rfl)), (List.forall_mem_cons.mpr ⟨(mi_X2_mergeAll_2 (List.mem_of_getElem? (i := 9) rfl)), (List.forall_mem_cons.mpr ⟨(mi_X2_mergeAll_2 (List.mem_of_getElem? (i := 10) rfl)), (List.forall_mem_cons.mpr ⟨(mi_X2_mergeAll_5 (List.mem_of_getElem? (i := 5) rfl)), (List.forall_mem_cons.mpr ⟨(mi_X2_mergeAll_5 (List.mem_of_getElem? (i := 6) rfl)), (List.forall_mem_cons.mpr ⟨(mi_X2_mergeAll_5 (List.mem_of_getElem? (i := 7) rfl)), (List.forall_mem_cons.mpr ⟨(mi_X2_mergeAll_5 (List.mem_of_getElem? (i := 8) rfl)), (List.forall_mem_cons.mpr ⟨(mi_X2_mergeAll_5 (List.mem_of_getElem? (i := 9) rfl)), (List.forall_mem_cons.mpr ⟨(mi_X2_mergeAll_5 (List.mem_of_getElem? (i := 10) rfl)), (List.forall_mem_cons.mpr ⟨(mi_X2_mergeAll_5 (List.mem_of_getElem? (i := 11) rfl)), (List.forall_mem_cons.mpr ⟨(mi_X2_mergeAll_5 (List.mem_of_getElem? (i := 12) rfl)), (List.forall_mem_cons.mpr ⟨(mi_X2_mergeAll_5 (List.mem_of_getElem? (i := 13) rfl)), (List.forall_mem_cons.mpr ⟨(mi_X2_mergeAll_5 (List.mem_of_getElem? (i := 14) rfl)), (List.forall_mem_cons.mpr ⟨(mi_X2_mergeAll_5 (List.mem_of_getElem? (i := 15) rfl)), (List.forall_mem_cons.mpr ⟨(mi_X2_mergeAll_5 (List.mem_of_getElem? (i := 16) rfl)), (List.forall_mem_cons.mpr ⟨(mi_X2_mergeAll_5 (List.mem_of_getElem? (i := 17) rfl)), (List.forall_mem_cons.mpr ⟨(mi_X2_mergeAll_5 (List.mem_of_getElem? (i := 18) rfl)), (List.forall_mem_cons.mpr ⟨(mi_X2_mergeAll_5 (List.mem_of_getElem? (i := 19) rfl)), (List.forall_mem_cons.mpr ⟨(mi_X2_mergeAll_5 (List.mem_of_getElem? (i := 20) rfl)), (List.forall_mem_cons.mpr ⟨(mi_X2_mergeAll_5 (List.mem_of_getElem? (i := 21) rfl)), (List.forall_mem_cons.mpr ⟨(mi_X2_mergeAll_5 (List.mem_of_getElem? (i := 22) rfl)), (fun _ h => absurd h List.not_mem_nil)⟩)⟩)⟩)⟩)⟩)⟩)⟩)⟩)⟩)⟩)⟩)⟩)⟩)⟩)⟩)⟩)⟩)⟩)⟩)⟩)⟩)⟩)⟩)⟩)
set_option maxRecDepth 20000 in
theorem gi_X2_mergeAll_X2_joinFresh_3 : ∀ w ∈ wsX2_joinFresh_r4, w ∈ wsX2_mergeAll := by
  unfold wsX2_joinFresh_r4
  exact (List.forall_mem_cons.mpr ⟨(mi_X2_mergeAll_5 (List.mem_of_getElem? (i := 23) rfl)), (List.forall_mem_cons.mpr ⟨(mi_X2_mergeAll_6 (List.mem_of_getElem? (i := 0) rfl)), (fun _ h => absurd h List.not_mem_nil)⟩)⟩)
theorem gi_X2_mergeAll_X2_joinFresh : GoodIn wsX2_mergeAll (.code yX2_joinFresh cX2_joinFresh 4 none :: ((wsX2_joinFresh_r1 ++ (wsX2_joinFresh_r2 ++ (wsX2_joinFresh_r3 ++ wsX2_joinFresh_r4))) ++ wsX20 ++ wsX00 ++ wsX10)) := goodIn_c (goodIn_sub (List.forall_mem_cons.mpr ⟨(mi_X2_mergeAll_4 (List.mem_of_getElem? (i := 19) rfl)), fun _ h => absurd h List.not_mem_nil⟩) (by decide +kernel)) (goodIn_app (goodIn_app (goodIn_app (goodIn_app (goodIn_sub gi_X2_mergeAll_X2_joinFresh_0 (by decide +kernel)) (goodIn_app (goodIn_sub gi_X2_mergeAll_X2_joinFresh_1 (by decide +kernel)) (goodIn_app (goodIn_sub gi_X2_mergeAll_X2_joinFresh_2 (by decide +kernel)) (goodIn_sub gi_X2_mergeAll_X2_joinFresh_3 (by decide +kernel))))) (goodIn_sub (fun _ h => (List.mem_cons_of_mem _ (List.mem_append_left _ (List.mem_append_left _ (List.mem_append_right _ h))))) (by decide +kernel))) (goodIn_sub (fun _ h => (List.mem_cons_of_mem _ (List.mem_append_left _ (List.mem_append_right _ h)))) (by decide +kernel))) (goodIn_sub (fun _ h => (List.mem_cons_of_mem _ (List.mem_append_right _ h))) (by decide +kernel)))
set_option maxRecDepth 20000 in
theorem ggX2_mergeAll_X2_joinFresh : GoodIn wsX2_mergeAll wsX2_joinFresh := gi_X2_mergeAll_X2_joinFresh
set_option maxRecDepth 20000 in
theorem gX2_mergeAll_X2_joinFresh : GoodIn wsX2_mergeAll (wsV RX2 252 RX2 yX2_joinFresh wsX2_joinFresh) := goodIn_app (goodIn_of _ (by decide +kernel)) ggX2_mergeAll_X2_joinFresh
theorem dX2_mergeAll_0 : decode cX2_mergeAll 0 = .ok (.aload_n 0, 1) := by decide +kernel
theorem dX2_mergeAll_1 : decode cX2_mergeAll 1 = .ok (.getfield 40, 3) := by decide +kernel
theorem dX2_mergeAll_4 : decode cX2_mergeAll 4 = .ok (.invokevirtual 215, 3) := by decide +kernel
theorem dX2_mergeAll_7 : decode cX2_mergeAll 7 = .ok (.aload_n 0, 1) := by decide +kernel
theorem dX2_mergeAll_8 : decode cX2_mergeAll 8 = .ok (.getfield 43, 3) := by decide +kernel
theorem dX2_mergeAll_11 : decode cX2_mergeAll 11 = .ok (.invokevirtual 215, 3) := by decide +kernel
theorem dX2_mergeAll_14 : decode cX2_mergeAll 14 = .ok (.aload_n 0, 1) := by decide +kernel
theorem dX2_mergeAll_15 : decode cX2_mergeAll 15 = .ok (.getfield 24, 3) := by decide +kernel
theorem dX2_mergeAll_18 : decode cX2_mergeAll 18 = .ok (.invokevirtual 76, 3) := by decide +kernel
theorem dX2_mergeAll_21 : decode cX2_mergeAll 21 = .ok (.ifCond .ne 23, 3) := by decide +kernel
theorem dX2_mergeAll_24 : decode cX2_mergeAll 24 = .ok (.aload_n 0, 1) := by decide +kernel
theorem dX2_mergeAll_25 : decode cX2_mergeAll 25 = .ok (.iconst 0, 1) := by decide +kernel
theorem dX2_mergeAll_26 : decode cX2_mergeAll 26 = .ok (.iconst 0, 1) := by decide +kernel
theorem dX2_mergeAll_27 : decode cX2_mergeAll 27 = .ok (.iconst 0, 1) := by decide +kernel
theorem dX2_mergeAll_28 : decode cX2_mergeAll 28 = .ok (.aload_n 0, 1) := by decide +kernel
theorem dX2_mergeAll_29 : decode cX2_mergeAll 29 = .ok (.getfield 21, 3) := by decide +kernel
theorem dX2_mergeAll_32 : decode cX2_mergeAll 32 = .ok (.invokevirtual 76, 3) := by decide +kernel
theorem dX2_mergeAll_35 : decode cX2_mergeAll 35 = .ok (.invokevirtual 242, 3) := by decide +kernel
theorem dX2_mergeAll_38 : decode cX2_mergeAll 38 = .ok (.pop, 1) := by decide +kernel
theorem dX2_mergeAll_39 : decode cX2_mergeAll 39 = .ok (.aload_n 0, 1) := by decide +kernel
theorem dX2_mergeAll_40 : decode cX2_mergeAll 40 = .ok (.iconst 0, 1) := by decide +kernel
theorem dX2_mergeAll_41 : decode cX2_mergeAll 41 = .ok (.invokevirtual 246, 3) := by decide +kernel
theorem dX2_mergeAll_44 : decode cX2_mergeAll 44 = .ok (.iconst 0, 1) := by decide +kernel
theorem dX2_mergeAll_45 : decode cX2_mergeAll 45 = .ok (.istore_n 1, 1) := by decide +kernel
theorem dX2_mergeAll_46 : decode cX2_mergeAll 46 = .ok (.iload_n 1, 1) := by decide +kernel
theorem dX2_mergeAll_47 : decode cX2_mergeAll 47 = .ok (.aload_n 0, 1) := by decide +kernel
theorem dX2_mergeAll_48 : decode cX2_mergeAll 48 = .ok (.getfield 24, 3) := by decide +kernel
theorem dX2_mergeAll_51 : decode cX2_mergeAll 51 = .ok (.invokevirtual 76, 3) := by decide +kernel
theorem dX2_mergeAll_54 : decode cX2_mergeAll 54 = .ok (.if_icmp .ge 14, 3) := by decide +kernel
theorem dX2_mergeAll_57 : decode cX2_mergeAll 57 = .ok (.aload_n 0, 1) := by decide +kernel
theorem dX2_mergeAll_58 : decode cX2_mergeAll 58 = .ok (.iload_n 1, 1) := by decide +kernel
theorem dX2_mergeAll_59 : decode cX2_mergeAll 59 = .ok (.invokevirtual 249, 3) := by decide +kernel
theorem dX2_mergeAll_62 : decode cX2_mergeAll 62 = .ok (.iinc 1 1, 3) := by decide +kernel
theorem dX2_mergeAll_65 : decode cX2_mergeAll 65 = .ok (.goto (-19), 3) := by decide +kernel
theorem dX2_mergeAll_68 : decode cX2_mergeAll 68 = .ok (.aload_n 0, 1) := by decide +kernel
theorem dX2_mergeAll_69 : decode cX2_mergeAll 69 = .ok (.invokevirtual 131, 3) := by decide +kernel
theorem dX2_mergeAll_72 : decode cX2_mergeAll 72 = .ok (.iconst 0, 1) := by decide +kernel
theorem dX2_mergeAll_73 : decode cX2_mergeAll 73 = .ok (.istore_n 1, 1) := by decide +kernel
theorem dX2_mergeAll_74 : decode cX2_mergeAll 74 = .ok (.iload_n 1, 1) := by decide +kernel
theorem dX2_mergeAll_75 : decode cX2_mergeAll 75 = .ok (.aload_n 0, 1) := by decide +kernel
theorem dX2_mergeAll_76 : decode cX2_mergeAll 76 = .ok (.getfield 40, 3) := by decide +kernel
theorem dX2_mergeAll_79 : decode cX2_mergeAll 79 = .ok (.invokevirtual 76, 3) := by decide +kernel
theorem dX2_mergeAll_82 : decode cX2_mergeAll 82 = .ok (.if_icmp .ge 32, 3) := by decide +kernel
theorem dX2_mergeAll_85 : decode cX2_mergeAll 85 = .ok (.aload_n 0, 1) := by decide +kernel
theorem dX2_mergeAll_86 : decode cX2_mergeAll 86 = .ok (.getfield 14, 3) := by decide +kernel
theorem dX2_mergeAll_89 : decode cX2_mergeAll 89 = .ok (.aload_n 0, 1) := by decide +kernel
theorem dX2_mergeAll_90 : decode cX2_mergeAll 90 = .ok (.getfield 40, 3) := by decide +kernel
theorem dX2_mergeAll_93 : decode cX2_mergeAll 93 = .ok (.iload_n 1, 1) := by decide +kernel
theorem dX2_mergeAll_94 : decode cX2_mergeAll 94 = .ok (.invokevirtual 134, 3) := by decide +kernel
theorem dX2_mergeAll_97 : decode cX2_mergeAll 97 = .ok (.invokevirtual 199, 3) := by decide +kernel
theorem dX2_mergeAll_100 : decode cX2_mergeAll 100 = .ok (.aload_n 0, 1) := by decide +kernel
theorem dX2_mergeAll_101 : decode cX2_mergeAll 101 = .ok (.getfield 18, 3) := by decide +kernel
theorem dX2_mergeAll_104 : decode cX2_mergeAll 104 = .ok (.iconst 0, 1) := by decide +kernel
theorem dX2_mergeAll_105 : decode cX2_mergeAll 105 = .ok (.invokevirtual 199, 3) := by decide +kernel
theorem dX2_mergeAll_108 : decode cX2_mergeAll 108 = .ok (.iinc 1 1, 3) := by decide +kernel
theorem dX2_mergeAll_111 : decode cX2_mergeAll 111 = .ok (.goto (-37), 3) := by decide +kernel
theorem dX2_mergeAll_114 : decode cX2_mergeAll 114 = .ok (.aload_n 0, 1) := by decide +kernel
theorem dX2_mergeAll_115 : decode cX2_mergeAll 115 = .ok (.invokevirtual 252, 3) := by decide +kernel
theorem dX2_mergeAll_118 : decode cX2_mergeAll 118 = .ok (.aload_n 0, 1) := by decide +kernel
theorem dX2_mergeAll_119 : decode cX2_mergeAll 119 = .ok (.dup, 1) := by decide +kernel
theorem dX2_mergeAll_120 : decode cX2_mergeAll 120 = .ok (.getfield 56, 3) := by decide +kernel
theorem dX2_mergeAll_123 : decode cX2_mergeAll 123 = .ok (.iconst 1, 1) := by decide +kernel
theorem dX2_mergeAll_124 : decode cX2_mergeAll 124 = .ok (.iadd, 1) := by decide +kernel
theorem dX2_mergeAll_125 : decode cX2_mergeAll 125 = .ok (.putfield 56, 3) := by decide +kernel
theorem dX2_mergeAll_128 : decode cX2_mergeAll 128 = .ok (.return_, 1) := by decide +kernel
set_option maxRecDepth 20000 in
theorem ggX2_mergePiece_X2_firstOf : GoodIn wsX2_mergePiece wsX2_firstOf := goodIn_r _ [9, 10, 2, 11, 12, 13, 14, 15, 16, 17, 18, 19, 20, 21, 69, 70, 71, 72, 73, 74, 75, 76, 77, 78, 79, 80, 81, 82, 83, 84, 85] (by decide +kernel) (by decide +kernel)
set_option maxRecDepth 20000 in
theorem gX2_mergePiece_X2_firstOf : GoodIn wsX2_mergePiece (wsV RX2 177 RX2 yX2_firstOf wsX2_firstOf) := goodIn_app (goodIn_of _ (by decide +kernel)) ggX2_mergePiece_X2_firstOf
set_option maxRecDepth 20000 in
theorem ggX2_mergePiece_X0_below : GoodIn wsX2_mergePiece wsX0_below := goodIn_r _ [25, 21, 26, 12, 13, 14, 15, 16, 17, 18, 19, 20, 84, 85] (by decide +kernel) (by decide +kernel)
set_option maxRecDepth 20000 in
theorem gX2_mergePiece_X0_below : GoodIn wsX2_mergePiece (wsV RX2 114 RX0 yX0_below wsX0_below) := goodIn_app (goodIn_of _ (by decide +kernel)) ggX2_mergePiece_X0_below
set_option maxRecDepth 20000 in
theorem ggX2_mergePiece_X0_has : GoodIn wsX2_mergePiece wsX0_has := goodIn_r _ [20, 21, 16, 84, 85] (by decide +kernel) (by decide +kernel)
set_option maxRecDepth 20000 in
theorem gX2_mergePiece_X0_has : GoodIn wsX2_mergePiece (wsV RX2 192 RX0 yX0_has wsX0_has) := goodIn_app (goodIn_of _ (by decide +kernel)) ggX2_mergePiece_X0_has
set_option maxRecDepth 20000 in
theorem ggX2_mergePiece_X0_length : GoodIn wsX2_mergePiece wsX0_length := goodIn_r _ [31, 21, 84, 85] (by decide +kernel) (by decide +kernel)
set_option maxRecDepth 20000 in
theorem gX2_mergePiece_X0_length : GoodIn wsX2_mergePiece (wsV RX2 76 RX0 yX0_length wsX0_length) := goodIn_app (goodIn_of _ (by decide +kernel)) ggX2_mergePiece_X0_length
set_option maxRecDepth 20000 in
theorem ggX2_mergePiece_X0_at : GoodIn wsX2_mergePiece wsX0_at := goodIn_r _ [15, 16, 17, 18, 19, 14, 20, 21, 84, 85] (by decide +kernel) (by decide +kernel)
set_option maxRecDepth 20000 in
theorem gX2_mergePiece_X0_at : GoodIn wsX2_mergePiece (wsV RX2 134 RX0 yX0_at wsX0_at) := goodIn_app (goodIn_of _ (by decide +kernel)) ggX2_mergePiece_X0_at
set_option maxRecDepth 20000 in
theorem ggX2_mergePiece_X2_endOf : GoodIn wsX2_mergePiece wsX2_endOf := goodIn_r _ [35, 2, 10, 27, 18, 19, 14, 20, 21, 16, 11, 12, 13, 15, 17, 28, 29, 30, 31, 69, 70, 71, 72, 73, 74, 75, 76, 77, 78, 79, 80, 81, 82, 83, 84, 85] (by decide +kernel) (by decide +kernel)
set_option maxRecDepth 20000 in
theorem gX2_mergePiece_X2_endOf : GoodIn wsX2_mergePiece (wsV RX2 161 RX2 yX2_endOf wsX2_endOf) := goodIn_app (goodIn_of _ (by decide +kernel)) ggX2_mergePiece_X2_endOf
set_option maxRecDepth 20000 in
theorem ggX2_mergePiece_X2_gather : GoodIn wsX2_mergePiece wsX2_gather := goodIn_r _ [39, 10, 1, 3, 40, 11, 12, 13, 14, 15, 16, 17, 18, 19, 20, 21, 41, 42, 43, 44, 69, 70, 71, 72, 73, 74, 75, 76, 77, 78, 79, 80, 81, 82, 83, 84, 85] (by decide +kernel) (by decide +kernel)
set_option maxRecDepth 20000 in
theorem gX2_mergePiece_X2_gather : GoodIn wsX2_mergePiece (wsV RX2 242 RX2 yX2_gather wsX2_gather) := goodIn_app (goodIn_of _ (by decide +kernel)) ggX2_mergePiece_X2_gather
theorem mi_X2_mergePiece_1 {w : Cond} (h : w ∈ wsX2_mergePiece_r1) : w ∈ wsX2_mergePiece := (List.mem_cons_of_mem _ (List.mem_append_left _ (List.mem_append_left _ (List.mem_append_left _ (List.mem_append_left _ h)))))
theorem mi_X2_mergePiece_2 {w : Cond} (h : w ∈ wsX2_mergePiece_r2) : w ∈ wsX2_mergePiece := (List.mem_cons_of_mem _ (List.mem_append_left _ (List.mem_append_left _ (List.mem_append_left _ (List.mem_append_right _ (List.mem_append_left _ h))))))
theorem mi_X2_mergePiece_3 {w : Cond} (h : w ∈ wsX2_mergePiece_r3) : w ∈ wsX2_mergePiece := (List.mem_cons_of_mem _ (List.mem_append_left _ (List.mem_append_left _ (List.mem_append_left _ (List.mem_append_right _ (List.mem_append_right _ h))))))
set_option maxRecDepth 20000 in
theorem gi_X2_mergePiece_X2_cutFresh_0 : ∀ w ∈ wsX2_cutFresh_r1, w ∈ wsX2_mergePiece := by
  unfold wsX2_cutFresh_r1
  exact (List.forall_mem_cons.mpr ⟨(mi_X2_mergePiece_1 (List.mem_of_getElem? (i := 2) rfl)), (List.forall_mem_cons.mpr ⟨(mi_X2_mergePiece_3 (List.mem_of_getElem? (i := 0) rfl)), (List.forall_mem_cons.mpr ⟨(mi_X2_mergePiece_3 (List.mem_of_getElem? (i := 1) rfl)), (List.forall_mem_cons.mpr ⟨(mi_X2_mergePiece_1 (List.mem_of_getElem? (i := 3) rfl)), (List.forall_mem_cons.mpr ⟨(mi_X2_mergePiece_3 (List.mem_of_getElem? (i := 2) rfl)), (List.forall_mem_cons.mpr ⟨(mi_X2_mergePiece_2 (List.mem_of_getElem? (i := 3) rfl)), (List.forall_mem_cons.mpr ⟨(mi_X2_mergePiece_2 (List.mem_of_getElem? (i := 4) rfl)), (List.forall_mem_cons.mpr ⟨(mi_X2_mergePiece_2 (List.mem_of_getElem? (i := 5) rfl)), (List.forall_mem_cons.mpr ⟨(mi_X2_mergePiece_1 (List.mem_of_getElem? (i := 13) rfl)), (List.forall_mem_cons.mpr ⟨(mi_X2_mergePiece_2 (List.mem_of_getElem? (i := 6) rfl)), (List.forall_mem_cons.mpr ⟨(mi_X2_mergePiece_1 (List.mem_of_getElem? (i := 20) rfl)), (List.forall_mem_cons.mpr ⟨(mi_X2_mergePiece_1 (List.mem_of_getElem? (i := 10) rfl)), (List.forall_mem_cons.mpr ⟨(mi_X2_mergePiece_1 (List.mem_of_getElem? (i := 11) rfl)), (List.forall_mem_cons.mpr ⟨(mi_X2_mergePiece_1 (List.mem_of_getElem? (i := 12) rfl)), (List.forall_mem_cons.mpr ⟨(mi_X2_mergePiece_1 (List.mem_of_getElem? (i := 14) rfl)), (List.forall_mem_cons.mpr ⟨(mi_X2_mergePiece_1 (List.mem_of_getElem? (i := 15) rfl)), (List.forall_mem_cons.mpr ⟨(mi_X2_mergePiece_1 (List.mem_of_getElem? (i := 16) rfl)), (List.forall_mem_cons.mpr ⟨(mi_X2_mergePiece_1 (List.mem_of_getElem? (i := 17) rfl)), (List.forall_mem_cons.mpr ⟨(mi_X2_mergePiece_1 (List.mem_of_getElem? (i := 18) rfl)), (List.forall_mem_cons.mpr ⟨(mi_X2_mergePiece_1 (List.mem_of_getElem? (i := 19) rfl)), (List.forall_mem_cons.mpr ⟨(mi_X2_mergePiece_3 (List.mem_of_getElem? (i := 3) rfl)), (List.forall_mem_cons.mpr ⟨(mi_X2_mergePiece_3 (List.mem_of_getElem? (i := 4) rfl)), (List.forall_mem_cons.mpr ⟨(mi_X2_mergePiece_3 (List.mem_of_getElem? (i := 5) rfl)), (List.forall_mem_cons.mpr ⟨(mi_X2_mergePiece_3 (List.mem_of_getElem? (i := 6) rfl)), (fun _ h => absurd h List.not_mem_nil)⟩)⟩)⟩)⟩)⟩)⟩)⟩)⟩)⟩)⟩)⟩)⟩)⟩)⟩)⟩)⟩)⟩)⟩)⟩)⟩)⟩)⟩)⟩)⟩)
set_option maxRecDepth 20000 in
theorem gi_X2_mergePiece_X2_cutFresh_1 : ∀ w ∈ wsX2_cutFresh_r2, w ∈ wsX2_mergePiece := by
  unfold wsX2_cutFresh_r2
  exact (List.forall_mem_cons.mpr ⟨(mi_X2_mergePiece_3 (List.mem_of_getElem? (i := 7) rfl)), (List.forall_mem_cons.mpr ⟨(mi_X2_mergePiece_3 (List.mem_of_getElem? (i := 8) rfl)), (List.forall_mem_cons.mpr ⟨(mi_X2_mergePiece_3 (List.mem_of_getElem? (i := 9) rfl)), (List.forall_mem_cons.mpr ⟨(mi_X2_mergePiece_3 (List.mem_of_getElem? (i := 10) rfl)), (List.forall_mem_cons.mpr ⟨(mi_X2_mergePiece_3 (List.mem_of_getElem? (i := 11) rfl)), (List.forall_mem_cons.mpr ⟨(mi_X2_mergePiece_3 (List.mem_of_getElem? (i := 12) rfl)), (List.forall_mem_cons.mpr ⟨(mi_X2_mergePiece_3 (List.mem_of_getElem? (i := 13) rfl)), (List.forall_mem_cons.mpr ⟨(mi_X2_mergePiece_3 (List.mem_of_getElem? (i := 14) rfl)), (List.forall_mem_cons.mpr ⟨(mi_X2_mergePiece_3 (List.mem_of_getElem? (i := 15) rfl)), (List.forall_mem_cons.mpr ⟨(mi_X2_mergePiece_3 (List.mem_of_getElem? (i := 16) rfl)), (List.forall_mem_cons.mpr ⟨(mi_X2_mergePiece_3 (List.mem_of_getElem? (i := 17) rfl)), (List.forall_mem_cons.mpr ⟨(mi_X2_mergePiece_3 (List.mem_of_getElem? (i := 18) rfl)), (List.forall_mem_cons.mpr ⟨(mi_X2_mergePiece_3 (List.mem_of_getElem? (i := 19) rfl)), (List.forall_mem_cons.mpr ⟨(mi_X2_mergePiece_2 (List.mem_of_getElem? (i := 16) rfl)), (List.forall_mem_cons.mpr ⟨(mi_X2_mergePiece_2 (List.mem_of_getElem? (i := 17) rfl)), (List.forall_mem_cons.mpr ⟨(mi_X2_mergePiece_2 (List.mem_of_getElem? (i := 18) rfl)), (List.forall_mem_cons.mpr ⟨(mi_X2_mergePiece_2 (List.mem_of_getElem? (i := 19) rfl)), (fun _ h => absurd h List.not_mem_nil)⟩)⟩)⟩)⟩)⟩)⟩)⟩)⟩)⟩)⟩)⟩)⟩)⟩)⟩)⟩)⟩)⟩)
theorem gi_X2_mergePiece_X2_cutFresh : GoodIn wsX2_mergePiece (.code yX2_cutFresh cX2_cutFresh 4 none :: ((wsX2_cutFresh_r1 ++ wsX2_cutFresh_r2) ++ wsX20 ++ wsX00 ++ wsX10)) := goodIn_c (goodIn_sub (List.forall_mem_cons.mpr ⟨(mi_X2_mergePiece_2 (List.mem_of_getElem? (i := 23) rfl)), fun _ h => absurd h List.not_mem_nil⟩) (by decide +kernel)) (goodIn_app (goodIn_app (goodIn_app (goodIn_app (goodIn_sub gi_X2_mergePiece_X2_cutFresh_0 (by decide +kernel)) (goodIn_sub gi_X2_mergePiece_X2_cutFresh_1 (by decide +kernel))) (goodIn_sub (fun _ h => (List.mem_cons_of_mem _ (List.mem_append_left _ (List.mem_append_left _ (List.mem_append_right _ h))))) (by decide +kernel))) (goodIn_sub (fun _ h => (List.mem_cons_of_mem _ (List.mem_append_left _ (List.mem_append_right _ h)))) (by decide +kernel))) (goodIn_sub (fun _ h => (List.mem_cons_of_mem _ (List.mem_append_right _ h))) (by decide +kernel)))
set_option maxRecDepth 20000 in
theorem ggX2_mergePiece_X2_cutFresh : GoodIn wsX2_mergePiece wsX2_cutFresh := gi_X2_mergePiece_X2_cutFresh
set_option maxRecDepth 20000 in
theorem gX2_mergePiece_X2_cutFresh : GoodIn wsX2_mergePiece (wsV RX2 246 RX2 yX2_cutFresh wsX2_cutFresh) := goodIn_app (goodIn_of _ (by decide +kernel)) ggX2_mergePiece_X2_cutFresh
set_option maxRecDepth 20000 in
theorem ggX2_mergePiece_X0_push : GoodIn wsX2_mergePiece wsX0_push := goodIn_r _ [44, 21, 16, 84, 85] (by decide +kernel) (by decide +kernel)
set_option maxRecDepth 20000 in
theorem gX2_mergePiece_X0_push : GoodIn wsX2_mergePiece (wsV RX2 199 RX0 yX0_push wsX0_push) := goodIn_app (goodIn_of _ (by decide +kernel)) ggX2_mergePiece_X0_push
theorem dX2_mergePiece_0 : decode cX2_mergePiece 0 = .ok (.iload_n 1, 1) := by decide +kernel
theorem dX2_mergePiece_1 : decode cX2_mergePiece 1 = .ok (.ifCond .ne 7, 3) := by decide +kernel
theorem dX2_mergePiece_4 : decode cX2_mergePiece 4 = .ok (.iconst 0, 1) := by decide +kernel
theorem dX2_mergePiece_5 : decode cX2_mergePiece 5 = .ok (.goto 15, 3) := by decide +kernel
theorem dX2_mergePiece_8 : decode cX2_mergePiece 8 = .ok (.aload_n 0, 1) := by decide +kernel
theorem dX2_mergePiece_9 : decode cX2_mergePiece 9 = .ok (.getfield 21, 3) := by decide +kernel
theorem dX2_mergePiece_12 : decode cX2_mergePiece 12 = .ok (.aload_n 0, 1) := by decide +kernel
theorem dX2_mergePiece_13 : decode cX2_mergePiece 13 = .ok (.iload_n 1, 1) := by decide +kernel
theorem dX2_mergePiece_14 : decode cX2_mergePiece 14 = .ok (.invokevirtual 177, 3) := by decide +kernel
theorem dX2_mergePiece_17 : decode cX2_mergePiece 17 = .ok (.invokevirtual 114, 3) := by decide +kernel
theorem dX2_mergePiece_20 : decode cX2_mergePiece 20 = .ok (.istore_n 2, 1) := by decide +kernel
theorem dX2_mergePiece_21 : decode cX2_mergePiece 21 = .ok (.aload_n 0, 1) := by decide +kernel
theorem dX2_mergePiece_22 : decode cX2_mergePiece 22 = .ok (.getfield 24, 3) := by decide +kernel
theorem dX2_mergePiece_25 : decode cX2_mergePiece 25 = .ok (.iload_n 1, 1) := by decide +kernel
theorem dX2_mergePiece_26 : decode cX2_mergePiece 26 = .ok (.iconst 1, 1) := by decide +kernel
theorem dX2_mergePiece_27 : decode cX2_mergePiece 27 = .ok (.iadd, 1) := by decide +kernel
theorem dX2_mergePiece_28 : decode cX2_mergePiece 28 = .ok (.invokevirtual 192, 3) := by decide +kernel
theorem dX2_mergePiece_31 : decode cX2_mergePiece 31 = .ok (.ifCond .eq 20, 3) := by decide +kernel
theorem dX2_mergePiece_34 : decode cX2_mergePiece 34 = .ok (.aload_n 0, 1) := by decide +kernel
theorem dX2_mergePiece_35 : decode cX2_mergePiece 35 = .ok (.getfield 21, 3) := by decide +kernel
theorem dX2_mergePiece_38 : decode cX2_mergePiece 38 = .ok (.aload_n 0, 1) := by decide +kernel
theorem dX2_mergePiece_39 : decode cX2_mergePiece 39 = .ok (.iload_n 1, 1) := by decide +kernel
theorem dX2_mergePiece_40 : decode cX2_mergePiece 40 = .ok (.iconst 1, 1) := by decide +kernel
theorem dX2_mergePiece_41 : decode cX2_mergePiece 41 = .ok (.iadd, 1) := by decide +kernel
theorem dX2_mergePiece_42 : decode cX2_mergePiece 42 = .ok (.invokevirtual 177, 3) := by decide +kernel
theorem dX2_mergePiece_45 : decode cX2_mergePiece 45 = .ok (.invokevirtual 114, 3) := by decide +kernel
theorem dX2_mergePiece_48 : decode cX2_mergePiece 48 = .ok (.goto 10, 3) := by decide +kernel
theorem dX2_mergePiece_51 : decode cX2_mergePiece 51 = .ok (.aload_n 0, 1) := by decide +kernel
theorem dX2_mergePiece_52 : decode cX2_mergePiece 52 = .ok (.getfield 21, 3) := by decide +kernel
theorem dX2_mergePiece_55 : decode cX2_mergePiece 55 = .ok (.invokevirtual 76, 3) := by decide +kernel
theorem dX2_mergePiece_58 : decode cX2_mergePiece 58 = .ok (.istore_n 3, 1) := by decide +kernel
theorem dX2_mergePiece_59 : decode cX2_mergePiece 59 = .ok (.aload_n 0, 1) := by decide +kernel
theorem dX2_mergePiece_60 : decode cX2_mergePiece 60 = .ok (.getfield 40, 3) := by decide +kernel
theorem dX2_mergePiece_63 : decode cX2_mergePiece 63 = .ok (.invokevirtual 76, 3) := by decide +kernel
theorem dX2_mergePiece_66 : decode cX2_mergePiece 66 = .ok (.istore 4, 2) := by decide +kernel
theorem dX2_mergePiece_68 : decode cX2_mergePiece 68 = .ok (.aload_n 0, 1) := by decide +kernel
theorem dX2_mergePiece_69 : decode cX2_mergePiece 69 = .ok (.aload_n 0, 1) := by decide +kernel
theorem dX2_mergePiece_70 : decode cX2_mergePiece 70 = .ok (.getfield 24, 3) := by decide +kernel
theorem dX2_mergePiece_73 : decode cX2_mergePiece 73 = .ok (.iload_n 1, 1) := by decide +kernel
theorem dX2_mergePiece_74 : decode cX2_mergePiece 74 = .ok (.invokevirtual 134, 3) := by decide +kernel
theorem dX2_mergePiece_77 : decode cX2_mergePiece 77 = .ok (.aload_n 0, 1) := by decide +kernel
theorem dX2_mergePiece_78 : decode cX2_mergePiece 78 = .ok (.iload_n 1, 1) := by decide +kernel
theorem dX2_mergePiece_79 : decode cX2_mergePiece 79 = .ok (.invokevirtual 161, 3) := by decide +kernel
theorem dX2_mergePiece_82 : decode cX2_mergePiece 82 = .ok (.iload_n 2, 1) := by decide +kernel
theorem dX2_mergePiece_83 : decode cX2_mergePiece 83 = .ok (.iload_n 3, 1) := by decide +kernel
theorem dX2_mergePiece_84 : decode cX2_mergePiece 84 = .ok (.invokevirtual 242, 3) := by decide +kernel
theorem dX2_mergePiece_87 : decode cX2_mergePiece 87 = .ok (.istore 5, 2) := by decide +kernel
theorem dX2_mergePiece_89 : decode cX2_mergePiece 89 = .ok (.iload 5, 2) := by decide +kernel
theorem dX2_mergePiece_91 : decode cX2_mergePiece 91 = .ok (.ifCond .ne 8, 3) := by decide +kernel
theorem dX2_mergePiece_94 : decode cX2_mergePiece 94 = .ok (.iload_n 2, 1) := by decide +kernel
theorem dX2_mergePiece_95 : decode cX2_mergePiece 95 = .ok (.iload_n 3, 1) := by decide +kernel
theorem dX2_mergePiece_96 : decode cX2_mergePiece 96 = .ok (.if_icmp .ge 12, 3) := by decide +kernel
theorem dX2_mergePiece_99 : decode cX2_mergePiece 99 = .ok (.aload_n 0, 1) := by decide +kernel
theorem dX2_mergePiece_100 : decode cX2_mergePiece 100 = .ok (.iload 4, 2) := by decide +kernel
theorem dX2_mergePiece_102 : decode cX2_mergePiece 102 = .ok (.invokevirtual 246, 3) := by decide +kernel
theorem dX2_mergePiece_105 : decode cX2_mergePiece 105 = .ok (.goto 12, 3) := by decide +kernel
theorem dX2_mergePiece_108 : decode cX2_mergePiece 108 = .ok (.aload_n 0, 1) := by decide +kernel
theorem dX2_mergePiece_109 : decode cX2_mergePiece 109 = .ok (.getfield 43, 3) := by decide +kernel
theorem dX2_mergePiece_112 : decode cX2_mergePiece 112 = .ok (.iload 4, 2) := by decide +kernel
theorem dX2_mergePiece_114 : decode cX2_mergePiece 114 = .ok (.invokevirtual 199, 3) := by decide +kernel
theorem dX2_mergePiece_117 : decode cX2_mergePiece 117 = .ok (.return_, 1) := by decide +kernel
set_option maxRecDepth 20000 in
theorem ggX2_gatherAll_X0_clear : GoodIn wsX2_gatherAll wsX0_clear := goodIn_r _ [8, 9, 48, 49] (by decide +kernel) (by decide +kernel)
set_option maxRecDepth 20000 in
theorem gX2_gatherAll_X0_clear : GoodIn wsX2_gatherAll (wsV RX2 215 RX0 yX0_clear wsX0_clear) := goodIn_app (goodIn_of _ (by decide +kernel)) ggX2_gatherAll_X0_clear
set_option maxRecDepth 20000 in
theorem ggX2_gatherAll_X0_length : GoodIn wsX2_gatherAll wsX0_length := goodIn_r _ [13, 9, 48, 49] (by decide +kernel) (by decide +kernel)
set_option maxRecDepth 20000 in
theorem gX2_gatherAll_X0_length : GoodIn wsX2_gatherAll (wsV RX2 76 RX0 yX0_length wsX0_length) := goodIn_app (goodIn_of _ (by decide +kernel)) ggX2_gatherAll_X0_length
set_option maxRecDepth 20000 in
theorem ggX2_gatherAll_X2_gather : GoodIn wsX2_gatherAll wsX2_gather := goodIn_r _ [18, 2, 3, 1, 19, 20, 21, 22, 7, 23, 24, 25, 26, 27, 28, 9, 29, 30, 31, 32, 33, 34, 35, 36, 37, 38, 39, 40, 41, 42, 43, 44, 45, 46, 47, 48, 49] (by decide +kernel) (by decide +kernel)
set_option maxRecDepth 20000 in
theorem gX2_gatherAll_X2_gather : GoodIn wsX2_gatherAll (wsV RX2 242 RX2 yX2_gather wsX2_gather) := goodIn_app (goodIn_of _ (by decide +kernel)) ggX2_gatherAll_X2_gather
theorem dX2_gatherAll_0 : decode cX2_gatherAll 0 = .ok (.aload_n 0, 1) := by decide +kernel
theorem dX2_gatherAll_1 : decode cX2_gatherAll 1 = .ok (.getfield 40, 3) := by decide +kernel
theorem dX2_gatherAll_4 : decode cX2_gatherAll 4 = .ok (.invokevirtual 215, 3) := by decide +kernel
theorem dX2_gatherAll_7 : decode cX2_gatherAll 7 = .ok (.aload_n 0, 1) := by decide +kernel
theorem dX2_gatherAll_8 : decode cX2_gatherAll 8 = .ok (.iconst 0, 1) := by decide +kernel
theorem dX2_gatherAll_9 : decode cX2_gatherAll 9 = .ok (.aload_n 0, 1) := by decide +kernel
theorem dX2_gatherAll_10 : decode cX2_gatherAll 10 = .ok (.getfield 14, 3) := by decide +kernel
theorem dX2_gatherAll_13 : decode cX2_gatherAll 13 = .ok (.invokevirtual 76, 3) := by decide +kernel
theorem dX2_gatherAll_16 : decode cX2_gatherAll 16 = .ok (.iconst 0, 1) := by decide +kernel
theorem dX2_gatherAll_17 : decode cX2_gatherAll 17 = .ok (.aload_n 0, 1) := by decide +kernel
theorem dX2_gatherAll_18 : decode cX2_gatherAll 18 = .ok (.getfield 21, 3) := by decide +kernel
theorem dX2_gatherAll_21 : decode cX2_gatherAll 21 = .ok (.invokevirtual 76, 3) := by decide +kernel
theorem dX2_gatherAll_24 : decode cX2_gatherAll 24 = .ok (.invokevirtual 242, 3) := by decide +kernel
theorem dX2_gatherAll_27 : decode cX2_gatherAll 27 = .ok (.pop, 1) := by decide +kernel
theorem dX2_gatherAll_28 : decode cX2_gatherAll 28 = .ok (.return_, 1) := by decide +kernel
set_option maxRecDepth 20000 in
theorem ggX2_gather_X0_at : GoodIn wsX2_gather wsX0_at := goodIn_r _ [9, 10, 11, 12, 13, 8, 14, 15, 35, 36] (by decide +kernel) (by decide +kernel)
set_option maxRecDepth 20000 in
theorem gX2_gather_X0_at : GoodIn wsX2_gather (wsV RX2 134 RX0 yX0_at wsX0_at) := goodIn_app (goodIn_of _ (by decide +kernel)) ggX2_gather_X0_at
set_option maxRecDepth 20000 in
theorem ggX2_gather_X0_push : GoodIn wsX2_gather wsX0_push := goodIn_r _ [19, 15, 10, 35, 36] (by decide +kernel) (by decide +kernel)
set_option maxRecDepth 20000 in
theorem gX2_gather_X0_push : GoodIn wsX2_gather (wsV RX2 199 RX0 yX0_push wsX0_push) := goodIn_app (goodIn_of _ (by decide +kernel)) ggX2_gather_X0_push
theorem dX2_gather_0 : decode cX2_gather 0 = .ok (.iconst 0, 1) := by decide +kernel
theorem dX2_gather_1 : decode cX2_gather 1 = .ok (.istore 5, 2) := by decide +kernel
theorem dX2_gather_3 : decode cX2_gather 3 = .ok (.iload_n 3, 1) := by decide +kernel
theorem dX2_gather_4 : decode cX2_gather 4 = .ok (.istore 6, 2) := by decide +kernel
theorem dX2_gather_6 : decode cX2_gather 6 = .ok (.iload_n 1, 1) := by decide +kernel
theorem dX2_gather_7 : decode cX2_gather 7 = .ok (.istore 7, 2) := by decide +kernel
theorem dX2_gather_9 : decode cX2_gather 9 = .ok (.iload 7, 2) := by decide +kernel
theorem dX2_gather_11 : decode cX2_gather 11 = .ok (.iload_n 2, 1) := by decide +kernel
theorem dX2_gather_12 : decode cX2_gather 12 = .ok (.if_icmp .ge 90, 3) := by decide +kernel
theorem dX2_gather_15 : decode cX2_gather 15 = .ok (.aload_n 0, 1) := by decide +kernel
theorem dX2_gather_16 : decode cX2_gather 16 = .ok (.getfield 14, 3) := by decide +kernel
theorem dX2_gather_19 : decode cX2_gather 19 = .ok (.iload 7, 2) := by decide +kernel
theorem dX2_gather_21 : decode cX2_gather 21 = .ok (.invokevirtual 134, 3) := by decide +kernel
theorem dX2_gather_24 : decode cX2_gather 24 = .ok (.istore 8, 2) := by decide +kernel
theorem dX2_gather_26 : decode cX2_gather 26 = .ok (.iload 6, 2) := by decide +kernel
theorem dX2_gather_28 : decode cX2_gather 28 = .ok (.iload 4, 2) := by decide +kernel
theorem dX2_gather_30 : decode cX2_gather 30 = .ok (.if_icmp .ge 39, 3) := by decide +kernel
theorem dX2_gather_33 : decode cX2_gather 33 = .ok (.aload_n 0, 1) := by decide +kernel
theorem dX2_gather_34 : decode cX2_gather 34 = .ok (.getfield 21, 3) := by decide +kernel
theorem dX2_gather_37 : decode cX2_gather 37 = .ok (.iload 6, 2) := by decide +kernel
theorem dX2_gather_39 : decode cX2_gather 39 = .ok (.invokevirtual 134, 3) := by decide +kernel
theorem dX2_gather_42 : decode cX2_gather 42 = .ok (.iload 8, 2) := by decide +kernel
theorem dX2_gather_44 : decode cX2_gather 44 = .ok (.if_icmp .ge 25, 3) := by decide +kernel
theorem dX2_gather_47 : decode cX2_gather 47 = .ok (.aload_n 0, 1) := by decide +kernel
theorem dX2_gather_48 : decode cX2_gather 48 = .ok (.getfield 40, 3) := by decide +kernel
theorem dX2_gather_51 : decode cX2_gather 51 = .ok (.aload_n 0, 1) := by decide +kernel
theorem dX2_gather_52 : decode cX2_gather 52 = .ok (.getfield 21, 3) := by decide +kernel
theorem dX2_gather_55 : decode cX2_gather 55 = .ok (.iload 6, 2) := by decide +kernel
theorem dX2_gather_57 : decode cX2_gather 57 = .ok (.invokevirtual 134, 3) := by decide +kernel
theorem dX2_gather_60 : decode cX2_gather 60 = .ok (.invokevirtual 199, 3) := by decide +kernel
theorem dX2_gather_63 : decode cX2_gather 63 = .ok (.iinc 6 1, 3) := by decide +kernel
theorem dX2_gather_66 : decode cX2_gather 66 = .ok (.goto (-40), 3) := by decide +kernel
theorem dX2_gather_69 : decode cX2_gather 69 = .ok (.aload_n 0, 1) := by decide +kernel
theorem dX2_gather_70 : decode cX2_gather 70 = .ok (.getfield 18, 3) := by decide +kernel
theorem dX2_gather_73 : decode cX2_gather 73 = .ok (.iload 7, 2) := by decide +kernel
theorem dX2_gather_75 : decode cX2_gather 75 = .ok (.invokevirtual 134, 3) := by decide +kernel
theorem dX2_gather_78 : decode cX2_gather 78 = .ok (.ifCond .ne 15, 3) := by decide +kernel
theorem dX2_gather_81 : decode cX2_gather 81 = .ok (.aload_n 0, 1) := by decide +kernel
theorem dX2_gather_82 : decode cX2_gather 82 = .ok (.getfield 40, 3) := by decide +kernel
theorem dX2_gather_85 : decode cX2_gather 85 = .ok (.iload 8, 2) := by decide +kernel
theorem dX2_gather_87 : decode cX2_gather 87 = .ok (.invokevirtual 199, 3) := by decide +kernel
theorem dX2_gather_90 : decode cX2_gather 90 = .ok (.goto 6, 3) := by decide +kernel
theorem dX2_gather_93 : decode cX2_gather 93 = .ok (.iconst 1, 1) := by decide +kernel
theorem dX2_gather_94 : decode cX2_gather 94 = .ok (.istore 5, 2) := by decide +kernel
theorem dX2_gather_96 : decode cX2_gather 96 = .ok (.iinc 7 1, 3) := by decide +kernel
theorem dX2_gather_99 : decode cX2_gather 99 = .ok (.goto (-90), 3) := by decide +kernel
theorem dX2_gather_102 : decode cX2_gather 102 = .ok (.iload 6, 2) := by decide +kernel
theorem dX2_gather_104 : decode cX2_gather 104 = .ok (.iload 4, 2) := by decide +kernel
theorem dX2_gather_106 : decode cX2_gather 106 = .ok (.if_icmp .ge 25, 3) := by decide +kernel
theorem dX2_gather_109 : decode cX2_gather 109 = .ok (.aload_n 0, 1) := by decide +kernel
theorem dX2_gather_110 : decode cX2_gather 110 = .ok (.getfield 40, 3) := by decide +kernel
theorem dX2_gather_113 : decode cX2_gather 113 = .ok (.aload_n 0, 1) := by decide +kernel
theorem dX2_gather_114 : decode cX2_gather 114 = .ok (.getfield 21, 3) := by decide +kernel
theorem dX2_gather_117 : decode cX2_gather 117 = .ok (.iload 6, 2) := by decide +kernel
theorem dX2_gather_119 : decode cX2_gather 119 = .ok (.invokevirtual 134, 3) := by decide +kernel
theorem dX2_gather_122 : decode cX2_gather 122 = .ok (.invokevirtual 199, 3) := by decide +kernel
theorem dX2_gather_125 : decode cX2_gather 125 = .ok (.iinc 6 1, 3) := by decide +kernel
theorem dX2_gather_128 : decode cX2_gather 128 = .ok (.goto (-26), 3) := by decide +kernel
theorem dX2_gather_131 : decode cX2_gather 131 = .ok (.iload 5, 2) := by decide +kernel
theorem dX2_gather_133 : decode cX2_gather 133 = .ok (.ireturn, 1) := by decide +kernel
set_option maxRecDepth 20000 in
theorem ggX2_cutFresh_X0_length : GoodIn wsX2_cutFresh wsX0_length := goodIn_r _ [10, 11, 57, 58] (by decide +kernel) (by decide +kernel)
set_option maxRecDepth 20000 in
theorem gX2_cutFresh_X0_length : GoodIn wsX2_cutFresh (wsV RX2 76 RX0 yX0_length wsX0_length) := goodIn_app (goodIn_of _ (by decide +kernel)) ggX2_cutFresh_X0_length
set_option maxRecDepth 20000 in
theorem ggX2_cutFresh_X0_at : GoodIn wsX2_cutFresh wsX0_at := goodIn_r _ [15, 16, 17, 18, 19, 9, 20, 11, 57, 58] (by decide +kernel) (by decide +kernel)
set_option maxRecDepth 20000 in
theorem gX2_cutFresh_X0_at : GoodIn wsX2_cutFresh (wsV RX2 134 RX0 yX0_at wsX0_at) := goodIn_app (goodIn_of _ (by decide +kernel)) ggX2_cutFresh_X0_at
set_option maxRecDepth 20000 in
theorem ggX2_cutFresh_X1_take : GoodIn wsX2_cutFresh wsX1_take := goodIn_r _ [25, 26, 27, 28, 29, 30, 31, 32, 33, 59, 60, 61, 62, 63, 64, 65] (by decide +kernel) (by decide +kernel)
set_option maxRecDepth 20000 in
theorem gX2_cutFresh_X1_take : GoodIn wsX2_cutFresh (wsV RX2 202 RX1 yX1_take wsX1_take) := goodIn_app (goodIn_of _ (by decide +kernel)) ggX2_cutFresh_X1_take
set_option maxRecDepth 20000 in
theorem ggX2_cutFresh_X1_begin : GoodIn wsX2_cutFresh wsX1_begin := goodIn_r _ [37, 26, 27, 28, 31, 30, 33, 32, 59, 60, 61, 62, 63, 64, 65] (by decide +kernel) (by decide +kernel)
set_option maxRecDepth 20000 in
theorem gX2_cutFresh_X1_begin : GoodIn wsX2_cutFresh (wsV RX2 221 RX1 yX1_begin wsX1_begin) := goodIn_app (goodIn_of _ (by decide +kernel)) ggX2_cutFresh_X1_begin
set_option maxRecDepth 20000 in
theorem ggX2_cutFresh_X0_push : GoodIn wsX2_cutFresh wsX0_push := goodIn_r _ [41, 11, 16, 57, 58] (by decide +kernel) (by decide +kernel)
set_option maxRecDepth 20000 in
theorem gX2_cutFresh_X0_push : GoodIn wsX2_cutFresh (wsV RX2 199 RX0 yX0_push wsX0_push) := goodIn_app (goodIn_of _ (by decide +kernel)) ggX2_cutFresh_X0_push
theorem dX2_cutFresh_0 : decode cX2_cutFresh 0 = .ok (.iload_n 1, 1) := by decide +kernel
theorem dX2_cutFresh_1 : decode cX2_cutFresh 1 = .ok (.istore_n 2, 1) := by decide +kernel
theorem dX2_cutFresh_2 : decode cX2_cutFresh 2 = .ok (.iload_n 2, 1) := by decide +kernel
theorem dX2_cutFresh_3 : decode cX2_cutFresh 3 = .ok (.aload_n 0, 1) := by decide +kernel
theorem dX2_cutFresh_4 : decode cX2_cutFresh 4 = .ok (.getfield 40, 3) := by decide +kernel
theorem dX2_cutFresh_7 : decode cX2_cutFresh 7 = .ok (.invokevirtual 76, 3) := by decide +kernel
theorem dX2_cutFresh_10 : decode cX2_cutFresh 10 = .ok (.if_icmp .ge 75, 3) := by decide +kernel
theorem dX2_cutFresh_13 : decode cX2_cutFresh 13 = .ok (.aload_n 0, 1) := by decide +kernel
theorem dX2_cutFresh_14 : decode cX2_cutFresh 14 = .ok (.getfield 40, 3) := by decide +kernel
theorem dX2_cutFresh_17 : decode cX2_cutFresh 17 = .ok (.iload_n 2, 1) := by decide +kernel
theorem dX2_cutFresh_18 : decode cX2_cutFresh 18 = .ok (.invokevirtual 134, 3) := by decide +kernel
theorem dX2_cutFresh_21 : decode cX2_cutFresh 21 = .ok (.istore_n 3, 1) := by decide +kernel
theorem dX2_cutFresh_22 : decode cX2_cutFresh 22 = .ok (.iload_n 2, 1) := by decide +kernel
theorem dX2_cutFresh_23 : decode cX2_cutFresh 23 = .ok (.iload_n 1, 1) := by decide +kernel
theorem dX2_cutFresh_24 : decode cX2_cutFresh 24 = .ok (.if_icmp .eq 15, 3) := by decide +kernel
theorem dX2_cutFresh_27 : decode cX2_cutFresh 27 = .ok (.aload_n 0, 1) := by decide +kernel
theorem dX2_cutFresh_28 : decode cX2_cutFresh 28 = .ok (.getfield 36, 3) := by decide +kernel
theorem dX2_cutFresh_31 : decode cX2_cutFresh 31 = .ok (.iload_n 3, 1) := by decide +kernel
theorem dX2_cutFresh_32 : decode cX2_cutFresh 32 = .ok (.iload_n 2, 1) := by decide +kernel
theorem dX2_cutFresh_33 : decode cX2_cutFresh 33 = .ok (.invokevirtual 202, 3) := by decide +kernel
theorem dX2_cutFresh_36 : decode cX2_cutFresh 36 = .ok (.ifCond .ne 43, 3) := by decide +kernel
theorem dX2_cutFresh_39 : decode cX2_cutFresh 39 = .ok (.aload_n 0, 1) := by decide +kernel
theorem dX2_cutFresh_40 : decode cX2_cutFresh 40 = .ok (.getfield 36, 3) := by decide +kernel
theorem dX2_cutFresh_43 : decode cX2_cutFresh 43 = .ok (.iload_n 3, 1) := by decide +kernel
theorem dX2_cutFresh_44 : decode cX2_cutFresh 44 = .ok (.iload_n 2, 1) := by decide +kernel
theorem dX2_cutFresh_45 : decode cX2_cutFresh 45 = .ok (.aload_n 0, 1) := by decide +kernel
theorem dX2_cutFresh_46 : decode cX2_cutFresh 46 = .ok (.getfield 46, 3) := by decide +kernel
theorem dX2_cutFresh_49 : decode cX2_cutFresh 49 = .ok (.invokevirtual 221, 3) := by decide +kernel
theorem dX2_cutFresh_52 : decode cX2_cutFresh 52 = .ok (.aload_n 0, 1) := by decide +kernel
theorem dX2_cutFresh_53 : decode cX2_cutFresh 53 = .ok (.getfield 43, 3) := by decide +kernel
theorem dX2_cutFresh_56 : decode cX2_cutFresh 56 = .ok (.iload_n 2, 1) := by decide +kernel
theorem dX2_cutFresh_57 : decode cX2_cutFresh 57 = .ok (.invokevirtual 199, 3) := by decide +kernel
theorem dX2_cutFresh_60 : decode cX2_cutFresh 60 = .ok (.aload_n 0, 1) := by decide +kernel
theorem dX2_cutFresh_61 : decode cX2_cutFresh 61 = .ok (.dup, 1) := by decide +kernel
theorem dX2_cutFresh_62 : decode cX2_cutFresh 62 = .ok (.getfield 59, 3) := by decide +kernel
theorem dX2_cutFresh_65 : decode cX2_cutFresh 65 = .ok (.iload_n 2, 1) := by decide +kernel
theorem dX2_cutFresh_66 : decode cX2_cutFresh 66 = .ok (.iload_n 1, 1) := by decide +kernel
theorem dX2_cutFresh_67 : decode cX2_cutFresh 67 = .ok (.if_icmp .ne 7, 3) := by decide +kernel
theorem dX2_cutFresh_70 : decode cX2_cutFresh 70 = .ok (.iconst 0, 1) := by decide +kernel
theorem dX2_cutFresh_71 : decode cX2_cutFresh 71 = .ok (.goto 4, 3) := by decide +kernel
theorem dX2_cutFresh_74 : decode cX2_cutFresh 74 = .ok (.iconst 1, 1) := by decide +kernel
theorem dX2_cutFresh_75 : decode cX2_cutFresh 75 = .ok (.iadd, 1) := by decide +kernel
theorem dX2_cutFresh_76 : decode cX2_cutFresh 76 = .ok (.putfield 59, 3) := by decide +kernel
theorem dX2_cutFresh_79 : decode cX2_cutFresh 79 = .ok (.iinc 2 1, 3) := by decide +kernel
theorem dX2_cutFresh_82 : decode cX2_cutFresh 82 = .ok (.goto (-80), 3) := by decide +kernel
theorem dX2_cutFresh_85 : decode cX2_cutFresh 85 = .ok (.return_, 1) := by decide +kernel
set_option maxRecDepth 20000 in
theorem ggX2_joinFresh_X0_length : GoodIn wsX2_joinFresh wsX0_length := goodIn_r _ [8, 9, 90, 91] (by decide +kernel) (by decide +kernel)
set_option maxRecDepth 20000 in
theorem gX2_joinFresh_X0_length : GoodIn wsX2_joinFresh (wsV RX2 76 RX0 yX0_length wsX0_length) := goodIn_app (goodIn_of _ (by decide +kernel)) ggX2_joinFresh_X0_length
set_option maxRecDepth 20000 in
theorem ggX2_joinFresh_X0_at : GoodIn wsX2_joinFresh wsX0_at := goodIn_r _ [13, 14, 15, 16, 17, 7, 18, 9, 90, 91] (by decide +kernel) (by decide +kernel)
set_option maxRecDepth 20000 in
theorem gX2_joinFresh_X0_at : GoodIn wsX2_joinFresh (wsV RX2 134 RX0 yX0_at wsX0_at) := goodIn_app (goodIn_of _ (by decide +kernel)) ggX2_joinFresh_X0_at
set_option maxRecDepth 20000 in
theorem ggX2_joinFresh_X0_has : GoodIn wsX2_joinFresh wsX0_has := goodIn_r _ [18, 9, 14, 90, 91] (by decide +kernel) (by decide +kernel)
set_option maxRecDepth 20000 in
theorem gX2_joinFresh_X0_has : GoodIn wsX2_joinFresh (wsV RX2 192 RX0 yX0_has wsX0_has) := goodIn_app (goodIn_of _ (by decide +kernel)) ggX2_joinFresh_X0_has
set_option maxRecDepth 20000 in
theorem ggX2_joinFresh_X2_tailTakes : GoodIn wsX2_joinFresh wsX2_tailTakes := goodIn_r _ [24, 25, 2, 10, 11, 12, 7, 13, 14, 15, 16, 17, 18, 9, 26, 27, 28, 29, 30, 31, 32, 33, 34, 35, 36, 37, 38, 75, 76, 77, 78, 79, 80, 81, 82, 83, 84, 85, 86, 87, 88, 89, 90, 91, 92, 93, 94, 95, 96, 97, 98] (by decide +kernel) (by decide +kernel)
set_option maxRecDepth 20000 in
theorem gX2_joinFresh_X2_tailTakes : GoodIn wsX2_joinFresh (wsV RX2 255 RX2 yX2_tailTakes wsX2_tailTakes) := goodIn_app (goodIn_of _ (by decide +kernel)) ggX2_joinFresh_X2_tailTakes
theorem mi_X2_joinFresh_1 {w : Cond} (h : w ∈ wsX2_joinFresh_r1) : w ∈ wsX2_joinFresh := (List.mem_cons_of_mem _ (List.mem_append_left _ (List.mem_append_left _ (List.mem_append_left _ (List.mem_append_left _ h)))))
theorem mi_X2_joinFresh_2 {w : Cond} (h : w ∈ wsX2_joinFresh_r2) : w ∈ wsX2_joinFresh := (List.mem_cons_of_mem _ (List.mem_append_left _ (List.mem_append_left _ (List.mem_append_left _ (List.mem_append_right _ (List.mem_append_left _ h))))))
theorem mi_X2_joinFresh_3 {w : Cond} (h : w ∈ wsX2_joinFresh_r3) : w ∈ wsX2_joinFresh := (List.mem_cons_of_mem _ (List.mem_append_left _ (List.mem_append_left _ (List.mem_append_left _ (List.mem_append_right _ (List.mem_append_right _ (List.mem_append_left _ h)))))))
theorem mi_X2_joinFresh_4 {w : Cond} (h : w ∈ wsX2_joinFresh_r4) : w ∈ wsX2_joinFresh := (List.mem_cons_of_mem _ (List.mem_append_left _ (List.mem_append_left _ (List.mem_append_left _ (List.mem_append_right _ (List.mem_append_right _ (List.mem_append_right _ h)))))))
set_option maxRecDepth 20000 in
theorem gi_X2_joinFresh_X2_beginPiece_0 : ∀ w ∈ wsX2_beginPiece_r1, w ∈ wsX2_joinFresh := by
  unfold wsX2_beginPiece_r1
  exact (List.forall_mem_cons.mpr ⟨(mi_X2_joinFresh_2 (List.mem_of_getElem? (i := 0) rfl)), (List.forall_mem_cons.mpr ⟨(mi_X2_joinFresh_2 (List.mem_of_getElem? (i := 18) rfl)), (List.forall_mem_cons.mpr ⟨(mi_X2_joinFresh_2 (List.mem_of_getElem? (i := 19) rfl)), (List.forall_mem_cons.mpr ⟨(mi_X2_joinFresh_2 (List.mem_of_getElem? (i := 20) rfl)), (List.forall_mem_cons.mpr ⟨(mi_X2_joinFresh_2 (List.mem_of_getElem? (i := 21) rfl)), (List.forall_mem_cons.mpr ⟨(mi_X2_joinFresh_2 (List.mem_of_getElem? (i := 22) rfl)), (List.forall_mem_cons.mpr ⟨(mi_X2_joinFresh_2 (List.mem_of_getElem? (i := 23) rfl)), (List.forall_mem_cons.mpr ⟨(mi_X2_joinFresh_3 (List.mem_of_getElem? (i := 0) rfl)), (List.forall_mem_cons.mpr ⟨(mi_X2_joinFresh_2 (List.mem_of_getElem? (i := 4) rfl)), (List.forall_mem_cons.mpr ⟨(mi_X2_joinFresh_3 (List.mem_of_getElem? (i := 1) rfl)), (List.forall_mem_cons.mpr ⟨(mi_X2_joinFresh_2 (List.mem_of_getElem? (i := 6) rfl)), (List.forall_mem_cons.mpr ⟨(mi_X2_joinFresh_2 (List.mem_of_getElem? (i := 7) rfl)), (List.forall_mem_cons.mpr ⟨(mi_X2_joinFresh_2 (List.mem_of_getElem? (i := 8) rfl)), (List.forall_mem_cons.mpr ⟨(mi_X2_joinFresh_2 (List.mem_of_getElem? (i := 11) rfl)), (List.forall_mem_cons.mpr ⟨(mi_X2_joinFresh_2 (List.mem_of_getElem? (i := 10) rfl)), (List.forall_mem_cons.mpr ⟨(mi_X2_joinFresh_2 (List.mem_of_getElem? (i := 13) rfl)), (List.forall_mem_cons.mpr ⟨(mi_X2_joinFresh_2 (List.mem_of_getElem? (i := 12) rfl)), (List.forall_mem_cons.mpr ⟨(mi_X2_joinFresh_3 (List.mem_of_getElem? (i := 2) rfl)), (List.forall_mem_cons.mpr ⟨(mi_X2_joinFresh_3 (List.mem_of_getElem? (i := 3) rfl)), (List.forall_mem_cons.mpr ⟨(mi_X2_joinFresh_3 (List.mem_of_getElem? (i := 4) rfl)), (List.forall_mem_cons.mpr ⟨(mi_X2_joinFresh_1 (List.mem_of_getElem? (i := 6) rfl)), (List.forall_mem_cons.mpr ⟨(mi_X2_joinFresh_3 (List.mem_of_getElem? (i := 5) rfl)), (List.forall_mem_cons.mpr ⟨(mi_X2_joinFresh_1 (List.mem_of_getElem? (i := 8) rfl)), (List.forall_mem_cons.mpr ⟨(mi_X2_joinFresh_1 (List.mem_of_getElem? (i := 13) rfl)), (fun _ h => absurd h List.not_mem_nil)⟩)⟩)⟩)⟩)⟩)⟩)⟩)⟩)⟩)⟩)⟩)⟩)⟩)⟩)⟩)⟩)⟩)⟩)⟩)⟩)⟩)⟩)⟩)⟩)
set_option maxRecDepth 20000 in
theorem gi_X2_joinFresh_X2_beginPiece_1 : ∀ w ∈ wsX2_beginPiece_r2, w ∈ wsX2_joinFresh := by
  unfold wsX2_beginPiece_r2
  exact (List.forall_mem_cons.mpr ⟨(mi_X2_joinFresh_3 (List.mem_of_getElem? (i := 6) rfl)), (List.forall_mem_cons.mpr ⟨(mi_X2_joinFresh_3 (List.mem_of_getElem? (i := 7) rfl)), (List.forall_mem_cons.mpr ⟨(mi_X2_joinFresh_3 (List.mem_of_getElem? (i := 8) rfl)), (List.forall_mem_cons.mpr ⟨(mi_X2_joinFresh_3 (List.mem_of_getElem? (i := 9) rfl)), (List.forall_mem_cons.mpr ⟨(mi_X2_joinFresh_3 (List.mem_of_getElem? (i := 10) rfl)), (List.forall_mem_cons.mpr ⟨(mi_X2_joinFresh_3 (List.mem_of_getElem? (i := 11) rfl)), (List.forall_mem_cons.mpr ⟨(mi_X2_joinFresh_3 (List.mem_of_getElem? (i := 12) rfl)), (List.forall_mem_cons.mpr ⟨(mi_X2_joinFresh_3 (List.mem_of_getElem? (i := 13) rfl)), (List.forall_mem_cons.mpr ⟨(mi_X2_joinFresh_3 (List.mem_of_getElem? (i := 14) rfl)), (List.forall_mem_cons.mpr ⟨(mi_X2_joinFresh_3 (List.mem_of_getElem? (i := 15) rfl)), (List.forall_mem_cons.mpr ⟨(mi_X2_joinFresh_3 (List.mem_of_getElem? (i := 16) rfl)), (List.forall_mem_cons.mpr ⟨(mi_X2_joinFresh_3 (List.mem_of_getElem? (i := 17) rfl)), (fun _ h => absurd h List.not_mem_nil)⟩)⟩)⟩)⟩)⟩)⟩)⟩)⟩)⟩)⟩)⟩)⟩)
theorem gi_X2_joinFresh_X2_beginPiece : GoodIn wsX2_joinFresh (.code yX2_beginPiece cX2_beginPiece 3 none :: ((wsX2_beginPiece_r1 ++ wsX2_beginPiece_r2) ++ wsX20 ++ wsX10 ++ wsX00)) := goodIn_c (goodIn_sub (List.forall_mem_cons.mpr ⟨(mi_X2_joinFresh_2 (List.mem_of_getElem? (i := 17) rfl)), fun _ h => absurd h List.not_mem_nil⟩) (by decide +kernel)) (goodIn_app (goodIn_app (goodIn_app (goodIn_app (goodIn_sub gi_X2_joinFresh_X2_beginPiece_0 (by decide +kernel)) (goodIn_sub gi_X2_joinFresh_X2_beginPiece_1 (by decide +kernel))) (goodIn_sub (fun _ h => (List.mem_cons_of_mem _ (List.mem_append_left _ (List.mem_append_left _ (List.mem_append_right _ h))))) (by decide +kernel))) (goodIn_sub (fun _ h => (List.mem_cons_of_mem _ (List.mem_append_right _ h))) (by decide +kernel))) (goodIn_sub (fun _ h => (List.mem_cons_of_mem _ (List.mem_append_left _ (List.mem_append_right _ h)))) (by decide +kernel)))
set_option maxRecDepth 20000 in
theorem ggX2_joinFresh_X2_beginPiece : GoodIn wsX2_joinFresh wsX2_beginPiece := gi_X2_joinFresh_X2_beginPiece
set_option maxRecDepth 20000 in
theorem gX2_joinFresh_X2_beginPiece : GoodIn wsX2_joinFresh (wsV RX2 209 RX2 yX2_beginPiece wsX2_beginPiece) := goodIn_app (goodIn_of _ (by decide +kernel)) ggX2_joinFresh_X2_beginPiece
set_option maxRecDepth 20000 in
theorem ggX2_joinFresh_X2_noteTailSlope : GoodIn wsX2_joinFresh wsX2_noteTailSlope := goodIn_r _ [70, 44, 45, 25, 46, 4, 5, 6, 7, 8, 9, 55, 56, 57, 29, 58, 36, 59, 60, 61, 62, 35, 71, 72, 73, 74, 14, 15, 16, 17, 18, 63, 64, 65, 66, 75, 76, 77, 78, 79, 80, 81, 82, 83, 84, 85, 86, 87, 88, 89, 90, 91, 92, 93, 94, 95, 96, 97, 98] (by decide +kernel) (by decide +kernel)
set_option maxRecDepth 20000 in
theorem gX2_joinFresh_X2_noteTailSlope : GoodIn wsX2_joinFresh (wsV RX2 206 RX2 yX2_noteTailSlope wsX2_noteTailSlope) := goodIn_app (goodIn_of _ (by decide +kernel)) ggX2_joinFresh_X2_noteTailSlope
theorem dX2_joinFresh_0 : decode cX2_joinFresh 0 = .ok (.iconst 0, 1) := by decide +kernel
theorem dX2_joinFresh_1 : decode cX2_joinFresh 1 = .ok (.istore_n 1, 1) := by decide +kernel
theorem dX2_joinFresh_2 : decode cX2_joinFresh 2 = .ok (.iload_n 1, 1) := by decide +kernel
theorem dX2_joinFresh_3 : decode cX2_joinFresh 3 = .ok (.aload_n 0, 1) := by decide +kernel
theorem dX2_joinFresh_4 : decode cX2_joinFresh 4 = .ok (.getfield 43, 3) := by decide +kernel
theorem dX2_joinFresh_7 : decode cX2_joinFresh 7 = .ok (.invokevirtual 76, 3) := by decide +kernel
theorem dX2_joinFresh_10 : decode cX2_joinFresh 10 = .ok (.if_icmp .ge 104, 3) := by decide +kernel
theorem dX2_joinFresh_13 : decode cX2_joinFresh 13 = .ok (.aload_n 0, 1) := by decide +kernel
theorem dX2_joinFresh_14 : decode cX2_joinFresh 14 = .ok (.getfield 43, 3) := by decide +kernel
theorem dX2_joinFresh_17 : decode cX2_joinFresh 17 = .ok (.iload_n 1, 1) := by decide +kernel
theorem dX2_joinFresh_18 : decode cX2_joinFresh 18 = .ok (.invokevirtual 134, 3) := by decide +kernel
theorem dX2_joinFresh_21 : decode cX2_joinFresh 21 = .ok (.istore_n 2, 1) := by decide +kernel
theorem dX2_joinFresh_22 : decode cX2_joinFresh 22 = .ok (.aload_n 0, 1) := by decide +kernel
theorem dX2_joinFresh_23 : decode cX2_joinFresh 23 = .ok (.getfield 43, 3) := by decide +kernel
theorem dX2_joinFresh_26 : decode cX2_joinFresh 26 = .ok (.iload_n 1, 1) := by decide +kernel
theorem dX2_joinFresh_27 : decode cX2_joinFresh 27 = .ok (.iconst 1, 1) := by decide +kernel
theorem dX2_joinFresh_28 : decode cX2_joinFresh 28 = .ok (.iadd, 1) := by decide +kernel
theorem dX2_joinFresh_29 : decode cX2_joinFresh 29 = .ok (.invokevirtual 192, 3) := by decide +kernel
theorem dX2_joinFresh_32 : decode cX2_joinFresh 32 = .ok (.ifCond .eq 16, 3) := by decide +kernel
theorem dX2_joinFresh_35 : decode cX2_joinFresh 35 = .ok (.aload_n 0, 1) := by decide +kernel
theorem dX2_joinFresh_36 : decode cX2_joinFresh 36 = .ok (.getfield 43, 3) := by decide +kernel
theorem dX2_joinFresh_39 : decode cX2_joinFresh 39 = .ok (.iload_n 1, 1) := by decide +kernel
theorem dX2_joinFresh_40 : decode cX2_joinFresh 40 = .ok (.iconst 1, 1) := by decide +kernel
theorem dX2_joinFresh_41 : decode cX2_joinFresh 41 = .ok (.iadd, 1) := by decide +kernel
theorem dX2_joinFresh_42 : decode cX2_joinFresh 42 = .ok (.invokevirtual 134, 3) := by decide +kernel
theorem dX2_joinFresh_45 : decode cX2_joinFresh 45 = .ok (.goto 10, 3) := by decide +kernel
theorem dX2_joinFresh_48 : decode cX2_joinFresh 48 = .ok (.aload_n 0, 1) := by decide +kernel
theorem dX2_joinFresh_49 : decode cX2_joinFresh 49 = .ok (.getfield 14, 3) := by decide +kernel
theorem dX2_joinFresh_52 : decode cX2_joinFresh 52 = .ok (.invokevirtual 76, 3) := by decide +kernel
theorem dX2_joinFresh_55 : decode cX2_joinFresh 55 = .ok (.istore_n 3, 1) := by decide +kernel
theorem dX2_joinFresh_56 : decode cX2_joinFresh 56 = .ok (.iload_n 1, 1) := by decide +kernel
theorem dX2_joinFresh_57 : decode cX2_joinFresh 57 = .ok (.ifCond .le 25, 3) := by decide +kernel
theorem dX2_joinFresh_60 : decode cX2_joinFresh 60 = .ok (.aload_n 0, 1) := by decide +kernel
theorem dX2_joinFresh_61 : decode cX2_joinFresh 61 = .ok (.iload_n 2, 1) := by decide +kernel
theorem dX2_joinFresh_62 : decode cX2_joinFresh 62 = .ok (.iload_n 3, 1) := by decide +kernel
theorem dX2_joinFresh_63 : decode cX2_joinFresh 63 = .ok (.invokevirtual 255, 3) := by decide +kernel
theorem dX2_joinFresh_66 : decode cX2_joinFresh 66 = .ok (.ifCond .eq 16, 3) := by decide +kernel
theorem dX2_joinFresh_69 : decode cX2_joinFresh 69 = .ok (.aload_n 0, 1) := by decide +kernel
theorem dX2_joinFresh_70 : decode cX2_joinFresh 70 = .ok (.dup, 1) := by decide +kernel
theorem dX2_joinFresh_71 : decode cX2_joinFresh 71 = .ok (.getfield 62, 3) := by decide +kernel
theorem dX2_joinFresh_74 : decode cX2_joinFresh 74 = .ok (.iconst 1, 1) := by decide +kernel
theorem dX2_joinFresh_75 : decode cX2_joinFresh 75 = .ok (.iadd, 1) := by decide +kernel
theorem dX2_joinFresh_76 : decode cX2_joinFresh 76 = .ok (.putfield 62, 3) := by decide +kernel
theorem dX2_joinFresh_79 : decode cX2_joinFresh 79 = .ok (.goto 25, 3) := by decide +kernel
theorem dX2_joinFresh_82 : decode cX2_joinFresh 82 = .ok (.aload_n 0, 1) := by decide +kernel
theorem dX2_joinFresh_83 : decode cX2_joinFresh 83 = .ok (.aload_n 0, 1) := by decide +kernel
theorem dX2_joinFresh_84 : decode cX2_joinFresh 84 = .ok (.getfield 14, 3) := by decide +kernel
theorem dX2_joinFresh_87 : decode cX2_joinFresh 87 = .ok (.iload_n 2, 1) := by decide +kernel
theorem dX2_joinFresh_88 : decode cX2_joinFresh 88 = .ok (.invokevirtual 134, 3) := by decide +kernel
theorem dX2_joinFresh_91 : decode cX2_joinFresh 91 = .ok (.iload_n 2, 1) := by decide +kernel
theorem dX2_joinFresh_92 : decode cX2_joinFresh 92 = .ok (.invokevirtual 209, 3) := by decide +kernel
theorem dX2_joinFresh_95 : decode cX2_joinFresh 95 = .ok (.aload_n 0, 1) := by decide +kernel
theorem dX2_joinFresh_96 : decode cX2_joinFresh 96 = .ok (.iload_n 2, 1) := by decide +kernel
theorem dX2_joinFresh_97 : decode cX2_joinFresh 97 = .ok (.iconst 1, 1) := by decide +kernel
theorem dX2_joinFresh_98 : decode cX2_joinFresh 98 = .ok (.iadd, 1) := by decide +kernel
theorem dX2_joinFresh_99 : decode cX2_joinFresh 99 = .ok (.iload_n 3, 1) := by decide +kernel
theorem dX2_joinFresh_100 : decode cX2_joinFresh 100 = .ok (.invokevirtual 255, 3) := by decide +kernel
theorem dX2_joinFresh_103 : decode cX2_joinFresh 103 = .ok (.pop, 1) := by decide +kernel
theorem dX2_joinFresh_104 : decode cX2_joinFresh 104 = .ok (.aload_n 0, 1) := by decide +kernel
theorem dX2_joinFresh_105 : decode cX2_joinFresh 105 = .ok (.invokevirtual 206, 3) := by decide +kernel
theorem dX2_joinFresh_108 : decode cX2_joinFresh 108 = .ok (.iinc 1 1, 3) := by decide +kernel
theorem dX2_joinFresh_111 : decode cX2_joinFresh 111 = .ok (.goto (-109), 3) := by decide +kernel
theorem dX2_joinFresh_114 : decode cX2_joinFresh 114 = .ok (.return_, 1) := by decide +kernel
set_option maxRecDepth 20000 in
theorem ggX2_tailTakes_X0_at : GoodIn wsX2_tailTakes wsX0_at := goodIn_r _ [7, 8, 9, 10, 11, 6, 12, 13, 42, 43] (by decide +kernel) (by decide +kernel)
set_option maxRecDepth 20000 in
theorem gX2_tailTakes_X0_at : GoodIn wsX2_tailTakes (wsV RX2 134 RX0 yX0_at wsX0_at) := goodIn_app (goodIn_of _ (by decide +kernel)) ggX2_tailTakes_X0_at
set_option maxRecDepth 20000 in
theorem ggX2_tailTakes_X1_take : GoodIn wsX2_tailTakes wsX1_take := goodIn_r _ [18, 19, 20, 21, 22, 23, 24, 25, 26, 44, 45, 46, 47, 48, 49, 50] (by decide +kernel) (by decide +kernel)
set_option maxRecDepth 20000 in
theorem gX2_tailTakes_X1_take : GoodIn wsX2_tailTakes (wsV RX2 202 RX1 yX1_take wsX1_take) := goodIn_app (goodIn_of _ (by decide +kernel)) ggX2_tailTakes_X1_take
theorem dX2_tailTakes_0 : decode cX2_tailTakes 0 = .ok (.iload_n 1, 1) := by decide +kernel
theorem dX2_tailTakes_1 : decode cX2_tailTakes 1 = .ok (.istore_n 3, 1) := by decide +kernel
theorem dX2_tailTakes_2 : decode cX2_tailTakes 2 = .ok (.iload_n 3, 1) := by decide +kernel
theorem dX2_tailTakes_3 : decode cX2_tailTakes 3 = .ok (.iload_n 2, 1) := by decide +kernel
theorem dX2_tailTakes_4 : decode cX2_tailTakes 4 = .ok (.if_icmp .ge 30, 3) := by decide +kernel
theorem dX2_tailTakes_7 : decode cX2_tailTakes 7 = .ok (.aload_n 0, 1) := by decide +kernel
theorem dX2_tailTakes_8 : decode cX2_tailTakes 8 = .ok (.getfield 36, 3) := by decide +kernel
theorem dX2_tailTakes_11 : decode cX2_tailTakes 11 = .ok (.aload_n 0, 1) := by decide +kernel
theorem dX2_tailTakes_12 : decode cX2_tailTakes 12 = .ok (.getfield 14, 3) := by decide +kernel
theorem dX2_tailTakes_15 : decode cX2_tailTakes 15 = .ok (.iload_n 3, 1) := by decide +kernel
theorem dX2_tailTakes_16 : decode cX2_tailTakes 16 = .ok (.invokevirtual 134, 3) := by decide +kernel
theorem dX2_tailTakes_19 : decode cX2_tailTakes 19 = .ok (.iload_n 3, 1) := by decide +kernel
theorem dX2_tailTakes_20 : decode cX2_tailTakes 20 = .ok (.invokevirtual 202, 3) := by decide +kernel
theorem dX2_tailTakes_23 : decode cX2_tailTakes 23 = .ok (.ifCond .ne 5, 3) := by decide +kernel
theorem dX2_tailTakes_26 : decode cX2_tailTakes 26 = .ok (.iconst 0, 1) := by decide +kernel
theorem dX2_tailTakes_27 : decode cX2_tailTakes 27 = .ok (.ireturn, 1) := by decide +kernel
theorem dX2_tailTakes_28 : decode cX2_tailTakes 28 = .ok (.iinc 3 1, 3) := by decide +kernel
theorem dX2_tailTakes_31 : decode cX2_tailTakes 31 = .ok (.goto (-29), 3) := by decide +kernel
theorem dX2_tailTakes_34 : decode cX2_tailTakes 34 = .ok (.iconst 1, 1) := by decide +kernel
theorem dX2_tailTakes_35 : decode cX2_tailTakes 35 = .ok (.ireturn, 1) := by decide +kernel
theorem dJ9_floorDiv_f86c9_0 : decode cJ9_floorDiv_f86c9 0 = .ok (.lload_n 0, 1) := by decide +kernel
theorem dJ9_floorDiv_f86c9_1 : decode cJ9_floorDiv_f86c9 1 = .ok (.lload_n 2, 1) := by decide +kernel
theorem dJ9_floorDiv_f86c9_2 : decode cJ9_floorDiv_f86c9 2 = .ok (.ldiv, 1) := by decide +kernel
theorem dJ9_floorDiv_f86c9_3 : decode cJ9_floorDiv_f86c9 3 = .ok (.lstore 4, 2) := by decide +kernel
theorem dJ9_floorDiv_f86c9_5 : decode cJ9_floorDiv_f86c9 5 = .ok (.lload_n 0, 1) := by decide +kernel
theorem dJ9_floorDiv_f86c9_6 : decode cJ9_floorDiv_f86c9 6 = .ok (.lload_n 2, 1) := by decide +kernel
theorem dJ9_floorDiv_f86c9_7 : decode cJ9_floorDiv_f86c9 7 = .ok (.lxor, 1) := by decide +kernel
theorem dJ9_floorDiv_f86c9_8 : decode cJ9_floorDiv_f86c9 8 = .ok (.lconst 0, 1) := by decide +kernel
theorem dJ9_floorDiv_f86c9_9 : decode cJ9_floorDiv_f86c9 9 = .ok (.lcmp, 1) := by decide +kernel
theorem dJ9_floorDiv_f86c9_10 : decode cJ9_floorDiv_f86c9 10 = .ok (.ifCond .ge 17, 3) := by decide +kernel
theorem dJ9_floorDiv_f86c9_13 : decode cJ9_floorDiv_f86c9 13 = .ok (.lload 4, 2) := by decide +kernel
theorem dJ9_floorDiv_f86c9_15 : decode cJ9_floorDiv_f86c9 15 = .ok (.lload_n 2, 1) := by decide +kernel
theorem dJ9_floorDiv_f86c9_16 : decode cJ9_floorDiv_f86c9 16 = .ok (.lmul, 1) := by decide +kernel
theorem dJ9_floorDiv_f86c9_17 : decode cJ9_floorDiv_f86c9 17 = .ok (.lload_n 0, 1) := by decide +kernel
theorem dJ9_floorDiv_f86c9_18 : decode cJ9_floorDiv_f86c9 18 = .ok (.lcmp, 1) := by decide +kernel
theorem dJ9_floorDiv_f86c9_19 : decode cJ9_floorDiv_f86c9 19 = .ok (.ifCond .eq 8, 3) := by decide +kernel
theorem dJ9_floorDiv_f86c9_22 : decode cJ9_floorDiv_f86c9 22 = .ok (.lload 4, 2) := by decide +kernel
theorem dJ9_floorDiv_f86c9_24 : decode cJ9_floorDiv_f86c9 24 = .ok (.lconst 1, 1) := by decide +kernel
theorem dJ9_floorDiv_f86c9_25 : decode cJ9_floorDiv_f86c9 25 = .ok (.lsub, 1) := by decide +kernel
theorem dJ9_floorDiv_f86c9_26 : decode cJ9_floorDiv_f86c9 26 = .ok (.lreturn, 1) := by decide +kernel
theorem dJ9_floorDiv_f86c9_27 : decode cJ9_floorDiv_f86c9 27 = .ok (.lload 4, 2) := by decide +kernel
theorem dJ9_floorDiv_f86c9_29 : decode cJ9_floorDiv_f86c9 29 = .ok (.lreturn, 1) := by decide +kernel
theorem dJ9_abs_067f4_0 : decode cJ9_abs_067f4 0 = .ok (.lload_n 0, 1) := by decide +kernel
theorem dJ9_abs_067f4_1 : decode cJ9_abs_067f4 1 = .ok (.lconst 0, 1) := by decide +kernel
theorem dJ9_abs_067f4_2 : decode cJ9_abs_067f4 2 = .ok (.lcmp, 1) := by decide +kernel
theorem dJ9_abs_067f4_3 : decode cJ9_abs_067f4 3 = .ok (.ifCond .ge 8, 3) := by decide +kernel
theorem dJ9_abs_067f4_6 : decode cJ9_abs_067f4 6 = .ok (.lload_n 0, 1) := by decide +kernel
theorem dJ9_abs_067f4_7 : decode cJ9_abs_067f4 7 = .ok (.lneg, 1) := by decide +kernel
theorem dJ9_abs_067f4_8 : decode cJ9_abs_067f4 8 = .ok (.goto 4, 3) := by decide +kernel
theorem dJ9_abs_067f4_11 : decode cJ9_abs_067f4 11 = .ok (.lload_n 0, 1) := by decide +kernel
theorem dJ9_abs_067f4_12 : decode cJ9_abs_067f4 12 = .ok (.lreturn, 1) := by decide +kernel
theorem dJ9_max_7cf53_0 : decode cJ9_max_7cf53 0 = .ok (.iload_n 0, 1) := by decide +kernel
theorem dJ9_max_7cf53_1 : decode cJ9_max_7cf53 1 = .ok (.iload_n 1, 1) := by decide +kernel
theorem dJ9_max_7cf53_2 : decode cJ9_max_7cf53 2 = .ok (.if_icmp .lt 7, 3) := by decide +kernel
theorem dJ9_max_7cf53_5 : decode cJ9_max_7cf53 5 = .ok (.iload_n 0, 1) := by decide +kernel
theorem dJ9_max_7cf53_6 : decode cJ9_max_7cf53 6 = .ok (.goto 4, 3) := by decide +kernel
theorem dJ9_max_7cf53_9 : decode cJ9_max_7cf53 9 = .ok (.iload_n 1, 1) := by decide +kernel
theorem dJ9_max_7cf53_10 : decode cJ9_max_7cf53 10 = .ok (.ireturn, 1) := by decide +kernel
theorem dJ9_max_f86c9_0 : decode cJ9_max_f86c9 0 = .ok (.lload_n 0, 1) := by decide +kernel
theorem dJ9_max_f86c9_1 : decode cJ9_max_f86c9 1 = .ok (.lload_n 2, 1) := by decide +kernel
theorem dJ9_max_f86c9_2 : decode cJ9_max_f86c9 2 = .ok (.lcmp, 1) := by decide +kernel
theorem dJ9_max_f86c9_3 : decode cJ9_max_f86c9 3 = .ok (.ifCond .lt 7, 3) := by decide +kernel
theorem dJ9_max_f86c9_6 : decode cJ9_max_f86c9 6 = .ok (.lload_n 0, 1) := by decide +kernel
theorem dJ9_max_f86c9_7 : decode cJ9_max_f86c9 7 = .ok (.goto 4, 3) := by decide +kernel
theorem dJ9_max_f86c9_10 : decode cJ9_max_f86c9 10 = .ok (.lload_n 2, 1) := by decide +kernel
theorem dJ9_max_f86c9_11 : decode cJ9_max_f86c9 11 = .ok (.lreturn, 1) := by decide +kernel
theorem dJ9_min_f86c9_0 : decode cJ9_min_f86c9 0 = .ok (.lload_n 0, 1) := by decide +kernel
theorem dJ9_min_f86c9_1 : decode cJ9_min_f86c9 1 = .ok (.lload_n 2, 1) := by decide +kernel
theorem dJ9_min_f86c9_2 : decode cJ9_min_f86c9 2 = .ok (.lcmp, 1) := by decide +kernel
theorem dJ9_min_f86c9_3 : decode cJ9_min_f86c9 3 = .ok (.ifCond .gt 7, 3) := by decide +kernel
theorem dJ9_min_f86c9_6 : decode cJ9_min_f86c9 6 = .ok (.lload_n 0, 1) := by decide +kernel
theorem dJ9_min_f86c9_7 : decode cJ9_min_f86c9 7 = .ok (.goto 4, 3) := by decide +kernel
theorem dJ9_min_f86c9_10 : decode cJ9_min_f86c9 10 = .ok (.lload_n 2, 1) := by decide +kernel
theorem dJ9_min_f86c9_11 : decode cJ9_min_f86c9 11 = .ok (.lreturn, 1) := by decide +kernel
theorem dL_cell_0 : decode cL_cell 0 = .ok (.iload_n 1, 1) := by decide +kernel
theorem dL_cell_1 : decode cL_cell 1 = .ok (.aload_n 0, 1) := by decide +kernel
theorem dL_cell_2 : decode cL_cell 2 = .ok (.arraylength, 1) := by decide +kernel
theorem dL_cell_3 : decode cL_cell 3 = .ok (.if_icmp .ge 9, 3) := by decide +kernel
theorem dL_cell_6 : decode cL_cell 6 = .ok (.aload_n 0, 1) := by decide +kernel
theorem dL_cell_7 : decode cL_cell 7 = .ok (.iload_n 1, 1) := by decide +kernel
theorem dL_cell_8 : decode cL_cell 8 = .ok (.iaload, 1) := by decide +kernel
theorem dL_cell_9 : decode cL_cell 9 = .ok (.goto 12, 3) := by decide +kernel
theorem dL_cell_12 : decode cL_cell 12 = .ok (.ldc 7, 2) := by decide +kernel
theorem dL_cell_14 : decode cL_cell 14 = .ok (.iload_n 1, 1) := by decide +kernel
theorem dL_cell_15 : decode cL_cell 15 = .ok (.iconst 1, 1) := by decide +kernel
theorem dL_cell_16 : decode cL_cell 16 = .ok (.iadd, 1) := by decide +kernel
theorem dL_cell_17 : decode cL_cell 17 = .ok (.imul, 1) := by decide +kernel
theorem dL_cell_18 : decode cL_cell 18 = .ok (.ldc 8, 2) := by decide +kernel
theorem dL_cell_20 : decode cL_cell 20 = .ok (.iadd, 1) := by decide +kernel
theorem dL_cell_21 : decode cL_cell 21 = .ok (.ireturn, 1) := by decide +kernel
theorem dL_low_0 : decode cL_low 0 = .ok (.iload_n 0, 1) := by decide +kernel
theorem dL_low_1 : decode cL_low 1 = .ok (.ldc 9, 2) := by decide +kernel
theorem dL_low_3 : decode cL_low 3 = .ok (.iand, 1) := by decide +kernel
theorem dL_low_4 : decode cL_low 4 = .ok (.iload_n 1, 1) := by decide +kernel
theorem dL_low_5 : decode cL_low 5 = .ok (.irem, 1) := by decide +kernel
theorem dL_low_6 : decode cL_low 6 = .ok (.ireturn, 1) := by decide +kernel
theorem dL_fits_0 : decode cL_fits 0 = .ok (.iload_n 1, 1) := by decide +kernel
theorem dL_fits_1 : decode cL_fits 1 = .ok (.iconst 1, 1) := by decide +kernel
theorem dL_fits_2 : decode cL_fits 2 = .ok (.iadd, 1) := by decide +kernel
theorem dL_fits_3 : decode cL_fits 3 = .ok (.istore 4, 2) := by decide +kernel
theorem dL_fits_5 : decode cL_fits 5 = .ok (.iload 4, 2) := by decide +kernel
theorem dL_fits_7 : decode cL_fits 7 = .ok (.iload_n 2, 1) := by decide +kernel
theorem dL_fits_8 : decode cL_fits 8 = .ok (.if_icmp .ge 66, 3) := by decide +kernel
theorem dL_fits_11 : decode cL_fits 11 = .ok (.iload_n 1, 1) := by decide +kernel
theorem dL_fits_12 : decode cL_fits 12 = .ok (.iconst 1, 1) := by decide +kernel
theorem dL_fits_13 : decode cL_fits 13 = .ok (.iadd, 1) := by decide +kernel
theorem dL_fits_14 : decode cL_fits 14 = .ok (.istore 5, 2) := by decide +kernel
theorem dL_fits_16 : decode cL_fits 16 = .ok (.iload 5, 2) := by decide +kernel
theorem dL_fits_18 : decode cL_fits 18 = .ok (.iload_n 2, 1) := by decide +kernel
theorem dL_fits_19 : decode cL_fits 19 = .ok (.if_icmp .ge 49, 3) := by decide +kernel
theorem dL_fits_22 : decode cL_fits 22 = .ok (.iload 4, 2) := by decide +kernel
theorem dL_fits_24 : decode cL_fits 24 = .ok (.iload_n 1, 1) := by decide +kernel
theorem dL_fits_25 : decode cL_fits 25 = .ok (.isub, 1) := by decide +kernel
theorem dL_fits_26 : decode cL_fits 26 = .ok (.iload_n 3, 1) := by decide +kernel
theorem dL_fits_27 : decode cL_fits 27 = .ok (.isub, 1) := by decide +kernel
theorem dL_fits_28 : decode cL_fits 28 = .ok (.i2l, 1) := by decide +kernel
theorem dL_fits_29 : decode cL_fits 29 = .ok (.aload_n 0, 1) := by decide +kernel
theorem dL_fits_30 : decode cL_fits 30 = .ok (.iload 5, 2) := by decide +kernel
theorem dL_fits_32 : decode cL_fits 32 = .ok (.iaload, 1) := by decide +kernel
theorem dL_fits_33 : decode cL_fits 33 = .ok (.aload_n 0, 1) := by decide +kernel
theorem dL_fits_34 : decode cL_fits 34 = .ok (.iload_n 1, 1) := by decide +kernel
theorem dL_fits_35 : decode cL_fits 35 = .ok (.iaload, 1) := by decide +kernel
theorem dL_fits_36 : decode cL_fits 36 = .ok (.isub, 1) := by decide +kernel
theorem dL_fits_37 : decode cL_fits 37 = .ok (.i2l, 1) := by decide +kernel
theorem dL_fits_38 : decode cL_fits 38 = .ok (.lmul, 1) := by decide +kernel
