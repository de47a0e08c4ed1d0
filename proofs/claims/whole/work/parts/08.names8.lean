theorem dX3_fits_92 : decode cX3_fits 92 = .ok (.ifCond .eq 23, 3) := by decide +kernel
theorem dX3_fits_95 : decode cX3_fits 95 = .ok (.lload 11, 2) := by decide +kernel
theorem dX3_fits_97 : decode cX3_fits 97 = .ok (.aload_n 0, 1) := by decide +kernel
theorem dX3_fits_98 : decode cX3_fits 98 = .ok (.getfield 7, 3) := by decide +kernel
theorem dX3_fits_101 : decode cX3_fits 101 = .ok (.i2l, 1) := by decide +kernel
theorem dX3_fits_102 : decode cX3_fits 102 = .ok (.ladd, 1) := by decide +kernel
theorem dX3_fits_103 : decode cX3_fits 103 = .ok (.lload 6, 2) := by decide +kernel
theorem dX3_fits_105 : decode cX3_fits 105 = .ok (.lmul, 1) := by decide +kernel
theorem dX3_fits_106 : decode cX3_fits 106 = .ok (.lload 4, 2) := by decide +kernel
theorem dX3_fits_108 : decode cX3_fits 108 = .ok (.lload 9, 2) := by decide +kernel
theorem dX3_fits_110 : decode cX3_fits 110 = .ok (.lmul, 1) := by decide +kernel
theorem dX3_fits_111 : decode cX3_fits 111 = .ok (.lcmp, 1) := by decide +kernel
theorem dX3_fits_112 : decode cX3_fits 112 = .ok (.ifCond .ge 17, 3) := by decide +kernel
theorem dX3_fits_115 : decode cX3_fits 115 = .ok (.lload 11, 2) := by decide +kernel
theorem dX3_fits_117 : decode cX3_fits 117 = .ok (.aload_n 0, 1) := by decide +kernel
theorem dX3_fits_118 : decode cX3_fits 118 = .ok (.getfield 7, 3) := by decide +kernel
theorem dX3_fits_121 : decode cX3_fits 121 = .ok (.i2l, 1) := by decide +kernel
theorem dX3_fits_122 : decode cX3_fits 122 = .ok (.ladd, 1) := by decide +kernel
theorem dX3_fits_123 : decode cX3_fits 123 = .ok (.lstore 4, 2) := by decide +kernel
theorem dX3_fits_125 : decode cX3_fits 125 = .ok (.lload 9, 2) := by decide +kernel
theorem dX3_fits_127 : decode cX3_fits 127 = .ok (.lstore 6, 2) := by decide +kernel
theorem dX3_fits_129 : decode cX3_fits 129 = .ok (.iinc 8 1, 3) := by decide +kernel
theorem dX3_fits_132 : decode cX3_fits 132 = .ok (.goto (-111), 3) := by decide +kernel
theorem dX3_fits_135 : decode cX3_fits 135 = .ok (.lload 6, 2) := by decide +kernel
theorem dX3_fits_137 : decode cX3_fits 137 = .ok (.lconst 0, 1) := by decide +kernel
theorem dX3_fits_138 : decode cX3_fits 138 = .ok (.lcmp, 1) := by decide +kernel
theorem dX3_fits_139 : decode cX3_fits 139 = .ok (.ifCond .eq 21, 3) := by decide +kernel
theorem dX3_fits_142 : decode cX3_fits 142 = .ok (.aload_n 0, 1) := by decide +kernel
theorem dX3_fits_143 : decode cX3_fits 143 = .ok (.getfield 41, 3) := by decide +kernel
theorem dX3_fits_146 : decode cX3_fits 146 = .ok (.lload 6, 2) := by decide +kernel
theorem dX3_fits_148 : decode cX3_fits 148 = .ok (.lmul, 1) := by decide +kernel
theorem dX3_fits_149 : decode cX3_fits 149 = .ok (.lload 4, 2) := by decide +kernel
theorem dX3_fits_151 : decode cX3_fits 151 = .ok (.aload_n 0, 1) := by decide +kernel
theorem dX3_fits_152 : decode cX3_fits 152 = .ok (.getfield 45, 3) := by decide +kernel
theorem dX3_fits_155 : decode cX3_fits 155 = .ok (.lmul, 1) := by decide +kernel
theorem dX3_fits_156 : decode cX3_fits 156 = .ok (.lcmp, 1) := by decide +kernel
theorem dX3_fits_157 : decode cX3_fits 157 = .ok (.ifCond .gt 7, 3) := by decide +kernel
theorem dX3_fits_160 : decode cX3_fits 160 = .ok (.iconst 1, 1) := by decide +kernel
theorem dX3_fits_161 : decode cX3_fits 161 = .ok (.goto 4, 3) := by decide +kernel
theorem dX3_fits_164 : decode cX3_fits 164 = .ok (.iconst 0, 1) := by decide +kernel
theorem dX3_fits_165 : decode cX3_fits 165 = .ok (.ireturn, 1) := by decide +kernel
theorem dX3_behind_0 : decode cX3_behind 0 = .ok (.iload_n 1, 1) := by decide +kernel
theorem dX3_behind_1 : decode cX3_behind 1 = .ok (.iconst 1, 1) := by decide +kernel
theorem dX3_behind_2 : decode cX3_behind 2 = .ok (.iadd, 1) := by decide +kernel
theorem dX3_behind_3 : decode cX3_behind 3 = .ok (.aload_n 0, 1) := by decide +kernel
theorem dX3_behind_4 : decode cX3_behind 4 = .ok (.getfield 48, 3) := by decide +kernel
theorem dX3_behind_7 : decode cX3_behind 7 = .ok (.if_icmp .ge 14, 3) := by decide +kernel
theorem dX3_behind_10 : decode cX3_behind 10 = .ok (.aload_n 0, 1) := by decide +kernel
theorem dX3_behind_11 : decode cX3_behind 11 = .ok (.getfield 24, 3) := by decide +kernel
theorem dX3_behind_14 : decode cX3_behind 14 = .ok (.iload_n 1, 1) := by decide +kernel
theorem dX3_behind_15 : decode cX3_behind 15 = .ok (.iconst 1, 1) := by decide +kernel
theorem dX3_behind_16 : decode cX3_behind 16 = .ok (.iadd, 1) := by decide +kernel
theorem dX3_behind_17 : decode cX3_behind 17 = .ok (.iaload, 1) := by decide +kernel
theorem dX3_behind_18 : decode cX3_behind 18 = .ok (.goto 7, 3) := by decide +kernel
theorem dX3_behind_21 : decode cX3_behind 21 = .ok (.aload_n 0, 1) := by decide +kernel
theorem dX3_behind_22 : decode cX3_behind 22 = .ok (.getfield 51, 3) := by decide +kernel
theorem dX3_behind_25 : decode cX3_behind 25 = .ok (.ireturn, 1) := by decide +kernel
theorem dX3_common_0 : decode cX3_common 0 = .ok (.lload_n 0, 1) := by decide +kernel
theorem dX3_common_1 : decode cX3_common 1 = .ok (.lstore 4, 2) := by decide +kernel
theorem dX3_common_3 : decode cX3_common 3 = .ok (.lload_n 2, 1) := by decide +kernel
theorem dX3_common_4 : decode cX3_common 4 = .ok (.lstore 6, 2) := by decide +kernel
theorem dX3_common_6 : decode cX3_common 6 = .ok (.lload 6, 2) := by decide +kernel
theorem dX3_common_8 : decode cX3_common 8 = .ok (.lconst 0, 1) := by decide +kernel
theorem dX3_common_9 : decode cX3_common 9 = .ok (.lcmp, 1) := by decide +kernel
theorem dX3_common_10 : decode cX3_common 10 = .ok (.ifCond .le 21, 3) := by decide +kernel
theorem dX3_common_13 : decode cX3_common 13 = .ok (.lload 4, 2) := by decide +kernel
theorem dX3_common_15 : decode cX3_common 15 = .ok (.lload 6, 2) := by decide +kernel
theorem dX3_common_17 : decode cX3_common 17 = .ok (.lrem, 1) := by decide +kernel
theorem dX3_common_18 : decode cX3_common 18 = .ok (.lstore 8, 2) := by decide +kernel
theorem dX3_common_20 : decode cX3_common 20 = .ok (.lload 6, 2) := by decide +kernel
theorem dX3_common_22 : decode cX3_common 22 = .ok (.lstore 4, 2) := by decide +kernel
theorem dX3_common_24 : decode cX3_common 24 = .ok (.lload 8, 2) := by decide +kernel
theorem dX3_common_26 : decode cX3_common 26 = .ok (.lstore 6, 2) := by decide +kernel
theorem dX3_common_28 : decode cX3_common 28 = .ok (.goto (-22), 3) := by decide +kernel
theorem dX3_common_31 : decode cX3_common 31 = .ok (.lload 4, 2) := by decide +kernel
theorem dX3_common_33 : decode cX3_common 33 = .ok (.lreturn, 1) := by decide +kernel
set_option maxRecDepth 20000 in
theorem ggX3_lays_X3_behind : GoodIn wsX3_lays wsX3_behind := goodIn_r _ [9, 10, 2, 11, 20, 21, 22, 23, 24, 25, 26, 27, 28, 29, 30, 31, 32, 33, 34, 35, 36, 37] (by decide +kernel) (by decide +kernel)
set_option maxRecDepth 20000 in
theorem gX3_lays_X3_behind : GoodIn wsX3_lays (wsV RX3 54 RX3 yX3_behind wsX3_behind) := goodIn_app (goodIn_of _ (by decide +kernel)) ggX3_lays_X3_behind
set_option maxRecDepth 20000 in
theorem ggX3_lays_X3_fits : GoodIn wsX3_lays wsX3_fits := goodIn_r _ [15, 3, 4, 16, 20, 21, 22, 23, 24, 25, 26, 27, 28, 29, 30, 31, 32, 33, 34, 35, 36, 37] (by decide +kernel) (by decide +kernel)
set_option maxRecDepth 20000 in
theorem gX3_lays_X3_fits : GoodIn wsX3_lays (wsV RX3 58 RX3 yX3_fits wsX3_fits) := goodIn_app (goodIn_of _ (by decide +kernel)) ggX3_lays_X3_fits
set_option maxRecDepth 20000 in
theorem ggX3_lays_X3_common : GoodIn wsX3_lays wsX3_common := goodIn_r _ [19] (by decide +kernel) (by decide +kernel)
set_option maxRecDepth 20000 in
theorem gX3_lays_X3_common : GoodIn wsX3_lays (va_wsS RX3 62 yX3_common wsX3_common) := goodIn_app (goodIn_of _ (by decide +kernel)) ggX3_lays_X3_common
theorem dX3_lays_0 : decode cX3_lays 0 = .ok (.aload_n 0, 1) := by decide +kernel
theorem dX3_lays_1 : decode cX3_lays 1 = .ok (.aload_n 0, 1) := by decide +kernel
theorem dX3_lays_2 : decode cX3_lays 2 = .ok (.getfield 16, 3) := by decide +kernel
theorem dX3_lays_5 : decode cX3_lays 5 = .ok (.aload_n 0, 1) := by decide +kernel
theorem dX3_lays_6 : decode cX3_lays 6 = .ok (.getfield 24, 3) := by decide +kernel
theorem dX3_lays_9 : decode cX3_lays 9 = .ok (.iload_n 1, 1) := by decide +kernel
theorem dX3_lays_10 : decode cX3_lays 10 = .ok (.iaload, 1) := by decide +kernel
theorem dX3_lays_11 : decode cX3_lays 11 = .ok (.aload_n 0, 1) := by decide +kernel
theorem dX3_lays_12 : decode cX3_lays 12 = .ok (.iload_n 1, 1) := by decide +kernel
theorem dX3_lays_13 : decode cX3_lays 13 = .ok (.invokevirtual 54, 3) := by decide +kernel
theorem dX3_lays_16 : decode cX3_lays 16 = .ok (.invokevirtual 58, 3) := by decide +kernel
theorem dX3_lays_19 : decode cX3_lays 19 = .ok (.pop, 1) := by decide +kernel
theorem dX3_lays_20 : decode cX3_lays 20 = .ok (.aload_n 0, 1) := by decide +kernel
theorem dX3_lays_21 : decode cX3_lays 21 = .ok (.getfield 41, 3) := by decide +kernel
theorem dX3_lays_24 : decode cX3_lays 24 = .ok (.aload_n 0, 1) := by decide +kernel
theorem dX3_lays_25 : decode cX3_lays 25 = .ok (.getfield 45, 3) := by decide +kernel
theorem dX3_lays_28 : decode cX3_lays 28 = .ok (.invokestatic 62, 3) := by decide +kernel
theorem dX3_lays_31 : decode cX3_lays 31 = .ok (.lstore_n 2, 1) := by decide +kernel
theorem dX3_lays_32 : decode cX3_lays 32 = .ok (.aload_n 0, 1) := by decide +kernel
theorem dX3_lays_33 : decode cX3_lays 33 = .ok (.dup, 1) := by decide +kernel
theorem dX3_lays_34 : decode cX3_lays 34 = .ok (.getfield 41, 3) := by decide +kernel
theorem dX3_lays_37 : decode cX3_lays 37 = .ok (.lload_n 2, 1) := by decide +kernel
theorem dX3_lays_38 : decode cX3_lays 38 = .ok (.ldiv, 1) := by decide +kernel
theorem dX3_lays_39 : decode cX3_lays 39 = .ok (.putfield 41, 3) := by decide +kernel
theorem dX3_lays_42 : decode cX3_lays 42 = .ok (.aload_n 0, 1) := by decide +kernel
theorem dX3_lays_43 : decode cX3_lays 43 = .ok (.dup, 1) := by decide +kernel
theorem dX3_lays_44 : decode cX3_lays 44 = .ok (.getfield 45, 3) := by decide +kernel
theorem dX3_lays_47 : decode cX3_lays 47 = .ok (.lload_n 2, 1) := by decide +kernel
theorem dX3_lays_48 : decode cX3_lays 48 = .ok (.ldiv, 1) := by decide +kernel
theorem dX3_lays_49 : decode cX3_lays 49 = .ok (.putfield 45, 3) := by decide +kernel
theorem dX3_lays_52 : decode cX3_lays 52 = .ok (.return_, 1) := by decide +kernel
theorem dX3_placeOf_0 : decode cX3_placeOf 0 = .ok (.iconst 0, 1) := by decide +kernel
theorem dX3_placeOf_1 : decode cX3_placeOf 1 = .ok (.istore_n 2, 1) := by decide +kernel
theorem dX3_placeOf_2 : decode cX3_placeOf 2 = .ok (.iload_n 2, 1) := by decide +kernel
theorem dX3_placeOf_3 : decode cX3_placeOf 3 = .ok (.aload_n 0, 1) := by decide +kernel
theorem dX3_placeOf_4 : decode cX3_placeOf 4 = .ok (.getfield 51, 3) := by decide +kernel
theorem dX3_placeOf_7 : decode cX3_placeOf 7 = .ok (.if_icmp .ge 19, 3) := by decide +kernel
theorem dX3_placeOf_10 : decode cX3_placeOf 10 = .ok (.aload_n 0, 1) := by decide +kernel
theorem dX3_placeOf_11 : decode cX3_placeOf 11 = .ok (.getfield 16, 3) := by decide +kernel
theorem dX3_placeOf_14 : decode cX3_placeOf 14 = .ok (.iload_n 2, 1) := by decide +kernel
theorem dX3_placeOf_15 : decode cX3_placeOf 15 = .ok (.iaload, 1) := by decide +kernel
theorem dX3_placeOf_16 : decode cX3_placeOf 16 = .ok (.iload_n 1, 1) := by decide +kernel
theorem dX3_placeOf_17 : decode cX3_placeOf 17 = .ok (.if_icmp .ge 9, 3) := by decide +kernel
theorem dX3_placeOf_20 : decode cX3_placeOf 20 = .ok (.iinc 2 1, 3) := by decide +kernel
theorem dX3_placeOf_23 : decode cX3_placeOf 23 = .ok (.goto (-21), 3) := by decide +kernel
theorem dX3_placeOf_26 : decode cX3_placeOf 26 = .ok (.iload_n 2, 1) := by decide +kernel
theorem dX3_placeOf_27 : decode cX3_placeOf 27 = .ok (.ireturn, 1) := by decide +kernel
set_option maxRecDepth 20000 in
theorem ggX3_isInRow_X3_placeOf : GoodIn wsX3_isInRow wsX3_placeOf := goodIn_r _ [7, 1, 2, 8, 9, 10, 11, 12, 13, 14, 15, 16, 17, 18, 19, 20, 21, 22, 23, 24, 25] (by decide +kernel) (by decide +kernel)
set_option maxRecDepth 20000 in
theorem gX3_isInRow_X3_placeOf : GoodIn wsX3_isInRow (wsV RX3 66 RX3 yX3_placeOf wsX3_placeOf) := goodIn_app (goodIn_of _ (by decide +kernel)) ggX3_isInRow_X3_placeOf
theorem dX3_isInRow_0 : decode cX3_isInRow 0 = .ok (.aload_n 0, 1) := by decide +kernel
theorem dX3_isInRow_1 : decode cX3_isInRow 1 = .ok (.iload_n 1, 1) := by decide +kernel
theorem dX3_isInRow_2 : decode cX3_isInRow 2 = .ok (.invokevirtual 66, 3) := by decide +kernel
theorem dX3_isInRow_5 : decode cX3_isInRow 5 = .ok (.istore_n 2, 1) := by decide +kernel
theorem dX3_isInRow_6 : decode cX3_isInRow 6 = .ok (.iload_n 2, 1) := by decide +kernel
theorem dX3_isInRow_7 : decode cX3_isInRow 7 = .ok (.aload_n 0, 1) := by decide +kernel
theorem dX3_isInRow_8 : decode cX3_isInRow 8 = .ok (.getfield 51, 3) := by decide +kernel
theorem dX3_isInRow_11 : decode cX3_isInRow 11 = .ok (.if_icmp .ge 17, 3) := by decide +kernel
theorem dX3_isInRow_14 : decode cX3_isInRow 14 = .ok (.aload_n 0, 1) := by decide +kernel
theorem dX3_isInRow_15 : decode cX3_isInRow 15 = .ok (.getfield 16, 3) := by decide +kernel
theorem dX3_isInRow_18 : decode cX3_isInRow 18 = .ok (.iload_n 2, 1) := by decide +kernel
theorem dX3_isInRow_19 : decode cX3_isInRow 19 = .ok (.iaload, 1) := by decide +kernel
theorem dX3_isInRow_20 : decode cX3_isInRow 20 = .ok (.iload_n 1, 1) := by decide +kernel
theorem dX3_isInRow_21 : decode cX3_isInRow 21 = .ok (.if_icmp .ne 7, 3) := by decide +kernel
theorem dX3_isInRow_24 : decode cX3_isInRow 24 = .ok (.iconst 1, 1) := by decide +kernel
theorem dX3_isInRow_25 : decode cX3_isInRow 25 = .ok (.goto 4, 3) := by decide +kernel
theorem dX3_isInRow_28 : decode cX3_isInRow 28 = .ok (.iconst 0, 1) := by decide +kernel
theorem dX3_isInRow_29 : decode cX3_isInRow 29 = .ok (.ireturn, 1) := by decide +kernel
theorem dX3_isBuffered_0 : decode cX3_isBuffered 0 = .ok (.iconst 0, 1) := by decide +kernel
theorem dX3_isBuffered_1 : decode cX3_isBuffered 1 = .ok (.istore_n 2, 1) := by decide +kernel
theorem dX3_isBuffered_2 : decode cX3_isBuffered 2 = .ok (.iconst 0, 1) := by decide +kernel
theorem dX3_isBuffered_3 : decode cX3_isBuffered 3 = .ok (.istore_n 3, 1) := by decide +kernel
theorem dX3_isBuffered_4 : decode cX3_isBuffered 4 = .ok (.iload_n 3, 1) := by decide +kernel
theorem dX3_isBuffered_5 : decode cX3_isBuffered 5 = .ok (.aload_n 0, 1) := by decide +kernel
theorem dX3_isBuffered_6 : decode cX3_isBuffered 6 = .ok (.getfield 69, 3) := by decide +kernel
theorem dX3_isBuffered_9 : decode cX3_isBuffered 9 = .ok (.if_icmp .ge 29, 3) := by decide +kernel
theorem dX3_isBuffered_12 : decode cX3_isBuffered 12 = .ok (.iload_n 2, 1) := by decide +kernel
theorem dX3_isBuffered_13 : decode cX3_isBuffered 13 = .ok (.ifCond .ne 13, 3) := by decide +kernel
theorem dX3_isBuffered_16 : decode cX3_isBuffered 16 = .ok (.aload_n 0, 1) := by decide +kernel
theorem dX3_isBuffered_17 : decode cX3_isBuffered 17 = .ok (.getfield 27, 3) := by decide +kernel
theorem dX3_isBuffered_20 : decode cX3_isBuffered 20 = .ok (.iload_n 3, 1) := by decide +kernel
theorem dX3_isBuffered_21 : decode cX3_isBuffered 21 = .ok (.iaload, 1) := by decide +kernel
theorem dX3_isBuffered_22 : decode cX3_isBuffered 22 = .ok (.iload_n 1, 1) := by decide +kernel
theorem dX3_isBuffered_23 : decode cX3_isBuffered 23 = .ok (.if_icmp .ne 7, 3) := by decide +kernel
theorem dX3_isBuffered_26 : decode cX3_isBuffered 26 = .ok (.iconst 1, 1) := by decide +kernel
theorem dX3_isBuffered_27 : decode cX3_isBuffered 27 = .ok (.goto 4, 3) := by decide +kernel
theorem dX3_isBuffered_30 : decode cX3_isBuffered 30 = .ok (.iconst 0, 1) := by decide +kernel
theorem dX3_isBuffered_31 : decode cX3_isBuffered 31 = .ok (.istore_n 2, 1) := by decide +kernel
theorem dX3_isBuffered_32 : decode cX3_isBuffered 32 = .ok (.iinc 3 1, 3) := by decide +kernel
theorem dX3_isBuffered_35 : decode cX3_isBuffered 35 = .ok (.goto (-31), 3) := by decide +kernel
theorem dX3_isBuffered_38 : decode cX3_isBuffered 38 = .ok (.iload_n 2, 1) := by decide +kernel
theorem dX3_isBuffered_39 : decode cX3_isBuffered 39 = .ok (.ireturn, 1) := by decide +kernel
set_option maxRecDepth 20000 in
theorem ggX3_isThere_X3_isBuffered : GoodIn wsX3_isThere wsX3_isBuffered := goodIn_r _ [6, 7, 8, 19, 20, 21, 22, 23, 24, 25, 26, 27, 28, 29, 30, 31, 32, 33, 34, 35, 36] (by decide +kernel) (by decide +kernel)
set_option maxRecDepth 20000 in
theorem gX3_isThere_X3_isBuffered : GoodIn wsX3_isThere (wsV RX3 72 RX3 yX3_isBuffered wsX3_isBuffered) := goodIn_app (goodIn_of _ (by decide +kernel)) ggX3_isThere_X3_isBuffered
set_option maxRecDepth 20000 in
theorem ggX3_isThere_X3_isInRow : GoodIn wsX3_isThere wsX3_isInRow := goodIn_r _ [12, 13, 14, 15, 16, 17, 5, 18, 19, 20, 21, 22, 23, 24, 25, 26, 27, 28, 29, 30, 31, 32, 33, 34, 35, 36] (by decide +kernel) (by decide +kernel)
set_option maxRecDepth 20000 in
theorem gX3_isThere_X3_isInRow : GoodIn wsX3_isThere (wsV RX3 76 RX3 yX3_isInRow wsX3_isInRow) := goodIn_app (goodIn_of _ (by decide +kernel)) ggX3_isThere_X3_isInRow
set_option maxRecDepth 20000 in
theorem ggX3_isThere_X3_placeOf : GoodIn wsX3_isThere wsX3_placeOf := goodIn_r _ [18, 13, 14, 19, 20, 21, 22, 23, 24, 25, 26, 27, 28, 29, 30, 31, 32, 33, 34, 35, 36] (by decide +kernel) (by decide +kernel)
set_option maxRecDepth 20000 in
theorem gX3_isThere_X3_placeOf : GoodIn wsX3_isThere (wsV RX3 66 RX3 yX3_placeOf wsX3_placeOf) := goodIn_app (goodIn_of _ (by decide +kernel)) ggX3_isThere_X3_placeOf
theorem dX3_isThere_0 : decode cX3_isThere 0 = .ok (.aload_n 0, 1) := by decide +kernel
theorem dX3_isThere_1 : decode cX3_isThere 1 = .ok (.iload_n 1, 1) := by decide +kernel
theorem dX3_isThere_2 : decode cX3_isThere 2 = .ok (.invokevirtual 72, 3) := by decide +kernel
theorem dX3_isThere_5 : decode cX3_isThere 5 = .ok (.ifCond .ne 24, 3) := by decide +kernel
theorem dX3_isThere_8 : decode cX3_isThere 8 = .ok (.aload_n 0, 1) := by decide +kernel
theorem dX3_isThere_9 : decode cX3_isThere 9 = .ok (.iload_n 1, 1) := by decide +kernel
theorem dX3_isThere_10 : decode cX3_isThere 10 = .ok (.invokevirtual 76, 3) := by decide +kernel
theorem dX3_isThere_13 : decode cX3_isThere 13 = .ok (.ifCond .eq 20, 3) := by decide +kernel
theorem dX3_isThere_16 : decode cX3_isThere 16 = .ok (.aload_n 0, 1) := by decide +kernel
theorem dX3_isThere_17 : decode cX3_isThere 17 = .ok (.getfield 20, 3) := by decide +kernel
theorem dX3_isThere_20 : decode cX3_isThere 20 = .ok (.aload_n 0, 1) := by decide +kernel
theorem dX3_isThere_21 : decode cX3_isThere 21 = .ok (.iload_n 1, 1) := by decide +kernel
theorem dX3_isThere_22 : decode cX3_isThere 22 = .ok (.invokevirtual 66, 3) := by decide +kernel
theorem dX3_isThere_25 : decode cX3_isThere 25 = .ok (.baload, 1) := by decide +kernel
theorem dX3_isThere_26 : decode cX3_isThere 26 = .ok (.ifCond .ne 7, 3) := by decide +kernel
theorem dX3_isThere_29 : decode cX3_isThere 29 = .ok (.iconst 1, 1) := by decide +kernel
theorem dX3_isThere_30 : decode cX3_isThere 30 = .ok (.goto 4, 3) := by decide +kernel
theorem dX3_isThere_33 : decode cX3_isThere 33 = .ok (.iconst 0, 1) := by decide +kernel
theorem dX3_isThere_34 : decode cX3_isThere 34 = .ok (.ireturn, 1) := by decide +kernel
theorem dX3_pieceOf_0 : decode cX3_pieceOf 0 = .ok (.iconst (-1), 1) := by decide +kernel
theorem dX3_pieceOf_1 : decode cX3_pieceOf 1 = .ok (.istore_n 2, 1) := by decide +kernel
theorem dX3_pieceOf_2 : decode cX3_pieceOf 2 = .ok (.iconst 0, 1) := by decide +kernel
theorem dX3_pieceOf_3 : decode cX3_pieceOf 3 = .ok (.istore_n 3, 1) := by decide +kernel
theorem dX3_pieceOf_4 : decode cX3_pieceOf 4 = .ok (.iload_n 3, 1) := by decide +kernel
theorem dX3_pieceOf_5 : decode cX3_pieceOf 5 = .ok (.aload_n 0, 1) := by decide +kernel
theorem dX3_pieceOf_6 : decode cX3_pieceOf 6 = .ok (.getfield 48, 3) := by decide +kernel
theorem dX3_pieceOf_9 : decode cX3_pieceOf 9 = .ok (.if_icmp .ge 30, 3) := by decide +kernel
theorem dX3_pieceOf_12 : decode cX3_pieceOf 12 = .ok (.aload_n 0, 1) := by decide +kernel
theorem dX3_pieceOf_13 : decode cX3_pieceOf 13 = .ok (.getfield 16, 3) := by decide +kernel
theorem dX3_pieceOf_16 : decode cX3_pieceOf 16 = .ok (.aload_n 0, 1) := by decide +kernel
theorem dX3_pieceOf_17 : decode cX3_pieceOf 17 = .ok (.getfield 24, 3) := by decide +kernel
theorem dX3_pieceOf_20 : decode cX3_pieceOf 20 = .ok (.iload_n 3, 1) := by decide +kernel
theorem dX3_pieceOf_21 : decode cX3_pieceOf 21 = .ok (.iaload, 1) := by decide +kernel
theorem dX3_pieceOf_22 : decode cX3_pieceOf 22 = .ok (.iaload, 1) := by decide +kernel
theorem dX3_pieceOf_23 : decode cX3_pieceOf 23 = .ok (.iload_n 1, 1) := by decide +kernel
theorem dX3_pieceOf_24 : decode cX3_pieceOf 24 = .ok (.if_icmp .gt 7, 3) := by decide +kernel
theorem dX3_pieceOf_27 : decode cX3_pieceOf 27 = .ok (.iload_n 3, 1) := by decide +kernel
theorem dX3_pieceOf_28 : decode cX3_pieceOf 28 = .ok (.goto 4, 3) := by decide +kernel
theorem dX3_pieceOf_31 : decode cX3_pieceOf 31 = .ok (.iload_n 2, 1) := by decide +kernel
theorem dX3_pieceOf_32 : decode cX3_pieceOf 32 = .ok (.istore_n 2, 1) := by decide +kernel
theorem dX3_pieceOf_33 : decode cX3_pieceOf 33 = .ok (.iinc 3 1, 3) := by decide +kernel
theorem dX3_pieceOf_36 : decode cX3_pieceOf 36 = .ok (.goto (-32), 3) := by decide +kernel
theorem dX3_pieceOf_39 : decode cX3_pieceOf 39 = .ok (.iload_n 2, 1) := by decide +kernel
theorem dX3_pieceOf_40 : decode cX3_pieceOf 40 = .ok (.ireturn, 1) := by decide +kernel
theorem dX3_many_0 : decode cX3_many 0 = .ok (.aload_n 0, 1) := by decide +kernel
theorem dX3_many_1 : decode cX3_many 1 = .ok (.getfield 51, 3) := by decide +kernel
theorem dX3_many_4 : decode cX3_many 4 = .ok (.aload_n 0, 1) := by decide +kernel
theorem dX3_many_5 : decode cX3_many 5 = .ok (.getfield 69, 3) := by decide +kernel
theorem dX3_many_8 : decode cX3_many 8 = .ok (.iadd, 1) := by decide +kernel
theorem dX3_many_9 : decode cX3_many 9 = .ok (.ireturn, 1) := by decide +kernel
theorem dX3_isAbove_0 : decode cX3_isAbove 0 = .ok (.aload_n 0, 1) := by decide +kernel
theorem dX3_isAbove_1 : decode cX3_isAbove 1 = .ok (.getfield 51, 3) := by decide +kernel
theorem dX3_isAbove_4 : decode cX3_isAbove 4 = .ok (.ifCond .eq 18, 3) := by decide +kernel
theorem dX3_isAbove_7 : decode cX3_isAbove 7 = .ok (.aload_n 0, 1) := by decide +kernel
theorem dX3_isAbove_8 : decode cX3_isAbove 8 = .ok (.getfield 16, 3) := by decide +kernel
theorem dX3_isAbove_11 : decode cX3_isAbove 11 = .ok (.aload_n 0, 1) := by decide +kernel
theorem dX3_isAbove_12 : decode cX3_isAbove 12 = .ok (.getfield 51, 3) := by decide +kernel
theorem dX3_isAbove_15 : decode cX3_isAbove 15 = .ok (.iconst 1, 1) := by decide +kernel
theorem dX3_isAbove_16 : decode cX3_isAbove 16 = .ok (.isub, 1) := by decide +kernel
theorem dX3_isAbove_17 : decode cX3_isAbove 17 = .ok (.iaload, 1) := by decide +kernel
theorem dX3_isAbove_18 : decode cX3_isAbove 18 = .ok (.iload_n 1, 1) := by decide +kernel
theorem dX3_isAbove_19 : decode cX3_isAbove 19 = .ok (.if_icmp .ge 7, 3) := by decide +kernel
theorem dX3_isAbove_22 : decode cX3_isAbove 22 = .ok (.iconst 1, 1) := by decide +kernel
theorem dX3_isAbove_23 : decode cX3_isAbove 23 = .ok (.goto 4, 3) := by decide +kernel
theorem dX3_isAbove_26 : decode cX3_isAbove 26 = .ok (.iconst 0, 1) := by decide +kernel
theorem dX3_isAbove_27 : decode cX3_isAbove 27 = .ok (.istore_n 2, 1) := by decide +kernel
theorem dX3_isAbove_28 : decode cX3_isAbove 28 = .ok (.iload_n 2, 1) := by decide +kernel
theorem dX3_isAbove_29 : decode cX3_isAbove 29 = .ok (.ifCond .eq 29, 3) := by decide +kernel
theorem dX3_isAbove_32 : decode cX3_isAbove 32 = .ok (.aload_n 0, 1) := by decide +kernel
theorem dX3_isAbove_33 : decode cX3_isAbove 33 = .ok (.getfield 69, 3) := by decide +kernel
theorem dX3_isAbove_36 : decode cX3_isAbove 36 = .ok (.ifCond .eq 18, 3) := by decide +kernel
theorem dX3_isAbove_39 : decode cX3_isAbove 39 = .ok (.aload_n 0, 1) := by decide +kernel
theorem dX3_isAbove_40 : decode cX3_isAbove 40 = .ok (.getfield 27, 3) := by decide +kernel
theorem dX3_isAbove_43 : decode cX3_isAbove 43 = .ok (.aload_n 0, 1) := by decide +kernel
theorem dX3_isAbove_44 : decode cX3_isAbove 44 = .ok (.getfield 69, 3) := by decide +kernel
theorem dX3_isAbove_47 : decode cX3_isAbove 47 = .ok (.iconst 1, 1) := by decide +kernel
theorem dX3_isAbove_48 : decode cX3_isAbove 48 = .ok (.isub, 1) := by decide +kernel
theorem dX3_isAbove_49 : decode cX3_isAbove 49 = .ok (.iaload, 1) := by decide +kernel
theorem dX3_isAbove_50 : decode cX3_isAbove 50 = .ok (.iload_n 1, 1) := by decide +kernel
theorem dX3_isAbove_51 : decode cX3_isAbove 51 = .ok (.if_icmp .ge 7, 3) := by decide +kernel
theorem dX3_isAbove_54 : decode cX3_isAbove 54 = .ok (.iconst 1, 1) := by decide +kernel
theorem dX3_isAbove_55 : decode cX3_isAbove 55 = .ok (.goto 4, 3) := by decide +kernel
theorem dX3_isAbove_58 : decode cX3_isAbove 58 = .ok (.iconst 0, 1) := by decide +kernel
theorem dX3_isAbove_59 : decode cX3_isAbove 59 = .ok (.ireturn, 1) := by decide +kernel
set_option maxRecDepth 20000 in
theorem ggX3_ends_X3_fits : GoodIn wsX3_ends wsX3_fits := goodIn_r _ [10, 11, 12, 13, 14, 15, 16, 17, 18, 19, 20, 21, 22, 23, 24, 25, 26, 27, 28, 29, 30, 31] (by decide +kernel) (by decide +kernel)
set_option maxRecDepth 20000 in
theorem gX3_ends_X3_fits : GoodIn wsX3_ends (wsV RX3 58 RX3 yX3_fits wsX3_fits) := goodIn_app (goodIn_of _ (by decide +kernel)) ggX3_ends_X3_fits
theorem dX3_ends_0 : decode cX3_ends 0 = .ok (.aload_n 0, 1) := by decide +kernel
theorem dX3_ends_1 : decode cX3_ends 1 = .ok (.getfield 16, 3) := by decide +kernel
theorem dX3_ends_4 : decode cX3_ends 4 = .ok (.aload_n 0, 1) := by decide +kernel
theorem dX3_ends_5 : decode cX3_ends 5 = .ok (.getfield 51, 3) := by decide +kernel
theorem dX3_ends_8 : decode cX3_ends 8 = .ok (.iload_n 1, 1) := by decide +kernel
theorem dX3_ends_9 : decode cX3_ends 9 = .ok (.iastore, 1) := by decide +kernel
theorem dX3_ends_10 : decode cX3_ends 10 = .ok (.aload_n 0, 1) := by decide +kernel
theorem dX3_ends_11 : decode cX3_ends 11 = .ok (.getfield 20, 3) := by decide +kernel
theorem dX3_ends_14 : decode cX3_ends 14 = .ok (.aload_n 0, 1) := by decide +kernel
theorem dX3_ends_15 : decode cX3_ends 15 = .ok (.getfield 51, 3) := by decide +kernel
theorem dX3_ends_18 : decode cX3_ends 18 = .ok (.iconst 0, 1) := by decide +kernel
theorem dX3_ends_19 : decode cX3_ends 19 = .ok (.bastore, 1) := by decide +kernel
theorem dX3_ends_20 : decode cX3_ends 20 = .ok (.aload_n 0, 1) := by decide +kernel
theorem dX3_ends_21 : decode cX3_ends 21 = .ok (.dup, 1) := by decide +kernel
theorem dX3_ends_22 : decode cX3_ends 22 = .ok (.getfield 51, 3) := by decide +kernel
theorem dX3_ends_25 : decode cX3_ends 25 = .ok (.iconst 1, 1) := by decide +kernel
theorem dX3_ends_26 : decode cX3_ends 26 = .ok (.iadd, 1) := by decide +kernel
theorem dX3_ends_27 : decode cX3_ends 27 = .ok (.putfield 51, 3) := by decide +kernel
theorem dX3_ends_30 : decode cX3_ends 30 = .ok (.aload_n 0, 1) := by decide +kernel
theorem dX3_ends_31 : decode cX3_ends 31 = .ok (.getfield 48, 3) := by decide +kernel
theorem dX3_ends_34 : decode cX3_ends 34 = .ok (.ifCond .eq 29, 3) := by decide +kernel
theorem dX3_ends_37 : decode cX3_ends 37 = .ok (.aload_n 0, 1) := by decide +kernel
theorem dX3_ends_38 : decode cX3_ends 38 = .ok (.aload_n 0, 1) := by decide +kernel
theorem dX3_ends_39 : decode cX3_ends 39 = .ok (.getfield 16, 3) := by decide +kernel
theorem dX3_ends_42 : decode cX3_ends 42 = .ok (.aload_n 0, 1) := by decide +kernel
theorem dX3_ends_43 : decode cX3_ends 43 = .ok (.getfield 24, 3) := by decide +kernel
theorem dX3_ends_46 : decode cX3_ends 46 = .ok (.aload_n 0, 1) := by decide +kernel
theorem dX3_ends_47 : decode cX3_ends 47 = .ok (.getfield 48, 3) := by decide +kernel
theorem dX3_ends_50 : decode cX3_ends 50 = .ok (.iconst 1, 1) := by decide +kernel
theorem dX3_ends_51 : decode cX3_ends 51 = .ok (.isub, 1) := by decide +kernel
theorem dX3_ends_52 : decode cX3_ends 52 = .ok (.iaload, 1) := by decide +kernel
theorem dX3_ends_53 : decode cX3_ends 53 = .ok (.aload_n 0, 1) := by decide +kernel
theorem dX3_ends_54 : decode cX3_ends 54 = .ok (.getfield 51, 3) := by decide +kernel
theorem dX3_ends_57 : decode cX3_ends 57 = .ok (.invokevirtual 58, 3) := by decide +kernel
theorem dX3_ends_60 : decode cX3_ends 60 = .ok (.ifCond .ne 28, 3) := by decide +kernel
theorem dX3_ends_63 : decode cX3_ends 63 = .ok (.aload_n 0, 1) := by decide +kernel
theorem dX3_ends_64 : decode cX3_ends 64 = .ok (.getfield 24, 3) := by decide +kernel
theorem dX3_ends_67 : decode cX3_ends 67 = .ok (.aload_n 0, 1) := by decide +kernel
theorem dX3_ends_68 : decode cX3_ends 68 = .ok (.getfield 48, 3) := by decide +kernel
theorem dX3_ends_71 : decode cX3_ends 71 = .ok (.aload_n 0, 1) := by decide +kernel
theorem dX3_ends_72 : decode cX3_ends 72 = .ok (.getfield 51, 3) := by decide +kernel
theorem dX3_ends_75 : decode cX3_ends 75 = .ok (.iconst 1, 1) := by decide +kernel
theorem dX3_ends_76 : decode cX3_ends 76 = .ok (.isub, 1) := by decide +kernel
theorem dX3_ends_77 : decode cX3_ends 77 = .ok (.iastore, 1) := by decide +kernel
theorem dX3_ends_78 : decode cX3_ends 78 = .ok (.aload_n 0, 1) := by decide +kernel
theorem dX3_ends_79 : decode cX3_ends 79 = .ok (.dup, 1) := by decide +kernel
theorem dX3_ends_80 : decode cX3_ends 80 = .ok (.getfield 48, 3) := by decide +kernel
theorem dX3_ends_83 : decode cX3_ends 83 = .ok (.iconst 1, 1) := by decide +kernel
theorem dX3_ends_84 : decode cX3_ends 84 = .ok (.iadd, 1) := by decide +kernel
theorem dX3_ends_85 : decode cX3_ends 85 = .ok (.putfield 48, 3) := by decide +kernel
theorem dX3_ends_88 : decode cX3_ends 88 = .ok (.return_, 1) := by decide +kernel
set_option maxRecDepth 20000 in
theorem ggX3_append_X3_isKey : GoodIn wsX3_append wsX3_isKey := goodIn_r _ [6, 7, 8] (by decide +kernel) (by decide +kernel)
set_option maxRecDepth 20000 in
theorem gX3_append_X3_isKey : GoodIn wsX3_append (va_wsS RX3 79 yX3_isKey wsX3_isKey) := goodIn_app (goodIn_of _ (by decide +kernel)) ggX3_append_X3_isKey
set_option maxRecDepth 20000 in
theorem ggX3_append_X3_many : GoodIn wsX3_append wsX3_many := goodIn_r _ [12, 13, 14, 34, 35, 36, 37, 38, 39, 40, 41, 42, 43, 44, 45, 46, 47, 48, 49, 50, 51] (by decide +kernel) (by decide +kernel)
set_option maxRecDepth 20000 in
theorem gX3_append_X3_many : GoodIn wsX3_append (wsV RX3 82 RX3 yX3_many wsX3_many) := goodIn_app (goodIn_of _ (by decide +kernel)) ggX3_append_X3_many
set_option maxRecDepth 20000 in
theorem ggX3_append_X3_isAbove : GoodIn wsX3_append wsX3_isAbove := goodIn_r _ [18, 13, 19, 14, 20, 34, 35, 36, 37, 38, 39, 40, 41, 42, 43, 44, 45, 46, 47, 48, 49, 50, 51] (by decide +kernel) (by decide +kernel)
set_option maxRecDepth 20000 in
theorem gX3_append_X3_isAbove : GoodIn wsX3_append (wsV RX3 86 RX3 yX3_isAbove wsX3_isAbove) := goodIn_app (goodIn_of _ (by decide +kernel)) ggX3_append_X3_isAbove
set_option maxRecDepth 20000 in
theorem ggX3_append_X3_ends : GoodIn wsX3_append wsX3_ends := goodIn_r _ [24, 19, 13, 25, 2, 26, 27, 28, 29, 5, 30, 31, 32, 33, 34, 35, 36, 37, 38, 39, 40, 41, 42, 43, 44, 45, 46, 47, 48, 49, 50, 51] (by decide +kernel) (by decide +kernel)
set_option maxRecDepth 20000 in
theorem gX3_append_X3_ends : GoodIn wsX3_append (wsV RX3 89 RX3 yX3_ends wsX3_ends) := goodIn_app (goodIn_of _ (by decide +kernel)) ggX3_append_X3_ends
theorem dX3_append_0 : decode cX3_append 0 = .ok (.aload_n 0, 1) := by decide +kernel
theorem dX3_append_1 : decode cX3_append 1 = .ok (.iload_n 1, 1) := by decide +kernel
theorem dX3_append_2 : decode cX3_append 2 = .ok (.invokestatic 79, 3) := by decide +kernel
theorem dX3_append_5 : decode cX3_append 5 = .ok (.ifCond .ne 7, 3) := by decide +kernel
theorem dX3_append_8 : decode cX3_append 8 = .ok (.iconst 1, 1) := by decide +kernel
theorem dX3_append_9 : decode cX3_append 9 = .ok (.goto 26, 3) := by decide +kernel
theorem dX3_append_12 : decode cX3_append 12 = .ok (.aload_n 0, 1) := by decide +kernel
theorem dX3_append_13 : decode cX3_append 13 = .ok (.invokevirtual 82, 3) := by decide +kernel
theorem dX3_append_16 : decode cX3_append 16 = .ok (.sipush 256, 3) := by decide +kernel
theorem dX3_append_19 : decode cX3_append 19 = .ok (.if_icmp .eq 11, 3) := by decide +kernel
theorem dX3_append_22 : decode cX3_append 22 = .ok (.aload_n 0, 1) := by decide +kernel
theorem dX3_append_23 : decode cX3_append 23 = .ok (.iload_n 1, 1) := by decide +kernel
theorem dX3_append_24 : decode cX3_append 24 = .ok (.invokevirtual 86, 3) := by decide +kernel
theorem dX3_append_27 : decode cX3_append 27 = .ok (.ifCond .ne 7, 3) := by decide +kernel
theorem dX3_append_30 : decode cX3_append 30 = .ok (.iconst 2, 1) := by decide +kernel
theorem dX3_append_31 : decode cX3_append 31 = .ok (.goto 4, 3) := by decide +kernel
theorem dX3_append_34 : decode cX3_append 34 = .ok (.iconst 0, 1) := by decide +kernel
theorem dX3_append_35 : decode cX3_append 35 = .ok (.putfield 36, 3) := by decide +kernel
theorem dX3_append_38 : decode cX3_append 38 = .ok (.aload_n 0, 1) := by decide +kernel
theorem dX3_append_39 : decode cX3_append 39 = .ok (.getfield 36, 3) := by decide +kernel
theorem dX3_append_42 : decode cX3_append 42 = .ok (.ifCond .ne 8, 3) := by decide +kernel
theorem dX3_append_45 : decode cX3_append 45 = .ok (.aload_n 0, 1) := by decide +kernel
theorem dX3_append_46 : decode cX3_append 46 = .ok (.iload_n 1, 1) := by decide +kernel
theorem dX3_append_47 : decode cX3_append 47 = .ok (.invokevirtual 89, 3) := by decide +kernel
theorem dX3_append_50 : decode cX3_append 50 = .ok (.aload_n 0, 1) := by decide +kernel
theorem dX3_append_51 : decode cX3_append 51 = .ok (.getfield 48, 3) := by decide +kernel
theorem dX3_append_54 : decode cX3_append 54 = .ok (.ireturn, 1) := by decide +kernel
set_option maxRecDepth 20000 in
theorem ggX3_appendMany_X3_isKey : GoodIn wsX3_appendMany wsX3_isKey := goodIn_r _ [6, 7, 8] (by decide +kernel) (by decide +kernel)
set_option maxRecDepth 20000 in
theorem gX3_appendMany_X3_isKey : GoodIn wsX3_appendMany (va_wsS RX3 79 yX3_isKey wsX3_isKey) := goodIn_app (goodIn_of _ (by decide +kernel)) ggX3_appendMany_X3_isKey
set_option maxRecDepth 20000 in
theorem ggX3_appendMany_X3_many : GoodIn wsX3_appendMany wsX3_many := goodIn_r _ [12, 13, 14, 34, 35, 36, 37, 38, 39, 40, 41, 42, 43, 44, 45, 46, 47, 48, 49, 50, 51] (by decide +kernel) (by decide +kernel)
set_option maxRecDepth 20000 in
theorem gX3_appendMany_X3_many : GoodIn wsX3_appendMany (wsV RX3 82 RX3 yX3_many wsX3_many) := goodIn_app (goodIn_of _ (by decide +kernel)) ggX3_appendMany_X3_many
set_option maxRecDepth 20000 in
theorem ggX3_appendMany_X3_isAbove : GoodIn wsX3_appendMany wsX3_isAbove := goodIn_r _ [18, 13, 19, 14, 20, 34, 35, 36, 37, 38, 39, 40, 41, 42, 43, 44, 45, 46, 47, 48, 49, 50, 51] (by decide +kernel) (by decide +kernel)
set_option maxRecDepth 20000 in
theorem gX3_appendMany_X3_isAbove : GoodIn wsX3_appendMany (wsV RX3 86 RX3 yX3_isAbove wsX3_isAbove) := goodIn_app (goodIn_of _ (by decide +kernel)) ggX3_appendMany_X3_isAbove
set_option maxRecDepth 20000 in
theorem ggX3_appendMany_X3_ends : GoodIn wsX3_appendMany wsX3_ends := goodIn_r _ [24, 19, 13, 25, 2, 26, 27, 28, 29, 5, 30, 31, 32, 33, 34, 35, 36, 37, 38, 39, 40, 41, 42, 43, 44, 45, 46, 47, 48, 49, 50, 51] (by decide +kernel) (by decide +kernel)
set_option maxRecDepth 20000 in
theorem gX3_appendMany_X3_ends : GoodIn wsX3_appendMany (wsV RX3 89 RX3 yX3_ends wsX3_ends) := goodIn_app (goodIn_of _ (by decide +kernel)) ggX3_appendMany_X3_ends
theorem dX3_appendMany_0 : decode cX3_appendMany 0 = .ok (.iload_n 1, 1) := by decide +kernel
theorem dX3_appendMany_1 : decode cX3_appendMany 1 = .ok (.invokestatic 79, 3) := by decide +kernel
theorem dX3_appendMany_4 : decode cX3_appendMany 4 = .ok (.ifCond .eq 30, 3) := by decide +kernel
theorem dX3_appendMany_7 : decode cX3_appendMany 7 = .ok (.iload_n 2, 1) := by decide +kernel
theorem dX3_appendMany_8 : decode cX3_appendMany 8 = .ok (.iconst 1, 1) := by decide +kernel
theorem dX3_appendMany_9 : decode cX3_appendMany 9 = .ok (.if_icmp .lt 25, 3) := by decide +kernel
theorem dX3_appendMany_12 : decode cX3_appendMany 12 = .ok (.iload_n 2, 1) := by decide +kernel
theorem dX3_appendMany_13 : decode cX3_appendMany 13 = .ok (.sipush 10000, 3) := by decide +kernel
theorem dX3_appendMany_16 : decode cX3_appendMany 16 = .ok (.if_icmp .gt 18, 3) := by decide +kernel
theorem dX3_appendMany_19 : decode cX3_appendMany 19 = .ok (.iload_n 3, 1) := by decide +kernel
theorem dX3_appendMany_20 : decode cX3_appendMany 20 = .ok (.iconst 1, 1) := by decide +kernel
theorem dX3_appendMany_21 : decode cX3_appendMany 21 = .ok (.if_icmp .lt 13, 3) := by decide +kernel
theorem dX3_appendMany_24 : decode cX3_appendMany 24 = .ok (.iload_n 3, 1) := by decide +kernel
theorem dX3_appendMany_25 : decode cX3_appendMany 25 = .ok (.bipush 100, 2) := by decide +kernel
theorem dX3_appendMany_27 : decode cX3_appendMany 27 = .ok (.if_icmp .gt 7, 3) := by decide +kernel
theorem dX3_appendMany_30 : decode cX3_appendMany 30 = .ok (.iconst 1, 1) := by decide +kernel
theorem dX3_appendMany_31 : decode cX3_appendMany 31 = .ok (.goto 4, 3) := by decide +kernel
theorem dX3_appendMany_34 : decode cX3_appendMany 34 = .ok (.iconst 0, 1) := by decide +kernel
theorem dX3_appendMany_35 : decode cX3_appendMany 35 = .ok (.istore 4, 2) := by decide +kernel
theorem dX3_appendMany_37 : decode cX3_appendMany 37 = .ok (.aload_n 0, 1) := by decide +kernel
theorem dX3_appendMany_38 : decode cX3_appendMany 38 = .ok (.iload 4, 2) := by decide +kernel
theorem dX3_appendMany_40 : decode cX3_appendMany 40 = .ok (.ifCond .eq 16, 3) := by decide +kernel
theorem dX3_appendMany_43 : decode cX3_appendMany 43 = .ok (.iload_n 1, 1) := by decide +kernel
theorem dX3_appendMany_44 : decode cX3_appendMany 44 = .ok (.iload_n 2, 1) := by decide +kernel
theorem dX3_appendMany_45 : decode cX3_appendMany 45 = .ok (.iload_n 3, 1) := by decide +kernel
theorem dX3_appendMany_46 : decode cX3_appendMany 46 = .ok (.iconst 1, 1) := by decide +kernel
theorem dX3_appendMany_47 : decode cX3_appendMany 47 = .ok (.isub, 1) := by decide +kernel
theorem dX3_appendMany_48 : decode cX3_appendMany 48 = .ok (.imul, 1) := by decide +kernel
theorem dX3_appendMany_49 : decode cX3_appendMany 49 = .ok (.iadd, 1) := by decide +kernel
theorem dX3_appendMany_50 : decode cX3_appendMany 50 = .ok (.invokestatic 79, 3) := by decide +kernel
theorem dX3_appendMany_53 : decode cX3_appendMany 53 = .ok (.ifCond .ne 7, 3) := by decide +kernel
theorem dX3_appendMany_56 : decode cX3_appendMany 56 = .ok (.iconst 1, 1) := by decide +kernel
theorem dX3_appendMany_57 : decode cX3_appendMany 57 = .ok (.goto 28, 3) := by decide +kernel
theorem dX3_appendMany_60 : decode cX3_appendMany 60 = .ok (.aload_n 0, 1) := by decide +kernel
theorem dX3_appendMany_61 : decode cX3_appendMany 61 = .ok (.invokevirtual 82, 3) := by decide +kernel
theorem dX3_appendMany_64 : decode cX3_appendMany 64 = .ok (.iload_n 3, 1) := by decide +kernel
theorem dX3_appendMany_65 : decode cX3_appendMany 65 = .ok (.iadd, 1) := by decide +kernel
theorem dX3_appendMany_66 : decode cX3_appendMany 66 = .ok (.sipush 256, 3) := by decide +kernel
theorem dX3_appendMany_69 : decode cX3_appendMany 69 = .ok (.if_icmp .gt 11, 3) := by decide +kernel
theorem dX3_appendMany_72 : decode cX3_appendMany 72 = .ok (.aload_n 0, 1) := by decide +kernel
theorem dX3_appendMany_73 : decode cX3_appendMany 73 = .ok (.iload_n 1, 1) := by decide +kernel
theorem dX3_appendMany_74 : decode cX3_appendMany 74 = .ok (.invokevirtual 86, 3) := by decide +kernel
theorem dX3_appendMany_77 : decode cX3_appendMany 77 = .ok (.ifCond .ne 7, 3) := by decide +kernel
theorem dX3_appendMany_80 : decode cX3_appendMany 80 = .ok (.iconst 2, 1) := by decide +kernel
theorem dX3_appendMany_81 : decode cX3_appendMany 81 = .ok (.goto 4, 3) := by decide +kernel
theorem dX3_appendMany_84 : decode cX3_appendMany 84 = .ok (.iconst 0, 1) := by decide +kernel
theorem dX3_appendMany_85 : decode cX3_appendMany 85 = .ok (.putfield 36, 3) := by decide +kernel
theorem dX3_appendMany_88 : decode cX3_appendMany 88 = .ok (.iconst 0, 1) := by decide +kernel
theorem dX3_appendMany_89 : decode cX3_appendMany 89 = .ok (.istore 5, 2) := by decide +kernel
theorem dX3_appendMany_91 : decode cX3_appendMany 91 = .ok (.iload 5, 2) := by decide +kernel
theorem dX3_appendMany_93 : decode cX3_appendMany 93 = .ok (.iload_n 3, 1) := by decide +kernel
theorem dX3_appendMany_94 : decode cX3_appendMany 94 = .ok (.if_icmp .ge 26, 3) := by decide +kernel
theorem dX3_appendMany_97 : decode cX3_appendMany 97 = .ok (.aload_n 0, 1) := by decide +kernel
theorem dX3_appendMany_98 : decode cX3_appendMany 98 = .ok (.getfield 36, 3) := by decide +kernel
theorem dX3_appendMany_101 : decode cX3_appendMany 101 = .ok (.ifCond .ne 19, 3) := by decide +kernel
theorem dX3_appendMany_104 : decode cX3_appendMany 104 = .ok (.aload_n 0, 1) := by decide +kernel
theorem dX3_appendMany_105 : decode cX3_appendMany 105 = .ok (.iload_n 1, 1) := by decide +kernel
theorem dX3_appendMany_106 : decode cX3_appendMany 106 = .ok (.iload_n 2, 1) := by decide +kernel
theorem dX3_appendMany_107 : decode cX3_appendMany 107 = .ok (.iload 5, 2) := by decide +kernel
theorem dX3_appendMany_109 : decode cX3_appendMany 109 = .ok (.imul, 1) := by decide +kernel
theorem dX3_appendMany_110 : decode cX3_appendMany 110 = .ok (.iadd, 1) := by decide +kernel
theorem dX3_appendMany_111 : decode cX3_appendMany 111 = .ok (.invokevirtual 89, 3) := by decide +kernel
theorem dX3_appendMany_114 : decode cX3_appendMany 114 = .ok (.iinc 5 1, 3) := by decide +kernel
theorem dX3_appendMany_117 : decode cX3_appendMany 117 = .ok (.goto (-26), 3) := by decide +kernel
theorem dX3_appendMany_120 : decode cX3_appendMany 120 = .ok (.aload_n 0, 1) := by decide +kernel
theorem dX3_appendMany_121 : decode cX3_appendMany 121 = .ok (.getfield 48, 3) := by decide +kernel
theorem dX3_appendMany_124 : decode cX3_appendMany 124 = .ok (.ireturn, 1) := by decide +kernel
set_option maxRecDepth 20000 in
theorem ggX3_insert_X3_isInRow : GoodIn wsX3_insert wsX3_isInRow := goodIn_r _ [10, 11, 12, 13, 14, 15, 9, 16, 81, 82, 83, 84, 85, 86, 87, 88, 89, 90, 91, 92, 93, 94, 95, 96, 97, 98] (by decide +kernel) (by decide +kernel)
set_option maxRecDepth 20000 in
theorem gX3_insert_X3_isInRow : GoodIn wsX3_insert (wsV RX3 76 RX3 yX3_isInRow wsX3_isInRow) := goodIn_app (goodIn_of _ (by decide +kernel)) ggX3_insert_X3_isInRow
set_option maxRecDepth 20000 in
theorem ggX3_insert_X3_isKey : GoodIn wsX3_insert wsX3_isKey := goodIn_r _ [19, 20, 21] (by decide +kernel) (by decide +kernel)
set_option maxRecDepth 20000 in
theorem gX3_insert_X3_isKey : GoodIn wsX3_insert (va_wsS RX3 79 yX3_isKey wsX3_isKey) := goodIn_app (goodIn_of _ (by decide +kernel)) ggX3_insert_X3_isKey
set_option maxRecDepth 20000 in
theorem ggX3_insert_X3_isThere : GoodIn wsX3_insert wsX3_isThere := goodIn_r _ [25, 2, 26, 27, 28, 9, 29, 3, 4, 6, 7, 8, 10, 11, 12, 13, 14, 15, 16, 81, 82, 83, 84, 85, 86, 87, 88, 89, 90, 91, 92, 93, 94, 95, 96, 97, 98] (by decide +kernel) (by decide +kernel)
set_option maxRecDepth 20000 in
theorem gX3_insert_X3_isThere : GoodIn wsX3_insert (wsV RX3 93 RX3 yX3_isThere wsX3_isThere) := goodIn_app (goodIn_of _ (by decide +kernel)) ggX3_insert_X3_isThere
set_option maxRecDepth 20000 in
theorem ggX3_insert_X3_many : GoodIn wsX3_insert wsX3_many := goodIn_r _ [33, 11, 3, 81, 82, 83, 84, 85, 86, 87, 88, 89, 90, 91, 92, 93, 94, 95, 96, 97, 98] (by decide +kernel) (by decide +kernel)
set_option maxRecDepth 20000 in
theorem gX3_insert_X3_many : GoodIn wsX3_insert (wsV RX3 82 RX3 yX3_many wsX3_many) := goodIn_app (goodIn_of _ (by decide +kernel)) ggX3_insert_X3_many
set_option maxRecDepth 20000 in
theorem ggX3_insert_X3_placeOf : GoodIn wsX3_insert wsX3_placeOf := goodIn_r _ [16, 11, 12, 81, 82, 83, 84, 85, 86, 87, 88, 89, 90, 91, 92, 93, 94, 95, 96, 97, 98] (by decide +kernel) (by decide +kernel)
set_option maxRecDepth 20000 in
theorem gX3_insert_X3_placeOf : GoodIn wsX3_insert (wsV RX3 66 RX3 yX3_placeOf wsX3_placeOf) := goodIn_app (goodIn_of _ (by decide +kernel)) ggX3_insert_X3_placeOf
set_option maxRecDepth 20000 in
theorem ggX3_insert_X3_mergesAll : GoodIn wsX3_insert wsX3_mergesAll := goodIn_r _ [37, 38, 39, 40, 41, 3, 4, 42, 43, 44, 45, 9, 46, 47, 2, 12, 48, 49, 50, 51, 11, 52, 53, 54, 55, 56, 57, 58, 59, 60, 61, 62, 63, 64, 65, 66, 67, 68, 69, 70, 71, 72, 73, 74, 75, 76, 77, 78, 79, 80, 81, 82, 83, 84, 85, 86, 87, 88, 89, 90, 91, 92, 93, 94, 95, 96, 97, 98] (by decide +kernel) (by decide +kernel)
set_option maxRecDepth 20000 in
theorem gX3_insert_X3_mergesAll : GoodIn wsX3_insert (wsV RX3 96 RX3 yX3_mergesAll wsX3_mergesAll) := goodIn_app (goodIn_of _ (by decide +kernel)) ggX3_insert_X3_mergesAll
theorem dX3_insert_0 : decode cX3_insert 0 = .ok (.aload_n 0, 1) := by decide +kernel
theorem dX3_insert_1 : decode cX3_insert 1 = .ok (.iload_n 1, 1) := by decide +kernel
theorem dX3_insert_2 : decode cX3_insert 2 = .ok (.invokevirtual 76, 3) := by decide +kernel
theorem dX3_insert_5 : decode cX3_insert 5 = .ok (.istore_n 2, 1) := by decide +kernel
theorem dX3_insert_6 : decode cX3_insert 6 = .ok (.aload_n 0, 1) := by decide +kernel
theorem dX3_insert_7 : decode cX3_insert 7 = .ok (.iload_n 1, 1) := by decide +kernel
theorem dX3_insert_8 : decode cX3_insert 8 = .ok (.invokestatic 79, 3) := by decide +kernel
theorem dX3_insert_11 : decode cX3_insert 11 = .ok (.ifCond .ne 7, 3) := by decide +kernel
theorem dX3_insert_14 : decode cX3_insert 14 = .ok (.iconst 1, 1) := by decide +kernel
theorem dX3_insert_15 : decode cX3_insert 15 = .ok (.goto 30, 3) := by decide +kernel
theorem dX3_insert_18 : decode cX3_insert 18 = .ok (.aload_n 0, 1) := by decide +kernel
theorem dX3_insert_19 : decode cX3_insert 19 = .ok (.iload_n 1, 1) := by decide +kernel
theorem dX3_insert_20 : decode cX3_insert 20 = .ok (.invokevirtual 93, 3) := by decide +kernel
theorem dX3_insert_23 : decode cX3_insert 23 = .ok (.ifCond .ne 17, 3) := by decide +kernel
theorem dX3_insert_26 : decode cX3_insert 26 = .ok (.aload_n 0, 1) := by decide +kernel
theorem dX3_insert_27 : decode cX3_insert 27 = .ok (.invokevirtual 82, 3) := by decide +kernel
theorem dX3_insert_30 : decode cX3_insert 30 = .ok (.sipush 256, 3) := by decide +kernel
theorem dX3_insert_33 : decode cX3_insert 33 = .ok (.if_icmp .ne 11, 3) := by decide +kernel
theorem dX3_insert_36 : decode cX3_insert 36 = .ok (.iload_n 2, 1) := by decide +kernel
theorem dX3_insert_37 : decode cX3_insert 37 = .ok (.ifCond .ne 7, 3) := by decide +kernel
theorem dX3_insert_40 : decode cX3_insert 40 = .ok (.iconst 2, 1) := by decide +kernel
theorem dX3_insert_41 : decode cX3_insert 41 = .ok (.goto 4, 3) := by decide +kernel
theorem dX3_insert_44 : decode cX3_insert 44 = .ok (.iconst 0, 1) := by decide +kernel
theorem dX3_insert_45 : decode cX3_insert 45 = .ok (.putfield 36, 3) := by decide +kernel
theorem dX3_insert_48 : decode cX3_insert 48 = .ok (.aload_n 0, 1) := by decide +kernel
theorem dX3_insert_49 : decode cX3_insert 49 = .ok (.getfield 36, 3) := by decide +kernel
theorem dX3_insert_52 : decode cX3_insert 52 = .ok (.ifCond .le 5, 3) := by decide +kernel
theorem dX3_insert_55 : decode cX3_insert 55 = .ok (.iconst 0, 1) := by decide +kernel
theorem dX3_insert_56 : decode cX3_insert 56 = .ok (.ireturn, 1) := by decide +kernel
theorem dX3_insert_57 : decode cX3_insert 57 = .ok (.iload_n 2, 1) := by decide +kernel
theorem dX3_insert_58 : decode cX3_insert 58 = .ok (.ifCond .eq 19, 3) := by decide +kernel
theorem dX3_insert_61 : decode cX3_insert 61 = .ok (.aload_n 0, 1) := by decide +kernel
theorem dX3_insert_62 : decode cX3_insert 62 = .ok (.getfield 20, 3) := by decide +kernel
theorem dX3_insert_65 : decode cX3_insert 65 = .ok (.aload_n 0, 1) := by decide +kernel
theorem dX3_insert_66 : decode cX3_insert 66 = .ok (.iload_n 1, 1) := by decide +kernel
theorem dX3_insert_67 : decode cX3_insert 67 = .ok (.invokevirtual 66, 3) := by decide +kernel
theorem dX3_insert_70 : decode cX3_insert 70 = .ok (.iconst 0, 1) := by decide +kernel
theorem dX3_insert_71 : decode cX3_insert 71 = .ok (.bastore, 1) := by decide +kernel
theorem dX3_insert_72 : decode cX3_insert 72 = .ok (.aload_n 0, 1) := by decide +kernel
theorem dX3_insert_73 : decode cX3_insert 73 = .ok (.getfield 69, 3) := by decide +kernel
theorem dX3_insert_76 : decode cX3_insert 76 = .ok (.ireturn, 1) := by decide +kernel
theorem dX3_insert_77 : decode cX3_insert 77 = .ok (.aload_n 0, 1) := by decide +kernel
theorem dX3_insert_78 : decode cX3_insert 78 = .ok (.getfield 69, 3) := by decide +kernel
theorem dX3_insert_81 : decode cX3_insert 81 = .ok (.istore_n 3, 1) := by decide +kernel
theorem dX3_insert_82 : decode cX3_insert 82 = .ok (.iload_n 3, 1) := by decide +kernel
theorem dX3_insert_83 : decode cX3_insert 83 = .ok (.ifCond .le 35, 3) := by decide +kernel
theorem dX3_insert_86 : decode cX3_insert 86 = .ok (.aload_n 0, 1) := by decide +kernel
theorem dX3_insert_87 : decode cX3_insert 87 = .ok (.getfield 27, 3) := by decide +kernel
theorem dX3_insert_90 : decode cX3_insert 90 = .ok (.iload_n 3, 1) := by decide +kernel
theorem dX3_insert_91 : decode cX3_insert 91 = .ok (.iconst 1, 1) := by decide +kernel
theorem dX3_insert_92 : decode cX3_insert 92 = .ok (.isub, 1) := by decide +kernel
theorem dX3_insert_93 : decode cX3_insert 93 = .ok (.iaload, 1) := by decide +kernel
theorem dX3_insert_94 : decode cX3_insert 94 = .ok (.iload_n 1, 1) := by decide +kernel
theorem dX3_insert_95 : decode cX3_insert 95 = .ok (.if_icmp .le 23, 3) := by decide +kernel
theorem dX3_insert_98 : decode cX3_insert 98 = .ok (.aload_n 0, 1) := by decide +kernel
theorem dX3_insert_99 : decode cX3_insert 99 = .ok (.getfield 27, 3) := by decide +kernel
theorem dX3_insert_102 : decode cX3_insert 102 = .ok (.iload_n 3, 1) := by decide +kernel
theorem dX3_insert_103 : decode cX3_insert 103 = .ok (.aload_n 0, 1) := by decide +kernel
theorem dX3_insert_104 : decode cX3_insert 104 = .ok (.getfield 27, 3) := by decide +kernel
theorem dX3_insert_107 : decode cX3_insert 107 = .ok (.iload_n 3, 1) := by decide +kernel
theorem dX3_insert_108 : decode cX3_insert 108 = .ok (.iconst 1, 1) := by decide +kernel
theorem dX3_insert_109 : decode cX3_insert 109 = .ok (.isub, 1) := by decide +kernel
theorem dX3_insert_110 : decode cX3_insert 110 = .ok (.iaload, 1) := by decide +kernel
theorem dX3_insert_111 : decode cX3_insert 111 = .ok (.iastore, 1) := by decide +kernel
theorem dX3_insert_112 : decode cX3_insert 112 = .ok (.iinc 3 (-1), 3) := by decide +kernel
theorem dX3_insert_115 : decode cX3_insert 115 = .ok (.goto (-33), 3) := by decide +kernel
theorem dX3_insert_118 : decode cX3_insert 118 = .ok (.aload_n 0, 1) := by decide +kernel
theorem dX3_insert_119 : decode cX3_insert 119 = .ok (.getfield 27, 3) := by decide +kernel
theorem dX3_insert_122 : decode cX3_insert 122 = .ok (.iload_n 3, 1) := by decide +kernel
theorem dX3_insert_123 : decode cX3_insert 123 = .ok (.iload_n 1, 1) := by decide +kernel
theorem dX3_insert_124 : decode cX3_insert 124 = .ok (.iastore, 1) := by decide +kernel
theorem dX3_insert_125 : decode cX3_insert 125 = .ok (.aload_n 0, 1) := by decide +kernel
theorem dX3_insert_126 : decode cX3_insert 126 = .ok (.dup, 1) := by decide +kernel
theorem dX3_insert_127 : decode cX3_insert 127 = .ok (.getfield 69, 3) := by decide +kernel
theorem dX3_insert_130 : decode cX3_insert 130 = .ok (.iconst 1, 1) := by decide +kernel
theorem dX3_insert_131 : decode cX3_insert 131 = .ok (.iadd, 1) := by decide +kernel
theorem dX3_insert_132 : decode cX3_insert 132 = .ok (.putfield 69, 3) := by decide +kernel
theorem dX3_insert_135 : decode cX3_insert 135 = .ok (.aload_n 0, 1) := by decide +kernel
theorem dX3_insert_136 : decode cX3_insert 136 = .ok (.getfield 69, 3) := by decide +kernel
theorem dX3_insert_139 : decode cX3_insert 139 = .ok (.aload_n 0, 1) := by decide +kernel
theorem dX3_insert_140 : decode cX3_insert 140 = .ok (.getfield 13, 3) := by decide +kernel
theorem dX3_insert_143 : decode cX3_insert 143 = .ok (.if_icmp .ne 7, 3) := by decide +kernel
theorem dX3_insert_146 : decode cX3_insert 146 = .ok (.aload_n 0, 1) := by decide +kernel
theorem dX3_insert_147 : decode cX3_insert 147 = .ok (.invokevirtual 96, 3) := by decide +kernel
theorem dX3_insert_150 : decode cX3_insert 150 = .ok (.aload_n 0, 1) := by decide +kernel
theorem dX3_insert_151 : decode cX3_insert 151 = .ok (.getfield 69, 3) := by decide +kernel
theorem dX3_insert_154 : decode cX3_insert 154 = .ok (.ireturn, 1) := by decide +kernel
set_option maxRecDepth 20000 in
theorem ggX3_remove_X3_isThere : GoodIn wsX3_remove wsX3_isThere := goodIn_r _ [9, 2, 10, 11, 12, 8, 13, 3, 4, 14, 15, 16, 17, 18, 19, 20, 21, 22, 23, 33, 34, 35, 36, 37, 38, 39, 40, 41, 42, 43, 44, 45, 46, 47, 48, 49, 50] (by decide +kernel) (by decide +kernel)
set_option maxRecDepth 20000 in
theorem gX3_remove_X3_isThere : GoodIn wsX3_remove (wsV RX3 93 RX3 yX3_isThere wsX3_isThere) := goodIn_app (goodIn_of _ (by decide +kernel)) ggX3_remove_X3_isThere
set_option maxRecDepth 20000 in
theorem ggX3_remove_X3_isBuffered : GoodIn wsX3_remove wsX3_isBuffered := goodIn_r _ [13, 3, 4, 33, 34, 35, 36, 37, 38, 39, 40, 41, 42, 43, 44, 45, 46, 47, 48, 49, 50] (by decide +kernel) (by decide +kernel)
set_option maxRecDepth 20000 in
theorem gX3_remove_X3_isBuffered : GoodIn wsX3_remove (wsV RX3 72 RX3 yX3_isBuffered wsX3_isBuffered) := goodIn_app (goodIn_of _ (by decide +kernel)) ggX3_remove_X3_isBuffered
set_option maxRecDepth 20000 in
theorem ggX3_remove_X3_placeOf : GoodIn wsX3_remove wsX3_placeOf := goodIn_r _ [23, 18, 19, 33, 34, 35, 36, 37, 38, 39, 40, 41, 42, 43, 44, 45, 46, 47, 48, 49, 50] (by decide +kernel) (by decide +kernel)
set_option maxRecDepth 20000 in
theorem gX3_remove_X3_placeOf : GoodIn wsX3_remove (wsV RX3 66 RX3 yX3_placeOf wsX3_placeOf) := goodIn_app (goodIn_of _ (by decide +kernel)) ggX3_remove_X3_placeOf
set_option maxRecDepth 20000 in
theorem ggX3_remove_X3_keys : GoodIn wsX3_remove wsX3_keys := goodIn_r _ [27, 28, 29, 30, 31, 8, 32, 18, 2, 19, 3, 4, 33, 34, 35, 36, 37, 38, 39, 40, 41, 42, 43, 44, 45, 46, 47, 48, 49, 50] (by decide +kernel) (by decide +kernel)
set_option maxRecDepth 20000 in
theorem gX3_remove_X3_keys : GoodIn wsX3_remove (wsV RX3 99 RX3 yX3_keys wsX3_keys) := goodIn_app (goodIn_of _ (by decide +kernel)) ggX3_remove_X3_keys
theorem dX3_remove_0 : decode cX3_remove 0 = .ok (.aload_n 0, 1) := by decide +kernel
theorem dX3_remove_1 : decode cX3_remove 1 = .ok (.aload_n 0, 1) := by decide +kernel
theorem dX3_remove_2 : decode cX3_remove 2 = .ok (.iload_n 1, 1) := by decide +kernel
theorem dX3_remove_3 : decode cX3_remove 3 = .ok (.invokevirtual 93, 3) := by decide +kernel
theorem dX3_remove_6 : decode cX3_remove 6 = .ok (.ifCond .eq 7, 3) := by decide +kernel
theorem dX3_remove_9 : decode cX3_remove 9 = .ok (.iconst 0, 1) := by decide +kernel
theorem dX3_remove_10 : decode cX3_remove 10 = .ok (.goto 4, 3) := by decide +kernel
theorem dX3_remove_13 : decode cX3_remove 13 = .ok (.iconst 1, 1) := by decide +kernel
theorem dX3_remove_14 : decode cX3_remove 14 = .ok (.putfield 36, 3) := by decide +kernel
theorem dX3_remove_17 : decode cX3_remove 17 = .ok (.aload_n 0, 1) := by decide +kernel
theorem dX3_remove_18 : decode cX3_remove 18 = .ok (.getfield 36, 3) := by decide +kernel
theorem dX3_remove_21 : decode cX3_remove 21 = .ok (.ifCond .le 5, 3) := by decide +kernel
theorem dX3_remove_24 : decode cX3_remove 24 = .ok (.iconst 0, 1) := by decide +kernel
theorem dX3_remove_25 : decode cX3_remove 25 = .ok (.ireturn, 1) := by decide +kernel
theorem dX3_remove_26 : decode cX3_remove 26 = .ok (.aload_n 0, 1) := by decide +kernel
theorem dX3_remove_27 : decode cX3_remove 27 = .ok (.iload_n 1, 1) := by decide +kernel
theorem dX3_remove_28 : decode cX3_remove 28 = .ok (.invokevirtual 72, 3) := by decide +kernel
theorem dX3_remove_31 : decode cX3_remove 31 = .ok (.ifCond .ne 19, 3) := by decide +kernel
theorem dX3_remove_34 : decode cX3_remove 34 = .ok (.aload_n 0, 1) := by decide +kernel
theorem dX3_remove_35 : decode cX3_remove 35 = .ok (.getfield 20, 3) := by decide +kernel
theorem dX3_remove_38 : decode cX3_remove 38 = .ok (.aload_n 0, 1) := by decide +kernel
theorem dX3_remove_39 : decode cX3_remove 39 = .ok (.iload_n 1, 1) := by decide +kernel
theorem dX3_remove_40 : decode cX3_remove 40 = .ok (.invokevirtual 66, 3) := by decide +kernel
theorem dX3_remove_43 : decode cX3_remove 43 = .ok (.iconst 1, 1) := by decide +kernel
theorem dX3_remove_44 : decode cX3_remove 44 = .ok (.bastore, 1) := by decide +kernel
theorem dX3_remove_45 : decode cX3_remove 45 = .ok (.aload_n 0, 1) := by decide +kernel
theorem dX3_remove_46 : decode cX3_remove 46 = .ok (.invokevirtual 99, 3) := by decide +kernel
theorem dX3_remove_49 : decode cX3_remove 49 = .ok (.ireturn, 1) := by decide +kernel
theorem dX3_remove_50 : decode cX3_remove 50 = .ok (.iconst 0, 1) := by decide +kernel
theorem dX3_remove_51 : decode cX3_remove 51 = .ok (.istore_n 2, 1) := by decide +kernel
theorem dX3_remove_52 : decode cX3_remove 52 = .ok (.iconst 0, 1) := by decide +kernel
theorem dX3_remove_53 : decode cX3_remove 53 = .ok (.istore_n 3, 1) := by decide +kernel
theorem dX3_remove_54 : decode cX3_remove 54 = .ok (.iload_n 3, 1) := by decide +kernel
theorem dX3_remove_55 : decode cX3_remove 55 = .ok (.aload_n 0, 1) := by decide +kernel
theorem dX3_remove_56 : decode cX3_remove 56 = .ok (.getfield 69, 3) := by decide +kernel
theorem dX3_remove_59 : decode cX3_remove 59 = .ok (.if_icmp .ge 34, 3) := by decide +kernel
theorem dX3_remove_62 : decode cX3_remove 62 = .ok (.aload_n 0, 1) := by decide +kernel
theorem dX3_remove_63 : decode cX3_remove 63 = .ok (.getfield 27, 3) := by decide +kernel
theorem dX3_remove_66 : decode cX3_remove 66 = .ok (.iload_n 3, 1) := by decide +kernel
theorem dX3_remove_67 : decode cX3_remove 67 = .ok (.iaload, 1) := by decide +kernel
theorem dX3_remove_68 : decode cX3_remove 68 = .ok (.iload_n 1, 1) := by decide +kernel
theorem dX3_remove_69 : decode cX3_remove 69 = .ok (.if_icmp .eq 18, 3) := by decide +kernel
theorem dX3_remove_72 : decode cX3_remove 72 = .ok (.aload_n 0, 1) := by decide +kernel
theorem dX3_remove_73 : decode cX3_remove 73 = .ok (.getfield 27, 3) := by decide +kernel
theorem dX3_remove_76 : decode cX3_remove 76 = .ok (.iload_n 2, 1) := by decide +kernel
theorem dX3_remove_77 : decode cX3_remove 77 = .ok (.aload_n 0, 1) := by decide +kernel
theorem dX3_remove_78 : decode cX3_remove 78 = .ok (.getfield 27, 3) := by decide +kernel
theorem dX3_remove_81 : decode cX3_remove 81 = .ok (.iload_n 3, 1) := by decide +kernel
theorem dX3_remove_82 : decode cX3_remove 82 = .ok (.iaload, 1) := by decide +kernel
theorem dX3_remove_83 : decode cX3_remove 83 = .ok (.iastore, 1) := by decide +kernel
theorem dX3_remove_84 : decode cX3_remove 84 = .ok (.iinc 2 1, 3) := by decide +kernel
theorem dX3_remove_87 : decode cX3_remove 87 = .ok (.iinc 3 1, 3) := by decide +kernel
theorem dX3_remove_90 : decode cX3_remove 90 = .ok (.goto (-36), 3) := by decide +kernel
theorem dX3_remove_93 : decode cX3_remove 93 = .ok (.aload_n 0, 1) := by decide +kernel
theorem dX3_remove_94 : decode cX3_remove 94 = .ok (.iload_n 2, 1) := by decide +kernel
theorem dX3_remove_95 : decode cX3_remove 95 = .ok (.putfield 69, 3) := by decide +kernel
theorem dX3_remove_98 : decode cX3_remove 98 = .ok (.aload_n 0, 1) := by decide +kernel
theorem dX3_remove_99 : decode cX3_remove 99 = .ok (.invokevirtual 99, 3) := by decide +kernel
theorem dX3_remove_102 : decode cX3_remove 102 = .ok (.ireturn, 1) := by decide +kernel
theorem dX3_makes_0 : decode cX3_makes 0 = .ok (.aload_n 0, 1) := by decide +kernel
theorem dX3_makes_1 : decode cX3_makes 1 = .ok (.getfield 102, 3) := by decide +kernel
theorem dX3_makes_4 : decode cX3_makes 4 = .ok (.istore_n 2, 1) := by decide +kernel
theorem dX3_makes_5 : decode cX3_makes 5 = .ok (.iload_n 2, 1) := by decide +kernel
theorem dX3_makes_6 : decode cX3_makes 6 = .ok (.ifCond .le 35, 3) := by decide +kernel
theorem dX3_makes_9 : decode cX3_makes 9 = .ok (.aload_n 0, 1) := by decide +kernel
theorem dX3_makes_10 : decode cX3_makes 10 = .ok (.getfield 30, 3) := by decide +kernel
theorem dX3_makes_13 : decode cX3_makes 13 = .ok (.iload_n 2, 1) := by decide +kernel
theorem dX3_makes_14 : decode cX3_makes 14 = .ok (.iconst 1, 1) := by decide +kernel
theorem dX3_makes_15 : decode cX3_makes 15 = .ok (.isub, 1) := by decide +kernel
theorem dX3_makes_16 : decode cX3_makes 16 = .ok (.iaload, 1) := by decide +kernel
theorem dX3_makes_17 : decode cX3_makes 17 = .ok (.iload_n 1, 1) := by decide +kernel
theorem dX3_makes_18 : decode cX3_makes 18 = .ok (.if_icmp .le 23, 3) := by decide +kernel
theorem dX3_makes_21 : decode cX3_makes 21 = .ok (.aload_n 0, 1) := by decide +kernel
theorem dX3_makes_22 : decode cX3_makes 22 = .ok (.getfield 30, 3) := by decide +kernel
theorem dX3_makes_25 : decode cX3_makes 25 = .ok (.iload_n 2, 1) := by decide +kernel
theorem dX3_makes_26 : decode cX3_makes 26 = .ok (.aload_n 0, 1) := by decide +kernel
theorem dX3_makes_27 : decode cX3_makes 27 = .ok (.getfield 30, 3) := by decide +kernel
theorem dX3_makes_30 : decode cX3_makes 30 = .ok (.iload_n 2, 1) := by decide +kernel
theorem dX3_makes_31 : decode cX3_makes 31 = .ok (.iconst 1, 1) := by decide +kernel
theorem dX3_makes_32 : decode cX3_makes 32 = .ok (.isub, 1) := by decide +kernel
theorem dX3_makes_33 : decode cX3_makes 33 = .ok (.iaload, 1) := by decide +kernel
theorem dX3_makes_34 : decode cX3_makes 34 = .ok (.iastore, 1) := by decide +kernel
theorem dX3_makes_35 : decode cX3_makes 35 = .ok (.iinc 2 (-1), 3) := by decide +kernel
theorem dX3_makes_38 : decode cX3_makes 38 = .ok (.goto (-33), 3) := by decide +kernel
theorem dX3_makes_41 : decode cX3_makes 41 = .ok (.aload_n 0, 1) := by decide +kernel
theorem dX3_makes_42 : decode cX3_makes 42 = .ok (.getfield 30, 3) := by decide +kernel
theorem dX3_makes_45 : decode cX3_makes 45 = .ok (.iload_n 2, 1) := by decide +kernel
theorem dX3_makes_46 : decode cX3_makes 46 = .ok (.iload_n 1, 1) := by decide +kernel
theorem dX3_makes_47 : decode cX3_makes 47 = .ok (.iastore, 1) := by decide +kernel
theorem dX3_makes_48 : decode cX3_makes 48 = .ok (.aload_n 0, 1) := by decide +kernel
theorem dX3_makes_49 : decode cX3_makes 49 = .ok (.dup, 1) := by decide +kernel
theorem dX3_makes_50 : decode cX3_makes 50 = .ok (.getfield 102, 3) := by decide +kernel
theorem dX3_makes_53 : decode cX3_makes 53 = .ok (.iconst 1, 1) := by decide +kernel
theorem dX3_makes_54 : decode cX3_makes 54 = .ok (.iadd, 1) := by decide +kernel
theorem dX3_makes_55 : decode cX3_makes 55 = .ok (.putfield 102, 3) := by decide +kernel
theorem dX3_makes_58 : decode cX3_makes 58 = .ok (.return_, 1) := by decide +kernel
set_option maxRecDepth 20000 in
theorem ggX3_cuts_X3_fits : GoodIn wsX3_cuts wsX3_fits := goodIn_r _ [8, 9, 10, 11, 12, 13, 14, 15, 16, 17, 18, 19, 20, 21, 22, 23, 24, 25, 26, 27, 28, 29] (by decide +kernel) (by decide +kernel)
set_option maxRecDepth 20000 in
theorem gX3_cuts_X3_fits : GoodIn wsX3_cuts (wsV RX3 58 RX3 yX3_fits wsX3_fits) := goodIn_app (goodIn_of _ (by decide +kernel)) ggX3_cuts_X3_fits
theorem dX3_cuts_0 : decode cX3_cuts 0 = .ok (.iload_n 2, 1) := by decide +kernel
theorem dX3_cuts_1 : decode cX3_cuts 1 = .ok (.istore_n 3, 1) := by decide +kernel
theorem dX3_cuts_2 : decode cX3_cuts 2 = .ok (.iload_n 1, 1) := by decide +kernel
theorem dX3_cuts_3 : decode cX3_cuts 3 = .ok (.istore 4, 2) := by decide +kernel
theorem dX3_cuts_5 : decode cX3_cuts 5 = .ok (.iload 4, 2) := by decide +kernel
theorem dX3_cuts_7 : decode cX3_cuts 7 = .ok (.aload_n 0, 1) := by decide +kernel
theorem dX3_cuts_8 : decode cX3_cuts 8 = .ok (.getfield 102, 3) := by decide +kernel
theorem dX3_cuts_11 : decode cX3_cuts 11 = .ok (.if_icmp .ge 48, 3) := by decide +kernel
theorem dX3_cuts_14 : decode cX3_cuts 14 = .ok (.iload_n 3, 1) := by decide +kernel
theorem dX3_cuts_15 : decode cX3_cuts 15 = .ok (.iload_n 2, 1) := by decide +kernel
theorem dX3_cuts_16 : decode cX3_cuts 16 = .ok (.if_icmp .eq 26, 3) := by decide +kernel
theorem dX3_cuts_19 : decode cX3_cuts 19 = .ok (.aload_n 0, 1) := by decide +kernel
theorem dX3_cuts_20 : decode cX3_cuts 20 = .ok (.aload_n 0, 1) := by decide +kernel
theorem dX3_cuts_21 : decode cX3_cuts 21 = .ok (.getfield 30, 3) := by decide +kernel
theorem dX3_cuts_24 : decode cX3_cuts 24 = .ok (.aload_n 0, 1) := by decide +kernel
theorem dX3_cuts_25 : decode cX3_cuts 25 = .ok (.getfield 33, 3) := by decide +kernel
theorem dX3_cuts_28 : decode cX3_cuts 28 = .ok (.iload_n 3, 1) := by decide +kernel
theorem dX3_cuts_29 : decode cX3_cuts 29 = .ok (.iconst 1, 1) := by decide +kernel
theorem dX3_cuts_30 : decode cX3_cuts 30 = .ok (.isub, 1) := by decide +kernel
theorem dX3_cuts_31 : decode cX3_cuts 31 = .ok (.iaload, 1) := by decide +kernel
theorem dX3_cuts_32 : decode cX3_cuts 32 = .ok (.iload 4, 2) := by decide +kernel
theorem dX3_cuts_34 : decode cX3_cuts 34 = .ok (.iconst 1, 1) := by decide +kernel
theorem dX3_cuts_35 : decode cX3_cuts 35 = .ok (.iadd, 1) := by decide +kernel
theorem dX3_cuts_36 : decode cX3_cuts 36 = .ok (.invokevirtual 58, 3) := by decide +kernel
theorem dX3_cuts_39 : decode cX3_cuts 39 = .ok (.ifCond .ne 14, 3) := by decide +kernel
theorem dX3_cuts_42 : decode cX3_cuts 42 = .ok (.aload_n 0, 1) := by decide +kernel
theorem dX3_cuts_43 : decode cX3_cuts 43 = .ok (.getfield 33, 3) := by decide +kernel
theorem dX3_cuts_46 : decode cX3_cuts 46 = .ok (.iload_n 3, 1) := by decide +kernel
theorem dX3_cuts_47 : decode cX3_cuts 47 = .ok (.iload 4, 2) := by decide +kernel
theorem dX3_cuts_49 : decode cX3_cuts 49 = .ok (.iastore, 1) := by decide +kernel
theorem dX3_cuts_50 : decode cX3_cuts 50 = .ok (.iinc 3 1, 3) := by decide +kernel
theorem dX3_cuts_53 : decode cX3_cuts 53 = .ok (.iinc 4 1, 3) := by decide +kernel
theorem dX3_cuts_56 : decode cX3_cuts 56 = .ok (.goto (-51), 3) := by decide +kernel
theorem dX3_cuts_59 : decode cX3_cuts 59 = .ok (.iload_n 3, 1) := by decide +kernel
theorem dX3_cuts_60 : decode cX3_cuts 60 = .ok (.ireturn, 1) := by decide +kernel
set_option maxRecDepth 20000 in
theorem ggX3_gathers_X3_behind : GoodIn wsX3_gathers wsX3_behind := goodIn_r _ [10, 11, 1, 12, 23, 24, 25, 26, 27, 28, 29, 30, 31, 32, 33, 34, 35, 36, 37, 38, 39, 40] (by decide +kernel) (by decide +kernel)
set_option maxRecDepth 20000 in
theorem gX3_gathers_X3_behind : GoodIn wsX3_gathers (wsV RX3 54 RX3 yX3_behind wsX3_behind) := goodIn_app (goodIn_of _ (by decide +kernel)) ggX3_gathers_X3_behind
set_option maxRecDepth 20000 in
theorem ggX3_gathers_X3_makes : GoodIn wsX3_gathers wsX3_makes := goodIn_r _ [16, 17, 18, 23, 24, 25, 26, 27, 28, 29, 30, 31, 32, 33, 34, 35, 36, 37, 38, 39, 40] (by decide +kernel) (by decide +kernel)
set_option maxRecDepth 20000 in
theorem gX3_gathers_X3_makes : GoodIn wsX3_gathers (wsV RX3 105 RX3 yX3_makes wsX3_makes) := goodIn_app (goodIn_of _ (by decide +kernel)) ggX3_gathers_X3_makes
set_option maxRecDepth 20000 in
theorem ggX3_gathers_X3_pieceOf : GoodIn wsX3_gathers wsX3_pieceOf := goodIn_r _ [22, 11, 3, 1, 23, 24, 25, 26, 27, 28, 29, 30, 31, 32, 33, 34, 35, 36, 37, 38, 39, 40] (by decide +kernel) (by decide +kernel)
set_option maxRecDepth 20000 in
theorem gX3_gathers_X3_pieceOf : GoodIn wsX3_gathers (wsV RX3 108 RX3 yX3_pieceOf wsX3_pieceOf) := goodIn_app (goodIn_of _ (by decide +kernel)) ggX3_gathers_X3_pieceOf
theorem dX3_gathers_0 : decode cX3_gathers 0 = .ok (.iconst 0, 1) := by decide +kernel
theorem dX3_gathers_1 : decode cX3_gathers 1 = .ok (.istore_n 2, 1) := by decide +kernel
theorem dX3_gathers_2 : decode cX3_gathers 2 = .ok (.aload_n 0, 1) := by decide +kernel
theorem dX3_gathers_3 : decode cX3_gathers 3 = .ok (.getfield 24, 3) := by decide +kernel
theorem dX3_gathers_6 : decode cX3_gathers 6 = .ok (.iload_n 1, 1) := by decide +kernel
theorem dX3_gathers_7 : decode cX3_gathers 7 = .ok (.iaload, 1) := by decide +kernel
theorem dX3_gathers_8 : decode cX3_gathers 8 = .ok (.istore_n 3, 1) := by decide +kernel
theorem dX3_gathers_9 : decode cX3_gathers 9 = .ok (.iload_n 3, 1) := by decide +kernel
theorem dX3_gathers_10 : decode cX3_gathers 10 = .ok (.aload_n 0, 1) := by decide +kernel
theorem dX3_gathers_11 : decode cX3_gathers 11 = .ok (.iload_n 1, 1) := by decide +kernel
theorem dX3_gathers_12 : decode cX3_gathers 12 = .ok (.invokevirtual 54, 3) := by decide +kernel
theorem dX3_gathers_15 : decode cX3_gathers 15 = .ok (.if_icmp .ge 33, 3) := by decide +kernel
theorem dX3_gathers_18 : decode cX3_gathers 18 = .ok (.aload_n 0, 1) := by decide +kernel
theorem dX3_gathers_19 : decode cX3_gathers 19 = .ok (.getfield 20, 3) := by decide +kernel
theorem dX3_gathers_22 : decode cX3_gathers 22 = .ok (.iload_n 3, 1) := by decide +kernel
theorem dX3_gathers_23 : decode cX3_gathers 23 = .ok (.baload, 1) := by decide +kernel
theorem dX3_gathers_24 : decode cX3_gathers 24 = .ok (.ifCond .eq 8, 3) := by decide +kernel
theorem dX3_gathers_27 : decode cX3_gathers 27 = .ok (.iconst 1, 1) := by decide +kernel
theorem dX3_gathers_28 : decode cX3_gathers 28 = .ok (.istore_n 2, 1) := by decide +kernel
theorem dX3_gathers_29 : decode cX3_gathers 29 = .ok (.goto 13, 3) := by decide +kernel
theorem dX3_gathers_32 : decode cX3_gathers 32 = .ok (.aload_n 0, 1) := by decide +kernel
theorem dX3_gathers_33 : decode cX3_gathers 33 = .ok (.aload_n 0, 1) := by decide +kernel
theorem dX3_gathers_34 : decode cX3_gathers 34 = .ok (.getfield 16, 3) := by decide +kernel
theorem dX3_gathers_37 : decode cX3_gathers 37 = .ok (.iload_n 3, 1) := by decide +kernel
theorem dX3_gathers_38 : decode cX3_gathers 38 = .ok (.iaload, 1) := by decide +kernel
theorem dX3_gathers_39 : decode cX3_gathers 39 = .ok (.invokevirtual 105, 3) := by decide +kernel
theorem dX3_gathers_42 : decode cX3_gathers 42 = .ok (.iinc 3 1, 3) := by decide +kernel
theorem dX3_gathers_45 : decode cX3_gathers 45 = .ok (.goto (-36), 3) := by decide +kernel
