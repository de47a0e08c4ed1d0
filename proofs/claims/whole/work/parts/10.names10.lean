theorem dX3_looks_98 : decode cX3_looks 98 = .ok (.goto 6, 3) := by decide +kernel
theorem dX3_looks_101 : decode cX3_looks 101 = .ok (.iload 5, 2) := by decide +kernel
theorem dX3_looks_103 : decode cX3_looks 103 = .ok (.i2l, 1) := by decide +kernel
theorem dX3_looks_104 : decode cX3_looks 104 = .ok (.lstore 6, 2) := by decide +kernel
theorem dX3_looks_106 : decode cX3_looks 106 = .ok (.lload_n 3, 1) := by decide +kernel
theorem dX3_looks_107 : decode cX3_looks 107 = .ok (.aload_n 0, 1) := by decide +kernel
theorem dX3_looks_108 : decode cX3_looks 108 = .ok (.getfield 7, 3) := by decide +kernel
theorem dX3_looks_111 : decode cX3_looks 111 = .ok (.i2l, 1) := by decide +kernel
theorem dX3_looks_112 : decode cX3_looks 112 = .ok (.ladd, 1) := by decide +kernel
theorem dX3_looks_113 : decode cX3_looks 113 = .ok (.lconst 1, 1) := by decide +kernel
theorem dX3_looks_114 : decode cX3_looks 114 = .ok (.ladd, 1) := by decide +kernel
theorem dX3_looks_115 : decode cX3_looks 115 = .ok (.iload 5, 2) := by decide +kernel
theorem dX3_looks_117 : decode cX3_looks 117 = .ok (.i2l, 1) := by decide +kernel
theorem dX3_looks_118 : decode cX3_looks 118 = .ok (.lcmp, 1) := by decide +kernel
theorem dX3_looks_119 : decode cX3_looks 119 = .ok (.ifCond .ge 15, 3) := by decide +kernel
theorem dX3_looks_122 : decode cX3_looks 122 = .ok (.lload_n 3, 1) := by decide +kernel
theorem dX3_looks_123 : decode cX3_looks 123 = .ok (.aload_n 0, 1) := by decide +kernel
theorem dX3_looks_124 : decode cX3_looks 124 = .ok (.getfield 7, 3) := by decide +kernel
theorem dX3_looks_127 : decode cX3_looks 127 = .ok (.i2l, 1) := by decide +kernel
theorem dX3_looks_128 : decode cX3_looks 128 = .ok (.ladd, 1) := by decide +kernel
theorem dX3_looks_129 : decode cX3_looks 129 = .ok (.lconst 1, 1) := by decide +kernel
theorem dX3_looks_130 : decode cX3_looks 130 = .ok (.ladd, 1) := by decide +kernel
theorem dX3_looks_131 : decode cX3_looks 131 = .ok (.goto 6, 3) := by decide +kernel
theorem dX3_looks_134 : decode cX3_looks 134 = .ok (.iload 5, 2) := by decide +kernel
theorem dX3_looks_136 : decode cX3_looks 136 = .ok (.i2l, 1) := by decide +kernel
theorem dX3_looks_137 : decode cX3_looks 137 = .ok (.lstore 8, 2) := by decide +kernel
theorem dX3_looks_139 : decode cX3_looks 139 = .ok (.iconst 0, 1) := by decide +kernel
theorem dX3_looks_140 : decode cX3_looks 140 = .ok (.istore 10, 2) := by decide +kernel
theorem dX3_looks_142 : decode cX3_looks 142 = .ok (.lload 6, 2) := by decide +kernel
theorem dX3_looks_144 : decode cX3_looks 144 = .ok (.lload 8, 2) := by decide +kernel
theorem dX3_looks_146 : decode cX3_looks 146 = .ok (.lcmp, 1) := by decide +kernel
theorem dX3_looks_147 : decode cX3_looks 147 = .ok (.ifCond .ge 45, 3) := by decide +kernel
theorem dX3_looks_150 : decode cX3_looks 150 = .ok (.lload 6, 2) := by decide +kernel
theorem dX3_looks_152 : decode cX3_looks 152 = .ok (.lload 8, 2) := by decide +kernel
theorem dX3_looks_154 : decode cX3_looks 154 = .ok (.ladd, 1) := by decide +kernel
theorem dX3_looks_155 : decode cX3_looks 155 = .ok (.ldc2_w 151, 3) := by decide +kernel
theorem dX3_looks_158 : decode cX3_looks 158 = .ok (.ldiv, 1) := by decide +kernel
theorem dX3_looks_159 : decode cX3_looks 159 = .ok (.lstore 11, 2) := by decide +kernel
theorem dX3_looks_161 : decode cX3_looks 161 = .ok (.iinc 10 1, 3) := by decide +kernel
theorem dX3_looks_164 : decode cX3_looks 164 = .ok (.aload_n 0, 1) := by decide +kernel
theorem dX3_looks_165 : decode cX3_looks 165 = .ok (.getfield 16, 3) := by decide +kernel
theorem dX3_looks_168 : decode cX3_looks 168 = .ok (.lload 11, 2) := by decide +kernel
theorem dX3_looks_170 : decode cX3_looks 170 = .ok (.l2i, 1) := by decide +kernel
theorem dX3_looks_171 : decode cX3_looks 171 = .ok (.iaload, 1) := by decide +kernel
theorem dX3_looks_172 : decode cX3_looks 172 = .ok (.iload_n 1, 1) := by decide +kernel
theorem dX3_looks_173 : decode cX3_looks 173 = .ok (.if_icmp .ge 12, 3) := by decide +kernel
theorem dX3_looks_176 : decode cX3_looks 176 = .ok (.lload 11, 2) := by decide +kernel
theorem dX3_looks_178 : decode cX3_looks 178 = .ok (.lconst 1, 1) := by decide +kernel
theorem dX3_looks_179 : decode cX3_looks 179 = .ok (.ladd, 1) := by decide +kernel
theorem dX3_looks_180 : decode cX3_looks 180 = .ok (.lstore 6, 2) := by decide +kernel
theorem dX3_looks_182 : decode cX3_looks 182 = .ok (.goto 7, 3) := by decide +kernel
theorem dX3_looks_185 : decode cX3_looks 185 = .ok (.lload 11, 2) := by decide +kernel
theorem dX3_looks_187 : decode cX3_looks 187 = .ok (.lstore 8, 2) := by decide +kernel
theorem dX3_looks_189 : decode cX3_looks 189 = .ok (.goto (-47), 3) := by decide +kernel
theorem dX3_looks_192 : decode cX3_looks 192 = .ok (.iload 10, 2) := by decide +kernel
theorem dX3_looks_194 : decode cX3_looks 194 = .ok (.ireturn, 1) := by decide +kernel
set_option maxRecDepth 20000 in
theorem ggX3_worstError_X3_pieceOf : GoodIn wsX3_worstError wsX3_pieceOf := goodIn_r _ [8, 9, 3, 10, 33, 34, 35, 36, 37, 38, 39, 40, 41, 42, 43, 44, 45, 46, 47, 48, 49, 50] (by decide +kernel) (by decide +kernel)
set_option maxRecDepth 20000 in
theorem gX3_worstError_X3_pieceOf : GoodIn wsX3_worstError (wsV RX3 108 RX3 yX3_pieceOf wsX3_pieceOf) := goodIn_app (goodIn_of _ (by decide +kernel)) ggX3_worstError_X3_pieceOf
set_option maxRecDepth 20000 in
theorem ggX3_worstError_X3_guessOf : GoodIn wsX3_worstError wsX3_guessOf := goodIn_r _ [14, 10, 15, 3, 16, 17, 18, 19, 7, 20, 21, 22, 23, 24, 9, 2, 25, 26, 27, 28, 29, 30, 31, 32, 33, 34, 35, 36, 37, 38, 39, 40, 41, 42, 43, 44, 45, 46, 47, 48, 49, 50] (by decide +kernel) (by decide +kernel)
set_option maxRecDepth 20000 in
theorem gX3_worstError_X3_guessOf : GoodIn wsX3_worstError (wsV RX3 147 RX3 yX3_guessOf wsX3_guessOf) := goodIn_app (goodIn_of _ (by decide +kernel)) ggX3_worstError_X3_guessOf
theorem dX3_worstError_0 : decode cX3_worstError 0 = .ok (.aload_n 0, 1) := by decide +kernel
theorem dX3_worstError_1 : decode cX3_worstError 1 = .ok (.iconst 0, 1) := by decide +kernel
theorem dX3_worstError_2 : decode cX3_worstError 2 = .ok (.putfield 36, 3) := by decide +kernel
theorem dX3_worstError_5 : decode cX3_worstError 5 = .ok (.lconst 0, 1) := by decide +kernel
theorem dX3_worstError_6 : decode cX3_worstError 6 = .ok (.lstore_n 1, 1) := by decide +kernel
theorem dX3_worstError_7 : decode cX3_worstError 7 = .ok (.iconst 0, 1) := by decide +kernel
theorem dX3_worstError_8 : decode cX3_worstError 8 = .ok (.istore_n 3, 1) := by decide +kernel
theorem dX3_worstError_9 : decode cX3_worstError 9 = .ok (.iload_n 3, 1) := by decide +kernel
theorem dX3_worstError_10 : decode cX3_worstError 10 = .ok (.aload_n 0, 1) := by decide +kernel
theorem dX3_worstError_11 : decode cX3_worstError 11 = .ok (.getfield 51, 3) := by decide +kernel
theorem dX3_worstError_14 : decode cX3_worstError 14 = .ok (.if_icmp .ge 65, 3) := by decide +kernel
theorem dX3_worstError_17 : decode cX3_worstError 17 = .ok (.aload_n 0, 1) := by decide +kernel
theorem dX3_worstError_18 : decode cX3_worstError 18 = .ok (.aload_n 0, 1) := by decide +kernel
theorem dX3_worstError_19 : decode cX3_worstError 19 = .ok (.getfield 16, 3) := by decide +kernel
theorem dX3_worstError_22 : decode cX3_worstError 22 = .ok (.iload_n 3, 1) := by decide +kernel
theorem dX3_worstError_23 : decode cX3_worstError 23 = .ok (.iaload, 1) := by decide +kernel
theorem dX3_worstError_24 : decode cX3_worstError 24 = .ok (.aload_n 0, 1) := by decide +kernel
theorem dX3_worstError_25 : decode cX3_worstError 25 = .ok (.aload_n 0, 1) := by decide +kernel
theorem dX3_worstError_26 : decode cX3_worstError 26 = .ok (.getfield 16, 3) := by decide +kernel
theorem dX3_worstError_29 : decode cX3_worstError 29 = .ok (.iload_n 3, 1) := by decide +kernel
theorem dX3_worstError_30 : decode cX3_worstError 30 = .ok (.iaload, 1) := by decide +kernel
theorem dX3_worstError_31 : decode cX3_worstError 31 = .ok (.invokevirtual 108, 3) := by decide +kernel
theorem dX3_worstError_34 : decode cX3_worstError 34 = .ok (.invokevirtual 147, 3) := by decide +kernel
theorem dX3_worstError_37 : decode cX3_worstError 37 = .ok (.iload_n 3, 1) := by decide +kernel
theorem dX3_worstError_38 : decode cX3_worstError 38 = .ok (.i2l, 1) := by decide +kernel
theorem dX3_worstError_39 : decode cX3_worstError 39 = .ok (.lsub, 1) := by decide +kernel
theorem dX3_worstError_40 : decode cX3_worstError 40 = .ok (.lstore 4, 2) := by decide +kernel
theorem dX3_worstError_42 : decode cX3_worstError 42 = .ok (.lload 4, 2) := by decide +kernel
theorem dX3_worstError_44 : decode cX3_worstError 44 = .ok (.lconst 0, 1) := by decide +kernel
theorem dX3_worstError_45 : decode cX3_worstError 45 = .ok (.lcmp, 1) := by decide +kernel
theorem dX3_worstError_46 : decode cX3_worstError 46 = .ok (.ifCond .ge 9, 3) := by decide +kernel
theorem dX3_worstError_49 : decode cX3_worstError 49 = .ok (.lload 4, 2) := by decide +kernel
theorem dX3_worstError_51 : decode cX3_worstError 51 = .ok (.lneg, 1) := by decide +kernel
theorem dX3_worstError_52 : decode cX3_worstError 52 = .ok (.goto 5, 3) := by decide +kernel
theorem dX3_worstError_55 : decode cX3_worstError 55 = .ok (.lload 4, 2) := by decide +kernel
theorem dX3_worstError_57 : decode cX3_worstError 57 = .ok (.lstore 4, 2) := by decide +kernel
theorem dX3_worstError_59 : decode cX3_worstError 59 = .ok (.lload 4, 2) := by decide +kernel
theorem dX3_worstError_61 : decode cX3_worstError 61 = .ok (.lload_n 1, 1) := by decide +kernel
theorem dX3_worstError_62 : decode cX3_worstError 62 = .ok (.lcmp, 1) := by decide +kernel
theorem dX3_worstError_63 : decode cX3_worstError 63 = .ok (.ifCond .le 8, 3) := by decide +kernel
theorem dX3_worstError_66 : decode cX3_worstError 66 = .ok (.lload 4, 2) := by decide +kernel
theorem dX3_worstError_68 : decode cX3_worstError 68 = .ok (.goto 4, 3) := by decide +kernel
theorem dX3_worstError_71 : decode cX3_worstError 71 = .ok (.lload_n 1, 1) := by decide +kernel
theorem dX3_worstError_72 : decode cX3_worstError 72 = .ok (.lstore_n 1, 1) := by decide +kernel
theorem dX3_worstError_73 : decode cX3_worstError 73 = .ok (.iinc 3 1, 3) := by decide +kernel
theorem dX3_worstError_76 : decode cX3_worstError 76 = .ok (.goto (-67), 3) := by decide +kernel
theorem dX3_worstError_79 : decode cX3_worstError 79 = .ok (.lload_n 1, 1) := by decide +kernel
theorem dX3_worstError_80 : decode cX3_worstError 80 = .ok (.l2i, 1) := by decide +kernel
theorem dX3_worstError_81 : decode cX3_worstError 81 = .ok (.ireturn, 1) := by decide +kernel
theorem dX3_pieces_0 : decode cX3_pieces 0 = .ok (.aload_n 0, 1) := by decide +kernel
theorem dX3_pieces_1 : decode cX3_pieces 1 = .ok (.iconst 0, 1) := by decide +kernel
theorem dX3_pieces_2 : decode cX3_pieces 2 = .ok (.putfield 36, 3) := by decide +kernel
theorem dX3_pieces_5 : decode cX3_pieces 5 = .ok (.aload_n 0, 1) := by decide +kernel
theorem dX3_pieces_6 : decode cX3_pieces 6 = .ok (.getfield 48, 3) := by decide +kernel
theorem dX3_pieces_9 : decode cX3_pieces 9 = .ok (.ireturn, 1) := by decide +kernel
theorem dX3_asks_0 : decode cX3_asks 0 = .ok (.aload_n 0, 1) := by decide +kernel
theorem dX3_asks_1 : decode cX3_asks 1 = .ok (.iload_n 1, 1) := by decide +kernel
theorem dX3_asks_2 : decode cX3_asks 2 = .ok (.ifCond .lt 15, 3) := by decide +kernel
theorem dX3_asks_5 : decode cX3_asks 5 = .ok (.iload_n 1, 1) := by decide +kernel
theorem dX3_asks_6 : decode cX3_asks 6 = .ok (.aload_n 0, 1) := by decide +kernel
theorem dX3_asks_7 : decode cX3_asks 7 = .ok (.getfield 48, 3) := by decide +kernel
theorem dX3_asks_10 : decode cX3_asks 10 = .ok (.if_icmp .ge 7, 3) := by decide +kernel
theorem dX3_asks_13 : decode cX3_asks 13 = .ok (.iconst 0, 1) := by decide +kernel
theorem dX3_asks_14 : decode cX3_asks 14 = .ok (.goto 4, 3) := by decide +kernel
theorem dX3_asks_17 : decode cX3_asks 17 = .ok (.iconst 1, 1) := by decide +kernel
theorem dX3_asks_18 : decode cX3_asks 18 = .ok (.putfield 36, 3) := by decide +kernel
theorem dX3_asks_21 : decode cX3_asks 21 = .ok (.aload_n 0, 1) := by decide +kernel
theorem dX3_asks_22 : decode cX3_asks 22 = .ok (.getfield 36, 3) := by decide +kernel
theorem dX3_asks_25 : decode cX3_asks 25 = .ok (.ifCond .ne 7, 3) := by decide +kernel
theorem dX3_asks_28 : decode cX3_asks 28 = .ok (.iconst 1, 1) := by decide +kernel
theorem dX3_asks_29 : decode cX3_asks 29 = .ok (.goto 4, 3) := by decide +kernel
theorem dX3_asks_32 : decode cX3_asks 32 = .ok (.iconst 0, 1) := by decide +kernel
theorem dX3_asks_33 : decode cX3_asks 33 = .ok (.ireturn, 1) := by decide +kernel
set_option maxRecDepth 20000 in
theorem ggX3_start_X3_asks : GoodIn wsX3_start wsX3_asks := goodIn_r _ [6, 7, 8, 9, 10, 11, 12, 13, 14, 15, 16, 17, 18, 19, 20, 21, 22, 23, 24, 25, 26] (by decide +kernel) (by decide +kernel)
set_option maxRecDepth 20000 in
theorem gX3_start_X3_asks : GoodIn wsX3_start (wsV RX3 153 RX3 yX3_asks wsX3_asks) := goodIn_app (goodIn_of _ (by decide +kernel)) ggX3_start_X3_asks
theorem dX3_start_0 : decode cX3_start 0 = .ok (.aload_n 0, 1) := by decide +kernel
theorem dX3_start_1 : decode cX3_start 1 = .ok (.iload_n 1, 1) := by decide +kernel
theorem dX3_start_2 : decode cX3_start 2 = .ok (.invokevirtual 153, 3) := by decide +kernel
theorem dX3_start_5 : decode cX3_start 5 = .ok (.ifCond .eq 12, 3) := by decide +kernel
theorem dX3_start_8 : decode cX3_start 8 = .ok (.aload_n 0, 1) := by decide +kernel
theorem dX3_start_9 : decode cX3_start 9 = .ok (.getfield 24, 3) := by decide +kernel
theorem dX3_start_12 : decode cX3_start 12 = .ok (.iload_n 1, 1) := by decide +kernel
theorem dX3_start_13 : decode cX3_start 13 = .ok (.iaload, 1) := by decide +kernel
theorem dX3_start_14 : decode cX3_start 14 = .ok (.goto 4, 3) := by decide +kernel
theorem dX3_start_17 : decode cX3_start 17 = .ok (.iconst 0, 1) := by decide +kernel
theorem dX3_start_18 : decode cX3_start 18 = .ok (.ireturn, 1) := by decide +kernel
set_option maxRecDepth 20000 in
theorem ggX3_firstKey_X3_asks : GoodIn wsX3_firstKey wsX3_asks := goodIn_r _ [7, 8, 9, 10, 11, 12, 13, 14, 15, 16, 17, 18, 19, 20, 21, 22, 23, 24, 25, 26, 27] (by decide +kernel) (by decide +kernel)
set_option maxRecDepth 20000 in
theorem gX3_firstKey_X3_asks : GoodIn wsX3_firstKey (wsV RX3 153 RX3 yX3_asks wsX3_asks) := goodIn_app (goodIn_of _ (by decide +kernel)) ggX3_firstKey_X3_asks
theorem dX3_firstKey_0 : decode cX3_firstKey 0 = .ok (.aload_n 0, 1) := by decide +kernel
theorem dX3_firstKey_1 : decode cX3_firstKey 1 = .ok (.iload_n 1, 1) := by decide +kernel
theorem dX3_firstKey_2 : decode cX3_firstKey 2 = .ok (.invokevirtual 153, 3) := by decide +kernel
theorem dX3_firstKey_5 : decode cX3_firstKey 5 = .ok (.ifCond .eq 17, 3) := by decide +kernel
theorem dX3_firstKey_8 : decode cX3_firstKey 8 = .ok (.aload_n 0, 1) := by decide +kernel
theorem dX3_firstKey_9 : decode cX3_firstKey 9 = .ok (.getfield 16, 3) := by decide +kernel
theorem dX3_firstKey_12 : decode cX3_firstKey 12 = .ok (.aload_n 0, 1) := by decide +kernel
theorem dX3_firstKey_13 : decode cX3_firstKey 13 = .ok (.getfield 24, 3) := by decide +kernel
theorem dX3_firstKey_16 : decode cX3_firstKey 16 = .ok (.iload_n 1, 1) := by decide +kernel
theorem dX3_firstKey_17 : decode cX3_firstKey 17 = .ok (.iaload, 1) := by decide +kernel
theorem dX3_firstKey_18 : decode cX3_firstKey 18 = .ok (.iaload, 1) := by decide +kernel
theorem dX3_firstKey_19 : decode cX3_firstKey 19 = .ok (.goto 4, 3) := by decide +kernel
theorem dX3_firstKey_22 : decode cX3_firstKey 22 = .ok (.iconst 0, 1) := by decide +kernel
theorem dX3_firstKey_23 : decode cX3_firstKey 23 = .ok (.ireturn, 1) := by decide +kernel
set_option maxRecDepth 20000 in
theorem ggX3_riseOf_X3_lays : GoodIn wsX3_riseOf wsX3_lays := goodIn_r _ [6, 7, 8, 1, 9, 10, 11, 12, 5, 13, 14, 15, 16, 17, 18, 19, 20, 21, 22, 23, 24, 25, 26, 27, 28, 29, 30, 31, 32, 33, 34, 35, 36, 37, 38, 39, 40, 41] (by decide +kernel) (by decide +kernel)
set_option maxRecDepth 20000 in
theorem gX3_riseOf_X3_lays : GoodIn wsX3_riseOf (wsV RX3 142 RX3 yX3_lays wsX3_lays) := goodIn_app (goodIn_of _ (by decide +kernel)) ggX3_riseOf_X3_lays
theorem dX3_riseOf_0 : decode cX3_riseOf 0 = .ok (.aload_n 0, 1) := by decide +kernel
theorem dX3_riseOf_1 : decode cX3_riseOf 1 = .ok (.iload_n 1, 1) := by decide +kernel
theorem dX3_riseOf_2 : decode cX3_riseOf 2 = .ok (.invokevirtual 142, 3) := by decide +kernel
theorem dX3_riseOf_5 : decode cX3_riseOf 5 = .ok (.aload_n 0, 1) := by decide +kernel
theorem dX3_riseOf_6 : decode cX3_riseOf 6 = .ok (.getfield 41, 3) := by decide +kernel
theorem dX3_riseOf_9 : decode cX3_riseOf 9 = .ok (.l2i, 1) := by decide +kernel
theorem dX3_riseOf_10 : decode cX3_riseOf 10 = .ok (.ireturn, 1) := by decide +kernel
set_option maxRecDepth 20000 in
theorem ggX3_runOf_X3_lays : GoodIn wsX3_runOf wsX3_lays := goodIn_r _ [6, 7, 8, 9, 1, 10, 11, 12, 5, 13, 14, 15, 16, 17, 18, 19, 20, 21, 22, 23, 24, 25, 26, 27, 28, 29, 30, 31, 32, 33, 34, 35, 36, 37, 38, 39, 40, 41] (by decide +kernel) (by decide +kernel)
set_option maxRecDepth 20000 in
theorem gX3_runOf_X3_lays : GoodIn wsX3_runOf (wsV RX3 142 RX3 yX3_lays wsX3_lays) := goodIn_app (goodIn_of _ (by decide +kernel)) ggX3_runOf_X3_lays
theorem dX3_runOf_0 : decode cX3_runOf 0 = .ok (.aload_n 0, 1) := by decide +kernel
theorem dX3_runOf_1 : decode cX3_runOf 1 = .ok (.iload_n 1, 1) := by decide +kernel
theorem dX3_runOf_2 : decode cX3_runOf 2 = .ok (.invokevirtual 142, 3) := by decide +kernel
theorem dX3_runOf_5 : decode cX3_runOf 5 = .ok (.aload_n 0, 1) := by decide +kernel
theorem dX3_runOf_6 : decode cX3_runOf 6 = .ok (.getfield 45, 3) := by decide +kernel
theorem dX3_runOf_9 : decode cX3_runOf 9 = .ok (.l2i, 1) := by decide +kernel
theorem dX3_runOf_10 : decode cX3_runOf 10 = .ok (.ireturn, 1) := by decide +kernel
set_option maxRecDepth 20000 in
theorem ggX3_rise_X3_asks : GoodIn wsX3_rise wsX3_asks := goodIn_r _ [5, 6, 7, 33, 34, 35, 36, 37, 38, 39, 40, 41, 42, 43, 44, 45, 46, 47, 48, 49, 50] (by decide +kernel) (by decide +kernel)
set_option maxRecDepth 20000 in
theorem gX3_rise_X3_asks : GoodIn wsX3_rise (wsV RX3 153 RX3 yX3_asks wsX3_asks) := goodIn_app (goodIn_of _ (by decide +kernel)) ggX3_rise_X3_asks
set_option maxRecDepth 20000 in
theorem ggX3_rise_X3_riseOf : GoodIn wsX3_rise wsX3_riseOf := goodIn_r _ [11, 12, 13, 14, 15, 4, 16, 17, 18, 19, 20, 21, 22, 23, 6, 24, 25, 26, 27, 28, 29, 30, 31, 32, 33, 34, 35, 36, 37, 38, 39, 40, 41, 42, 43, 44, 45, 46, 47, 48, 49, 50] (by decide +kernel) (by decide +kernel)
set_option maxRecDepth 20000 in
theorem gX3_rise_X3_riseOf : GoodIn wsX3_rise (wsV RX3 156 RX3 yX3_riseOf wsX3_riseOf) := goodIn_app (goodIn_of _ (by decide +kernel)) ggX3_rise_X3_riseOf
theorem dX3_rise_0 : decode cX3_rise 0 = .ok (.aload_n 0, 1) := by decide +kernel
theorem dX3_rise_1 : decode cX3_rise 1 = .ok (.iload_n 1, 1) := by decide +kernel
theorem dX3_rise_2 : decode cX3_rise 2 = .ok (.invokevirtual 153, 3) := by decide +kernel
theorem dX3_rise_5 : decode cX3_rise 5 = .ok (.ifCond .eq 11, 3) := by decide +kernel
theorem dX3_rise_8 : decode cX3_rise 8 = .ok (.aload_n 0, 1) := by decide +kernel
theorem dX3_rise_9 : decode cX3_rise 9 = .ok (.iload_n 1, 1) := by decide +kernel
theorem dX3_rise_10 : decode cX3_rise 10 = .ok (.invokevirtual 156, 3) := by decide +kernel
theorem dX3_rise_13 : decode cX3_rise 13 = .ok (.goto 4, 3) := by decide +kernel
theorem dX3_rise_16 : decode cX3_rise 16 = .ok (.iconst 0, 1) := by decide +kernel
theorem dX3_rise_17 : decode cX3_rise 17 = .ok (.ireturn, 1) := by decide +kernel
set_option maxRecDepth 20000 in
theorem ggX3_run_X3_asks : GoodIn wsX3_run wsX3_asks := goodIn_r _ [5, 6, 7, 33, 34, 35, 36, 37, 38, 39, 40, 41, 42, 43, 44, 45, 46, 47, 48, 49, 50] (by decide +kernel) (by decide +kernel)
set_option maxRecDepth 20000 in
theorem gX3_run_X3_asks : GoodIn wsX3_run (wsV RX3 153 RX3 yX3_asks wsX3_asks) := goodIn_app (goodIn_of _ (by decide +kernel)) ggX3_run_X3_asks
set_option maxRecDepth 20000 in
theorem ggX3_run_X3_runOf : GoodIn wsX3_run wsX3_runOf := goodIn_r _ [11, 12, 13, 14, 15, 4, 16, 17, 18, 19, 20, 21, 22, 23, 6, 24, 25, 26, 27, 28, 29, 30, 31, 32, 33, 34, 35, 36, 37, 38, 39, 40, 41, 42, 43, 44, 45, 46, 47, 48, 49, 50] (by decide +kernel) (by decide +kernel)
set_option maxRecDepth 20000 in
theorem gX3_run_X3_runOf : GoodIn wsX3_run (wsV RX3 159 RX3 yX3_runOf wsX3_runOf) := goodIn_app (goodIn_of _ (by decide +kernel)) ggX3_run_X3_runOf
theorem dX3_run_0 : decode cX3_run 0 = .ok (.aload_n 0, 1) := by decide +kernel
theorem dX3_run_1 : decode cX3_run 1 = .ok (.iload_n 1, 1) := by decide +kernel
theorem dX3_run_2 : decode cX3_run 2 = .ok (.invokevirtual 153, 3) := by decide +kernel
theorem dX3_run_5 : decode cX3_run 5 = .ok (.ifCond .eq 11, 3) := by decide +kernel
theorem dX3_run_8 : decode cX3_run 8 = .ok (.aload_n 0, 1) := by decide +kernel
theorem dX3_run_9 : decode cX3_run 9 = .ok (.iload_n 1, 1) := by decide +kernel
theorem dX3_run_10 : decode cX3_run 10 = .ok (.invokevirtual 159, 3) := by decide +kernel
theorem dX3_run_13 : decode cX3_run 13 = .ok (.goto 4, 3) := by decide +kernel
theorem dX3_run_16 : decode cX3_run 16 = .ok (.iconst 0, 1) := by decide +kernel
theorem dX3_run_17 : decode cX3_run 17 = .ok (.ireturn, 1) := by decide +kernel
set_option maxRecDepth 20000 in
theorem ggX3_alike_X3_riseOf : GoodIn wsX3_alike wsX3_riseOf := goodIn_r _ [6, 7, 8, 9, 10, 5, 11, 12, 13, 14, 15, 16, 17, 18, 1, 19, 20, 21, 22, 23, 24, 25, 26, 27, 32, 33, 34, 35, 36, 37, 38, 39, 40, 41, 42, 43, 44, 45, 46, 47, 48, 49] (by decide +kernel) (by decide +kernel)
set_option maxRecDepth 20000 in
theorem gX3_alike_X3_riseOf : GoodIn wsX3_alike (wsV RX3 156 RX3 yX3_riseOf wsX3_riseOf) := goodIn_app (goodIn_of _ (by decide +kernel)) ggX3_alike_X3_riseOf
set_option maxRecDepth 20000 in
theorem ggX3_alike_X3_runOf : GoodIn wsX3_alike wsX3_runOf := goodIn_r _ [31, 14, 8, 9, 10, 5, 11, 12, 13, 7, 15, 16, 17, 18, 1, 19, 20, 21, 22, 23, 24, 25, 26, 27, 32, 33, 34, 35, 36, 37, 38, 39, 40, 41, 42, 43, 44, 45, 46, 47, 48, 49] (by decide +kernel) (by decide +kernel)
set_option maxRecDepth 20000 in
theorem gX3_alike_X3_runOf : GoodIn wsX3_alike (wsV RX3 159 RX3 yX3_runOf wsX3_runOf) := goodIn_app (goodIn_of _ (by decide +kernel)) ggX3_alike_X3_runOf
theorem dX3_alike_0 : decode cX3_alike 0 = .ok (.iconst 0, 1) := by decide +kernel
theorem dX3_alike_1 : decode cX3_alike 1 = .ok (.istore_n 3, 1) := by decide +kernel
theorem dX3_alike_2 : decode cX3_alike 2 = .ok (.aload_n 0, 1) := by decide +kernel
theorem dX3_alike_3 : decode cX3_alike 3 = .ok (.iload_n 1, 1) := by decide +kernel
theorem dX3_alike_4 : decode cX3_alike 4 = .ok (.invokevirtual 156, 3) := by decide +kernel
theorem dX3_alike_7 : decode cX3_alike 7 = .ok (.istore 4, 2) := by decide +kernel
theorem dX3_alike_9 : decode cX3_alike 9 = .ok (.aload_n 0, 1) := by decide +kernel
theorem dX3_alike_10 : decode cX3_alike 10 = .ok (.iload_n 1, 1) := by decide +kernel
theorem dX3_alike_11 : decode cX3_alike 11 = .ok (.invokevirtual 159, 3) := by decide +kernel
theorem dX3_alike_14 : decode cX3_alike 14 = .ok (.istore 5, 2) := by decide +kernel
theorem dX3_alike_16 : decode cX3_alike 16 = .ok (.iload_n 2, 1) := by decide +kernel
theorem dX3_alike_17 : decode cX3_alike 17 = .ok (.istore 6, 2) := by decide +kernel
theorem dX3_alike_19 : decode cX3_alike 19 = .ok (.iload 6, 2) := by decide +kernel
theorem dX3_alike_21 : decode cX3_alike 21 = .ok (.aload_n 0, 1) := by decide +kernel
theorem dX3_alike_22 : decode cX3_alike 22 = .ok (.getfield 48, 3) := by decide +kernel
theorem dX3_alike_25 : decode cX3_alike 25 = .ok (.if_icmp .ge 39, 3) := by decide +kernel
theorem dX3_alike_28 : decode cX3_alike 28 = .ok (.iload_n 3, 1) := by decide +kernel
theorem dX3_alike_29 : decode cX3_alike 29 = .ok (.aload_n 0, 1) := by decide +kernel
theorem dX3_alike_30 : decode cX3_alike 30 = .ok (.iload 6, 2) := by decide +kernel
theorem dX3_alike_32 : decode cX3_alike 32 = .ok (.invokevirtual 156, 3) := by decide +kernel
theorem dX3_alike_35 : decode cX3_alike 35 = .ok (.iload 4, 2) := by decide +kernel
theorem dX3_alike_37 : decode cX3_alike 37 = .ok (.if_icmp .ne 18, 3) := by decide +kernel
theorem dX3_alike_40 : decode cX3_alike 40 = .ok (.aload_n 0, 1) := by decide +kernel
theorem dX3_alike_41 : decode cX3_alike 41 = .ok (.iload 6, 2) := by decide +kernel
theorem dX3_alike_43 : decode cX3_alike 43 = .ok (.invokevirtual 159, 3) := by decide +kernel
theorem dX3_alike_46 : decode cX3_alike 46 = .ok (.iload 5, 2) := by decide +kernel
theorem dX3_alike_48 : decode cX3_alike 48 = .ok (.if_icmp .ne 7, 3) := by decide +kernel
theorem dX3_alike_51 : decode cX3_alike 51 = .ok (.iconst 1, 1) := by decide +kernel
theorem dX3_alike_52 : decode cX3_alike 52 = .ok (.goto 4, 3) := by decide +kernel
theorem dX3_alike_55 : decode cX3_alike 55 = .ok (.iconst 0, 1) := by decide +kernel
theorem dX3_alike_56 : decode cX3_alike 56 = .ok (.iadd, 1) := by decide +kernel
theorem dX3_alike_57 : decode cX3_alike 57 = .ok (.istore_n 3, 1) := by decide +kernel
theorem dX3_alike_58 : decode cX3_alike 58 = .ok (.iinc 6 1, 3) := by decide +kernel
theorem dX3_alike_61 : decode cX3_alike 61 = .ok (.goto (-42), 3) := by decide +kernel
theorem dX3_alike_64 : decode cX3_alike 64 = .ok (.iload_n 3, 1) := by decide +kernel
theorem dX3_alike_65 : decode cX3_alike 65 = .ok (.ireturn, 1) := by decide +kernel
set_option maxRecDepth 20000 in
theorem ggX3_slopes_X3_alike : GoodIn wsX3_slopes wsX3_alike := goodIn_r _ [7, 2, 8, 9, 10, 6, 11, 12, 13, 14, 15, 16, 17, 18, 19, 20, 21, 22, 23, 24, 25, 26, 27, 28, 29, 30, 31, 32, 33, 34, 35, 36, 37, 38, 39, 40, 41, 42, 43, 44, 45, 46, 47, 48, 49, 50, 51, 52, 53, 54] (by decide +kernel) (by decide +kernel)
set_option maxRecDepth 20000 in
theorem gX3_slopes_X3_alike : GoodIn wsX3_slopes (wsV RX3 162 RX3 yX3_alike wsX3_alike) := goodIn_app (goodIn_of _ (by decide +kernel)) ggX3_slopes_X3_alike
theorem dX3_slopes_0 : decode cX3_slopes 0 = .ok (.aload_n 0, 1) := by decide +kernel
theorem dX3_slopes_1 : decode cX3_slopes 1 = .ok (.iconst 0, 1) := by decide +kernel
theorem dX3_slopes_2 : decode cX3_slopes 2 = .ok (.putfield 36, 3) := by decide +kernel
theorem dX3_slopes_5 : decode cX3_slopes 5 = .ok (.iconst 0, 1) := by decide +kernel
theorem dX3_slopes_6 : decode cX3_slopes 6 = .ok (.istore_n 1, 1) := by decide +kernel
theorem dX3_slopes_7 : decode cX3_slopes 7 = .ok (.iconst 0, 1) := by decide +kernel
theorem dX3_slopes_8 : decode cX3_slopes 8 = .ok (.istore_n 2, 1) := by decide +kernel
theorem dX3_slopes_9 : decode cX3_slopes 9 = .ok (.iload_n 2, 1) := by decide +kernel
theorem dX3_slopes_10 : decode cX3_slopes 10 = .ok (.aload_n 0, 1) := by decide +kernel
theorem dX3_slopes_11 : decode cX3_slopes 11 = .ok (.getfield 48, 3) := by decide +kernel
theorem dX3_slopes_14 : decode cX3_slopes 14 = .ok (.if_icmp .ge 27, 3) := by decide +kernel
theorem dX3_slopes_17 : decode cX3_slopes 17 = .ok (.iload_n 1, 1) := by decide +kernel
theorem dX3_slopes_18 : decode cX3_slopes 18 = .ok (.aload_n 0, 1) := by decide +kernel
theorem dX3_slopes_19 : decode cX3_slopes 19 = .ok (.iload_n 2, 1) := by decide +kernel
theorem dX3_slopes_20 : decode cX3_slopes 20 = .ok (.iload_n 2, 1) := by decide +kernel
theorem dX3_slopes_21 : decode cX3_slopes 21 = .ok (.invokevirtual 162, 3) := by decide +kernel
theorem dX3_slopes_24 : decode cX3_slopes 24 = .ok (.iconst 1, 1) := by decide +kernel
theorem dX3_slopes_25 : decode cX3_slopes 25 = .ok (.if_icmp .ne 7, 3) := by decide +kernel
theorem dX3_slopes_28 : decode cX3_slopes 28 = .ok (.iconst 1, 1) := by decide +kernel
theorem dX3_slopes_29 : decode cX3_slopes 29 = .ok (.goto 4, 3) := by decide +kernel
theorem dX3_slopes_32 : decode cX3_slopes 32 = .ok (.iconst 0, 1) := by decide +kernel
theorem dX3_slopes_33 : decode cX3_slopes 33 = .ok (.iadd, 1) := by decide +kernel
theorem dX3_slopes_34 : decode cX3_slopes 34 = .ok (.istore_n 1, 1) := by decide +kernel
theorem dX3_slopes_35 : decode cX3_slopes 35 = .ok (.iinc 2 1, 3) := by decide +kernel
theorem dX3_slopes_38 : decode cX3_slopes 38 = .ok (.goto (-29), 3) := by decide +kernel
theorem dX3_slopes_41 : decode cX3_slopes 41 = .ok (.iload_n 1, 1) := by decide +kernel
theorem dX3_slopes_42 : decode cX3_slopes 42 = .ok (.ireturn, 1) := by decide +kernel
set_option maxRecDepth 20000 in
theorem ggX3_commonest_X3_alike : GoodIn wsX3_commonest wsX3_alike := goodIn_r _ [7, 2, 8, 9, 10, 6, 11, 12, 13, 14, 15, 16, 17, 18, 19, 20, 21, 22, 23, 24, 25, 26, 27, 28, 29, 30, 31, 32, 33, 34, 35, 36, 37, 38, 39, 40, 41, 42, 43, 44, 45, 46, 47, 48, 49, 50, 51, 52, 53, 54] (by decide +kernel) (by decide +kernel)
set_option maxRecDepth 20000 in
theorem gX3_commonest_X3_alike : GoodIn wsX3_commonest (wsV RX3 162 RX3 yX3_alike wsX3_alike) := goodIn_app (goodIn_of _ (by decide +kernel)) ggX3_commonest_X3_alike
theorem dX3_commonest_0 : decode cX3_commonest 0 = .ok (.aload_n 0, 1) := by decide +kernel
theorem dX3_commonest_1 : decode cX3_commonest 1 = .ok (.iconst 0, 1) := by decide +kernel
theorem dX3_commonest_2 : decode cX3_commonest 2 = .ok (.putfield 36, 3) := by decide +kernel
theorem dX3_commonest_5 : decode cX3_commonest 5 = .ok (.iconst (-1), 1) := by decide +kernel
theorem dX3_commonest_6 : decode cX3_commonest 6 = .ok (.istore_n 1, 1) := by decide +kernel
theorem dX3_commonest_7 : decode cX3_commonest 7 = .ok (.iconst 0, 1) := by decide +kernel
theorem dX3_commonest_8 : decode cX3_commonest 8 = .ok (.istore_n 2, 1) := by decide +kernel
theorem dX3_commonest_9 : decode cX3_commonest 9 = .ok (.iconst 0, 1) := by decide +kernel
theorem dX3_commonest_10 : decode cX3_commonest 10 = .ok (.istore_n 3, 1) := by decide +kernel
theorem dX3_commonest_11 : decode cX3_commonest 11 = .ok (.iload_n 3, 1) := by decide +kernel
theorem dX3_commonest_12 : decode cX3_commonest 12 = .ok (.aload_n 0, 1) := by decide +kernel
theorem dX3_commonest_13 : decode cX3_commonest 13 = .ok (.getfield 48, 3) := by decide +kernel
theorem dX3_commonest_16 : decode cX3_commonest 16 = .ok (.if_icmp .ge 42, 3) := by decide +kernel
theorem dX3_commonest_19 : decode cX3_commonest 19 = .ok (.aload_n 0, 1) := by decide +kernel
theorem dX3_commonest_20 : decode cX3_commonest 20 = .ok (.iload_n 3, 1) := by decide +kernel
theorem dX3_commonest_21 : decode cX3_commonest 21 = .ok (.iconst 0, 1) := by decide +kernel
theorem dX3_commonest_22 : decode cX3_commonest 22 = .ok (.invokevirtual 162, 3) := by decide +kernel
theorem dX3_commonest_25 : decode cX3_commonest 25 = .ok (.istore 4, 2) := by decide +kernel
theorem dX3_commonest_27 : decode cX3_commonest 27 = .ok (.iload 4, 2) := by decide +kernel
theorem dX3_commonest_29 : decode cX3_commonest 29 = .ok (.iload_n 2, 1) := by decide +kernel
theorem dX3_commonest_30 : decode cX3_commonest 30 = .ok (.if_icmp .le 7, 3) := by decide +kernel
theorem dX3_commonest_33 : decode cX3_commonest 33 = .ok (.iload_n 3, 1) := by decide +kernel
theorem dX3_commonest_34 : decode cX3_commonest 34 = .ok (.goto 4, 3) := by decide +kernel
theorem dX3_commonest_37 : decode cX3_commonest 37 = .ok (.iload_n 1, 1) := by decide +kernel
theorem dX3_commonest_38 : decode cX3_commonest 38 = .ok (.istore_n 1, 1) := by decide +kernel
theorem dX3_commonest_39 : decode cX3_commonest 39 = .ok (.iload 4, 2) := by decide +kernel
theorem dX3_commonest_41 : decode cX3_commonest 41 = .ok (.iload_n 2, 1) := by decide +kernel
theorem dX3_commonest_42 : decode cX3_commonest 42 = .ok (.if_icmp .le 8, 3) := by decide +kernel
theorem dX3_commonest_45 : decode cX3_commonest 45 = .ok (.iload 4, 2) := by decide +kernel
theorem dX3_commonest_47 : decode cX3_commonest 47 = .ok (.goto 4, 3) := by decide +kernel
theorem dX3_commonest_50 : decode cX3_commonest 50 = .ok (.iload_n 2, 1) := by decide +kernel
theorem dX3_commonest_51 : decode cX3_commonest 51 = .ok (.istore_n 2, 1) := by decide +kernel
theorem dX3_commonest_52 : decode cX3_commonest 52 = .ok (.iinc 3 1, 3) := by decide +kernel
theorem dX3_commonest_55 : decode cX3_commonest 55 = .ok (.goto (-44), 3) := by decide +kernel
theorem dX3_commonest_58 : decode cX3_commonest 58 = .ok (.iload_n 1, 1) := by decide +kernel
theorem dX3_commonest_59 : decode cX3_commonest 59 = .ok (.ireturn, 1) := by decide +kernel
theorem dX3_buffered_0 : decode cX3_buffered 0 = .ok (.aload_n 0, 1) := by decide +kernel
theorem dX3_buffered_1 : decode cX3_buffered 1 = .ok (.iconst 0, 1) := by decide +kernel
theorem dX3_buffered_2 : decode cX3_buffered 2 = .ok (.putfield 36, 3) := by decide +kernel
theorem dX3_buffered_5 : decode cX3_buffered 5 = .ok (.aload_n 0, 1) := by decide +kernel
theorem dX3_buffered_6 : decode cX3_buffered 6 = .ok (.getfield 69, 3) := by decide +kernel
theorem dX3_buffered_9 : decode cX3_buffered 9 = .ok (.ireturn, 1) := by decide +kernel
theorem dX3_marked_0 : decode cX3_marked 0 = .ok (.aload_n 0, 1) := by decide +kernel
theorem dX3_marked_1 : decode cX3_marked 1 = .ok (.iconst 0, 1) := by decide +kernel
theorem dX3_marked_2 : decode cX3_marked 2 = .ok (.putfield 36, 3) := by decide +kernel
theorem dX3_marked_5 : decode cX3_marked 5 = .ok (.iconst 0, 1) := by decide +kernel
theorem dX3_marked_6 : decode cX3_marked 6 = .ok (.istore_n 1, 1) := by decide +kernel
theorem dX3_marked_7 : decode cX3_marked 7 = .ok (.iconst 0, 1) := by decide +kernel
theorem dX3_marked_8 : decode cX3_marked 8 = .ok (.istore_n 2, 1) := by decide +kernel
theorem dX3_marked_9 : decode cX3_marked 9 = .ok (.iload_n 2, 1) := by decide +kernel
theorem dX3_marked_10 : decode cX3_marked 10 = .ok (.aload_n 0, 1) := by decide +kernel
theorem dX3_marked_11 : decode cX3_marked 11 = .ok (.getfield 51, 3) := by decide +kernel
theorem dX3_marked_14 : decode cX3_marked 14 = .ok (.if_icmp .ge 26, 3) := by decide +kernel
theorem dX3_marked_17 : decode cX3_marked 17 = .ok (.iload_n 1, 1) := by decide +kernel
theorem dX3_marked_18 : decode cX3_marked 18 = .ok (.aload_n 0, 1) := by decide +kernel
theorem dX3_marked_19 : decode cX3_marked 19 = .ok (.getfield 20, 3) := by decide +kernel
theorem dX3_marked_22 : decode cX3_marked 22 = .ok (.iload_n 2, 1) := by decide +kernel
theorem dX3_marked_23 : decode cX3_marked 23 = .ok (.baload, 1) := by decide +kernel
theorem dX3_marked_24 : decode cX3_marked 24 = .ok (.ifCond .eq 7, 3) := by decide +kernel
theorem dX3_marked_27 : decode cX3_marked 27 = .ok (.iconst 1, 1) := by decide +kernel
theorem dX3_marked_28 : decode cX3_marked 28 = .ok (.goto 4, 3) := by decide +kernel
theorem dX3_marked_31 : decode cX3_marked 31 = .ok (.iconst 0, 1) := by decide +kernel
theorem dX3_marked_32 : decode cX3_marked 32 = .ok (.iadd, 1) := by decide +kernel
theorem dX3_marked_33 : decode cX3_marked 33 = .ok (.istore_n 1, 1) := by decide +kernel
theorem dX3_marked_34 : decode cX3_marked 34 = .ok (.iinc 2 1, 3) := by decide +kernel
theorem dX3_marked_37 : decode cX3_marked 37 = .ok (.goto (-28), 3) := by decide +kernel
theorem dX3_marked_40 : decode cX3_marked 40 = .ok (.iload_n 1, 1) := by decide +kernel
theorem dX3_marked_41 : decode cX3_marked 41 = .ok (.ireturn, 1) := by decide +kernel
theorem dX3_rowSize_0 : decode cX3_rowSize 0 = .ok (.aload_n 0, 1) := by decide +kernel
theorem dX3_rowSize_1 : decode cX3_rowSize 1 = .ok (.iconst 0, 1) := by decide +kernel
theorem dX3_rowSize_2 : decode cX3_rowSize 2 = .ok (.putfield 36, 3) := by decide +kernel
theorem dX3_rowSize_5 : decode cX3_rowSize 5 = .ok (.aload_n 0, 1) := by decide +kernel
theorem dX3_rowSize_6 : decode cX3_rowSize 6 = .ok (.getfield 51, 3) := by decide +kernel
theorem dX3_rowSize_9 : decode cX3_rowSize 9 = .ok (.ireturn, 1) := by decide +kernel
theorem dX3_merges_0 : decode cX3_merges 0 = .ok (.aload_n 0, 1) := by decide +kernel
theorem dX3_merges_1 : decode cX3_merges 1 = .ok (.iconst 0, 1) := by decide +kernel
theorem dX3_merges_2 : decode cX3_merges 2 = .ok (.putfield 36, 3) := by decide +kernel
theorem dX3_merges_5 : decode cX3_merges 5 = .ok (.aload_n 0, 1) := by decide +kernel
theorem dX3_merges_6 : decode cX3_merges 6 = .ok (.getfield 130, 3) := by decide +kernel
theorem dX3_merges_9 : decode cX3_merges 9 = .ok (.ireturn, 1) := by decide +kernel
theorem dX3_splits_0 : decode cX3_splits 0 = .ok (.aload_n 0, 1) := by decide +kernel
theorem dX3_splits_1 : decode cX3_splits 1 = .ok (.iconst 0, 1) := by decide +kernel
theorem dX3_splits_2 : decode cX3_splits 2 = .ok (.putfield 36, 3) := by decide +kernel
theorem dX3_splits_5 : decode cX3_splits 5 = .ok (.aload_n 0, 1) := by decide +kernel
theorem dX3_splits_6 : decode cX3_splits 6 = .ok (.getfield 121, 3) := by decide +kernel
theorem dX3_splits_9 : decode cX3_splits 9 = .ok (.ireturn, 1) := by decide +kernel
theorem dX3_joins_0 : decode cX3_joins 0 = .ok (.aload_n 0, 1) := by decide +kernel
theorem dX3_joins_1 : decode cX3_joins 1 = .ok (.iconst 0, 1) := by decide +kernel
theorem dX3_joins_2 : decode cX3_joins 2 = .ok (.putfield 36, 3) := by decide +kernel
theorem dX3_joins_5 : decode cX3_joins 5 = .ok (.aload_n 0, 1) := by decide +kernel
theorem dX3_joins_6 : decode cX3_joins 6 = .ok (.getfield 111, 3) := by decide +kernel
theorem dX3_joins_9 : decode cX3_joins 9 = .ok (.ireturn, 1) := by decide +kernel
theorem dJ9_floorDiv_f86c9_0 : decode cJ9_floorDiv_f86c9 0 = .ok (.lload_n 0, 1) := by decide +kernel
theorem dJ9_floorDiv_f86c9_1 : decode cJ9_floorDiv_f86c9 1 = .ok (.lload_n 2, 1) := by decide +kernel
theorem dJ9_floorDiv_f86c9_2 : decode cJ9_floorDiv_f86c9 2 = .ok (.ldiv, 1) := by decide +kernel
theorem dJ9_floorDiv_f86c9_3 : decode cJ9_floorDiv_f86c9 3 = .ok (.lstore 4, 2) := by decide +kernel
theorem dJ9_floorDiv_f86c9_5 : decode cJ9_floorDiv_f86c9 5 = .ok (.lload_n 0, 1) := by decide +kernel
theorem dJ9_floorDiv_f86c9_6 : decode cJ9_floorDiv_f86c9 6 = .ok (.lload_n 2, 1) := by decide +kernel
theorem dJ9_floorDiv_f86c9_7 : decode cJ9_floorDiv_f86c9 7 = .ok (.lxor, 1) := by decide +kernel
theorem dJ9_floorDiv_f86c9_8 : decode cJ9_floorDiv_f86c9 8 = .ok (.lconst 0, 1) := by decide +kernel
theorem dJ9_floorDiv_f86c9_9 : decode cJ9_floorDiv_f86c9 9 = .ok (.lcmp, 1) := by decide +kernel
theorem dJ9_floorDiv_f86c9_10 : decode cJ9_floorDiv_f86c9 10 = .ok (.ifCond .ge 17, 3) := by decide +kernel
theorem dJ9_floorDiv_f86c9_13 : decode cJ9_floorDiv_f86c9 13 = .ok (.lload 4, 2) := by decide +kernel
theorem dJ9_floorDiv_f86c9_15 : decode cJ9_floorDiv_f86c9 15 = .ok (.lload_n 2, 1) := by decide +kernel
theorem dJ9_floorDiv_f86c9_16 : decode cJ9_floorDiv_f86c9 16 = .ok (.lmul, 1) := by decide +kernel
theorem dJ9_floorDiv_f86c9_17 : decode cJ9_floorDiv_f86c9 17 = .ok (.lload_n 0, 1) := by decide +kernel
theorem dJ9_floorDiv_f86c9_18 : decode cJ9_floorDiv_f86c9 18 = .ok (.lcmp, 1) := by decide +kernel
theorem dJ9_floorDiv_f86c9_19 : decode cJ9_floorDiv_f86c9 19 = .ok (.ifCond .eq 8, 3) := by decide +kernel
theorem dJ9_floorDiv_f86c9_22 : decode cJ9_floorDiv_f86c9 22 = .ok (.lload 4, 2) := by decide +kernel
theorem dJ9_floorDiv_f86c9_24 : decode cJ9_floorDiv_f86c9 24 = .ok (.lconst 1, 1) := by decide +kernel
theorem dJ9_floorDiv_f86c9_25 : decode cJ9_floorDiv_f86c9 25 = .ok (.lsub, 1) := by decide +kernel
theorem dJ9_floorDiv_f86c9_26 : decode cJ9_floorDiv_f86c9 26 = .ok (.lreturn, 1) := by decide +kernel
theorem dJ9_floorDiv_f86c9_27 : decode cJ9_floorDiv_f86c9 27 = .ok (.lload 4, 2) := by decide +kernel
theorem dJ9_floorDiv_f86c9_29 : decode cJ9_floorDiv_f86c9 29 = .ok (.lreturn, 1) := by decide +kernel
theorem dJ9_abs_067f4_0 : decode cJ9_abs_067f4 0 = .ok (.lload_n 0, 1) := by decide +kernel
theorem dJ9_abs_067f4_1 : decode cJ9_abs_067f4 1 = .ok (.lconst 0, 1) := by decide +kernel
theorem dJ9_abs_067f4_2 : decode cJ9_abs_067f4 2 = .ok (.lcmp, 1) := by decide +kernel
theorem dJ9_abs_067f4_3 : decode cJ9_abs_067f4 3 = .ok (.ifCond .ge 8, 3) := by decide +kernel
theorem dJ9_abs_067f4_6 : decode cJ9_abs_067f4 6 = .ok (.lload_n 0, 1) := by decide +kernel
theorem dJ9_abs_067f4_7 : decode cJ9_abs_067f4 7 = .ok (.lneg, 1) := by decide +kernel
theorem dJ9_abs_067f4_8 : decode cJ9_abs_067f4 8 = .ok (.goto 4, 3) := by decide +kernel
theorem dJ9_abs_067f4_11 : decode cJ9_abs_067f4 11 = .ok (.lload_n 0, 1) := by decide +kernel
theorem dJ9_abs_067f4_12 : decode cJ9_abs_067f4 12 = .ok (.lreturn, 1) := by decide +kernel
theorem dJ9_max_7cf53_0 : decode cJ9_max_7cf53 0 = .ok (.iload_n 0, 1) := by decide +kernel
theorem dJ9_max_7cf53_1 : decode cJ9_max_7cf53 1 = .ok (.iload_n 1, 1) := by decide +kernel
theorem dJ9_max_7cf53_2 : decode cJ9_max_7cf53 2 = .ok (.if_icmp .lt 7, 3) := by decide +kernel
theorem dJ9_max_7cf53_5 : decode cJ9_max_7cf53 5 = .ok (.iload_n 0, 1) := by decide +kernel
theorem dJ9_max_7cf53_6 : decode cJ9_max_7cf53 6 = .ok (.goto 4, 3) := by decide +kernel
theorem dJ9_max_7cf53_9 : decode cJ9_max_7cf53 9 = .ok (.iload_n 1, 1) := by decide +kernel
theorem dJ9_max_7cf53_10 : decode cJ9_max_7cf53 10 = .ok (.ireturn, 1) := by decide +kernel
theorem dJ9_max_f86c9_0 : decode cJ9_max_f86c9 0 = .ok (.lload_n 0, 1) := by decide +kernel
theorem dJ9_max_f86c9_1 : decode cJ9_max_f86c9 1 = .ok (.lload_n 2, 1) := by decide +kernel
theorem dJ9_max_f86c9_2 : decode cJ9_max_f86c9 2 = .ok (.lcmp, 1) := by decide +kernel
theorem dJ9_max_f86c9_3 : decode cJ9_max_f86c9 3 = .ok (.ifCond .lt 7, 3) := by decide +kernel
theorem dJ9_max_f86c9_6 : decode cJ9_max_f86c9 6 = .ok (.lload_n 0, 1) := by decide +kernel
theorem dJ9_max_f86c9_7 : decode cJ9_max_f86c9 7 = .ok (.goto 4, 3) := by decide +kernel
theorem dJ9_max_f86c9_10 : decode cJ9_max_f86c9 10 = .ok (.lload_n 2, 1) := by decide +kernel
theorem dJ9_max_f86c9_11 : decode cJ9_max_f86c9 11 = .ok (.lreturn, 1) := by decide +kernel
theorem dJ9_min_f86c9_0 : decode cJ9_min_f86c9 0 = .ok (.lload_n 0, 1) := by decide +kernel
theorem dJ9_min_f86c9_1 : decode cJ9_min_f86c9 1 = .ok (.lload_n 2, 1) := by decide +kernel
theorem dJ9_min_f86c9_2 : decode cJ9_min_f86c9 2 = .ok (.lcmp, 1) := by decide +kernel
theorem dJ9_min_f86c9_3 : decode cJ9_min_f86c9 3 = .ok (.ifCond .gt 7, 3) := by decide +kernel
theorem dJ9_min_f86c9_6 : decode cJ9_min_f86c9 6 = .ok (.lload_n 0, 1) := by decide +kernel
theorem dJ9_min_f86c9_7 : decode cJ9_min_f86c9 7 = .ok (.goto 4, 3) := by decide +kernel
theorem dJ9_min_f86c9_10 : decode cJ9_min_f86c9 10 = .ok (.lload_n 2, 1) := by decide +kernel
theorem dJ9_min_f86c9_11 : decode cJ9_min_f86c9 11 = .ok (.lreturn, 1) := by decide +kernel
set_option maxRecDepth 20000 in
theorem ggL_append_X2_append : GoodIn wsL_append wsX2_append := goodIn_ca (goodIn_ca (goodIn_r _ [7, 8, 9, 10, 6, 11, 12, 13, 14, 15, 16, 17, 18, 19, 20, 21, 22, 23, 24, 25, 26, 27, 28, 29, 30, 31, 32, 33, 34, 35, 36, 37, 38, 39, 40, 41, 42, 43, 44, 45, 46, 47, 48, 49, 50, 51, 52, 53, 54, 55, 56, 57, 58, 59, 60, 61, 62, 63, 64, 65, 66, 67, 68, 69, 70, 71, 72, 73, 74, 75, 76, 77, 78, 79, 80, 81, 82, 83, 84, 85, 86, 87, 88, 89, 90, 91, 92, 93, 94, 95, 96, 97, 98, 99, 100, 101, 102, 103, 104, 105, 106, 107, 108, 109, 110, 111, 112, 113, 114, 115, 116, 117, 118, 119, 120, 121, 122, 123, 124] (by decide +kernel) (by decide +kernel)) (goodIn_sub (fun _ h => List.mem_cons_of_mem _ (List.mem_append_left _ (List.mem_append_right _ h))) (by decide +kernel))) (goodIn_sub (fun _ h => List.mem_cons_of_mem _ (List.mem_append_right _ h)) (by decide +kernel))
set_option maxRecDepth 20000 in
theorem gL_append_X2_append : GoodIn wsL_append (wsV RL 7 RX2 yX2_append wsX2_append) := goodIn_app (goodIn_of _ (by decide +kernel)) ggL_append_X2_append
theorem dL_append_0 : decode cL_append 0 = .ok (.aload_n 2, 1) := by decide +kernel
theorem dL_append_1 : decode cL_append 1 = .ok (.iconst 0, 1) := by decide +kernel
theorem dL_append_2 : decode cL_append 2 = .ok (.aload_n 0, 1) := by decide +kernel
theorem dL_append_3 : decode cL_append 3 = .ok (.iload_n 1, 1) := by decide +kernel
theorem dL_append_4 : decode cL_append 4 = .ok (.invokevirtual 7, 3) := by decide +kernel
theorem dL_append_7 : decode cL_append 7 = .ok (.i2l, 1) := by decide +kernel
theorem dL_append_8 : decode cL_append 8 = .ok (.lastore, 1) := by decide +kernel
theorem dL_append_9 : decode cL_append 9 = .ok (.goto 9, 3) := by decide +kernel
theorem dL_append_12 : decode cL_append 12 = .ok (.astore_n 3, 1) := by decide +kernel
theorem dL_append_13 : decode cL_append 13 = .ok (.iconst 1, 1) := by decide +kernel
theorem dL_append_14 : decode cL_append 14 = .ok (.ireturn, 1) := by decide +kernel
theorem dL_append_15 : decode cL_append 15 = .ok (.astore_n 3, 1) := by decide +kernel
theorem dL_append_16 : decode cL_append 16 = .ok (.iconst 2, 1) := by decide +kernel
theorem dL_append_17 : decode cL_append 17 = .ok (.ireturn, 1) := by decide +kernel
theorem dL_append_18 : decode cL_append 18 = .ok (.iconst 0, 1) := by decide +kernel
theorem dL_append_19 : decode cL_append 19 = .ok (.ireturn, 1) := by decide +kernel
set_option maxRecDepth 20000 in
theorem ggL_appendMany_X2_appendMany : GoodIn wsL_appendMany wsX2_appendMany := goodIn_ca (goodIn_ca (goodIn_r _ [7, 8, 9, 10, 11, 12, 6, 13, 14, 15, 16, 17, 18, 19, 20, 21, 22, 23, 24, 25, 26, 27, 28, 29, 30, 31, 32, 33, 34, 35, 36, 37, 38, 39, 40, 41, 42, 43, 44, 45, 46, 47, 48, 49, 50, 51, 52, 53, 54, 55, 56, 57, 58, 59, 60, 61, 62, 63, 64, 65, 66, 67, 68, 69, 70, 71, 72, 73, 74, 75, 76, 77, 78, 79, 80, 81, 82, 83, 84, 85, 86, 87, 88, 89, 90, 91, 92, 93, 94, 95, 96, 97, 98, 99, 100, 101, 102, 103, 104, 105, 106, 107, 108, 109, 110, 111, 112, 113, 114, 115, 116, 117, 118, 119, 120, 121, 122, 123, 124] (by decide +kernel) (by decide +kernel)) (goodIn_sub (fun _ h => List.mem_cons_of_mem _ (List.mem_append_left _ (List.mem_append_right _ h))) (by decide +kernel))) (goodIn_sub (fun _ h => List.mem_cons_of_mem _ (List.mem_append_right _ h)) (by decide +kernel))
set_option maxRecDepth 20000 in
theorem gL_appendMany_X2_appendMany : GoodIn wsL_appendMany (wsV RL 17 RX2 yX2_appendMany wsX2_appendMany) := goodIn_app (goodIn_of _ (by decide +kernel)) ggL_appendMany_X2_appendMany
theorem dL_appendMany_0 : decode cL_appendMany 0 = .ok (.aload 4, 2) := by decide +kernel
theorem dL_appendMany_2 : decode cL_appendMany 2 = .ok (.iconst 0, 1) := by decide +kernel
theorem dL_appendMany_3 : decode cL_appendMany 3 = .ok (.aload_n 0, 1) := by decide +kernel
theorem dL_appendMany_4 : decode cL_appendMany 4 = .ok (.iload_n 1, 1) := by decide +kernel
theorem dL_appendMany_5 : decode cL_appendMany 5 = .ok (.iload_n 2, 1) := by decide +kernel
theorem dL_appendMany_6 : decode cL_appendMany 6 = .ok (.iload_n 3, 1) := by decide +kernel
theorem dL_appendMany_7 : decode cL_appendMany 7 = .ok (.invokevirtual 17, 3) := by decide +kernel
theorem dL_appendMany_10 : decode cL_appendMany 10 = .ok (.i2l, 1) := by decide +kernel
theorem dL_appendMany_11 : decode cL_appendMany 11 = .ok (.lastore, 1) := by decide +kernel
theorem dL_appendMany_12 : decode cL_appendMany 12 = .ok (.goto 11, 3) := by decide +kernel
theorem dL_appendMany_15 : decode cL_appendMany 15 = .ok (.astore 5, 2) := by decide +kernel
theorem dL_appendMany_17 : decode cL_appendMany 17 = .ok (.iconst 1, 1) := by decide +kernel
theorem dL_appendMany_18 : decode cL_appendMany 18 = .ok (.ireturn, 1) := by decide +kernel
theorem dL_appendMany_19 : decode cL_appendMany 19 = .ok (.astore 5, 2) := by decide +kernel
theorem dL_appendMany_21 : decode cL_appendMany 21 = .ok (.iconst 2, 1) := by decide +kernel
theorem dL_appendMany_22 : decode cL_appendMany 22 = .ok (.ireturn, 1) := by decide +kernel
theorem dL_appendMany_23 : decode cL_appendMany 23 = .ok (.iconst 0, 1) := by decide +kernel
theorem dL_appendMany_24 : decode cL_appendMany 24 = .ok (.ireturn, 1) := by decide +kernel
set_option maxRecDepth 20000 in
theorem ggL_insert_X2_insert : GoodIn wsL_insert wsX2_insert := goodIn_ca (goodIn_ca (goodIn_r _ [7, 8, 9, 10, 11, 12, 13, 14, 15, 6, 16, 17, 18, 19, 20, 21, 22, 23, 24, 25, 26, 27, 28, 29, 30, 31, 32, 33, 34, 35, 36, 37, 38, 39, 40, 41, 42, 43, 44, 45, 46, 47, 48, 49, 50, 51, 52, 53, 54, 55, 56, 57, 58, 59, 60, 61, 62, 63, 64, 65, 66, 67, 68, 69, 70, 71, 72, 73, 74, 75, 76, 77, 78, 79, 80, 81, 82, 83, 84, 85, 86, 87, 88, 89, 90, 91, 92, 93, 94, 95, 96, 97, 98, 99, 100, 101, 102, 103, 104, 105, 106, 107, 108, 109, 110, 111, 112, 113, 114, 115, 116, 117, 118, 119, 120, 121, 122, 123, 124, 125, 126, 127, 128, 129, 130, 131, 132, 133, 134, 135, 136, 137, 138, 139, 140, 141, 142, 143, 144, 145, 146, 147, 148, 149, 150, 151, 152, 153, 154, 155, 156, 157, 158, 159, 160, 161, 162, 163, 164, 165, 166, 167, 168, 169, 170, 171, 172, 173, 174, 175, 176, 177, 178, 179, 180, 181, 182, 183, 184, 185, 186, 187, 188] (by decide +kernel) (by decide +kernel)) (goodIn_sub (fun _ h => List.mem_cons_of_mem _ (List.mem_append_left _ (List.mem_append_right _ h))) (by decide +kernel))) (goodIn_sub (fun _ h => List.mem_cons_of_mem _ (List.mem_append_right _ h)) (by decide +kernel))
set_option maxRecDepth 20000 in
theorem gL_insert_X2_insert : GoodIn wsL_insert (wsV RL 21 RX2 yX2_insert wsX2_insert) := goodIn_app (goodIn_of _ (by decide +kernel)) ggL_insert_X2_insert
theorem dL_insert_0 : decode cL_insert 0 = .ok (.aload_n 2, 1) := by decide +kernel
theorem dL_insert_1 : decode cL_insert 1 = .ok (.iconst 0, 1) := by decide +kernel
theorem dL_insert_2 : decode cL_insert 2 = .ok (.aload_n 0, 1) := by decide +kernel
theorem dL_insert_3 : decode cL_insert 3 = .ok (.iload_n 1, 1) := by decide +kernel
theorem dL_insert_4 : decode cL_insert 4 = .ok (.invokevirtual 21, 3) := by decide +kernel
theorem dL_insert_7 : decode cL_insert 7 = .ok (.i2l, 1) := by decide +kernel
theorem dL_insert_8 : decode cL_insert 8 = .ok (.lastore, 1) := by decide +kernel
theorem dL_insert_9 : decode cL_insert 9 = .ok (.goto 9, 3) := by decide +kernel
theorem dL_insert_12 : decode cL_insert 12 = .ok (.astore_n 3, 1) := by decide +kernel
theorem dL_insert_13 : decode cL_insert 13 = .ok (.iconst 1, 1) := by decide +kernel
theorem dL_insert_14 : decode cL_insert 14 = .ok (.ireturn, 1) := by decide +kernel
theorem dL_insert_15 : decode cL_insert 15 = .ok (.astore_n 3, 1) := by decide +kernel
theorem dL_insert_16 : decode cL_insert 16 = .ok (.iconst 2, 1) := by decide +kernel
theorem dL_insert_17 : decode cL_insert 17 = .ok (.ireturn, 1) := by decide +kernel
theorem dL_insert_18 : decode cL_insert 18 = .ok (.iconst 0, 1) := by decide +kernel
theorem dL_insert_19 : decode cL_insert 19 = .ok (.ireturn, 1) := by decide +kernel
set_option maxRecDepth 20000 in
theorem ggL_remove_X2_remove : GoodIn wsL_remove wsX2_remove := goodIn_ca (goodIn_r _ [6, 7, 8, 9, 10, 11, 12, 13, 14, 15, 5, 16, 17, 18, 19, 20, 21, 22, 23, 24, 25, 26, 27, 28, 29, 30, 31, 32, 33, 34, 35, 36, 37, 38, 39, 40, 41, 42, 43, 44, 45, 46, 47, 48, 49, 50, 51, 52, 53, 54, 55, 56, 57, 58, 59, 60, 61, 62, 63, 64, 65, 66, 67, 68, 69, 70, 71, 72, 73, 74, 75] (by decide +kernel) (by decide +kernel)) (goodIn_sub (fun _ h => List.mem_cons_of_mem _ (List.mem_append_right _ h)) (by decide +kernel))
set_option maxRecDepth 20000 in
theorem gL_remove_X2_remove : GoodIn wsL_remove (wsV RL 24 RX2 yX2_remove wsX2_remove) := goodIn_app (goodIn_of _ (by decide +kernel)) ggL_remove_X2_remove
theorem dL_remove_0 : decode cL_remove 0 = .ok (.aload_n 2, 1) := by decide +kernel
theorem dL_remove_1 : decode cL_remove 1 = .ok (.iconst 0, 1) := by decide +kernel
theorem dL_remove_2 : decode cL_remove 2 = .ok (.aload_n 0, 1) := by decide +kernel
theorem dL_remove_3 : decode cL_remove 3 = .ok (.iload_n 1, 1) := by decide +kernel
theorem dL_remove_4 : decode cL_remove 4 = .ok (.invokevirtual 24, 3) := by decide +kernel
theorem dL_remove_7 : decode cL_remove 7 = .ok (.i2l, 1) := by decide +kernel
theorem dL_remove_8 : decode cL_remove 8 = .ok (.lastore, 1) := by decide +kernel
theorem dL_remove_9 : decode cL_remove 9 = .ok (.goto 6, 3) := by decide +kernel
theorem dL_remove_12 : decode cL_remove 12 = .ok (.astore_n 3, 1) := by decide +kernel
theorem dL_remove_13 : decode cL_remove 13 = .ok (.iconst 1, 1) := by decide +kernel
theorem dL_remove_14 : decode cL_remove 14 = .ok (.ireturn, 1) := by decide +kernel
theorem dL_remove_15 : decode cL_remove 15 = .ok (.iconst 0, 1) := by decide +kernel
theorem dL_remove_16 : decode cL_remove 16 = .ok (.ireturn, 1) := by decide +kernel
set_option maxRecDepth 20000 in
theorem ggL_rebuild_X2_rebuild : GoodIn wsL_rebuild wsX2_rebuild := goodIn_ca (goodIn_r _ [6, 7, 8, 9, 10, 11, 12, 13, 14, 15, 5, 16, 17, 18, 19, 20, 21, 22, 23, 24, 25, 26, 27, 28, 29, 30, 31, 32, 33, 34, 35, 36, 37, 38, 39, 40, 41, 42, 43, 44, 45, 46, 47, 48, 49, 50, 51, 52, 53, 54, 55, 56, 57, 58, 59, 60, 61, 62, 63, 64, 65, 66, 67, 68, 69, 70, 71, 72, 73, 74, 75, 76, 77, 78, 79, 80, 81, 82, 83, 84, 85, 86, 87, 88, 89, 90, 91, 92, 93, 94, 95, 96, 97, 98, 99, 100, 101, 102, 103, 104, 105, 106, 107, 108, 109, 110, 111, 112, 113, 114, 115, 116, 117, 118, 119, 120, 121, 122, 123, 124, 125, 126, 127] (by decide +kernel) (by decide +kernel)) (goodIn_sub (fun _ h => List.mem_cons_of_mem _ (List.mem_append_right _ h)) (by decide +kernel))
set_option maxRecDepth 20000 in
theorem gL_rebuild_X2_rebuild : GoodIn wsL_rebuild (wsV RL 29 RX2 yX2_rebuild wsX2_rebuild) := goodIn_app (goodIn_of _ (by decide +kernel)) ggL_rebuild_X2_rebuild
theorem dL_rebuild_0 : decode cL_rebuild 0 = .ok (.aload_n 3, 1) := by decide +kernel
theorem dL_rebuild_1 : decode cL_rebuild 1 = .ok (.iconst 0, 1) := by decide +kernel
theorem dL_rebuild_2 : decode cL_rebuild 2 = .ok (.aload_n 0, 1) := by decide +kernel
theorem dL_rebuild_3 : decode cL_rebuild 3 = .ok (.iload_n 1, 1) := by decide +kernel
theorem dL_rebuild_4 : decode cL_rebuild 4 = .ok (.iload_n 2, 1) := by decide +kernel
theorem dL_rebuild_5 : decode cL_rebuild 5 = .ok (.invokevirtual 29, 3) := by decide +kernel
theorem dL_rebuild_8 : decode cL_rebuild 8 = .ok (.i2l, 1) := by decide +kernel
theorem dL_rebuild_9 : decode cL_rebuild 9 = .ok (.lastore, 1) := by decide +kernel
theorem dL_rebuild_10 : decode cL_rebuild 10 = .ok (.goto 7, 3) := by decide +kernel
theorem dL_rebuild_13 : decode cL_rebuild 13 = .ok (.astore 4, 2) := by decide +kernel
theorem dL_rebuild_15 : decode cL_rebuild 15 = .ok (.iconst 1, 1) := by decide +kernel
theorem dL_rebuild_16 : decode cL_rebuild 16 = .ok (.ireturn, 1) := by decide +kernel
theorem dL_rebuild_17 : decode cL_rebuild 17 = .ok (.iconst 0, 1) := by decide +kernel
theorem dL_rebuild_18 : decode cL_rebuild 18 = .ok (.ireturn, 1) := by decide +kernel
set_option maxRecDepth 20000 in
theorem ggL_select_X2_select : GoodIn wsL_select wsX2_select := goodIn_ca (goodIn_r _ [6, 7, 8, 9, 10, 11, 5, 12, 13, 14, 15, 16, 17, 18, 19, 20, 21, 22, 23, 24, 25, 26, 27, 28, 29, 30, 31, 32, 33, 34, 35, 36, 37, 38, 39, 40, 41, 42, 43, 44, 45, 46, 47, 48, 49, 50, 51, 52, 53, 54, 55, 56, 57, 58, 59, 60, 61, 62, 63, 64, 65, 66, 67, 68, 69, 70, 71, 72, 73] (by decide +kernel) (by decide +kernel)) (goodIn_sub (fun _ h => List.mem_cons_of_mem _ (List.mem_append_right _ h)) (by decide +kernel))
set_option maxRecDepth 20000 in
theorem gL_select_X2_select : GoodIn wsL_select (wsV RL 33 RX2 yX2_select wsX2_select) := goodIn_app (goodIn_of _ (by decide +kernel)) ggL_select_X2_select
theorem dL_select_0 : decode cL_select 0 = .ok (.aload_n 2, 1) := by decide +kernel
theorem dL_select_1 : decode cL_select 1 = .ok (.iconst 0, 1) := by decide +kernel
theorem dL_select_2 : decode cL_select 2 = .ok (.aload_n 0, 1) := by decide +kernel
theorem dL_select_3 : decode cL_select 3 = .ok (.iload_n 1, 1) := by decide +kernel
theorem dL_select_4 : decode cL_select 4 = .ok (.invokevirtual 33, 3) := by decide +kernel
theorem dL_select_7 : decode cL_select 7 = .ok (.i2l, 1) := by decide +kernel
theorem dL_select_8 : decode cL_select 8 = .ok (.lastore, 1) := by decide +kernel
theorem dL_select_9 : decode cL_select 9 = .ok (.goto 6, 3) := by decide +kernel
theorem dL_select_12 : decode cL_select 12 = .ok (.astore_n 3, 1) := by decide +kernel
theorem dL_select_13 : decode cL_select 13 = .ok (.iconst 1, 1) := by decide +kernel
theorem dL_select_14 : decode cL_select 14 = .ok (.ireturn, 1) := by decide +kernel
theorem dL_select_15 : decode cL_select 15 = .ok (.iconst 0, 1) := by decide +kernel
theorem dL_select_16 : decode cL_select 16 = .ok (.ireturn, 1) := by decide +kernel
set_option maxRecDepth 20000 in
theorem ggL_ceiling_X2_ceiling : GoodIn wsL_ceiling wsX2_ceiling := goodIn_ca (goodIn_r _ [6, 7, 8, 9, 10, 11, 5, 12, 13, 14, 15, 16, 17, 18, 19, 20, 21, 22, 23, 24, 25, 26, 27, 28, 29, 30, 31, 32, 33, 34, 35, 36, 37, 38, 39, 40, 41, 42, 43, 44, 45, 46, 47, 48, 49, 50, 51, 52, 53, 54, 55, 56, 57, 58, 59, 60, 61, 62, 63, 64, 65, 66, 67, 68, 69, 70, 71, 72, 73, 74, 75, 76, 77, 78, 79, 80, 81, 82] (by decide +kernel) (by decide +kernel)) (goodIn_sub (fun _ h => List.mem_cons_of_mem _ (List.mem_append_right _ h)) (by decide +kernel))
set_option maxRecDepth 20000 in
theorem gL_ceiling_X2_ceiling : GoodIn wsL_ceiling (wsV RL 38 RX2 yX2_ceiling wsX2_ceiling) := goodIn_app (goodIn_of _ (by decide +kernel)) ggL_ceiling_X2_ceiling
theorem dL_ceiling_0 : decode cL_ceiling 0 = .ok (.aload_n 2, 1) := by decide +kernel
theorem dL_ceiling_1 : decode cL_ceiling 1 = .ok (.iconst 0, 1) := by decide +kernel
theorem dL_ceiling_2 : decode cL_ceiling 2 = .ok (.aload_n 0, 1) := by decide +kernel
theorem dL_ceiling_3 : decode cL_ceiling 3 = .ok (.iload_n 1, 1) := by decide +kernel
theorem dL_ceiling_4 : decode cL_ceiling 4 = .ok (.invokevirtual 38, 3) := by decide +kernel
theorem dL_ceiling_7 : decode cL_ceiling 7 = .ok (.i2l, 1) := by decide +kernel
theorem dL_ceiling_8 : decode cL_ceiling 8 = .ok (.lastore, 1) := by decide +kernel
theorem dL_ceiling_9 : decode cL_ceiling 9 = .ok (.goto 6, 3) := by decide +kernel
theorem dL_ceiling_12 : decode cL_ceiling 12 = .ok (.astore_n 3, 1) := by decide +kernel
theorem dL_ceiling_13 : decode cL_ceiling 13 = .ok (.iconst 1, 1) := by decide +kernel
theorem dL_ceiling_14 : decode cL_ceiling 14 = .ok (.ireturn, 1) := by decide +kernel
theorem dL_ceiling_15 : decode cL_ceiling 15 = .ok (.iconst 0, 1) := by decide +kernel
theorem dL_ceiling_16 : decode cL_ceiling 16 = .ok (.ireturn, 1) := by decide +kernel
set_option maxRecDepth 20000 in
theorem ggL_guess_X2_guess : GoodIn wsL_guess wsX2_guess := goodIn_ca (goodIn_r _ [6, 7, 8, 5, 9, 10, 11, 12, 13, 14, 15, 16, 17, 18, 19, 20, 21, 22, 23, 24, 25, 26, 27, 28, 29, 30, 31, 32, 33, 34, 35, 36, 37, 38, 39, 40, 41, 42, 43, 44, 45, 46, 47, 48, 49, 50, 51, 52, 53, 54, 55, 56, 57, 58, 59, 60, 61, 62, 63, 64, 65, 66, 67] (by decide +kernel) (by decide +kernel)) (goodIn_sub (fun _ h => List.mem_cons_of_mem _ (List.mem_append_right _ h)) (by decide +kernel))
set_option maxRecDepth 20000 in
theorem gL_guess_X2_guess : GoodIn wsL_guess (wsV RL 41 RX2 yX2_guess wsX2_guess) := goodIn_app (goodIn_of _ (by decide +kernel)) ggL_guess_X2_guess
theorem dL_guess_0 : decode cL_guess 0 = .ok (.aload_n 2, 1) := by decide +kernel
theorem dL_guess_1 : decode cL_guess 1 = .ok (.iconst 0, 1) := by decide +kernel
theorem dL_guess_2 : decode cL_guess 2 = .ok (.aload_n 0, 1) := by decide +kernel
theorem dL_guess_3 : decode cL_guess 3 = .ok (.iload_n 1, 1) := by decide +kernel
theorem dL_guess_4 : decode cL_guess 4 = .ok (.invokevirtual 41, 3) := by decide +kernel
theorem dL_guess_7 : decode cL_guess 7 = .ok (.lastore, 1) := by decide +kernel
theorem dL_guess_8 : decode cL_guess 8 = .ok (.goto 6, 3) := by decide +kernel
theorem dL_guess_11 : decode cL_guess 11 = .ok (.astore_n 3, 1) := by decide +kernel
theorem dL_guess_12 : decode cL_guess 12 = .ok (.iconst 1, 1) := by decide +kernel
theorem dL_guess_13 : decode cL_guess 13 = .ok (.ireturn, 1) := by decide +kernel
theorem dL_guess_14 : decode cL_guess 14 = .ok (.iconst 0, 1) := by decide +kernel
theorem dL_guess_15 : decode cL_guess 15 = .ok (.ireturn, 1) := by decide +kernel
set_option maxRecDepth 20000 in
theorem ggL_looks_X2_looks : GoodIn wsL_looks wsX2_looks := goodIn_ca (goodIn_r _ [6, 7, 8, 5, 9, 10, 11, 12, 13, 14, 15, 16, 17, 18, 19, 20, 21, 22, 23, 24, 25, 26, 27, 28, 29, 30, 31, 32, 33, 34, 35, 36, 37, 38, 39, 40, 41, 42, 43, 44, 45, 46, 47, 48, 49, 50, 51, 52, 53, 54, 55, 56, 57, 58, 59, 60, 61, 62, 63, 64, 65, 66, 67, 68, 69, 70, 71, 72, 73, 74, 75, 76, 77, 78, 79, 80, 81, 82, 83, 84, 85, 86, 87, 88] (by decide +kernel) (by decide +kernel)) (goodIn_sub (fun _ h => List.mem_cons_of_mem _ (List.mem_append_right _ h)) (by decide +kernel))
set_option maxRecDepth 20000 in
theorem gL_looks_X2_looks : GoodIn wsL_looks (wsV RL 45 RX2 yX2_looks wsX2_looks) := goodIn_app (goodIn_of _ (by decide +kernel)) ggL_looks_X2_looks
theorem dL_looks_0 : decode cL_looks 0 = .ok (.aload_n 2, 1) := by decide +kernel
theorem dL_looks_1 : decode cL_looks 1 = .ok (.iconst 0, 1) := by decide +kernel
theorem dL_looks_2 : decode cL_looks 2 = .ok (.aload_n 0, 1) := by decide +kernel
theorem dL_looks_3 : decode cL_looks 3 = .ok (.iload_n 1, 1) := by decide +kernel
theorem dL_looks_4 : decode cL_looks 4 = .ok (.invokevirtual 45, 3) := by decide +kernel
theorem dL_looks_7 : decode cL_looks 7 = .ok (.i2l, 1) := by decide +kernel
theorem dL_looks_8 : decode cL_looks 8 = .ok (.lastore, 1) := by decide +kernel
theorem dL_looks_9 : decode cL_looks 9 = .ok (.goto 6, 3) := by decide +kernel
theorem dL_looks_12 : decode cL_looks 12 = .ok (.astore_n 3, 1) := by decide +kernel
theorem dL_looks_13 : decode cL_looks 13 = .ok (.iconst 1, 1) := by decide +kernel
theorem dL_looks_14 : decode cL_looks 14 = .ok (.ireturn, 1) := by decide +kernel
theorem dL_looks_15 : decode cL_looks 15 = .ok (.iconst 0, 1) := by decide +kernel
theorem dL_looks_16 : decode cL_looks 16 = .ok (.ireturn, 1) := by decide +kernel
set_option maxRecDepth 20000 in
theorem ggL_start_X2_start : GoodIn wsL_start wsX2_start := goodIn_ca (goodIn_r _ [6, 7, 8, 9, 10, 5, 11, 12, 13, 14, 15, 16, 17, 18, 19, 20, 21, 22, 23, 24, 25, 26, 27, 28, 29, 30, 31, 32, 33, 34, 35, 36, 37, 38, 39, 40, 41, 42] (by decide +kernel) (by decide +kernel)) (goodIn_sub (fun _ h => List.mem_cons_of_mem _ (List.mem_append_right _ h)) (by decide +kernel))
set_option maxRecDepth 20000 in
theorem gL_start_X2_start : GoodIn wsL_start (wsV RL 48 RX2 yX2_start wsX2_start) := goodIn_app (goodIn_of _ (by decide +kernel)) ggL_start_X2_start
theorem dL_start_0 : decode cL_start 0 = .ok (.aload_n 2, 1) := by decide +kernel
theorem dL_start_1 : decode cL_start 1 = .ok (.iconst 0, 1) := by decide +kernel
theorem dL_start_2 : decode cL_start 2 = .ok (.aload_n 0, 1) := by decide +kernel
theorem dL_start_3 : decode cL_start 3 = .ok (.iload_n 1, 1) := by decide +kernel
theorem dL_start_4 : decode cL_start 4 = .ok (.invokevirtual 48, 3) := by decide +kernel
theorem dL_start_7 : decode cL_start 7 = .ok (.i2l, 1) := by decide +kernel
theorem dL_start_8 : decode cL_start 8 = .ok (.lastore, 1) := by decide +kernel
theorem dL_start_9 : decode cL_start 9 = .ok (.goto 6, 3) := by decide +kernel
theorem dL_start_12 : decode cL_start 12 = .ok (.astore_n 3, 1) := by decide +kernel
theorem dL_start_13 : decode cL_start 13 = .ok (.iconst 1, 1) := by decide +kernel
theorem dL_start_14 : decode cL_start 14 = .ok (.ireturn, 1) := by decide +kernel
theorem dL_start_15 : decode cL_start 15 = .ok (.iconst 0, 1) := by decide +kernel
theorem dL_start_16 : decode cL_start 16 = .ok (.ireturn, 1) := by decide +kernel
set_option maxRecDepth 20000 in
theorem ggL_firstKey_X2_firstKey : GoodIn wsL_firstKey wsX2_firstKey := goodIn_ca (goodIn_r _ [6, 7, 8, 9, 5, 10, 11, 12, 13, 14, 15, 16, 17, 18, 19, 20, 21, 22, 23, 24, 25, 26, 27, 28, 29, 30, 31, 32, 33, 34, 35, 36, 37, 38, 39, 40, 41, 42, 43, 44, 45, 46, 47] (by decide +kernel) (by decide +kernel)) (goodIn_sub (fun _ h => List.mem_cons_of_mem _ (List.mem_append_right _ h)) (by decide +kernel))
set_option maxRecDepth 20000 in
theorem gL_firstKey_X2_firstKey : GoodIn wsL_firstKey (wsV RL 51 RX2 yX2_firstKey wsX2_firstKey) := goodIn_app (goodIn_of _ (by decide +kernel)) ggL_firstKey_X2_firstKey
theorem dL_firstKey_0 : decode cL_firstKey 0 = .ok (.aload_n 2, 1) := by decide +kernel
theorem dL_firstKey_1 : decode cL_firstKey 1 = .ok (.iconst 0, 1) := by decide +kernel
theorem dL_firstKey_2 : decode cL_firstKey 2 = .ok (.aload_n 0, 1) := by decide +kernel
theorem dL_firstKey_3 : decode cL_firstKey 3 = .ok (.iload_n 1, 1) := by decide +kernel
theorem dL_firstKey_4 : decode cL_firstKey 4 = .ok (.invokevirtual 51, 3) := by decide +kernel
theorem dL_firstKey_7 : decode cL_firstKey 7 = .ok (.i2l, 1) := by decide +kernel
theorem dL_firstKey_8 : decode cL_firstKey 8 = .ok (.lastore, 1) := by decide +kernel
theorem dL_firstKey_9 : decode cL_firstKey 9 = .ok (.goto 6, 3) := by decide +kernel
theorem dL_firstKey_12 : decode cL_firstKey 12 = .ok (.astore_n 3, 1) := by decide +kernel
theorem dL_firstKey_13 : decode cL_firstKey 13 = .ok (.iconst 1, 1) := by decide +kernel
theorem dL_firstKey_14 : decode cL_firstKey 14 = .ok (.ireturn, 1) := by decide +kernel
theorem dL_firstKey_15 : decode cL_firstKey 15 = .ok (.iconst 0, 1) := by decide +kernel
theorem dL_firstKey_16 : decode cL_firstKey 16 = .ok (.ireturn, 1) := by decide +kernel
set_option maxRecDepth 20000 in
theorem ggL_rise_X2_rise : GoodIn wsL_rise wsX2_rise := goodIn_ca (goodIn_r _ [6, 7, 8, 9, 10, 5, 11, 12, 13, 14, 15, 16, 17, 18, 19, 20, 21, 22, 23, 24, 25, 26, 27, 28, 29, 30, 31, 32, 33, 34, 35, 36, 37, 38, 39, 40, 41, 42, 43] (by decide +kernel) (by decide +kernel)) (goodIn_sub (fun _ h => List.mem_cons_of_mem _ (List.mem_append_right _ h)) (by decide +kernel))
set_option maxRecDepth 20000 in
theorem gL_rise_X2_rise : GoodIn wsL_rise (wsV RL 54 RX2 yX2_rise wsX2_rise) := goodIn_app (goodIn_of _ (by decide +kernel)) ggL_rise_X2_rise
theorem dL_rise_0 : decode cL_rise 0 = .ok (.aload_n 2, 1) := by decide +kernel
theorem dL_rise_1 : decode cL_rise 1 = .ok (.iconst 0, 1) := by decide +kernel
theorem dL_rise_2 : decode cL_rise 2 = .ok (.aload_n 0, 1) := by decide +kernel
theorem dL_rise_3 : decode cL_rise 3 = .ok (.iload_n 1, 1) := by decide +kernel
theorem dL_rise_4 : decode cL_rise 4 = .ok (.invokevirtual 54, 3) := by decide +kernel
theorem dL_rise_7 : decode cL_rise 7 = .ok (.i2l, 1) := by decide +kernel
theorem dL_rise_8 : decode cL_rise 8 = .ok (.lastore, 1) := by decide +kernel
theorem dL_rise_9 : decode cL_rise 9 = .ok (.goto 6, 3) := by decide +kernel
theorem dL_rise_12 : decode cL_rise 12 = .ok (.astore_n 3, 1) := by decide +kernel
theorem dL_rise_13 : decode cL_rise 13 = .ok (.iconst 1, 1) := by decide +kernel
theorem dL_rise_14 : decode cL_rise 14 = .ok (.ireturn, 1) := by decide +kernel
theorem dL_rise_15 : decode cL_rise 15 = .ok (.iconst 0, 1) := by decide +kernel
theorem dL_rise_16 : decode cL_rise 16 = .ok (.ireturn, 1) := by decide +kernel
set_option maxRecDepth 20000 in
theorem ggL_run_X2_run : GoodIn wsL_run wsX2_run := goodIn_ca (goodIn_r _ [6, 7, 8, 9, 10, 5, 11, 12, 13, 14, 15, 16, 17, 18, 19, 20, 21, 22, 23, 24, 25, 26, 27, 28, 29, 30, 31, 32, 33, 34, 35, 36, 37, 38, 39, 40, 41, 42, 43] (by decide +kernel) (by decide +kernel)) (goodIn_sub (fun _ h => List.mem_cons_of_mem _ (List.mem_append_right _ h)) (by decide +kernel))
set_option maxRecDepth 20000 in
theorem gL_run_X2_run : GoodIn wsL_run (wsV RL 57 RX2 yX2_run wsX2_run) := goodIn_app (goodIn_of _ (by decide +kernel)) ggL_run_X2_run
theorem dL_run_0 : decode cL_run 0 = .ok (.aload_n 2, 1) := by decide +kernel
theorem dL_run_1 : decode cL_run 1 = .ok (.iconst 0, 1) := by decide +kernel
theorem dL_run_2 : decode cL_run 2 = .ok (.aload_n 0, 1) := by decide +kernel
theorem dL_run_3 : decode cL_run 3 = .ok (.iload_n 1, 1) := by decide +kernel
theorem dL_run_4 : decode cL_run 4 = .ok (.invokevirtual 57, 3) := by decide +kernel
theorem dL_run_7 : decode cL_run 7 = .ok (.i2l, 1) := by decide +kernel
theorem dL_run_8 : decode cL_run 8 = .ok (.lastore, 1) := by decide +kernel
theorem dL_run_9 : decode cL_run 9 = .ok (.goto 6, 3) := by decide +kernel
theorem dL_run_12 : decode cL_run 12 = .ok (.astore_n 3, 1) := by decide +kernel
theorem dL_run_13 : decode cL_run 13 = .ok (.iconst 1, 1) := by decide +kernel
theorem dL_run_14 : decode cL_run 14 = .ok (.ireturn, 1) := by decide +kernel
theorem dL_run_15 : decode cL_run 15 = .ok (.iconst 0, 1) := by decide +kernel
theorem dL_run_16 : decode cL_run 16 = .ok (.ireturn, 1) := by decide +kernel
set_option maxRecDepth 20000 in
theorem ggL_law_X2_init : GoodIn wsL_law wsX2_init := goodIn_r _ [9, 10, 11, 12, 13, 14, 15, 16, 17, 18, 19, 20, 21, 22, 23, 24, 25, 26, 27, 28, 29, 30, 31, 32, 33, 34, 35, 36, 37, 38, 39, 40, 41, 42, 43, 44, 45, 46, 47, 48, 49, 50, 51, 707, 708, 674, 675, 676, 677, 678, 679, 680, 681, 682, 683, 684, 685, 686, 687, 688, 709, 710, 711, 712, 713, 714, 715] (by decide +kernel) (by decide +kernel)
set_option maxRecDepth 20000 in
theorem gL_law_X2_init : GoodIn wsL_law (wsX2_init) := ggL_law_X2_init
set_option maxRecDepth 20000 in
theorem ggL_law_X3_init : GoodIn wsL_law wsX3_init := goodIn_r _ [54, 55, 11, 12, 56, 57, 42, 58, 59, 60, 61, 62, 63, 64, 689, 690, 691, 692, 693, 694, 695, 696, 697, 698, 699, 700, 701, 702, 703, 704, 705, 706] (by decide +kernel) (by decide +kernel)
set_option maxRecDepth 20000 in
theorem gL_law_X3_init : GoodIn wsL_law (wsX3_init) := ggL_law_X3_init
set_option maxRecDepth 20000 in
theorem ggL_law_L_append : GoodIn wsL_law wsL_append := goodIn_ca (goodIn_ca (goodIn_r _ [68, 69, 70, 71, 72, 73, 2, 74, 19, 75, 76, 77, 78, 79, 80, 81, 82, 83, 84, 85, 86, 87, 16, 18, 88, 89, 90, 15, 91, 44, 92, 93, 94, 95, 43, 96, 97, 98, 99, 100, 101, 102, 103, 104, 105, 106, 107, 108, 109, 110, 111, 17, 25, 112, 113, 114, 115, 116, 117, 118, 24, 119, 120, 121, 122, 123, 49, 48, 51, 50, 124, 125, 126, 127, 20, 21, 128, 129, 130, 131, 132, 133, 134, 135, 136, 137, 138, 139, 140, 141, 142, 143, 144, 145, 146, 147, 28, 148, 149, 150, 151, 674, 675, 676, 677, 678, 679, 680, 681, 682, 683, 684, 685, 686, 687, 688, 707, 708, 709, 710, 711, 712, 713, 714, 715] (by decide +kernel) (by decide +kernel)) (goodIn_sub (fun _ h => List.mem_append_left _ (List.mem_append_left _ (List.mem_append_left _ (List.mem_append_right _ h)))) (by decide +kernel))) (goodIn_sub (fun _ h => List.mem_append_left _ (List.mem_append_left _ (List.mem_append_right _ h))) (by decide +kernel))
set_option maxRecDepth 20000 in
theorem gL_law_L_append : GoodIn wsL_law (va_wsS RL 64 yL_append wsL_append) := goodIn_app (goodIn_of _ (by decide +kernel)) ggL_law_L_append
set_option maxRecDepth 20000 in
theorem ggL_law_X3_append : GoodIn wsL_law wsX3_append := goodIn_r _ [155, 156, 157, 158, 159, 5, 160, 161, 162, 163, 164, 165, 166, 167, 168, 169, 170, 171, 172, 58, 62, 173, 174, 175, 176, 60, 61, 177, 178, 179, 180, 181, 182, 56, 689, 690, 691, 692, 693, 694, 695, 696, 697, 698, 699, 700, 701, 702, 703, 704, 705, 706] (by decide +kernel) (by decide +kernel)
set_option maxRecDepth 20000 in
theorem gL_law_X3_append : GoodIn wsL_law (wsV RL 69 RX3 yX3_append wsX3_append) := goodIn_app (goodIn_of _ (by decide +kernel)) ggL_law_X3_append
set_option maxRecDepth 20000 in
theorem ggL_law_X3_thrown : GoodIn wsL_law wsX3_thrown := goodIn_r _ [186, 156, 689, 690, 691, 692, 693, 694, 695, 696, 697, 698, 699, 700, 701, 702, 703, 704, 705, 706] (by decide +kernel) (by decide +kernel)
set_option maxRecDepth 20000 in
theorem gL_law_X3_thrown : GoodIn wsL_law (wsV RL 70 RX3 yX3_thrown wsX3_thrown) := goodIn_app (goodIn_of _ (by decide +kernel)) ggL_law_X3_thrown
set_option maxRecDepth 20000 in
theorem ggL_law_L_appendMany : GoodIn wsL_law wsL_appendMany := goodIn_ca (goodIn_ca (goodIn_r _ [189, 69, 70, 190, 191, 192, 2, 193, 78, 79, 19, 75, 76, 77, 80, 81, 82, 83, 84, 85, 86, 87, 16, 18, 88, 89, 90, 15, 91, 44, 92, 93, 94, 95, 43, 96, 97, 98, 99, 100, 101, 102, 103, 104, 105, 106, 107, 108, 109, 110, 111, 17, 25, 112, 113, 114, 115, 116, 117, 118, 24, 119, 120, 121, 122, 123, 49, 48, 51, 50, 124, 125, 126, 127, 20, 21, 128, 129, 130, 131, 132, 133, 134, 135, 136, 137, 138, 139, 140, 141, 142, 143, 144, 145, 146, 147, 28, 148, 149, 150, 151, 674, 675, 676, 677, 678, 679, 680, 681, 682, 683, 684, 685, 686, 687, 688, 707, 708, 709, 710, 711, 712, 713, 714, 715] (by decide +kernel) (by decide +kernel)) (goodIn_sub (fun _ h => List.mem_append_left _ (List.mem_append_left _ (List.mem_append_left _ (List.mem_append_right _ h)))) (by decide +kernel))) (goodIn_sub (fun _ h => List.mem_append_left _ (List.mem_append_left _ (List.mem_append_right _ h))) (by decide +kernel))
set_option maxRecDepth 20000 in
theorem gL_law_L_appendMany : GoodIn wsL_law (va_wsS RL 74 yL_appendMany wsL_appendMany) := goodIn_app (goodIn_of _ (by decide +kernel)) ggL_law_L_appendMany
set_option maxRecDepth 20000 in
theorem ggL_law_X3_appendMany : GoodIn wsL_law wsX3_appendMany := goodIn_r _ [197, 156, 157, 158, 159, 5, 160, 161, 162, 163, 164, 165, 166, 167, 168, 169, 170, 171, 172, 58, 62, 173, 174, 175, 176, 60, 61, 177, 178, 179, 180, 181, 182, 56, 689, 690, 691, 692, 693, 694, 695, 696, 697, 698, 699, 700, 701, 702, 703, 704, 705, 706] (by decide +kernel) (by decide +kernel)
set_option maxRecDepth 20000 in
theorem gL_law_X3_appendMany : GoodIn wsL_law (wsV RL 77 RX3 yX3_appendMany wsX3_appendMany) := goodIn_app (goodIn_of _ (by decide +kernel)) ggL_law_X3_appendMany
set_option maxRecDepth 20000 in
theorem ggL_law_L_insert : GoodIn wsL_law wsL_insert := goodIn_ca (goodIn_ca (goodIn_r _ [200, 69, 70, 201, 202, 203, 2, 204, 86, 87, 16, 17, 30, 18, 75, 76, 77, 78, 79, 80, 81, 205, 206, 207, 15, 208, 43, 209, 89, 90, 91, 44, 92, 93, 94, 95, 96, 97, 98, 99, 210, 211, 212, 213, 214, 104, 105, 106, 107, 100, 101, 102, 103, 215, 216, 217, 218, 29, 88, 219, 220, 221, 222, 223, 113, 114, 115, 224, 137, 138, 139, 225, 226, 227, 228, 26, 27, 19, 31, 229, 230, 231, 232, 233, 234, 235, 236, 112, 237, 238, 239, 240, 25, 28, 32, 116, 117, 118, 24, 119, 120, 121, 122, 123, 49, 48, 51, 50, 148, 149, 150, 151, 241, 242, 243, 244, 245, 246, 247, 248, 249, 250, 251, 252, 253, 254, 255, 256, 257, 258, 259, 260, 261, 20, 21, 262, 263, 264, 265, 33, 266, 267, 268, 269, 144, 145, 146, 147, 128, 129, 130, 131, 132, 133, 134, 135, 140, 141, 142, 143, 124, 125, 126, 127, 136, 674, 675, 676, 677, 678, 679, 680, 681, 682, 683, 684, 685, 686, 687, 688, 707, 708, 709, 710, 711, 712, 713, 714, 715] (by decide +kernel) (by decide +kernel)) (goodIn_sub (fun _ h => List.mem_append_left _ (List.mem_append_left _ (List.mem_append_right _ h))) (by decide +kernel))) (goodIn_sub (fun _ h => List.mem_append_left _ (List.mem_append_left _ (List.mem_append_left _ (List.mem_append_right _ h)))) (by decide +kernel))
set_option maxRecDepth 20000 in
theorem gL_law_L_insert : GoodIn wsL_law (va_wsS RL 78 yL_insert wsL_insert) := goodIn_app (goodIn_of _ (by decide +kernel)) ggL_law_L_insert
set_option maxRecDepth 20000 in
theorem ggL_law_X3_insert : GoodIn wsL_law wsX3_insert := goodIn_r _ [273, 156, 60, 168, 62, 57, 274, 275, 276, 5, 277, 167, 58, 278, 279, 280, 281, 158, 159, 160, 161, 162, 282, 283, 284, 285, 286, 287, 288, 289, 163, 164, 165, 166, 290, 291, 292, 293, 294, 157, 64, 295, 296, 297, 298, 299, 300, 61, 301, 302, 303, 304, 305, 306, 307, 308, 63, 309, 310, 311, 312, 313, 314, 315, 316, 177, 178, 179, 180, 181, 182, 56, 317, 318, 319, 320, 321, 322, 323, 324, 325, 689, 690, 691, 692, 693, 694, 695, 696, 697, 698, 699, 700, 701, 702, 703, 704, 705, 706] (by decide +kernel) (by decide +kernel)
set_option maxRecDepth 20000 in
theorem gL_law_X3_insert : GoodIn wsL_law (wsV RL 80 RX3 yX3_insert wsX3_insert) := goodIn_app (goodIn_of _ (by decide +kernel)) ggL_law_X3_insert
set_option maxRecDepth 20000 in
theorem ggL_law_L_remove : GoodIn wsL_law wsL_remove := goodIn_ca (goodIn_r _ [328, 329, 330, 331, 332, 2, 333, 334, 335, 16, 18, 17, 30, 210, 211, 212, 213, 205, 206, 207, 15, 208, 43, 209, 89, 90, 91, 44, 92, 93, 94, 95, 96, 97, 98, 99, 214, 88, 336, 337, 338, 339, 224, 137, 138, 139, 136, 340, 341, 342, 343, 104, 105, 106, 107, 100, 101, 102, 103, 674, 675, 676, 677, 678, 679, 680, 681, 682, 683, 684, 685, 686, 687, 688, 707, 708] (by decide +kernel) (by decide +kernel)) (goodIn_sub (fun _ h => List.mem_append_left _ (List.mem_append_right _ h)) (by decide +kernel))
set_option maxRecDepth 20000 in
theorem gL_law_L_remove : GoodIn wsL_law (va_wsS RL 81 yL_remove wsL_remove) := goodIn_app (goodIn_of _ (by decide +kernel)) ggL_law_L_remove
set_option maxRecDepth 20000 in
theorem ggL_law_X3_remove : GoodIn wsL_law wsX3_remove := goodIn_r _ [347, 156, 60, 168, 62, 282, 283, 284, 5, 285, 286, 287, 288, 289, 274, 275, 276, 277, 167, 58, 278, 279, 280, 281, 348, 349, 350, 351, 352, 353, 354, 355, 356, 689, 690, 691, 692, 693, 694, 695, 696, 697, 698, 699, 700, 701, 702, 703, 704, 705, 706] (by decide +kernel) (by decide +kernel)
set_option maxRecDepth 20000 in
theorem gL_law_X3_remove : GoodIn wsL_law (wsV RL 83 RX3 yX3_remove wsX3_remove) := goodIn_app (goodIn_of _ (by decide +kernel)) ggL_law_X3_remove
set_option maxRecDepth 20000 in
theorem ggL_law_X2_merge : GoodIn wsL_law wsX2_merge := goodIn_r _ [360, 19, 225, 226, 227, 2, 228, 26, 27, 18, 16, 17, 31, 229, 230, 231, 15, 232, 44, 100, 101, 102, 103, 233, 234, 235, 236, 214, 93, 94, 95, 43, 96, 97, 98, 99, 112, 113, 114, 115, 237, 238, 239, 240, 25, 28, 32, 116, 117, 118, 24, 119, 120, 121, 122, 123, 49, 48, 51, 50, 148, 149, 150, 151, 241, 242, 243, 244, 245, 246, 247, 248, 88, 89, 90, 91, 92, 249, 250, 251, 252, 253, 254, 255, 256, 257, 30, 258, 259, 260, 261, 20, 21, 262, 263, 264, 265, 33, 266, 267, 268, 269, 144, 145, 146, 147, 128, 129, 130, 131, 132, 133, 134, 135, 140, 141, 142, 143, 124, 125, 126, 127, 136, 137, 138, 139, 674, 675, 676, 677, 678, 679, 680, 681, 682, 683, 684, 685, 686, 687, 688, 707, 708, 709, 710, 711, 712, 713, 714, 715] (by decide +kernel) (by decide +kernel)
set_option maxRecDepth 20000 in
theorem gL_law_X2_merge : GoodIn wsL_law (wsV RL 84 RX2 yX2_merge wsX2_merge) := goodIn_app (goodIn_of _ (by decide +kernel)) ggL_law_X2_merge
set_option maxRecDepth 20000 in
theorem ggL_law_X3_merge : GoodIn wsL_law wsX3_merge := goodIn_r _ [364, 156, 157, 290, 291, 292, 5, 293, 294, 64, 295, 168, 62, 296, 297, 298, 299, 300, 61, 60, 58, 301, 302, 303, 304, 167, 305, 306, 307, 308, 63, 309, 310, 311, 312, 313, 314, 315, 316, 177, 178, 179, 180, 181, 182, 56, 317, 318, 319, 320, 321, 322, 323, 324, 325, 689, 690, 691, 692, 693, 694, 695, 696, 697, 698, 699, 700, 701, 702, 703, 704, 705, 706] (by decide +kernel) (by decide +kernel)
set_option maxRecDepth 20000 in
theorem gL_law_X3_merge : GoodIn wsL_law (wsV RL 87 RX3 yX3_merge wsX3_merge) := goodIn_app (goodIn_of _ (by decide +kernel)) ggL_law_X3_merge
set_option maxRecDepth 20000 in
theorem ggL_law_L_rebuild : GoodIn wsL_law wsL_rebuild := goodIn_ca (goodIn_r _ [367, 69, 368, 369, 370, 2, 371, 78, 79, 28, 29, 26, 19, 372, 373, 374, 375, 16, 18, 229, 230, 231, 15, 232, 44, 100, 101, 102, 103, 233, 234, 235, 236, 17, 214, 93, 94, 95, 43, 96, 97, 98, 99, 112, 113, 114, 115, 254, 255, 256, 257, 30, 258, 259, 260, 261, 20, 21, 108, 109, 110, 111, 25, 116, 117, 118, 24, 119, 120, 121, 122, 123, 49, 48, 51, 50, 124, 125, 126, 127, 128, 129, 130, 131, 132, 133, 134, 135, 136, 137, 138, 139, 140, 141, 142, 143, 144, 145, 146, 147, 148, 149, 150, 151, 674, 675, 676, 677, 678, 679, 680, 681, 682, 683, 684, 685, 686, 687, 688, 707, 708, 709, 710, 711, 712, 713, 714, 715] (by decide +kernel) (by decide +kernel)) (goodIn_sub (fun _ h => List.mem_append_left _ (List.mem_append_left _ (List.mem_append_left _ (List.mem_append_right _ h)))) (by decide +kernel))
set_option maxRecDepth 20000 in
theorem gL_law_L_rebuild : GoodIn wsL_law (va_wsS RL 88 yL_rebuild wsL_rebuild) := goodIn_app (goodIn_of _ (by decide +kernel)) ggL_law_L_rebuild
set_option maxRecDepth 20000 in
theorem ggL_law_X3_rebuild : GoodIn wsL_law wsX3_rebuild := goodIn_r _ [379, 156, 56, 57, 294, 167, 60, 58, 168, 62, 157, 305, 306, 307, 5, 308, 63, 313, 314, 315, 316, 64, 177, 178, 179, 180, 181, 182, 317, 318, 319, 320, 61, 689, 690, 691, 692, 693, 694, 695, 696, 697, 698, 699, 700, 701, 702, 703, 704, 705, 706] (by decide +kernel) (by decide +kernel)
set_option maxRecDepth 20000 in
theorem gL_law_X3_rebuild : GoodIn wsL_law (wsV RL 91 RX3 yX3_rebuild wsX3_rebuild) := goodIn_app (goodIn_of _ (by decide +kernel)) ggL_law_X3_rebuild
set_option maxRecDepth 20000 in
theorem ggL_law_X2_size : GoodIn wsL_law wsX2_size := goodIn_r _ [383, 340, 341, 342, 2, 343, 30, 104, 105, 106, 107, 16, 18, 100, 101, 102, 15, 103, 44, 674, 675, 676, 677, 678, 679, 680, 681, 682, 683, 684, 685, 686, 687, 688, 707, 708] (by decide +kernel) (by decide +kernel)
set_option maxRecDepth 20000 in
theorem gL_law_X2_size : GoodIn wsL_law (wsV RL 92 RX2 yX2_size wsX2_size) := goodIn_app (goodIn_of _ (by decide +kernel)) ggL_law_X2_size
set_option maxRecDepth 20000 in
theorem ggL_law_X3_size : GoodIn wsL_law wsX3_size := goodIn_r _ [387, 156, 348, 349, 350, 5, 351, 352, 353, 354, 355, 356, 167, 60, 58, 168, 62, 689, 690, 691, 692, 693, 694, 695, 696, 697, 698, 699, 700, 701, 702, 703, 704, 705, 706] (by decide +kernel) (by decide +kernel)
set_option maxRecDepth 20000 in
theorem gL_law_X3_size : GoodIn wsL_law (wsV RL 95 RX3 yX3_size wsX3_size) := goodIn_app (goodIn_of _ (by decide +kernel)) ggL_law_X3_size
set_option maxRecDepth 20000 in
theorem ggL_law_X2_contains : GoodIn wsL_law wsX2_contains := goodIn_r _ [391, 210, 211, 212, 2, 213, 16, 18, 17, 205, 206, 207, 15, 208, 43, 209, 89, 90, 91, 44, 92, 93, 94, 95, 96, 97, 98, 99, 214, 674, 675, 676, 677, 678, 679, 680, 681, 682, 683, 684, 685, 686, 687, 688, 707, 708] (by decide +kernel) (by decide +kernel)
set_option maxRecDepth 20000 in
theorem gL_law_X2_contains : GoodIn wsL_law (wsV RL 96 RX2 yX2_contains wsX2_contains) := goodIn_app (goodIn_of _ (by decide +kernel)) ggL_law_X2_contains
set_option maxRecDepth 20000 in
theorem ggL_law_X3_contains : GoodIn wsL_law wsX3_contains := goodIn_r _ [395, 156, 282, 283, 284, 5, 285, 60, 286, 287, 288, 289, 168, 62, 274, 275, 276, 277, 167, 58, 278, 279, 280, 281, 689, 690, 691, 692, 693, 694, 695, 696, 697, 698, 699, 700, 701, 702, 703, 704, 705, 706] (by decide +kernel) (by decide +kernel)
set_option maxRecDepth 20000 in
theorem gL_law_X3_contains : GoodIn wsL_law (wsV RL 100 RX3 yX3_contains wsX3_contains) := goodIn_app (goodIn_of _ (by decide +kernel)) ggL_law_X3_contains
set_option maxRecDepth 20000 in
theorem ggL_law_X2_rank : GoodIn wsL_law wsX2_rank := goodIn_r _ [399, 400, 401, 402, 2, 403, 16, 18, 17, 88, 89, 90, 15, 91, 44, 92, 93, 94, 95, 43, 96, 97, 98, 99, 214, 674, 675, 676, 677, 678, 679, 680, 681, 682, 683, 684, 685, 686, 687, 688, 707, 708] (by decide +kernel) (by decide +kernel)
set_option maxRecDepth 20000 in
theorem gL_law_X2_rank : GoodIn wsL_law (wsV RL 101 RX2 yX2_rank wsX2_rank) := goodIn_app (goodIn_of _ (by decide +kernel)) ggL_law_X2_rank
set_option maxRecDepth 20000 in
theorem ggL_law_X3_rank : GoodIn wsL_law wsX3_rank := goodIn_r _ [407, 156, 353, 354, 355, 5, 356, 167, 60, 58, 168, 62, 689, 690, 691, 692, 693, 694, 695, 696, 697, 698, 699, 700, 701, 702, 703, 704, 705, 706] (by decide +kernel) (by decide +kernel)
set_option maxRecDepth 20000 in
theorem gL_law_X3_rank : GoodIn wsL_law (wsV RL 104 RX3 yX3_rank wsX3_rank) := goodIn_app (goodIn_of _ (by decide +kernel)) ggL_law_X3_rank
set_option maxRecDepth 20000 in
theorem ggL_law_L_select : GoodIn wsL_law wsL_select := goodIn_ca (goodIn_r _ [410, 411, 412, 413, 414, 2, 415, 416, 417, 340, 341, 342, 343, 30, 104, 105, 106, 107, 16, 18, 100, 101, 102, 15, 103, 44, 418, 419, 420, 421, 26, 372, 373, 374, 375, 229, 230, 231, 232, 233, 234, 235, 236, 17, 214, 93, 94, 95, 43, 96, 97, 98, 99, 112, 113, 114, 115, 674, 675, 676, 677, 678, 679, 680, 681, 682, 683, 684, 685, 686, 687, 688, 707, 708] (by decide +kernel) (by decide +kernel)) (goodIn_sub (fun _ h => List.mem_append_right _ h) (by decide +kernel))
set_option maxRecDepth 20000 in
theorem gL_law_L_select : GoodIn wsL_law (va_wsS RL 105 yL_select wsL_select) := goodIn_app (goodIn_of _ (by decide +kernel)) ggL_law_L_select
set_option maxRecDepth 20000 in
theorem ggL_law_X3_select : GoodIn wsL_law wsX3_select := goodIn_r _ [425, 156, 348, 349, 350, 5, 351, 352, 353, 354, 355, 356, 167, 60, 58, 168, 62, 426, 427, 428, 429, 689, 690, 691, 692, 693, 694, 695, 696, 697, 698, 699, 700, 701, 702, 703, 704, 705, 706] (by decide +kernel) (by decide +kernel)
set_option maxRecDepth 20000 in
theorem gL_law_X3_select : GoodIn wsL_law (wsV RL 107 RX3 yX3_select wsX3_select) := goodIn_app (goodIn_of _ (by decide +kernel)) ggL_law_X3_select
set_option maxRecDepth 20000 in
theorem ggL_law_L_ceiling : GoodIn wsL_law wsL_ceiling := goodIn_ca (goodIn_r _ [432, 329, 433, 434, 435, 2, 436, 334, 335, 400, 401, 402, 403, 16, 18, 17, 88, 89, 90, 15, 91, 44, 92, 93, 94, 95, 43, 96, 97, 98, 99, 214, 340, 341, 342, 343, 30, 104, 105, 106, 107, 100, 101, 102, 103, 418, 419, 420, 421, 26, 372, 373, 374, 375, 229, 230, 231, 232, 233, 234, 235, 236, 112, 113, 114, 115, 674, 675, 676, 677, 678, 679, 680, 681, 682, 683, 684, 685, 686, 687, 688, 707, 708] (by decide +kernel) (by decide +kernel)) (goodIn_sub (fun _ h => List.mem_append_left _ (List.mem_append_right _ h)) (by decide +kernel))
set_option maxRecDepth 20000 in
theorem gL_law_L_ceiling : GoodIn wsL_law (va_wsS RL 108 yL_ceiling wsL_ceiling) := goodIn_app (goodIn_of _ (by decide +kernel)) ggL_law_L_ceiling
set_option maxRecDepth 20000 in
theorem ggL_law_X3_ceiling : GoodIn wsL_law wsX3_ceiling := goodIn_r _ [440, 156, 353, 354, 355, 5, 356, 167, 60, 58, 168, 62, 348, 349, 350, 351, 352, 426, 427, 428, 429, 689, 690, 691, 692, 693, 694, 695, 696, 697, 698, 699, 700, 701, 702, 703, 704, 705, 706] (by decide +kernel) (by decide +kernel)
set_option maxRecDepth 20000 in
theorem gL_law_X3_ceiling : GoodIn wsL_law (wsV RL 110 RX3 yX3_ceiling wsX3_ceiling) := goodIn_app (goodIn_of _ (by decide +kernel)) ggL_law_X3_ceiling
set_option maxRecDepth 20000 in
theorem ggL_law_X2_count : GoodIn wsL_law wsX2_count := goodIn_r _ [444, 400, 401, 402, 2, 403, 16, 18, 17, 88, 89, 90, 15, 91, 44, 92, 93, 94, 95, 43, 96, 97, 98, 99, 214, 210, 211, 212, 213, 205, 206, 207, 208, 209, 674, 675, 676, 677, 678, 679, 680, 681, 682, 683, 684, 685, 686, 687, 688, 707, 708] (by decide +kernel) (by decide +kernel)
set_option maxRecDepth 20000 in
theorem gL_law_X2_count : GoodIn wsL_law (wsV RL 111 RX2 yX2_count wsX2_count) := goodIn_app (goodIn_of _ (by decide +kernel)) ggL_law_X2_count
set_option maxRecDepth 20000 in
theorem ggL_law_X3_count : GoodIn wsL_law wsX3_count := goodIn_r _ [448, 156, 353, 354, 355, 5, 356, 167, 60, 58, 168, 62, 689, 690, 691, 692, 693, 694, 695, 696, 697, 698, 699, 700, 701, 702, 703, 704, 705, 706] (by decide +kernel) (by decide +kernel)
set_option maxRecDepth 20000 in
theorem gL_law_X3_count : GoodIn wsL_law (wsV RL 114 RX3 yX3_count wsX3_count) := goodIn_app (goodIn_of _ (by decide +kernel)) ggL_law_X3_count
set_option maxRecDepth 20000 in
theorem ggL_law_X2_place : GoodIn wsL_law wsX2_place := goodIn_r _ [452, 16, 88, 89, 90, 15, 91, 44, 92, 93, 94, 95, 43, 96, 97, 98, 99, 674, 675, 676, 677, 678, 679, 680, 681, 682, 683, 684, 685, 686, 687, 688, 707, 708] (by decide +kernel) (by decide +kernel)
set_option maxRecDepth 20000 in
theorem gL_law_X2_place : GoodIn wsL_law (wsV RL 115 RX2 yX2_place wsX2_place) := goodIn_app (goodIn_of _ (by decide +kernel)) ggL_law_X2_place
set_option maxRecDepth 20000 in
theorem ggL_law_X3_place : GoodIn wsL_law wsX3_place := goodIn_r _ [456, 156, 278, 279, 280, 5, 281, 167, 58, 689, 690, 691, 692, 693, 694, 695, 696, 697, 698, 699, 700, 701, 702, 703, 704, 705, 706] (by decide +kernel) (by decide +kernel)
set_option maxRecDepth 20000 in
theorem gL_law_X3_place : GoodIn wsL_law (wsV RL 118 RX3 yX3_place wsX3_place) := goodIn_app (goodIn_of _ (by decide +kernel)) ggL_law_X3_place
set_option maxRecDepth 20000 in
theorem ggL_law_L_guess : GoodIn wsL_law wsL_guess := goodIn_ca (goodIn_r _ [459, 69, 460, 461, 462, 2, 463, 75, 76, 77, 78, 79, 80, 81, 464, 465, 466, 467, 16, 19, 88, 89, 90, 15, 91, 44, 92, 93, 94, 95, 43, 96, 97, 98, 99, 468, 469, 470, 471, 21, 472, 20, 214, 245, 246, 247, 248, 473, 474, 475, 476, 674, 675, 676, 677, 678, 679, 680, 681, 682, 683, 684, 685, 686, 687, 688, 707, 708] (by decide +kernel) (by decide +kernel)) (goodIn_sub (fun _ h => List.mem_append_left _ (List.mem_append_left _ (List.mem_append_left _ (List.mem_append_right _ h)))) (by decide +kernel))
set_option maxRecDepth 20000 in
theorem gL_law_L_guess : GoodIn wsL_law (va_wsS RL 119 yL_guess wsL_guess) := goodIn_app (goodIn_of _ (by decide +kernel)) ggL_law_L_guess
set_option maxRecDepth 20000 in
theorem ggL_law_X3_guess : GoodIn wsL_law wsX3_guess := goodIn_r _ [480, 156, 481, 158, 159, 5, 160, 161, 162, 309, 310, 311, 312, 157, 58, 61, 482, 483, 484, 485, 181, 182, 486, 487, 488, 489, 301, 302, 303, 304, 167, 177, 178, 179, 180, 56, 490, 491, 492, 689, 690, 691, 692, 693, 694, 695, 696, 697, 698, 699, 700, 701, 702, 703, 704, 705, 706] (by decide +kernel) (by decide +kernel)
set_option maxRecDepth 20000 in
theorem gL_law_X3_guess : GoodIn wsL_law (wsV RL 121 RX3 yX3_guess wsX3_guess) := goodIn_app (goodIn_of _ (by decide +kernel)) ggL_law_X3_guess
set_option maxRecDepth 20000 in
theorem ggL_law_L_looks : GoodIn wsL_law wsL_looks := goodIn_ca (goodIn_r _ [495, 69, 496, 497, 498, 2, 499, 75, 76, 77, 78, 79, 80, 81, 464, 465, 466, 467, 16, 19, 88, 89, 90, 15, 91, 44, 92, 93, 94, 95, 43, 96, 97, 98, 99, 500, 501, 502, 503, 28, 504, 505, 40, 506, 507, 508, 509, 468, 469, 470, 471, 21, 472, 20, 214, 245, 246, 247, 248, 473, 474, 475, 476, 250, 251, 252, 253, 249, 100, 101, 102, 103, 674, 675, 676, 677, 678, 679, 680, 681, 682, 683, 684, 685, 686, 687, 688, 707, 708] (by decide +kernel) (by decide +kernel)) (goodIn_sub (fun _ h => List.mem_append_left _ (List.mem_append_left _ (List.mem_append_left _ (List.mem_append_right _ h)))) (by decide +kernel))
set_option maxRecDepth 20000 in
theorem gL_law_L_looks : GoodIn wsL_law (va_wsS RL 122 yL_looks wsL_looks) := goodIn_app (goodIn_of _ (by decide +kernel)) ggL_law_L_looks
set_option maxRecDepth 20000 in
theorem ggL_law_X3_looks : GoodIn wsL_law wsX3_looks := goodIn_r _ [513, 156, 56, 61, 514, 58, 158, 159, 5, 160, 161, 162, 309, 310, 311, 312, 157, 482, 483, 484, 485, 181, 182, 486, 487, 488, 489, 301, 302, 303, 304, 167, 177, 178, 179, 180, 490, 491, 492, 689, 690, 691, 692, 693, 694, 695, 696, 697, 698, 699, 700, 701, 702, 703, 704, 705, 706] (by decide +kernel) (by decide +kernel)
set_option maxRecDepth 20000 in
theorem gL_law_X3_looks : GoodIn wsL_law (wsV RL 124 RX3 yX3_looks wsX3_looks) := goodIn_app (goodIn_of _ (by decide +kernel)) ggL_law_X3_looks
set_option maxRecDepth 20000 in
theorem ggL_law_X2_worstError : GoodIn wsL_law wsX2_worstError := goodIn_r _ [518, 19, 16, 519, 520, 40, 521, 504, 505, 506, 100, 101, 102, 15, 103, 44, 250, 251, 252, 2, 253, 249, 97, 98, 99, 43, 214, 93, 94, 95, 96, 468, 469, 470, 471, 21, 472, 20, 245, 246, 247, 248, 473, 474, 475, 476, 674, 675, 676, 677, 678, 679, 680, 681, 682, 683, 684, 685, 686, 687, 688, 707, 708] (by decide +kernel) (by decide +kernel)
set_option maxRecDepth 20000 in
theorem gL_law_X2_worstError : GoodIn wsL_law (wsV RL 125 RX2 yX2_worstError wsX2_worstError) := goodIn_app (goodIn_of _ (by decide +kernel)) ggL_law_X2_worstError
set_option maxRecDepth 20000 in
theorem ggL_law_X3_worstError : GoodIn wsL_law wsX3_worstError := goodIn_r _ [525, 156, 167, 58, 309, 310, 311, 5, 312, 157, 61, 482, 483, 484, 485, 181, 182, 486, 487, 488, 489, 301, 302, 303, 304, 177, 178, 179, 180, 56, 490, 491, 492, 689, 690, 691, 692, 693, 694, 695, 696, 697, 698, 699, 700, 701, 702, 703, 704, 705, 706] (by decide +kernel) (by decide +kernel)
