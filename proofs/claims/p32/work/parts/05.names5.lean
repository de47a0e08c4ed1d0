theorem dX0_init_0 : decode cX0_init 0 = .ok (.aload_n 0, 1) := by decide +kernel
theorem dX0_init_1 : decode cX0_init 1 = .ok (.invokespecial 3, 3) := by decide +kernel
theorem dX0_init_4 : decode cX0_init 4 = .ok (.aload_n 0, 1) := by decide +kernel
theorem dX0_init_5 : decode cX0_init 5 = .ok (.iconst 0, 1) := by decide +kernel
theorem dX0_init_6 : decode cX0_init 6 = .ok (.iload_n 1, 1) := by decide +kernel
theorem dX0_init_7 : decode cX0_init 7 = .ok (.invokestatic 9, 3) := by decide +kernel
theorem dX0_init_10 : decode cX0_init 10 = .ok (.newarray .int, 2) := by decide +kernel
theorem dX0_init_12 : decode cX0_init 12 = .ok (.putfield 15, 3) := by decide +kernel
theorem dX0_init_15 : decode cX0_init 15 = .ok (.aload_n 0, 1) := by decide +kernel
theorem dX0_init_16 : decode cX0_init 16 = .ok (.iconst 0, 1) := by decide +kernel
theorem dX0_init_17 : decode cX0_init 17 = .ok (.putfield 21, 3) := by decide +kernel
theorem dX0_init_20 : decode cX0_init 20 = .ok (.return_, 1) := by decide +kernel
theorem dX0_length_0 : decode cX0_length 0 = .ok (.aload_n 0, 1) := by decide +kernel
theorem dX0_length_1 : decode cX0_length 1 = .ok (.getfield 21, 3) := by decide +kernel
theorem dX0_length_4 : decode cX0_length 4 = .ok (.ireturn, 1) := by decide +kernel
theorem dX0_has_0 : decode cX0_has 0 = .ok (.iload_n 1, 1) := by decide +kernel
theorem dX0_has_1 : decode cX0_has 1 = .ok (.ifCond .lt 24, 3) := by decide +kernel
theorem dX0_has_4 : decode cX0_has 4 = .ok (.iload_n 1, 1) := by decide +kernel
theorem dX0_has_5 : decode cX0_has 5 = .ok (.aload_n 0, 1) := by decide +kernel
theorem dX0_has_6 : decode cX0_has 6 = .ok (.getfield 21, 3) := by decide +kernel
theorem dX0_has_9 : decode cX0_has 9 = .ok (.if_icmp .ge 16, 3) := by decide +kernel
theorem dX0_has_12 : decode cX0_has 12 = .ok (.iload_n 1, 1) := by decide +kernel
theorem dX0_has_13 : decode cX0_has 13 = .ok (.aload_n 0, 1) := by decide +kernel
theorem dX0_has_14 : decode cX0_has 14 = .ok (.getfield 15, 3) := by decide +kernel
theorem dX0_has_17 : decode cX0_has 17 = .ok (.arraylength, 1) := by decide +kernel
theorem dX0_has_18 : decode cX0_has 18 = .ok (.if_icmp .ge 7, 3) := by decide +kernel
theorem dX0_has_21 : decode cX0_has 21 = .ok (.iconst 1, 1) := by decide +kernel
theorem dX0_has_22 : decode cX0_has 22 = .ok (.goto 4, 3) := by decide +kernel
theorem dX0_has_25 : decode cX0_has 25 = .ok (.iconst 0, 1) := by decide +kernel
theorem dX0_has_26 : decode cX0_has 26 = .ok (.ireturn, 1) := by decide +kernel
set_option maxRecDepth 20000 in
theorem ggX0_at_X0_has : GoodIn wsX0_at wsX0_has := goodIn_r _ [6, 7, 1, 8, 9] (by decide +kernel) (by decide +kernel)
set_option maxRecDepth 20000 in
theorem gX0_at_X0_has : GoodIn wsX0_at (wsV RX0 25 RX0 yX0_has wsX0_has) := goodIn_app (goodIn_of _ (by decide +kernel)) ggX0_at_X0_has
theorem dX0_at_0 : decode cX0_at 0 = .ok (.aload_n 0, 1) := by decide +kernel
theorem dX0_at_1 : decode cX0_at 1 = .ok (.iload_n 1, 1) := by decide +kernel
theorem dX0_at_2 : decode cX0_at 2 = .ok (.invokevirtual 25, 3) := by decide +kernel
theorem dX0_at_5 : decode cX0_at 5 = .ok (.ifCond .eq 12, 3) := by decide +kernel
theorem dX0_at_8 : decode cX0_at 8 = .ok (.aload_n 0, 1) := by decide +kernel
theorem dX0_at_9 : decode cX0_at 9 = .ok (.getfield 15, 3) := by decide +kernel
theorem dX0_at_12 : decode cX0_at 12 = .ok (.iload_n 1, 1) := by decide +kernel
theorem dX0_at_13 : decode cX0_at 13 = .ok (.iaload, 1) := by decide +kernel
theorem dX0_at_14 : decode cX0_at 14 = .ok (.goto 4, 3) := by decide +kernel
theorem dX0_at_17 : decode cX0_at 17 = .ok (.iconst 0, 1) := by decide +kernel
theorem dX0_at_18 : decode cX0_at 18 = .ok (.ireturn, 1) := by decide +kernel
set_option maxRecDepth 20000 in
theorem ggX0_put_X0_has : GoodIn wsX0_put wsX0_has := goodIn_r _ [6, 7, 1, 8, 9] (by decide +kernel) (by decide +kernel)
set_option maxRecDepth 20000 in
theorem gX0_put_X0_has : GoodIn wsX0_put (wsV RX0 25 RX0 yX0_has wsX0_has) := goodIn_app (goodIn_of _ (by decide +kernel)) ggX0_put_X0_has
theorem dX0_put_0 : decode cX0_put 0 = .ok (.aload_n 0, 1) := by decide +kernel
theorem dX0_put_1 : decode cX0_put 1 = .ok (.iload_n 1, 1) := by decide +kernel
theorem dX0_put_2 : decode cX0_put 2 = .ok (.invokevirtual 25, 3) := by decide +kernel
theorem dX0_put_5 : decode cX0_put 5 = .ok (.ifCond .eq 10, 3) := by decide +kernel
theorem dX0_put_8 : decode cX0_put 8 = .ok (.aload_n 0, 1) := by decide +kernel
theorem dX0_put_9 : decode cX0_put 9 = .ok (.getfield 15, 3) := by decide +kernel
theorem dX0_put_12 : decode cX0_put 12 = .ok (.iload_n 1, 1) := by decide +kernel
theorem dX0_put_13 : decode cX0_put 13 = .ok (.iload_n 2, 1) := by decide +kernel
theorem dX0_put_14 : decode cX0_put 14 = .ok (.iastore, 1) := by decide +kernel
theorem dX0_put_15 : decode cX0_put 15 = .ok (.return_, 1) := by decide +kernel
theorem dX0_push_0 : decode cX0_push 0 = .ok (.aload_n 0, 1) := by decide +kernel
theorem dX0_push_1 : decode cX0_push 1 = .ok (.getfield 21, 3) := by decide +kernel
theorem dX0_push_4 : decode cX0_push 4 = .ok (.ifCond .lt 35, 3) := by decide +kernel
theorem dX0_push_7 : decode cX0_push 7 = .ok (.aload_n 0, 1) := by decide +kernel
theorem dX0_push_8 : decode cX0_push 8 = .ok (.getfield 21, 3) := by decide +kernel
theorem dX0_push_11 : decode cX0_push 11 = .ok (.aload_n 0, 1) := by decide +kernel
theorem dX0_push_12 : decode cX0_push 12 = .ok (.getfield 15, 3) := by decide +kernel
theorem dX0_push_15 : decode cX0_push 15 = .ok (.arraylength, 1) := by decide +kernel
theorem dX0_push_16 : decode cX0_push 16 = .ok (.if_icmp .ge 23, 3) := by decide +kernel
theorem dX0_push_19 : decode cX0_push 19 = .ok (.aload_n 0, 1) := by decide +kernel
theorem dX0_push_20 : decode cX0_push 20 = .ok (.getfield 15, 3) := by decide +kernel
theorem dX0_push_23 : decode cX0_push 23 = .ok (.aload_n 0, 1) := by decide +kernel
theorem dX0_push_24 : decode cX0_push 24 = .ok (.getfield 21, 3) := by decide +kernel
theorem dX0_push_27 : decode cX0_push 27 = .ok (.iload_n 1, 1) := by decide +kernel
theorem dX0_push_28 : decode cX0_push 28 = .ok (.iastore, 1) := by decide +kernel
theorem dX0_push_29 : decode cX0_push 29 = .ok (.aload_n 0, 1) := by decide +kernel
theorem dX0_push_30 : decode cX0_push 30 = .ok (.dup, 1) := by decide +kernel
theorem dX0_push_31 : decode cX0_push 31 = .ok (.getfield 21, 3) := by decide +kernel
theorem dX0_push_34 : decode cX0_push 34 = .ok (.iconst 1, 1) := by decide +kernel
theorem dX0_push_35 : decode cX0_push 35 = .ok (.iadd, 1) := by decide +kernel
theorem dX0_push_36 : decode cX0_push 36 = .ok (.putfield 21, 3) := by decide +kernel
theorem dX0_push_39 : decode cX0_push 39 = .ok (.return_, 1) := by decide +kernel
theorem dX0_clear_0 : decode cX0_clear 0 = .ok (.aload_n 0, 1) := by decide +kernel
theorem dX0_clear_1 : decode cX0_clear 1 = .ok (.iconst 0, 1) := by decide +kernel
theorem dX0_clear_2 : decode cX0_clear 2 = .ok (.putfield 21, 3) := by decide +kernel
theorem dX0_clear_5 : decode cX0_clear 5 = .ok (.return_, 1) := by decide +kernel
set_option maxRecDepth 20000 in
theorem ggX0_squeezeIn_X0_push : GoodIn wsX0_squeezeIn wsX0_push := goodIn_r _ [6, 1, 7, 20, 21] (by decide +kernel) (by decide +kernel)
set_option maxRecDepth 20000 in
theorem gX0_squeezeIn_X0_push : GoodIn wsX0_squeezeIn (wsV RX0 29 RX0 yX0_push wsX0_push) := goodIn_app (goodIn_of _ (by decide +kernel)) ggX0_squeezeIn_X0_push
set_option maxRecDepth 20000 in
theorem ggX0_squeezeIn_X0_at : GoodIn wsX0_squeezeIn wsX0_at := goodIn_r _ [11, 7, 12, 13, 14, 5, 15, 1, 20, 21] (by decide +kernel) (by decide +kernel)
set_option maxRecDepth 20000 in
theorem gX0_squeezeIn_X0_at : GoodIn wsX0_squeezeIn (wsV RX0 33 RX0 yX0_at wsX0_at) := goodIn_app (goodIn_of _ (by decide +kernel)) ggX0_squeezeIn_X0_at
set_option maxRecDepth 20000 in
theorem ggX0_squeezeIn_X0_put : GoodIn wsX0_squeezeIn wsX0_put := goodIn_r _ [19, 7, 12, 13, 14, 5, 15, 1, 20, 21] (by decide +kernel) (by decide +kernel)
set_option maxRecDepth 20000 in
theorem gX0_squeezeIn_X0_put : GoodIn wsX0_squeezeIn (wsV RX0 37 RX0 yX0_put wsX0_put) := goodIn_app (goodIn_of _ (by decide +kernel)) ggX0_squeezeIn_X0_put
theorem dX0_squeezeIn_0 : decode cX0_squeezeIn 0 = .ok (.aload_n 0, 1) := by decide +kernel
theorem dX0_squeezeIn_1 : decode cX0_squeezeIn 1 = .ok (.iload_n 2, 1) := by decide +kernel
theorem dX0_squeezeIn_2 : decode cX0_squeezeIn 2 = .ok (.invokevirtual 29, 3) := by decide +kernel
theorem dX0_squeezeIn_5 : decode cX0_squeezeIn 5 = .ok (.aload_n 0, 1) := by decide +kernel
theorem dX0_squeezeIn_6 : decode cX0_squeezeIn 6 = .ok (.getfield 21, 3) := by decide +kernel
theorem dX0_squeezeIn_9 : decode cX0_squeezeIn 9 = .ok (.iconst 1, 1) := by decide +kernel
theorem dX0_squeezeIn_10 : decode cX0_squeezeIn 10 = .ok (.isub, 1) := by decide +kernel
theorem dX0_squeezeIn_11 : decode cX0_squeezeIn 11 = .ok (.istore_n 3, 1) := by decide +kernel
theorem dX0_squeezeIn_12 : decode cX0_squeezeIn 12 = .ok (.iload_n 3, 1) := by decide +kernel
theorem dX0_squeezeIn_13 : decode cX0_squeezeIn 13 = .ok (.iload_n 1, 1) := by decide +kernel
theorem dX0_squeezeIn_14 : decode cX0_squeezeIn 14 = .ok (.if_icmp .le 21, 3) := by decide +kernel
theorem dX0_squeezeIn_17 : decode cX0_squeezeIn 17 = .ok (.aload_n 0, 1) := by decide +kernel
theorem dX0_squeezeIn_18 : decode cX0_squeezeIn 18 = .ok (.iload_n 3, 1) := by decide +kernel
theorem dX0_squeezeIn_19 : decode cX0_squeezeIn 19 = .ok (.aload_n 0, 1) := by decide +kernel
theorem dX0_squeezeIn_20 : decode cX0_squeezeIn 20 = .ok (.iload_n 3, 1) := by decide +kernel
theorem dX0_squeezeIn_21 : decode cX0_squeezeIn 21 = .ok (.iconst 1, 1) := by decide +kernel
theorem dX0_squeezeIn_22 : decode cX0_squeezeIn 22 = .ok (.isub, 1) := by decide +kernel
theorem dX0_squeezeIn_23 : decode cX0_squeezeIn 23 = .ok (.invokevirtual 33, 3) := by decide +kernel
theorem dX0_squeezeIn_26 : decode cX0_squeezeIn 26 = .ok (.invokevirtual 37, 3) := by decide +kernel
theorem dX0_squeezeIn_29 : decode cX0_squeezeIn 29 = .ok (.iinc 3 (-1), 3) := by decide +kernel
theorem dX0_squeezeIn_32 : decode cX0_squeezeIn 32 = .ok (.goto (-20), 3) := by decide +kernel
theorem dX0_squeezeIn_35 : decode cX0_squeezeIn 35 = .ok (.aload_n 0, 1) := by decide +kernel
theorem dX0_squeezeIn_36 : decode cX0_squeezeIn 36 = .ok (.iload_n 1, 1) := by decide +kernel
theorem dX0_squeezeIn_37 : decode cX0_squeezeIn 37 = .ok (.iload_n 2, 1) := by decide +kernel
theorem dX0_squeezeIn_38 : decode cX0_squeezeIn 38 = .ok (.invokevirtual 37, 3) := by decide +kernel
theorem dX0_squeezeIn_41 : decode cX0_squeezeIn 41 = .ok (.return_, 1) := by decide +kernel
set_option maxRecDepth 20000 in
theorem ggX0_takeOut_X0_has : GoodIn wsX0_takeOut wsX0_has := goodIn_r _ [6, 1, 7, 16, 17] (by decide +kernel) (by decide +kernel)
set_option maxRecDepth 20000 in
theorem gX0_takeOut_X0_has : GoodIn wsX0_takeOut (wsV RX0 25 RX0 yX0_has wsX0_has) := goodIn_app (goodIn_of _ (by decide +kernel)) ggX0_takeOut_X0_has
set_option maxRecDepth 20000 in
theorem ggX0_takeOut_X0_at : GoodIn wsX0_takeOut wsX0_at := goodIn_r _ [11, 7, 2, 3, 4, 5, 6, 1, 16, 17] (by decide +kernel) (by decide +kernel)
set_option maxRecDepth 20000 in
theorem gX0_takeOut_X0_at : GoodIn wsX0_takeOut (wsV RX0 33 RX0 yX0_at wsX0_at) := goodIn_app (goodIn_of _ (by decide +kernel)) ggX0_takeOut_X0_at
set_option maxRecDepth 20000 in
theorem ggX0_takeOut_X0_put : GoodIn wsX0_takeOut wsX0_put := goodIn_r _ [15, 7, 2, 3, 4, 5, 6, 1, 16, 17] (by decide +kernel) (by decide +kernel)
set_option maxRecDepth 20000 in
theorem gX0_takeOut_X0_put : GoodIn wsX0_takeOut (wsV RX0 37 RX0 yX0_put wsX0_put) := goodIn_app (goodIn_of _ (by decide +kernel)) ggX0_takeOut_X0_put
theorem dX0_takeOut_0 : decode cX0_takeOut 0 = .ok (.aload_n 0, 1) := by decide +kernel
theorem dX0_takeOut_1 : decode cX0_takeOut 1 = .ok (.iload_n 1, 1) := by decide +kernel
theorem dX0_takeOut_2 : decode cX0_takeOut 2 = .ok (.invokevirtual 25, 3) := by decide +kernel
theorem dX0_takeOut_5 : decode cX0_takeOut 5 = .ok (.ifCond .eq 43, 3) := by decide +kernel
theorem dX0_takeOut_8 : decode cX0_takeOut 8 = .ok (.iload_n 1, 1) := by decide +kernel
theorem dX0_takeOut_9 : decode cX0_takeOut 9 = .ok (.istore_n 2, 1) := by decide +kernel
theorem dX0_takeOut_10 : decode cX0_takeOut 10 = .ok (.iload_n 2, 1) := by decide +kernel
theorem dX0_takeOut_11 : decode cX0_takeOut 11 = .ok (.aload_n 0, 1) := by decide +kernel
theorem dX0_takeOut_12 : decode cX0_takeOut 12 = .ok (.getfield 21, 3) := by decide +kernel
theorem dX0_takeOut_15 : decode cX0_takeOut 15 = .ok (.iconst 1, 1) := by decide +kernel
theorem dX0_takeOut_16 : decode cX0_takeOut 16 = .ok (.isub, 1) := by decide +kernel
theorem dX0_takeOut_17 : decode cX0_takeOut 17 = .ok (.if_icmp .ge 21, 3) := by decide +kernel
theorem dX0_takeOut_20 : decode cX0_takeOut 20 = .ok (.aload_n 0, 1) := by decide +kernel
theorem dX0_takeOut_21 : decode cX0_takeOut 21 = .ok (.iload_n 2, 1) := by decide +kernel
theorem dX0_takeOut_22 : decode cX0_takeOut 22 = .ok (.aload_n 0, 1) := by decide +kernel
theorem dX0_takeOut_23 : decode cX0_takeOut 23 = .ok (.iload_n 2, 1) := by decide +kernel
theorem dX0_takeOut_24 : decode cX0_takeOut 24 = .ok (.iconst 1, 1) := by decide +kernel
theorem dX0_takeOut_25 : decode cX0_takeOut 25 = .ok (.iadd, 1) := by decide +kernel
theorem dX0_takeOut_26 : decode cX0_takeOut 26 = .ok (.invokevirtual 33, 3) := by decide +kernel
theorem dX0_takeOut_29 : decode cX0_takeOut 29 = .ok (.invokevirtual 37, 3) := by decide +kernel
theorem dX0_takeOut_32 : decode cX0_takeOut 32 = .ok (.iinc 2 1, 3) := by decide +kernel
theorem dX0_takeOut_35 : decode cX0_takeOut 35 = .ok (.goto (-25), 3) := by decide +kernel
theorem dX0_takeOut_38 : decode cX0_takeOut 38 = .ok (.aload_n 0, 1) := by decide +kernel
theorem dX0_takeOut_39 : decode cX0_takeOut 39 = .ok (.dup, 1) := by decide +kernel
theorem dX0_takeOut_40 : decode cX0_takeOut 40 = .ok (.getfield 21, 3) := by decide +kernel
theorem dX0_takeOut_43 : decode cX0_takeOut 43 = .ok (.iconst 1, 1) := by decide +kernel
theorem dX0_takeOut_44 : decode cX0_takeOut 44 = .ok (.isub, 1) := by decide +kernel
theorem dX0_takeOut_45 : decode cX0_takeOut 45 = .ok (.putfield 21, 3) := by decide +kernel
theorem dX0_takeOut_48 : decode cX0_takeOut 48 = .ok (.return_, 1) := by decide +kernel
set_option maxRecDepth 20000 in
theorem ggX0_below_X0_at : GoodIn wsX0_below wsX0_at := goodIn_r _ [6, 7, 8, 9, 10, 5, 11, 1, 12, 13] (by decide +kernel) (by decide +kernel)
set_option maxRecDepth 20000 in
theorem gX0_below_X0_at : GoodIn wsX0_below (wsV RX0 33 RX0 yX0_at wsX0_at) := goodIn_app (goodIn_of _ (by decide +kernel)) ggX0_below_X0_at
theorem dX0_below_0 : decode cX0_below 0 = .ok (.iconst 0, 1) := by decide +kernel
theorem dX0_below_1 : decode cX0_below 1 = .ok (.istore_n 2, 1) := by decide +kernel
theorem dX0_below_2 : decode cX0_below 2 = .ok (.aload_n 0, 1) := by decide +kernel
theorem dX0_below_3 : decode cX0_below 3 = .ok (.getfield 21, 3) := by decide +kernel
theorem dX0_below_6 : decode cX0_below 6 = .ok (.istore_n 3, 1) := by decide +kernel
theorem dX0_below_7 : decode cX0_below 7 = .ok (.iconst 0, 1) := by decide +kernel
theorem dX0_below_8 : decode cX0_below 8 = .ok (.istore 4, 2) := by decide +kernel
theorem dX0_below_10 : decode cX0_below 10 = .ok (.iload 4, 2) := by decide +kernel
theorem dX0_below_12 : decode cX0_below 12 = .ok (.bipush 64, 2) := by decide +kernel
theorem dX0_below_14 : decode cX0_below 14 = .ok (.if_icmp .ge 42, 3) := by decide +kernel
theorem dX0_below_17 : decode cX0_below 17 = .ok (.iload_n 2, 1) := by decide +kernel
theorem dX0_below_18 : decode cX0_below 18 = .ok (.iload_n 3, 1) := by decide +kernel
theorem dX0_below_19 : decode cX0_below 19 = .ok (.if_icmp .ge 37, 3) := by decide +kernel
theorem dX0_below_22 : decode cX0_below 22 = .ok (.iload_n 2, 1) := by decide +kernel
theorem dX0_below_23 : decode cX0_below 23 = .ok (.iload_n 3, 1) := by decide +kernel
theorem dX0_below_24 : decode cX0_below 24 = .ok (.iadd, 1) := by decide +kernel
theorem dX0_below_25 : decode cX0_below 25 = .ok (.iconst 2, 1) := by decide +kernel
theorem dX0_below_26 : decode cX0_below 26 = .ok (.idiv, 1) := by decide +kernel
theorem dX0_below_27 : decode cX0_below 27 = .ok (.istore 5, 2) := by decide +kernel
theorem dX0_below_29 : decode cX0_below 29 = .ok (.aload_n 0, 1) := by decide +kernel
theorem dX0_below_30 : decode cX0_below 30 = .ok (.iload 5, 2) := by decide +kernel
theorem dX0_below_32 : decode cX0_below 32 = .ok (.invokevirtual 33, 3) := by decide +kernel
theorem dX0_below_35 : decode cX0_below 35 = .ok (.iload_n 1, 1) := by decide +kernel
theorem dX0_below_36 : decode cX0_below 36 = .ok (.if_icmp .ge 11, 3) := by decide +kernel
theorem dX0_below_39 : decode cX0_below 39 = .ok (.iload 5, 2) := by decide +kernel
theorem dX0_below_41 : decode cX0_below 41 = .ok (.iconst 1, 1) := by decide +kernel
theorem dX0_below_42 : decode cX0_below 42 = .ok (.iadd, 1) := by decide +kernel
theorem dX0_below_43 : decode cX0_below 43 = .ok (.istore_n 2, 1) := by decide +kernel
theorem dX0_below_44 : decode cX0_below 44 = .ok (.goto 6, 3) := by decide +kernel
theorem dX0_below_47 : decode cX0_below 47 = .ok (.iload 5, 2) := by decide +kernel
theorem dX0_below_49 : decode cX0_below 49 = .ok (.istore_n 3, 1) := by decide +kernel
theorem dX0_below_50 : decode cX0_below 50 = .ok (.iinc 4 1, 3) := by decide +kernel
theorem dX0_below_53 : decode cX0_below 53 = .ok (.goto (-43), 3) := by decide +kernel
theorem dX0_below_56 : decode cX0_below 56 = .ok (.iload_n 2, 1) := by decide +kernel
theorem dX0_below_57 : decode cX0_below 57 = .ok (.ireturn, 1) := by decide +kernel
set_option maxRecDepth 20000 in
theorem ggX0_indexOf_X0_below : GoodIn wsX0_indexOf wsX0_below := goodIn_r _ [6, 7, 8, 9, 10, 5, 11, 1, 12, 13, 14, 15, 16, 17] (by decide +kernel) (by decide +kernel)
set_option maxRecDepth 20000 in
theorem gX0_indexOf_X0_below : GoodIn wsX0_indexOf (wsV RX0 41 RX0 yX0_below wsX0_below) := goodIn_app (goodIn_of _ (by decide +kernel)) ggX0_indexOf_X0_below
set_option maxRecDepth 20000 in
theorem ggX0_indexOf_X0_has : GoodIn wsX0_indexOf wsX0_has := goodIn_r _ [15, 7, 1, 16, 17] (by decide +kernel) (by decide +kernel)
set_option maxRecDepth 20000 in
theorem gX0_indexOf_X0_has : GoodIn wsX0_indexOf (wsV RX0 25 RX0 yX0_has wsX0_has) := goodIn_app (goodIn_of _ (by decide +kernel)) ggX0_indexOf_X0_has
theorem dX0_indexOf_0 : decode cX0_indexOf 0 = .ok (.aload_n 0, 1) := by decide +kernel
theorem dX0_indexOf_1 : decode cX0_indexOf 1 = .ok (.iload_n 1, 1) := by decide +kernel
theorem dX0_indexOf_2 : decode cX0_indexOf 2 = .ok (.invokevirtual 41, 3) := by decide +kernel
theorem dX0_indexOf_5 : decode cX0_indexOf 5 = .ok (.istore_n 2, 1) := by decide +kernel
theorem dX0_indexOf_6 : decode cX0_indexOf 6 = .ok (.aload_n 0, 1) := by decide +kernel
theorem dX0_indexOf_7 : decode cX0_indexOf 7 = .ok (.iload_n 2, 1) := by decide +kernel
theorem dX0_indexOf_8 : decode cX0_indexOf 8 = .ok (.invokevirtual 25, 3) := by decide +kernel
theorem dX0_indexOf_11 : decode cX0_indexOf 11 = .ok (.ifCond .eq 17, 3) := by decide +kernel
theorem dX0_indexOf_14 : decode cX0_indexOf 14 = .ok (.aload_n 0, 1) := by decide +kernel
theorem dX0_indexOf_15 : decode cX0_indexOf 15 = .ok (.getfield 15, 3) := by decide +kernel
theorem dX0_indexOf_18 : decode cX0_indexOf 18 = .ok (.iload_n 2, 1) := by decide +kernel
theorem dX0_indexOf_19 : decode cX0_indexOf 19 = .ok (.iaload, 1) := by decide +kernel
theorem dX0_indexOf_20 : decode cX0_indexOf 20 = .ok (.iload_n 1, 1) := by decide +kernel
theorem dX0_indexOf_21 : decode cX0_indexOf 21 = .ok (.if_icmp .ne 7, 3) := by decide +kernel
theorem dX0_indexOf_24 : decode cX0_indexOf 24 = .ok (.iload_n 2, 1) := by decide +kernel
theorem dX0_indexOf_25 : decode cX0_indexOf 25 = .ok (.goto 4, 3) := by decide +kernel
theorem dX0_indexOf_28 : decode cX0_indexOf 28 = .ok (.iconst (-1), 1) := by decide +kernel
theorem dX0_indexOf_29 : decode cX0_indexOf 29 = .ok (.ireturn, 1) := by decide +kernel
theorem dX1_init_0 : decode cX1_init 0 = .ok (.aload_n 0, 1) := by decide +kernel
theorem dX1_init_1 : decode cX1_init 1 = .ok (.invokespecial 3, 3) := by decide +kernel
theorem dX1_init_4 : decode cX1_init 4 = .ok (.aload_n 0, 1) := by decide +kernel
theorem dX1_init_5 : decode cX1_init 5 = .ok (.lconst 0, 1) := by decide +kernel
theorem dX1_init_6 : decode cX1_init 6 = .ok (.putfield 9, 3) := by decide +kernel
theorem dX1_init_9 : decode cX1_init 9 = .ok (.aload_n 0, 1) := by decide +kernel
theorem dX1_init_10 : decode cX1_init 10 = .ok (.lconst 1, 1) := by decide +kernel
theorem dX1_init_11 : decode cX1_init 11 = .ok (.putfield 15, 3) := by decide +kernel
theorem dX1_init_14 : decode cX1_init 14 = .ok (.aload_n 0, 1) := by decide +kernel
theorem dX1_init_15 : decode cX1_init 15 = .ok (.lconst 1, 1) := by decide +kernel
theorem dX1_init_16 : decode cX1_init 16 = .ok (.putfield 18, 3) := by decide +kernel
theorem dX1_init_19 : decode cX1_init 19 = .ok (.aload_n 0, 1) := by decide +kernel
theorem dX1_init_20 : decode cX1_init 20 = .ok (.lconst 0, 1) := by decide +kernel
theorem dX1_init_21 : decode cX1_init 21 = .ok (.putfield 21, 3) := by decide +kernel
theorem dX1_init_24 : decode cX1_init 24 = .ok (.return_, 1) := by decide +kernel
theorem dX1_begin_0 : decode cX1_begin 0 = .ok (.aload_n 0, 1) := by decide +kernel
theorem dX1_begin_1 : decode cX1_begin 1 = .ok (.iload_n 1, 1) := by decide +kernel
theorem dX1_begin_2 : decode cX1_begin 2 = .ok (.putfield 24, 3) := by decide +kernel
theorem dX1_begin_5 : decode cX1_begin 5 = .ok (.aload_n 0, 1) := by decide +kernel
theorem dX1_begin_6 : decode cX1_begin 6 = .ok (.iload_n 2, 1) := by decide +kernel
theorem dX1_begin_7 : decode cX1_begin 7 = .ok (.putfield 28, 3) := by decide +kernel
theorem dX1_begin_10 : decode cX1_begin 10 = .ok (.aload_n 0, 1) := by decide +kernel
theorem dX1_begin_11 : decode cX1_begin 11 = .ok (.iload_n 3, 1) := by decide +kernel
theorem dX1_begin_12 : decode cX1_begin 12 = .ok (.putfield 31, 3) := by decide +kernel
theorem dX1_begin_15 : decode cX1_begin 15 = .ok (.aload_n 0, 1) := by decide +kernel
theorem dX1_begin_16 : decode cX1_begin 16 = .ok (.lconst 0, 1) := by decide +kernel
theorem dX1_begin_17 : decode cX1_begin 17 = .ok (.putfield 9, 3) := by decide +kernel
theorem dX1_begin_20 : decode cX1_begin 20 = .ok (.aload_n 0, 1) := by decide +kernel
theorem dX1_begin_21 : decode cX1_begin 21 = .ok (.lconst 1, 1) := by decide +kernel
theorem dX1_begin_22 : decode cX1_begin 22 = .ok (.putfield 15, 3) := by decide +kernel
theorem dX1_begin_25 : decode cX1_begin 25 = .ok (.aload_n 0, 1) := by decide +kernel
theorem dX1_begin_26 : decode cX1_begin 26 = .ok (.lconst 1, 1) := by decide +kernel
theorem dX1_begin_27 : decode cX1_begin 27 = .ok (.putfield 18, 3) := by decide +kernel
theorem dX1_begin_30 : decode cX1_begin 30 = .ok (.aload_n 0, 1) := by decide +kernel
theorem dX1_begin_31 : decode cX1_begin 31 = .ok (.lconst 0, 1) := by decide +kernel
theorem dX1_begin_32 : decode cX1_begin 32 = .ok (.putfield 21, 3) := by decide +kernel
theorem dX1_begin_35 : decode cX1_begin 35 = .ok (.return_, 1) := by decide +kernel
theorem dX1_take_0 : decode cX1_take 0 = .ok (.iload_n 1, 1) := by decide +kernel
theorem dX1_take_1 : decode cX1_take 1 = .ok (.i2l, 1) := by decide +kernel
theorem dX1_take_2 : decode cX1_take 2 = .ok (.aload_n 0, 1) := by decide +kernel
theorem dX1_take_3 : decode cX1_take 3 = .ok (.getfield 24, 3) := by decide +kernel
theorem dX1_take_6 : decode cX1_take 6 = .ok (.i2l, 1) := by decide +kernel
theorem dX1_take_7 : decode cX1_take 7 = .ok (.lsub, 1) := by decide +kernel
theorem dX1_take_8 : decode cX1_take 8 = .ok (.lstore_n 3, 1) := by decide +kernel
theorem dX1_take_9 : decode cX1_take 9 = .ok (.iload_n 2, 1) := by decide +kernel
theorem dX1_take_10 : decode cX1_take 10 = .ok (.i2l, 1) := by decide +kernel
theorem dX1_take_11 : decode cX1_take 11 = .ok (.aload_n 0, 1) := by decide +kernel
theorem dX1_take_12 : decode cX1_take 12 = .ok (.getfield 28, 3) := by decide +kernel
theorem dX1_take_15 : decode cX1_take 15 = .ok (.i2l, 1) := by decide +kernel
theorem dX1_take_16 : decode cX1_take 16 = .ok (.lsub, 1) := by decide +kernel
theorem dX1_take_17 : decode cX1_take 17 = .ok (.aload_n 0, 1) := by decide +kernel
theorem dX1_take_18 : decode cX1_take 18 = .ok (.getfield 31, 3) := by decide +kernel
theorem dX1_take_21 : decode cX1_take 21 = .ok (.i2l, 1) := by decide +kernel
theorem dX1_take_22 : decode cX1_take 22 = .ok (.lsub, 1) := by decide +kernel
theorem dX1_take_23 : decode cX1_take 23 = .ok (.lstore 5, 2) := by decide +kernel
theorem dX1_take_25 : decode cX1_take 25 = .ok (.lload 5, 2) := by decide +kernel
theorem dX1_take_27 : decode cX1_take 27 = .ok (.ldc2_w 34, 3) := by decide +kernel
theorem dX1_take_30 : decode cX1_take 30 = .ok (.aload_n 0, 1) := by decide +kernel
theorem dX1_take_31 : decode cX1_take 31 = .ok (.getfield 31, 3) := by decide +kernel
theorem dX1_take_34 : decode cX1_take 34 = .ok (.i2l, 1) := by decide +kernel
theorem dX1_take_35 : decode cX1_take 35 = .ok (.lmul, 1) := by decide +kernel
theorem dX1_take_36 : decode cX1_take 36 = .ok (.ladd, 1) := by decide +kernel
theorem dX1_take_37 : decode cX1_take 37 = .ok (.lstore 7, 2) := by decide +kernel
theorem dX1_take_39 : decode cX1_take 39 = .ok (.lload 5, 2) := by decide +kernel
theorem dX1_take_41 : decode cX1_take 41 = .ok (.aload_n 0, 1) := by decide +kernel
theorem dX1_take_42 : decode cX1_take 42 = .ok (.getfield 15, 3) := by decide +kernel
theorem dX1_take_45 : decode cX1_take 45 = .ok (.lmul, 1) := by decide +kernel
theorem dX1_take_46 : decode cX1_take 46 = .ok (.aload_n 0, 1) := by decide +kernel
theorem dX1_take_47 : decode cX1_take 47 = .ok (.getfield 9, 3) := by decide +kernel
theorem dX1_take_50 : decode cX1_take 50 = .ok (.lload_n 3, 1) := by decide +kernel
theorem dX1_take_51 : decode cX1_take 51 = .ok (.lmul, 1) := by decide +kernel
theorem dX1_take_52 : decode cX1_take 52 = .ok (.lcmp, 1) := by decide +kernel
theorem dX1_take_53 : decode cX1_take 53 = .ok (.ifCond .le 7, 3) := by decide +kernel
theorem dX1_take_56 : decode cX1_take 56 = .ok (.iconst 1, 1) := by decide +kernel
theorem dX1_take_57 : decode cX1_take 57 = .ok (.goto 4, 3) := by decide +kernel
theorem dX1_take_60 : decode cX1_take 60 = .ok (.iconst 0, 1) := by decide +kernel
theorem dX1_take_61 : decode cX1_take 61 = .ok (.istore 9, 2) := by decide +kernel
theorem dX1_take_63 : decode cX1_take 63 = .ok (.lload 7, 2) := by decide +kernel
theorem dX1_take_65 : decode cX1_take 65 = .ok (.aload_n 0, 1) := by decide +kernel
theorem dX1_take_66 : decode cX1_take 66 = .ok (.getfield 21, 3) := by decide +kernel
theorem dX1_take_69 : decode cX1_take 69 = .ok (.lmul, 1) := by decide +kernel
theorem dX1_take_70 : decode cX1_take 70 = .ok (.aload_n 0, 1) := by decide +kernel
theorem dX1_take_71 : decode cX1_take 71 = .ok (.getfield 18, 3) := by decide +kernel
theorem dX1_take_74 : decode cX1_take 74 = .ok (.lload_n 3, 1) := by decide +kernel
theorem dX1_take_75 : decode cX1_take 75 = .ok (.lmul, 1) := by decide +kernel
theorem dX1_take_76 : decode cX1_take 76 = .ok (.lcmp, 1) := by decide +kernel
theorem dX1_take_77 : decode cX1_take 77 = .ok (.ifCond .ge 7, 3) := by decide +kernel
theorem dX1_take_80 : decode cX1_take 80 = .ok (.iconst 1, 1) := by decide +kernel
theorem dX1_take_81 : decode cX1_take 81 = .ok (.goto 4, 3) := by decide +kernel
theorem dX1_take_84 : decode cX1_take 84 = .ok (.iconst 0, 1) := by decide +kernel
theorem dX1_take_85 : decode cX1_take 85 = .ok (.istore 10, 2) := by decide +kernel
theorem dX1_take_87 : decode cX1_take 87 = .ok (.iload 9, 2) := by decide +kernel
theorem dX1_take_89 : decode cX1_take 89 = .ok (.ifCond .eq 20, 3) := by decide +kernel
theorem dX1_take_92 : decode cX1_take 92 = .ok (.lload 5, 2) := by decide +kernel
theorem dX1_take_94 : decode cX1_take 94 = .ok (.aload_n 0, 1) := by decide +kernel
theorem dX1_take_95 : decode cX1_take 95 = .ok (.getfield 21, 3) := by decide +kernel
theorem dX1_take_98 : decode cX1_take 98 = .ok (.lmul, 1) := by decide +kernel
theorem dX1_take_99 : decode cX1_take 99 = .ok (.aload_n 0, 1) := by decide +kernel
theorem dX1_take_100 : decode cX1_take 100 = .ok (.getfield 18, 3) := by decide +kernel
theorem dX1_take_103 : decode cX1_take 103 = .ok (.lload_n 3, 1) := by decide +kernel
theorem dX1_take_104 : decode cX1_take 104 = .ok (.lmul, 1) := by decide +kernel
theorem dX1_take_105 : decode cX1_take 105 = .ok (.lcmp, 1) := by decide +kernel
theorem dX1_take_106 : decode cX1_take 106 = .ok (.ifCond .gt 25, 3) := by decide +kernel
theorem dX1_take_109 : decode cX1_take 109 = .ok (.iload 10, 2) := by decide +kernel
theorem dX1_take_111 : decode cX1_take 111 = .ok (.ifCond .eq 22, 3) := by decide +kernel
theorem dX1_take_114 : decode cX1_take 114 = .ok (.lload 7, 2) := by decide +kernel
theorem dX1_take_116 : decode cX1_take 116 = .ok (.aload_n 0, 1) := by decide +kernel
theorem dX1_take_117 : decode cX1_take 117 = .ok (.getfield 15, 3) := by decide +kernel
theorem dX1_take_120 : decode cX1_take 120 = .ok (.lmul, 1) := by decide +kernel
theorem dX1_take_121 : decode cX1_take 121 = .ok (.aload_n 0, 1) := by decide +kernel
theorem dX1_take_122 : decode cX1_take 122 = .ok (.getfield 9, 3) := by decide +kernel
theorem dX1_take_125 : decode cX1_take 125 = .ok (.lload_n 3, 1) := by decide +kernel
theorem dX1_take_126 : decode cX1_take 126 = .ok (.lmul, 1) := by decide +kernel
theorem dX1_take_127 : decode cX1_take 127 = .ok (.lcmp, 1) := by decide +kernel
theorem dX1_take_128 : decode cX1_take 128 = .ok (.ifCond .ge 5, 3) := by decide +kernel
theorem dX1_take_131 : decode cX1_take 131 = .ok (.iconst 0, 1) := by decide +kernel
theorem dX1_take_132 : decode cX1_take 132 = .ok (.ireturn, 1) := by decide +kernel
theorem dX1_take_133 : decode cX1_take 133 = .ok (.iload 9, 2) := by decide +kernel
theorem dX1_take_135 : decode cX1_take 135 = .ok (.ifCond .eq 14, 3) := by decide +kernel
theorem dX1_take_138 : decode cX1_take 138 = .ok (.aload_n 0, 1) := by decide +kernel
theorem dX1_take_139 : decode cX1_take 139 = .ok (.lload 5, 2) := by decide +kernel
theorem dX1_take_141 : decode cX1_take 141 = .ok (.putfield 9, 3) := by decide +kernel
theorem dX1_take_144 : decode cX1_take 144 = .ok (.aload_n 0, 1) := by decide +kernel
theorem dX1_take_145 : decode cX1_take 145 = .ok (.lload_n 3, 1) := by decide +kernel
theorem dX1_take_146 : decode cX1_take 146 = .ok (.putfield 15, 3) := by decide +kernel
theorem dX1_take_149 : decode cX1_take 149 = .ok (.iload 10, 2) := by decide +kernel
theorem dX1_take_151 : decode cX1_take 151 = .ok (.ifCond .eq 14, 3) := by decide +kernel
theorem dX1_take_154 : decode cX1_take 154 = .ok (.aload_n 0, 1) := by decide +kernel
theorem dX1_take_155 : decode cX1_take 155 = .ok (.lload 7, 2) := by decide +kernel
theorem dX1_take_157 : decode cX1_take 157 = .ok (.putfield 18, 3) := by decide +kernel
theorem dX1_take_160 : decode cX1_take 160 = .ok (.aload_n 0, 1) := by decide +kernel
theorem dX1_take_161 : decode cX1_take 161 = .ok (.lload_n 3, 1) := by decide +kernel
theorem dX1_take_162 : decode cX1_take 162 = .ok (.putfield 21, 3) := by decide +kernel
theorem dX1_take_165 : decode cX1_take 165 = .ok (.iconst 1, 1) := by decide +kernel
theorem dX1_take_166 : decode cX1_take 166 = .ok (.ireturn, 1) := by decide +kernel
set_option maxRecDepth 20000 in
theorem ggX1_leastRise_X1_divisor : GoodIn wsX1_leastRise wsX1_divisor := goodIn_r _ [6, 7, 1, 8, 9, 10, 11, 12, 13, 14] (by decide +kernel) (by decide +kernel)
set_option maxRecDepth 20000 in
theorem gX1_leastRise_X1_divisor : GoodIn wsX1_leastRise (wsV RX1 36 RX1 yX1_divisor wsX1_divisor) := goodIn_app (goodIn_of _ (by decide +kernel)) ggX1_leastRise_X1_divisor
theorem dX1_leastRise_0 : decode cX1_leastRise 0 = .ok (.aload_n 0, 1) := by decide +kernel
theorem dX1_leastRise_1 : decode cX1_leastRise 1 = .ok (.getfield 9, 3) := by decide +kernel
theorem dX1_leastRise_4 : decode cX1_leastRise 4 = .ok (.aload_n 0, 1) := by decide +kernel
theorem dX1_leastRise_5 : decode cX1_leastRise 5 = .ok (.invokevirtual 36, 3) := by decide +kernel
theorem dX1_leastRise_8 : decode cX1_leastRise 8 = .ok (.ldiv, 1) := by decide +kernel
theorem dX1_leastRise_9 : decode cX1_leastRise 9 = .ok (.l2i, 1) := by decide +kernel
theorem dX1_leastRise_10 : decode cX1_leastRise 10 = .ok (.ireturn, 1) := by decide +kernel
set_option maxRecDepth 20000 in
theorem ggX1_leastRun_X1_divisor : GoodIn wsX1_leastRun wsX1_divisor := goodIn_r _ [6, 1, 7, 8, 9, 10, 11, 12, 13, 14] (by decide +kernel) (by decide +kernel)
set_option maxRecDepth 20000 in
theorem gX1_leastRun_X1_divisor : GoodIn wsX1_leastRun (wsV RX1 36 RX1 yX1_divisor wsX1_divisor) := goodIn_app (goodIn_of _ (by decide +kernel)) ggX1_leastRun_X1_divisor
theorem dX1_leastRun_0 : decode cX1_leastRun 0 = .ok (.aload_n 0, 1) := by decide +kernel
theorem dX1_leastRun_1 : decode cX1_leastRun 1 = .ok (.getfield 15, 3) := by decide +kernel
theorem dX1_leastRun_4 : decode cX1_leastRun 4 = .ok (.aload_n 0, 1) := by decide +kernel
theorem dX1_leastRun_5 : decode cX1_leastRun 5 = .ok (.invokevirtual 36, 3) := by decide +kernel
theorem dX1_leastRun_8 : decode cX1_leastRun 8 = .ok (.ldiv, 1) := by decide +kernel
theorem dX1_leastRun_9 : decode cX1_leastRun 9 = .ok (.l2i, 1) := by decide +kernel
theorem dX1_leastRun_10 : decode cX1_leastRun 10 = .ok (.ireturn, 1) := by decide +kernel
theorem dX1_divisor_0 : decode cX1_divisor 0 = .ok (.aload_n 0, 1) := by decide +kernel
theorem dX1_divisor_1 : decode cX1_divisor 1 = .ok (.getfield 15, 3) := by decide +kernel
theorem dX1_divisor_4 : decode cX1_divisor 4 = .ok (.lstore_n 1, 1) := by decide +kernel
theorem dX1_divisor_5 : decode cX1_divisor 5 = .ok (.aload_n 0, 1) := by decide +kernel
theorem dX1_divisor_6 : decode cX1_divisor 6 = .ok (.getfield 9, 3) := by decide +kernel
theorem dX1_divisor_9 : decode cX1_divisor 9 = .ok (.lstore_n 3, 1) := by decide +kernel
theorem dX1_divisor_10 : decode cX1_divisor 10 = .ok (.iconst 0, 1) := by decide +kernel
theorem dX1_divisor_11 : decode cX1_divisor 11 = .ok (.istore 5, 2) := by decide +kernel
theorem dX1_divisor_13 : decode cX1_divisor 13 = .ok (.iload 5, 2) := by decide +kernel
theorem dX1_divisor_15 : decode cX1_divisor 15 = .ok (.bipush 64, 2) := by decide +kernel
theorem dX1_divisor_17 : decode cX1_divisor 17 = .ok (.if_icmp .ge 25, 3) := by decide +kernel
theorem dX1_divisor_20 : decode cX1_divisor 20 = .ok (.lload_n 3, 1) := by decide +kernel
theorem dX1_divisor_21 : decode cX1_divisor 21 = .ok (.lconst 0, 1) := by decide +kernel
theorem dX1_divisor_22 : decode cX1_divisor 22 = .ok (.lcmp, 1) := by decide +kernel
theorem dX1_divisor_23 : decode cX1_divisor 23 = .ok (.ifCond .eq 19, 3) := by decide +kernel
theorem dX1_divisor_26 : decode cX1_divisor 26 = .ok (.lload_n 1, 1) := by decide +kernel
theorem dX1_divisor_27 : decode cX1_divisor 27 = .ok (.lload_n 3, 1) := by decide +kernel
theorem dX1_divisor_28 : decode cX1_divisor 28 = .ok (.lrem, 1) := by decide +kernel
theorem dX1_divisor_29 : decode cX1_divisor 29 = .ok (.lstore 6, 2) := by decide +kernel
theorem dX1_divisor_31 : decode cX1_divisor 31 = .ok (.lload_n 3, 1) := by decide +kernel
theorem dX1_divisor_32 : decode cX1_divisor 32 = .ok (.lstore_n 1, 1) := by decide +kernel
theorem dX1_divisor_33 : decode cX1_divisor 33 = .ok (.lload 6, 2) := by decide +kernel
theorem dX1_divisor_35 : decode cX1_divisor 35 = .ok (.lstore_n 3, 1) := by decide +kernel
theorem dX1_divisor_36 : decode cX1_divisor 36 = .ok (.iinc 5 1, 3) := by decide +kernel
theorem dX1_divisor_39 : decode cX1_divisor 39 = .ok (.goto (-26), 3) := by decide +kernel
theorem dX1_divisor_42 : decode cX1_divisor 42 = .ok (.lload_n 1, 1) := by decide +kernel
theorem dX1_divisor_43 : decode cX1_divisor 43 = .ok (.lconst 1, 1) := by decide +kernel
theorem dX1_divisor_44 : decode cX1_divisor 44 = .ok (.lcmp, 1) := by decide +kernel
theorem dX1_divisor_45 : decode cX1_divisor 45 = .ok (.ifCond .ge 7, 3) := by decide +kernel
theorem dX1_divisor_48 : decode cX1_divisor 48 = .ok (.lconst 1, 1) := by decide +kernel
theorem dX1_divisor_49 : decode cX1_divisor 49 = .ok (.goto 4, 3) := by decide +kernel
theorem dX1_divisor_52 : decode cX1_divisor 52 = .ok (.lload_n 1, 1) := by decide +kernel
theorem dX1_divisor_53 : decode cX1_divisor 53 = .ok (.lreturn, 1) := by decide +kernel
set_option maxRecDepth 20000 in
theorem ggX2_init_X0_init : GoodIn wsX2_init wsX0_init := goodIn_r _ [27, 28, 2, 3, 29, 30, 31, 32, 33, 34, 35, 43, 44] (by decide +kernel) (by decide +kernel)
set_option maxRecDepth 20000 in
theorem gX2_init_X0_init : GoodIn wsX2_init (wsX0_init) := ggX2_init_X0_init
set_option maxRecDepth 20000 in
theorem ggX2_init_X1_init : GoodIn wsX2_init wsX1_init := goodIn_r _ [37, 38, 2, 3, 39, 40, 41, 42, 60, 61, 62, 63, 64, 65, 66] (by decide +kernel) (by decide +kernel)
set_option maxRecDepth 20000 in
theorem gX2_init_X1_init_n35 : GoodIn wsX2_init (wsX1_init) := ggX2_init_X1_init
theorem dX2_init_0 : decode cX2_init 0 = .ok (.aload_n 0, 1) := by decide +kernel
theorem dX2_init_1 : decode cX2_init 1 = .ok (.invokespecial 1, 3) := by decide +kernel
theorem dX2_init_4 : decode cX2_init 4 = .ok (.aload_n 0, 1) := by decide +kernel
theorem dX2_init_5 : decode cX2_init 5 = .ok (.new 7, 3) := by decide +kernel
theorem dX2_init_8 : decode cX2_init 8 = .ok (.dup, 1) := by decide +kernel
theorem dX2_init_9 : decode cX2_init 9 = .ok (.sipush 256, 3) := by decide +kernel
theorem dX2_init_12 : decode cX2_init 12 = .ok (.invokespecial 11, 3) := by decide +kernel
theorem dX2_init_15 : decode cX2_init 15 = .ok (.putfield 14, 3) := by decide +kernel
theorem dX2_init_18 : decode cX2_init 18 = .ok (.aload_n 0, 1) := by decide +kernel
theorem dX2_init_19 : decode cX2_init 19 = .ok (.new 7, 3) := by decide +kernel
theorem dX2_init_22 : decode cX2_init 22 = .ok (.dup, 1) := by decide +kernel
theorem dX2_init_23 : decode cX2_init 23 = .ok (.sipush 256, 3) := by decide +kernel
theorem dX2_init_26 : decode cX2_init 26 = .ok (.invokespecial 11, 3) := by decide +kernel
theorem dX2_init_29 : decode cX2_init 29 = .ok (.putfield 18, 3) := by decide +kernel
theorem dX2_init_32 : decode cX2_init 32 = .ok (.aload_n 0, 1) := by decide +kernel
theorem dX2_init_33 : decode cX2_init 33 = .ok (.new 7, 3) := by decide +kernel
theorem dX2_init_36 : decode cX2_init 36 = .ok (.dup, 1) := by decide +kernel
theorem dX2_init_37 : decode cX2_init 37 = .ok (.bipush 16, 2) := by decide +kernel
theorem dX2_init_39 : decode cX2_init 39 = .ok (.invokespecial 11, 3) := by decide +kernel
theorem dX2_init_42 : decode cX2_init 42 = .ok (.putfield 21, 3) := by decide +kernel
theorem dX2_init_45 : decode cX2_init 45 = .ok (.aload_n 0, 1) := by decide +kernel
theorem dX2_init_46 : decode cX2_init 46 = .ok (.new 7, 3) := by decide +kernel
theorem dX2_init_49 : decode cX2_init 49 = .ok (.dup, 1) := by decide +kernel
theorem dX2_init_50 : decode cX2_init 50 = .ok (.sipush 256, 3) := by decide +kernel
theorem dX2_init_53 : decode cX2_init 53 = .ok (.invokespecial 11, 3) := by decide +kernel
theorem dX2_init_56 : decode cX2_init 56 = .ok (.putfield 24, 3) := by decide +kernel
theorem dX2_init_59 : decode cX2_init 59 = .ok (.aload_n 0, 1) := by decide +kernel
theorem dX2_init_60 : decode cX2_init 60 = .ok (.new 7, 3) := by decide +kernel
theorem dX2_init_63 : decode cX2_init 63 = .ok (.dup, 1) := by decide +kernel
theorem dX2_init_64 : decode cX2_init 64 = .ok (.sipush 256, 3) := by decide +kernel
theorem dX2_init_67 : decode cX2_init 67 = .ok (.invokespecial 11, 3) := by decide +kernel
theorem dX2_init_70 : decode cX2_init 70 = .ok (.putfield 27, 3) := by decide +kernel
theorem dX2_init_73 : decode cX2_init 73 = .ok (.aload_n 0, 1) := by decide +kernel
theorem dX2_init_74 : decode cX2_init 74 = .ok (.new 7, 3) := by decide +kernel
theorem dX2_init_77 : decode cX2_init 77 = .ok (.dup, 1) := by decide +kernel
theorem dX2_init_78 : decode cX2_init 78 = .ok (.sipush 256, 3) := by decide +kernel
theorem dX2_init_81 : decode cX2_init 81 = .ok (.invokespecial 11, 3) := by decide +kernel
theorem dX2_init_84 : decode cX2_init 84 = .ok (.putfield 30, 3) := by decide +kernel
theorem dX2_init_87 : decode cX2_init 87 = .ok (.aload_n 0, 1) := by decide +kernel
theorem dX2_init_88 : decode cX2_init 88 = .ok (.new 33, 3) := by decide +kernel
theorem dX2_init_91 : decode cX2_init 91 = .ok (.dup, 1) := by decide +kernel
theorem dX2_init_92 : decode cX2_init 92 = .ok (.invokespecial 35, 3) := by decide +kernel
theorem dX2_init_95 : decode cX2_init 95 = .ok (.putfield 36, 3) := by decide +kernel
theorem dX2_init_98 : decode cX2_init 98 = .ok (.aload_n 0, 1) := by decide +kernel
theorem dX2_init_99 : decode cX2_init 99 = .ok (.new 7, 3) := by decide +kernel
theorem dX2_init_102 : decode cX2_init 102 = .ok (.dup, 1) := by decide +kernel
theorem dX2_init_103 : decode cX2_init 103 = .ok (.sipush 256, 3) := by decide +kernel
theorem dX2_init_106 : decode cX2_init 106 = .ok (.invokespecial 11, 3) := by decide +kernel
theorem dX2_init_109 : decode cX2_init 109 = .ok (.putfield 40, 3) := by decide +kernel
theorem dX2_init_112 : decode cX2_init 112 = .ok (.aload_n 0, 1) := by decide +kernel
theorem dX2_init_113 : decode cX2_init 113 = .ok (.new 7, 3) := by decide +kernel
theorem dX2_init_116 : decode cX2_init 116 = .ok (.dup, 1) := by decide +kernel
theorem dX2_init_117 : decode cX2_init 117 = .ok (.sipush 256, 3) := by decide +kernel
theorem dX2_init_120 : decode cX2_init 120 = .ok (.invokespecial 11, 3) := by decide +kernel
theorem dX2_init_123 : decode cX2_init 123 = .ok (.putfield 43, 3) := by decide +kernel
theorem dX2_init_126 : decode cX2_init 126 = .ok (.aload_n 0, 1) := by decide +kernel
theorem dX2_init_127 : decode cX2_init 127 = .ok (.iconst 2, 1) := by decide +kernel
theorem dX2_init_128 : decode cX2_init 128 = .ok (.putfield 46, 3) := by decide +kernel
theorem dX2_init_131 : decode cX2_init 131 = .ok (.aload_n 0, 1) := by decide +kernel
theorem dX2_init_132 : decode cX2_init 132 = .ok (.iconst 4, 1) := by decide +kernel
theorem dX2_init_133 : decode cX2_init 133 = .ok (.putfield 50, 3) := by decide +kernel
theorem dX2_init_136 : decode cX2_init 136 = .ok (.aload_n 0, 1) := by decide +kernel
theorem dX2_init_137 : decode cX2_init 137 = .ok (.iconst 0, 1) := by decide +kernel
theorem dX2_init_138 : decode cX2_init 138 = .ok (.putfield 53, 3) := by decide +kernel
theorem dX2_init_141 : decode cX2_init 141 = .ok (.aload_n 0, 1) := by decide +kernel
theorem dX2_init_142 : decode cX2_init 142 = .ok (.iconst 0, 1) := by decide +kernel
theorem dX2_init_143 : decode cX2_init 143 = .ok (.putfield 56, 3) := by decide +kernel
theorem dX2_init_146 : decode cX2_init 146 = .ok (.aload_n 0, 1) := by decide +kernel
theorem dX2_init_147 : decode cX2_init 147 = .ok (.iconst 0, 1) := by decide +kernel
theorem dX2_init_148 : decode cX2_init 148 = .ok (.putfield 59, 3) := by decide +kernel
theorem dX2_init_151 : decode cX2_init 151 = .ok (.aload_n 0, 1) := by decide +kernel
theorem dX2_init_152 : decode cX2_init 152 = .ok (.iconst 0, 1) := by decide +kernel
theorem dX2_init_153 : decode cX2_init 153 = .ok (.putfield 62, 3) := by decide +kernel
theorem dX2_init_156 : decode cX2_init 156 = .ok (.return_, 1) := by decide +kernel
set_option maxRecDepth 20000 in
theorem ggX2_append_X2_needKey : GoodIn wsX2_append wsX2_needKey := goodIn_ca (goodIn_r _ [5, 6, 7, 8, 9] (by decide +kernel) (by decide +kernel)) (goodIn_sub (fun _ h => List.mem_cons_of_mem _ (List.mem_append_left _ (List.mem_append_right _ h))) (by decide +kernel))
set_option maxRecDepth 20000 in
theorem gX2_append_X2_needKey : GoodIn wsX2_append (va_wsS RX2 65 yX2_needKey wsX2_needKey) := goodIn_app (goodIn_of _ (by decide +kernel)) ggX2_append_X2_needKey
set_option maxRecDepth 20000 in
theorem ggX2_append_X2_needToFollow : GoodIn wsX2_append wsX2_needToFollow := goodIn_ca (goodIn_r _ [13, 14, 15, 16, 17, 18, 19, 20, 21, 22, 23, 24, 25, 26, 27, 28, 29, 30, 31, 32, 33, 34, 35, 36, 37, 38, 39, 4, 40, 95, 96, 97, 98, 99, 100, 101, 102, 103, 104, 105, 106, 107, 108, 109, 110, 111] (by decide +kernel) (by decide +kernel)) (goodIn_sub (fun _ h => List.mem_cons_of_mem _ (List.mem_append_right _ h)) (by decide +kernel))
set_option maxRecDepth 20000 in
theorem gX2_append_X2_needToFollow : GoodIn wsX2_append (wsV RX2 69 RX2 yX2_needToFollow wsX2_needToFollow) := goodIn_app (goodIn_of _ (by decide +kernel)) ggX2_append_X2_needToFollow
theorem mi_X2_append_1 {w : Cond} (h : w ∈ wsX2_append_r1) : w ∈ wsX2_append := (List.mem_cons_of_mem _ (List.mem_append_left _ (List.mem_append_left _ (List.mem_append_left _ (List.mem_append_left _ (List.mem_append_left _ (List.mem_append_left _ h)))))))
theorem mi_X2_append_2 {w : Cond} (h : w ∈ wsX2_append_r2) : w ∈ wsX2_append := (List.mem_cons_of_mem _ (List.mem_append_left _ (List.mem_append_left _ (List.mem_append_left _ (List.mem_append_left _ (List.mem_append_left _ (List.mem_append_right _ (List.mem_append_left _ h))))))))
theorem mi_X2_append_3 {w : Cond} (h : w ∈ wsX2_append_r3) : w ∈ wsX2_append := (List.mem_cons_of_mem _ (List.mem_append_left _ (List.mem_append_left _ (List.mem_append_left _ (List.mem_append_left _ (List.mem_append_left _ (List.mem_append_right _ (List.mem_append_right _ (List.mem_append_left _ h)))))))))
theorem mi_X2_append_4 {w : Cond} (h : w ∈ wsX2_append_r4) : w ∈ wsX2_append := (List.mem_cons_of_mem _ (List.mem_append_left _ (List.mem_append_left _ (List.mem_append_left _ (List.mem_append_left _ (List.mem_append_left _ (List.mem_append_right _ (List.mem_append_right _ (List.mem_append_right _ h)))))))))
set_option maxRecDepth 20000 in
theorem gi_X2_append_X2_addLast_0 : ∀ w ∈ wsX2_addLast_r1, w ∈ wsX2_append := by
  unfold wsX2_addLast_r1
  exact (List.forall_mem_cons.mpr ⟨(mi_X2_append_1 (List.mem_of_getElem? (i := 15) rfl)), (List.forall_mem_cons.mpr ⟨(mi_X2_append_2 (List.mem_of_getElem? (i := 20) rfl)), (List.forall_mem_cons.mpr ⟨(mi_X2_append_1 (List.mem_of_getElem? (i := 0) rfl)), (List.forall_mem_cons.mpr ⟨(mi_X2_append_2 (List.mem_of_getElem? (i := 21) rfl)), (List.forall_mem_cons.mpr ⟨(mi_X2_append_2 (List.mem_of_getElem? (i := 8) rfl)), (List.forall_mem_cons.mpr ⟨(mi_X2_append_2 (List.mem_of_getElem? (i := 9) rfl)), (List.forall_mem_cons.mpr ⟨(mi_X2_append_2 (List.mem_of_getElem? (i := 10) rfl)), (List.forall_mem_cons.mpr ⟨(mi_X2_append_1 (List.mem_of_getElem? (i := 20) rfl)), (List.forall_mem_cons.mpr ⟨(mi_X2_append_2 (List.mem_of_getElem? (i := 11) rfl)), (List.forall_mem_cons.mpr ⟨(mi_X2_append_1 (List.mem_of_getElem? (i := 22) rfl)), (List.forall_mem_cons.mpr ⟨(mi_X2_append_2 (List.mem_of_getElem? (i := 22) rfl)), (List.forall_mem_cons.mpr ⟨(mi_X2_append_2 (List.mem_of_getElem? (i := 23) rfl)), (List.forall_mem_cons.mpr ⟨(mi_X2_append_3 (List.mem_of_getElem? (i := 0) rfl)), (List.forall_mem_cons.mpr ⟨(mi_X2_append_3 (List.mem_of_getElem? (i := 1) rfl)), (List.forall_mem_cons.mpr ⟨(mi_X2_append_2 (List.mem_of_getElem? (i := 3) rfl)), (List.forall_mem_cons.mpr ⟨(mi_X2_append_3 (List.mem_of_getElem? (i := 2) rfl)), (List.forall_mem_cons.mpr ⟨(mi_X2_append_3 (List.mem_of_getElem? (i := 3) rfl)), (List.forall_mem_cons.mpr ⟨(mi_X2_append_3 (List.mem_of_getElem? (i := 4) rfl)), (List.forall_mem_cons.mpr ⟨(mi_X2_append_3 (List.mem_of_getElem? (i := 5) rfl)), (List.forall_mem_cons.mpr ⟨(mi_X2_append_3 (List.mem_of_getElem? (i := 6) rfl)), (List.forall_mem_cons.mpr ⟨(mi_X2_append_3 (List.mem_of_getElem? (i := 7) rfl)), (List.forall_mem_cons.mpr ⟨(mi_X2_append_3 (List.mem_of_getElem? (i := 8) rfl)), (List.forall_mem_cons.mpr ⟨(mi_X2_append_3 (List.mem_of_getElem? (i := 9) rfl)), (List.forall_mem_cons.mpr ⟨(mi_X2_append_3 (List.mem_of_getElem? (i := 10) rfl)), (fun _ h => absurd h List.not_mem_nil)⟩)⟩)⟩)⟩)⟩)⟩)⟩)⟩)⟩)⟩)⟩)⟩)⟩)⟩)⟩)⟩)⟩)⟩)⟩)⟩)⟩)⟩)⟩)⟩)
set_option maxRecDepth 20000 in
theorem gi_X2_append_X2_addLast_1 : ∀ w ∈ wsX2_addLast_r2, w ∈ wsX2_append := by
  unfold wsX2_addLast_r2
  exact (List.forall_mem_cons.mpr ⟨(mi_X2_append_3 (List.mem_of_getElem? (i := 11) rfl)), (List.forall_mem_cons.mpr ⟨(mi_X2_append_3 (List.mem_of_getElem? (i := 12) rfl)), (List.forall_mem_cons.mpr ⟨(mi_X2_append_3 (List.mem_of_getElem? (i := 13) rfl)), (List.forall_mem_cons.mpr ⟨(mi_X2_append_3 (List.mem_of_getElem? (i := 14) rfl)), (List.forall_mem_cons.mpr ⟨(mi_X2_append_3 (List.mem_of_getElem? (i := 15) rfl)), (List.forall_mem_cons.mpr ⟨(mi_X2_append_3 (List.mem_of_getElem? (i := 16) rfl)), (List.forall_mem_cons.mpr ⟨(mi_X2_append_3 (List.mem_of_getElem? (i := 17) rfl)), (List.forall_mem_cons.mpr ⟨(mi_X2_append_1 (List.mem_of_getElem? (i := 3) rfl)), (List.forall_mem_cons.mpr ⟨(mi_X2_append_3 (List.mem_of_getElem? (i := 18) rfl)), (List.forall_mem_cons.mpr ⟨(mi_X2_append_3 (List.mem_of_getElem? (i := 19) rfl)), (List.forall_mem_cons.mpr ⟨(mi_X2_append_3 (List.mem_of_getElem? (i := 20) rfl)), (List.forall_mem_cons.mpr ⟨(mi_X2_append_3 (List.mem_of_getElem? (i := 21) rfl)), (List.forall_mem_cons.mpr ⟨(mi_X2_append_3 (List.mem_of_getElem? (i := 22) rfl)), (List.forall_mem_cons.mpr ⟨(mi_X2_append_3 (List.mem_of_getElem? (i := 23) rfl)), (List.forall_mem_cons.mpr ⟨(mi_X2_append_4 (List.mem_of_getElem? (i := 0) rfl)), (List.forall_mem_cons.mpr ⟨(mi_X2_append_4 (List.mem_of_getElem? (i := 1) rfl)), (List.forall_mem_cons.mpr ⟨(mi_X2_append_4 (List.mem_of_getElem? (i := 2) rfl)), (List.forall_mem_cons.mpr ⟨(mi_X2_append_4 (List.mem_of_getElem? (i := 3) rfl)), (List.forall_mem_cons.mpr ⟨(mi_X2_append_4 (List.mem_of_getElem? (i := 4) rfl)), (List.forall_mem_cons.mpr ⟨(mi_X2_append_4 (List.mem_of_getElem? (i := 5) rfl)), (List.forall_mem_cons.mpr ⟨(mi_X2_append_4 (List.mem_of_getElem? (i := 6) rfl)), (List.forall_mem_cons.mpr ⟨(mi_X2_append_4 (List.mem_of_getElem? (i := 7) rfl)), (List.forall_mem_cons.mpr ⟨(mi_X2_append_4 (List.mem_of_getElem? (i := 8) rfl)), (List.forall_mem_cons.mpr ⟨(mi_X2_append_2 (List.mem_of_getElem? (i := 4) rfl)), (fun _ h => absurd h List.not_mem_nil)⟩)⟩)⟩)⟩)⟩)⟩)⟩)⟩)⟩)⟩)⟩)⟩)⟩)⟩)⟩)⟩)⟩)⟩)⟩)⟩)⟩)⟩)⟩)⟩)
set_option maxRecDepth 20000 in
theorem gi_X2_append_X2_addLast_2 : ∀ w ∈ wsX2_addLast_r3, w ∈ wsX2_append := by
  unfold wsX2_addLast_r3
  exact (List.forall_mem_cons.mpr ⟨(mi_X2_append_2 (List.mem_of_getElem? (i := 5) rfl)), (List.forall_mem_cons.mpr ⟨(mi_X2_append_2 (List.mem_of_getElem? (i := 6) rfl)), (List.forall_mem_cons.mpr ⟨(mi_X2_append_2 (List.mem_of_getElem? (i := 7) rfl)), (List.forall_mem_cons.mpr ⟨(mi_X2_append_4 (List.mem_of_getElem? (i := 9) rfl)), (List.forall_mem_cons.mpr ⟨(mi_X2_append_4 (List.mem_of_getElem? (i := 10) rfl)), (List.forall_mem_cons.mpr ⟨(mi_X2_append_4 (List.mem_of_getElem? (i := 11) rfl)), (List.forall_mem_cons.mpr ⟨(mi_X2_append_4 (List.mem_of_getElem? (i := 12) rfl)), (List.forall_mem_cons.mpr ⟨(mi_X2_append_4 (List.mem_of_getElem? (i := 13) rfl)), (List.forall_mem_cons.mpr ⟨(mi_X2_append_4 (List.mem_of_getElem? (i := 14) rfl)), (List.forall_mem_cons.mpr ⟨(mi_X2_append_4 (List.mem_of_getElem? (i := 15) rfl)), (List.forall_mem_cons.mpr ⟨(mi_X2_append_4 (List.mem_of_getElem? (i := 16) rfl)), (List.forall_mem_cons.mpr ⟨(mi_X2_append_4 (List.mem_of_getElem? (i := 17) rfl)), (List.forall_mem_cons.mpr ⟨(mi_X2_append_4 (List.mem_of_getElem? (i := 18) rfl)), (List.forall_mem_cons.mpr ⟨(mi_X2_append_4 (List.mem_of_getElem? (i := 19) rfl)), (List.forall_mem_cons.mpr ⟨(mi_X2_append_4 (List.mem_of_getElem? (i := 20) rfl)), (List.forall_mem_cons.mpr ⟨(mi_X2_append_4 (List.mem_of_getElem? (i := 21) rfl)), (fun _ h => absurd h List.not_mem_nil)⟩)⟩)⟩)⟩)⟩)⟩)⟩)⟩)⟩)⟩)⟩)⟩)⟩)⟩)⟩)⟩)
theorem gi_X2_append_X2_addLast : GoodIn wsX2_append (.code yX2_addLast cX2_addLast 3 none :: ((wsX2_addLast_r1 ++ (wsX2_addLast_r2 ++ wsX2_addLast_r3)) ++ wsX20 ++ wsX00 ++ wsX10)) := goodIn_c (goodIn_sub (List.forall_mem_cons.mpr ⟨(mi_X2_append_2 (List.mem_of_getElem? (i := 19) rfl)), fun _ h => absurd h List.not_mem_nil⟩) (by decide +kernel)) (goodIn_app (goodIn_app (goodIn_app (goodIn_app (goodIn_sub gi_X2_append_X2_addLast_0 (by decide +kernel)) (goodIn_app (goodIn_sub gi_X2_append_X2_addLast_1 (by decide +kernel)) (goodIn_sub gi_X2_append_X2_addLast_2 (by decide +kernel)))) (goodIn_sub (fun _ h => (List.mem_cons_of_mem _ (List.mem_append_left _ (List.mem_append_left _ (List.mem_append_left _ (List.mem_append_left _ (List.mem_append_right _ h))))))) (by decide +kernel))) (goodIn_sub (fun _ h => (List.mem_cons_of_mem _ (List.mem_append_left _ (List.mem_append_left _ (List.mem_append_left _ (List.mem_append_right _ h)))))) (by decide +kernel))) (goodIn_sub (fun _ h => (List.mem_cons_of_mem _ (List.mem_append_left _ (List.mem_append_left _ (List.mem_append_right _ h))))) (by decide +kernel)))
set_option maxRecDepth 20000 in
theorem ggX2_append_X2_addLast : GoodIn wsX2_append wsX2_addLast := gi_X2_append_X2_addLast
set_option maxRecDepth 20000 in
theorem gX2_append_X2_addLast : GoodIn wsX2_append (wsV RX2 73 RX2 yX2_addLast wsX2_addLast) := goodIn_app (goodIn_of _ (by decide +kernel)) ggX2_append_X2_addLast
set_option maxRecDepth 20000 in
theorem ggX2_append_X0_length : GoodIn wsX2_append wsX0_length := goodIn_r _ [36, 23, 110, 111] (by decide +kernel) (by decide +kernel)
set_option maxRecDepth 20000 in
theorem gX2_append_X0_length : GoodIn wsX2_append (wsV RX2 76 RX0 yX0_length wsX0_length) := goodIn_app (goodIn_of _ (by decide +kernel)) ggX2_append_X0_length
theorem dX2_append_0 : decode cX2_append 0 = .ok (.iload_n 1, 1) := by decide +kernel
theorem dX2_append_1 : decode cX2_append 1 = .ok (.i2l, 1) := by decide +kernel
theorem dX2_append_2 : decode cX2_append 2 = .ok (.invokestatic 65, 3) := by decide +kernel
theorem dX2_append_5 : decode cX2_append 5 = .ok (.aload_n 0, 1) := by decide +kernel
theorem dX2_append_6 : decode cX2_append 6 = .ok (.iload_n 1, 1) := by decide +kernel
theorem dX2_append_7 : decode cX2_append 7 = .ok (.iconst 1, 1) := by decide +kernel
theorem dX2_append_8 : decode cX2_append 8 = .ok (.invokevirtual 69, 3) := by decide +kernel
theorem dX2_append_11 : decode cX2_append 11 = .ok (.aload_n 0, 1) := by decide +kernel
theorem dX2_append_12 : decode cX2_append 12 = .ok (.iload_n 1, 1) := by decide +kernel
theorem dX2_append_13 : decode cX2_append 13 = .ok (.invokevirtual 73, 3) := by decide +kernel
theorem dX2_append_16 : decode cX2_append 16 = .ok (.aload_n 0, 1) := by decide +kernel
theorem dX2_append_17 : decode cX2_append 17 = .ok (.getfield 24, 3) := by decide +kernel
theorem dX2_append_20 : decode cX2_append 20 = .ok (.invokevirtual 76, 3) := by decide +kernel
theorem dX2_append_23 : decode cX2_append 23 = .ok (.ireturn, 1) := by decide +kernel
set_option maxRecDepth 20000 in
theorem ggX2_appendMany_X2_needKey : GoodIn wsX2_appendMany wsX2_needKey := goodIn_ca (goodIn_r _ [7, 1, 2, 8, 9] (by decide +kernel) (by decide +kernel)) (goodIn_sub (fun _ h => List.mem_cons_of_mem _ (List.mem_append_left _ (List.mem_append_right _ h))) (by decide +kernel))
set_option maxRecDepth 20000 in
theorem gX2_appendMany_X2_needKey : GoodIn wsX2_appendMany (va_wsS RX2 65 yX2_needKey wsX2_needKey) := goodIn_app (goodIn_of _ (by decide +kernel)) ggX2_appendMany_X2_needKey
set_option maxRecDepth 20000 in
theorem ggX2_appendMany_X2_needToFollow : GoodIn wsX2_appendMany wsX2_needToFollow := goodIn_ca (goodIn_r _ [13, 14, 15, 16, 17, 18, 19, 20, 21, 22, 23, 24, 25, 26, 27, 28, 29, 30, 31, 32, 33, 34, 35, 36, 37, 38, 39, 6, 40, 95, 96, 97, 98, 99, 100, 101, 102, 103, 104, 105, 106, 107, 108, 109, 110, 111] (by decide +kernel) (by decide +kernel)) (goodIn_sub (fun _ h => List.mem_cons_of_mem _ (List.mem_append_right _ h)) (by decide +kernel))
set_option maxRecDepth 20000 in
theorem gX2_appendMany_X2_needToFollow : GoodIn wsX2_appendMany (wsV RX2 69 RX2 yX2_needToFollow wsX2_needToFollow) := goodIn_app (goodIn_of _ (by decide +kernel)) ggX2_appendMany_X2_needToFollow
theorem mi_X2_appendMany_1 {w : Cond} (h : w ∈ wsX2_appendMany_r1) : w ∈ wsX2_appendMany := (List.mem_cons_of_mem _ (List.mem_append_left _ (List.mem_append_left _ (List.mem_append_left _ (List.mem_append_left _ (List.mem_append_left _ (List.mem_append_left _ h)))))))
theorem mi_X2_appendMany_2 {w : Cond} (h : w ∈ wsX2_appendMany_r2) : w ∈ wsX2_appendMany := (List.mem_cons_of_mem _ (List.mem_append_left _ (List.mem_append_left _ (List.mem_append_left _ (List.mem_append_left _ (List.mem_append_left _ (List.mem_append_right _ (List.mem_append_left _ h))))))))
theorem mi_X2_appendMany_3 {w : Cond} (h : w ∈ wsX2_appendMany_r3) : w ∈ wsX2_appendMany := (List.mem_cons_of_mem _ (List.mem_append_left _ (List.mem_append_left _ (List.mem_append_left _ (List.mem_append_left _ (List.mem_append_left _ (List.mem_append_right _ (List.mem_append_right _ (List.mem_append_left _ h)))))))))
theorem mi_X2_appendMany_4 {w : Cond} (h : w ∈ wsX2_appendMany_r4) : w ∈ wsX2_appendMany := (List.mem_cons_of_mem _ (List.mem_append_left _ (List.mem_append_left _ (List.mem_append_left _ (List.mem_append_left _ (List.mem_append_left _ (List.mem_append_right _ (List.mem_append_right _ (List.mem_append_right _ h)))))))))
set_option maxRecDepth 20000 in
theorem gi_X2_appendMany_X2_addLast_0 : ∀ w ∈ wsX2_addLast_r1, w ∈ wsX2_appendMany := by
  unfold wsX2_addLast_r1
  exact (List.forall_mem_cons.mpr ⟨(mi_X2_appendMany_1 (List.mem_of_getElem? (i := 15) rfl)), (List.forall_mem_cons.mpr ⟨(mi_X2_appendMany_2 (List.mem_of_getElem? (i := 20) rfl)), (List.forall_mem_cons.mpr ⟨(mi_X2_appendMany_1 (List.mem_of_getElem? (i := 2) rfl)), (List.forall_mem_cons.mpr ⟨(mi_X2_appendMany_2 (List.mem_of_getElem? (i := 21) rfl)), (List.forall_mem_cons.mpr ⟨(mi_X2_appendMany_2 (List.mem_of_getElem? (i := 8) rfl)), (List.forall_mem_cons.mpr ⟨(mi_X2_appendMany_2 (List.mem_of_getElem? (i := 9) rfl)), (List.forall_mem_cons.mpr ⟨(mi_X2_appendMany_2 (List.mem_of_getElem? (i := 10) rfl)), (List.forall_mem_cons.mpr ⟨(mi_X2_appendMany_1 (List.mem_of_getElem? (i := 20) rfl)), (List.forall_mem_cons.mpr ⟨(mi_X2_appendMany_2 (List.mem_of_getElem? (i := 11) rfl)), (List.forall_mem_cons.mpr ⟨(mi_X2_appendMany_1 (List.mem_of_getElem? (i := 22) rfl)), (List.forall_mem_cons.mpr ⟨(mi_X2_appendMany_2 (List.mem_of_getElem? (i := 22) rfl)), (List.forall_mem_cons.mpr ⟨(mi_X2_appendMany_2 (List.mem_of_getElem? (i := 23) rfl)), (List.forall_mem_cons.mpr ⟨(mi_X2_appendMany_3 (List.mem_of_getElem? (i := 0) rfl)), (List.forall_mem_cons.mpr ⟨(mi_X2_appendMany_3 (List.mem_of_getElem? (i := 1) rfl)), (List.forall_mem_cons.mpr ⟨(mi_X2_appendMany_2 (List.mem_of_getElem? (i := 3) rfl)), (List.forall_mem_cons.mpr ⟨(mi_X2_appendMany_3 (List.mem_of_getElem? (i := 2) rfl)), (List.forall_mem_cons.mpr ⟨(mi_X2_appendMany_3 (List.mem_of_getElem? (i := 3) rfl)), (List.forall_mem_cons.mpr ⟨(mi_X2_appendMany_3 (List.mem_of_getElem? (i := 4) rfl)), (List.forall_mem_cons.mpr ⟨(mi_X2_appendMany_3 (List.mem_of_getElem? (i := 5) rfl)), (List.forall_mem_cons.mpr ⟨(mi_X2_appendMany_3 (List.mem_of_getElem? (i := 6) rfl)), (List.forall_mem_cons.mpr ⟨(mi_X2_appendMany_3 (List.mem_of_getElem? (i := 7) rfl)), (List.forall_mem_cons.mpr ⟨(mi_X2_appendMany_3 (List.mem_of_getElem? (i := 8) rfl)), (List.forall_mem_cons.mpr ⟨(mi_X2_appendMany_3 (List.mem_of_getElem? (i := 9) rfl)), (List.forall_mem_cons.mpr ⟨(mi_X2_appendMany_3 (List.mem_of_getElem? (i := 10) rfl)), (fun _ h => absurd h List.not_mem_nil)⟩)⟩)⟩)⟩)⟩)⟩)⟩)⟩)⟩)⟩)⟩)⟩)⟩)⟩)⟩)⟩)⟩)⟩)⟩)⟩)⟩)⟩)⟩)⟩)
set_option maxRecDepth 20000 in
theorem gi_X2_appendMany_X2_addLast_1 : ∀ w ∈ wsX2_addLast_r2, w ∈ wsX2_appendMany := by
  unfold wsX2_addLast_r2
  exact (List.forall_mem_cons.mpr ⟨(mi_X2_appendMany_3 (List.mem_of_getElem? (i := 11) rfl)), (List.forall_mem_cons.mpr ⟨(mi_X2_appendMany_3 (List.mem_of_getElem? (i := 12) rfl)), (List.forall_mem_cons.mpr ⟨(mi_X2_appendMany_3 (List.mem_of_getElem? (i := 13) rfl)), (List.forall_mem_cons.mpr ⟨(mi_X2_appendMany_3 (List.mem_of_getElem? (i := 14) rfl)), (List.forall_mem_cons.mpr ⟨(mi_X2_appendMany_3 (List.mem_of_getElem? (i := 15) rfl)), (List.forall_mem_cons.mpr ⟨(mi_X2_appendMany_3 (List.mem_of_getElem? (i := 16) rfl)), (List.forall_mem_cons.mpr ⟨(mi_X2_appendMany_3 (List.mem_of_getElem? (i := 17) rfl)), (List.forall_mem_cons.mpr ⟨(mi_X2_appendMany_1 (List.mem_of_getElem? (i := 5) rfl)), (List.forall_mem_cons.mpr ⟨(mi_X2_appendMany_3 (List.mem_of_getElem? (i := 18) rfl)), (List.forall_mem_cons.mpr ⟨(mi_X2_appendMany_3 (List.mem_of_getElem? (i := 19) rfl)), (List.forall_mem_cons.mpr ⟨(mi_X2_appendMany_3 (List.mem_of_getElem? (i := 20) rfl)), (List.forall_mem_cons.mpr ⟨(mi_X2_appendMany_3 (List.mem_of_getElem? (i := 21) rfl)), (List.forall_mem_cons.mpr ⟨(mi_X2_appendMany_3 (List.mem_of_getElem? (i := 22) rfl)), (List.forall_mem_cons.mpr ⟨(mi_X2_appendMany_3 (List.mem_of_getElem? (i := 23) rfl)), (List.forall_mem_cons.mpr ⟨(mi_X2_appendMany_4 (List.mem_of_getElem? (i := 0) rfl)), (List.forall_mem_cons.mpr ⟨(mi_X2_appendMany_4 (List.mem_of_getElem? (i := 1) rfl)), (List.forall_mem_cons.mpr ⟨(mi_X2_appendMany_4 (List.mem_of_getElem? (i := 2) rfl)), (List.forall_mem_cons.mpr ⟨(mi_X2_appendMany_4 (List.mem_of_getElem? (i := 3) rfl)), (List.forall_mem_cons.mpr ⟨(mi_X2_appendMany_4 (List.mem_of_getElem? (i := 4) rfl)), (List.forall_mem_cons.mpr ⟨(mi_X2_appendMany_4 (List.mem_of_getElem? (i := 5) rfl)), (List.forall_mem_cons.mpr ⟨(mi_X2_appendMany_4 (List.mem_of_getElem? (i := 6) rfl)), (List.forall_mem_cons.mpr ⟨(mi_X2_appendMany_4 (List.mem_of_getElem? (i := 7) rfl)), (List.forall_mem_cons.mpr ⟨(mi_X2_appendMany_4 (List.mem_of_getElem? (i := 8) rfl)), (List.forall_mem_cons.mpr ⟨(mi_X2_appendMany_2 (List.mem_of_getElem? (i := 4) rfl)), (fun _ h => absurd h List.not_mem_nil)⟩)⟩)⟩)⟩)⟩)⟩)⟩)⟩)⟩)⟩)⟩)⟩)⟩)⟩)⟩)⟩)⟩)⟩)⟩)⟩)⟩)⟩)⟩)⟩)
set_option maxRecDepth 20000 in
theorem gi_X2_appendMany_X2_addLast_2 : ∀ w ∈ wsX2_addLast_r3, w ∈ wsX2_appendMany := by
  unfold wsX2_addLast_r3
  exact (List.forall_mem_cons.mpr ⟨(mi_X2_appendMany_2 (List.mem_of_getElem? (i := 5) rfl)), (List.forall_mem_cons.mpr ⟨(mi_X2_appendMany_2 (List.mem_of_getElem? (i := 6) rfl)), (List.forall_mem_cons.mpr ⟨(mi_X2_appendMany_2 (List.mem_of_getElem? (i := 7) rfl)), (List.forall_mem_cons.mpr ⟨(mi_X2_appendMany_4 (List.mem_of_getElem? (i := 9) rfl)), (List.forall_mem_cons.mpr ⟨(mi_X2_appendMany_4 (List.mem_of_getElem? (i := 10) rfl)), (List.forall_mem_cons.mpr ⟨(mi_X2_appendMany_4 (List.mem_of_getElem? (i := 11) rfl)), (List.forall_mem_cons.mpr ⟨(mi_X2_appendMany_4 (List.mem_of_getElem? (i := 12) rfl)), (List.forall_mem_cons.mpr ⟨(mi_X2_appendMany_4 (List.mem_of_getElem? (i := 13) rfl)), (List.forall_mem_cons.mpr ⟨(mi_X2_appendMany_4 (List.mem_of_getElem? (i := 14) rfl)), (List.forall_mem_cons.mpr ⟨(mi_X2_appendMany_4 (List.mem_of_getElem? (i := 15) rfl)), (List.forall_mem_cons.mpr ⟨(mi_X2_appendMany_4 (List.mem_of_getElem? (i := 16) rfl)), (List.forall_mem_cons.mpr ⟨(mi_X2_appendMany_4 (List.mem_of_getElem? (i := 17) rfl)), (List.forall_mem_cons.mpr ⟨(mi_X2_appendMany_4 (List.mem_of_getElem? (i := 18) rfl)), (List.forall_mem_cons.mpr ⟨(mi_X2_appendMany_4 (List.mem_of_getElem? (i := 19) rfl)), (List.forall_mem_cons.mpr ⟨(mi_X2_appendMany_4 (List.mem_of_getElem? (i := 20) rfl)), (List.forall_mem_cons.mpr ⟨(mi_X2_appendMany_4 (List.mem_of_getElem? (i := 21) rfl)), (fun _ h => absurd h List.not_mem_nil)⟩)⟩)⟩)⟩)⟩)⟩)⟩)⟩)⟩)⟩)⟩)⟩)⟩)⟩)⟩)⟩)
theorem gi_X2_appendMany_X2_addLast : GoodIn wsX2_appendMany (.code yX2_addLast cX2_addLast 3 none :: ((wsX2_addLast_r1 ++ (wsX2_addLast_r2 ++ wsX2_addLast_r3)) ++ wsX20 ++ wsX00 ++ wsX10)) := goodIn_c (goodIn_sub (List.forall_mem_cons.mpr ⟨(mi_X2_appendMany_2 (List.mem_of_getElem? (i := 19) rfl)), fun _ h => absurd h List.not_mem_nil⟩) (by decide +kernel)) (goodIn_app (goodIn_app (goodIn_app (goodIn_app (goodIn_sub gi_X2_appendMany_X2_addLast_0 (by decide +kernel)) (goodIn_app (goodIn_sub gi_X2_appendMany_X2_addLast_1 (by decide +kernel)) (goodIn_sub gi_X2_appendMany_X2_addLast_2 (by decide +kernel)))) (goodIn_sub (fun _ h => (List.mem_cons_of_mem _ (List.mem_append_left _ (List.mem_append_left _ (List.mem_append_left _ (List.mem_append_left _ (List.mem_append_right _ h))))))) (by decide +kernel))) (goodIn_sub (fun _ h => (List.mem_cons_of_mem _ (List.mem_append_left _ (List.mem_append_left _ (List.mem_append_left _ (List.mem_append_right _ h)))))) (by decide +kernel))) (goodIn_sub (fun _ h => (List.mem_cons_of_mem _ (List.mem_append_left _ (List.mem_append_left _ (List.mem_append_right _ h))))) (by decide +kernel)))
set_option maxRecDepth 20000 in
theorem ggX2_appendMany_X2_addLast : GoodIn wsX2_appendMany wsX2_addLast := gi_X2_appendMany_X2_addLast
set_option maxRecDepth 20000 in
theorem gX2_appendMany_X2_addLast : GoodIn wsX2_appendMany (wsV RX2 73 RX2 yX2_addLast wsX2_addLast) := goodIn_app (goodIn_of _ (by decide +kernel)) ggX2_appendMany_X2_addLast
set_option maxRecDepth 20000 in
theorem ggX2_appendMany_X0_length : GoodIn wsX2_appendMany wsX0_length := goodIn_r _ [36, 23, 110, 111] (by decide +kernel) (by decide +kernel)
set_option maxRecDepth 20000 in
theorem gX2_appendMany_X0_length : GoodIn wsX2_appendMany (wsV RX2 76 RX0 yX0_length wsX0_length) := goodIn_app (goodIn_of _ (by decide +kernel)) ggX2_appendMany_X0_length
theorem dX2_appendMany_0 : decode cX2_appendMany 0 = .ok (.iload_n 2, 1) := by decide +kernel
theorem dX2_appendMany_1 : decode cX2_appendMany 1 = .ok (.iconst 1, 1) := by decide +kernel
theorem dX2_appendMany_2 : decode cX2_appendMany 2 = .ok (.if_icmp .lt 21, 3) := by decide +kernel
theorem dX2_appendMany_5 : decode cX2_appendMany 5 = .ok (.iload_n 2, 1) := by decide +kernel
theorem dX2_appendMany_6 : decode cX2_appendMany 6 = .ok (.sipush 10000, 3) := by decide +kernel
theorem dX2_appendMany_9 : decode cX2_appendMany 9 = .ok (.if_icmp .gt 14, 3) := by decide +kernel
theorem dX2_appendMany_12 : decode cX2_appendMany 12 = .ok (.iload_n 3, 1) := by decide +kernel
theorem dX2_appendMany_13 : decode cX2_appendMany 13 = .ok (.iconst 1, 1) := by decide +kernel
theorem dX2_appendMany_14 : decode cX2_appendMany 14 = .ok (.if_icmp .lt 9, 3) := by decide +kernel
theorem dX2_appendMany_17 : decode cX2_appendMany 17 = .ok (.iload_n 3, 1) := by decide +kernel
theorem dX2_appendMany_18 : decode cX2_appendMany 18 = .ok (.bipush 100, 2) := by decide +kernel
theorem dX2_appendMany_20 : decode cX2_appendMany 20 = .ok (.if_icmp .le 13, 3) := by decide +kernel
theorem dX2_appendMany_23 : decode cX2_appendMany 23 = .ok (.new 80, 3) := by decide +kernel
theorem dX2_appendMany_26 : decode cX2_appendMany 26 = .ok (.dup, 1) := by decide +kernel
theorem dX2_appendMany_27 : decode cX2_appendMany 27 = .ok (.ldc 82, 2) := by decide +kernel
theorem dX2_appendMany_29 : decode cX2_appendMany 29 = .ok (.invokespecial 84, 3) := by decide +kernel
theorem dX2_appendMany_32 : decode cX2_appendMany 32 = .ok (.athrow, 1) := by decide +kernel
theorem dX2_appendMany_33 : decode cX2_appendMany 33 = .ok (.iload_n 1, 1) := by decide +kernel
theorem dX2_appendMany_34 : decode cX2_appendMany 34 = .ok (.i2l, 1) := by decide +kernel
theorem dX2_appendMany_35 : decode cX2_appendMany 35 = .ok (.iload_n 2, 1) := by decide +kernel
theorem dX2_appendMany_36 : decode cX2_appendMany 36 = .ok (.i2l, 1) := by decide +kernel
theorem dX2_appendMany_37 : decode cX2_appendMany 37 = .ok (.iload_n 3, 1) := by decide +kernel
theorem dX2_appendMany_38 : decode cX2_appendMany 38 = .ok (.iconst 1, 1) := by decide +kernel
theorem dX2_appendMany_39 : decode cX2_appendMany 39 = .ok (.isub, 1) := by decide +kernel
theorem dX2_appendMany_40 : decode cX2_appendMany 40 = .ok (.i2l, 1) := by decide +kernel
theorem dX2_appendMany_41 : decode cX2_appendMany 41 = .ok (.lmul, 1) := by decide +kernel
theorem dX2_appendMany_42 : decode cX2_appendMany 42 = .ok (.ladd, 1) := by decide +kernel
theorem dX2_appendMany_43 : decode cX2_appendMany 43 = .ok (.lstore 4, 2) := by decide +kernel
theorem dX2_appendMany_45 : decode cX2_appendMany 45 = .ok (.iload_n 1, 1) := by decide +kernel
theorem dX2_appendMany_46 : decode cX2_appendMany 46 = .ok (.i2l, 1) := by decide +kernel
theorem dX2_appendMany_47 : decode cX2_appendMany 47 = .ok (.invokestatic 65, 3) := by decide +kernel
theorem dX2_appendMany_50 : decode cX2_appendMany 50 = .ok (.lload 4, 2) := by decide +kernel
theorem dX2_appendMany_52 : decode cX2_appendMany 52 = .ok (.invokestatic 65, 3) := by decide +kernel
theorem dX2_appendMany_55 : decode cX2_appendMany 55 = .ok (.aload_n 0, 1) := by decide +kernel
theorem dX2_appendMany_56 : decode cX2_appendMany 56 = .ok (.iload_n 1, 1) := by decide +kernel
theorem dX2_appendMany_57 : decode cX2_appendMany 57 = .ok (.iload_n 3, 1) := by decide +kernel
theorem dX2_appendMany_58 : decode cX2_appendMany 58 = .ok (.invokevirtual 69, 3) := by decide +kernel
theorem dX2_appendMany_61 : decode cX2_appendMany 61 = .ok (.iconst 0, 1) := by decide +kernel
theorem dX2_appendMany_62 : decode cX2_appendMany 62 = .ok (.istore 6, 2) := by decide +kernel
theorem dX2_appendMany_64 : decode cX2_appendMany 64 = .ok (.iload 6, 2) := by decide +kernel
theorem dX2_appendMany_66 : decode cX2_appendMany 66 = .ok (.iload_n 3, 1) := by decide +kernel
theorem dX2_appendMany_67 : decode cX2_appendMany 67 = .ok (.if_icmp .ge 19, 3) := by decide +kernel
theorem dX2_appendMany_70 : decode cX2_appendMany 70 = .ok (.aload_n 0, 1) := by decide +kernel
theorem dX2_appendMany_71 : decode cX2_appendMany 71 = .ok (.iload_n 1, 1) := by decide +kernel
theorem dX2_appendMany_72 : decode cX2_appendMany 72 = .ok (.iload_n 2, 1) := by decide +kernel
theorem dX2_appendMany_73 : decode cX2_appendMany 73 = .ok (.iload 6, 2) := by decide +kernel
theorem dX2_appendMany_75 : decode cX2_appendMany 75 = .ok (.imul, 1) := by decide +kernel
theorem dX2_appendMany_76 : decode cX2_appendMany 76 = .ok (.iadd, 1) := by decide +kernel
theorem dX2_appendMany_77 : decode cX2_appendMany 77 = .ok (.invokevirtual 73, 3) := by decide +kernel
theorem dX2_appendMany_80 : decode cX2_appendMany 80 = .ok (.iinc 6 1, 3) := by decide +kernel
theorem dX2_appendMany_83 : decode cX2_appendMany 83 = .ok (.goto (-19), 3) := by decide +kernel
theorem dX2_appendMany_86 : decode cX2_appendMany 86 = .ok (.aload_n 0, 1) := by decide +kernel
theorem dX2_appendMany_87 : decode cX2_appendMany 87 = .ok (.getfield 24, 3) := by decide +kernel
theorem dX2_appendMany_90 : decode cX2_appendMany 90 = .ok (.invokevirtual 76, 3) := by decide +kernel
theorem dX2_appendMany_93 : decode cX2_appendMany 93 = .ok (.ireturn, 1) := by decide +kernel
set_option maxRecDepth 20000 in
theorem ggX2_insert_X2_needKey : GoodIn wsX2_insert wsX2_needKey := goodIn_ca (goodIn_r _ [10, 11, 12, 13, 14] (by decide +kernel) (by decide +kernel)) (goodIn_sub (fun _ h => List.mem_cons_of_mem _ (List.mem_append_right _ h)) (by decide +kernel))
set_option maxRecDepth 20000 in
theorem gX2_insert_X2_needKey : GoodIn wsX2_insert (va_wsS RX2 65 yX2_needKey wsX2_needKey) := goodIn_app (goodIn_of _ (by decide +kernel)) ggX2_insert_X2_needKey
set_option maxRecDepth 20000 in
theorem ggX2_insert_X0_indexOf : GoodIn wsX2_insert wsX0_indexOf := goodIn_r _ [19, 20, 21, 22, 23, 18, 24, 25, 26, 27, 28, 29, 30, 31, 32, 33, 174, 175] (by decide +kernel) (by decide +kernel)
set_option maxRecDepth 20000 in
theorem gX2_insert_X0_indexOf : GoodIn wsX2_insert (wsV RX2 87 RX0 yX0_indexOf wsX0_indexOf) := goodIn_app (goodIn_of _ (by decide +kernel)) ggX2_insert_X0_indexOf
set_option maxRecDepth 20000 in
theorem ggX2_insert_X2_isThere : GoodIn wsX2_insert wsX2_isThere := goodIn_r _ [37, 3, 6, 4, 15, 16, 17, 18, 19, 20, 21, 22, 23, 24, 25, 26, 27, 28, 29, 30, 31, 32, 33, 38, 159, 160, 161, 162, 163, 164, 165, 166, 167, 168, 169, 170, 171, 172, 173, 174, 175] (by decide +kernel) (by decide +kernel)
set_option maxRecDepth 20000 in
theorem gX2_insert_X2_isThere : GoodIn wsX2_insert (wsV RX2 91 RX2 yX2_isThere wsX2_isThere) := goodIn_app (goodIn_of _ (by decide +kernel)) ggX2_insert_X2_isThere
set_option maxRecDepth 20000 in
theorem ggX2_insert_X2_allKeys : GoodIn wsX2_insert wsX2_allKeys := goodIn_r _ [42, 3, 6, 43, 44, 45, 18, 46, 25, 159, 160, 161, 162, 163, 164, 165, 166, 167, 168, 169, 170, 171, 172, 173, 174, 175] (by decide +kernel) (by decide +kernel)
set_option maxRecDepth 20000 in
theorem gX2_insert_X2_allKeys : GoodIn wsX2_insert (wsV RX2 95 RX2 yX2_allKeys wsX2_allKeys) := goodIn_app (goodIn_of _ (by decide +kernel)) ggX2_insert_X2_allKeys
theorem mi_X2_insert_1 {w : Cond} (h : w ∈ wsX2_insert_r1) : w ∈ wsX2_insert := (List.mem_cons_of_mem _ (List.mem_append_left _ (List.mem_append_left _ (List.mem_append_left _ (List.mem_append_left _ (List.mem_append_left _ (List.mem_append_left _ h)))))))
theorem mi_X2_insert_2 {w : Cond} (h : w ∈ wsX2_insert_r2) : w ∈ wsX2_insert := (List.mem_cons_of_mem _ (List.mem_append_left _ (List.mem_append_left _ (List.mem_append_left _ (List.mem_append_left _ (List.mem_append_left _ (List.mem_append_right _ (List.mem_append_left _ h))))))))
theorem mi_X2_insert_3 {w : Cond} (h : w ∈ wsX2_insert_r3) : w ∈ wsX2_insert := (List.mem_cons_of_mem _ (List.mem_append_left _ (List.mem_append_left _ (List.mem_append_left _ (List.mem_append_left _ (List.mem_append_left _ (List.mem_append_right _ (List.mem_append_right _ (List.mem_append_left _ h)))))))))
theorem mi_X2_insert_4 {w : Cond} (h : w ∈ wsX2_insert_r4) : w ∈ wsX2_insert := (List.mem_cons_of_mem _ (List.mem_append_left _ (List.mem_append_left _ (List.mem_append_left _ (List.mem_append_left _ (List.mem_append_left _ (List.mem_append_right _ (List.mem_append_right _ (List.mem_append_right _ (List.mem_append_left _ h))))))))))
theorem mi_X2_insert_5 {w : Cond} (h : w ∈ wsX2_insert_r5) : w ∈ wsX2_insert := (List.mem_cons_of_mem _ (List.mem_append_left _ (List.mem_append_left _ (List.mem_append_left _ (List.mem_append_left _ (List.mem_append_left _ (List.mem_append_right _ (List.mem_append_right _ (List.mem_append_right _ (List.mem_append_right _ (List.mem_append_left _ h)))))))))))
theorem mi_X2_insert_6 {w : Cond} (h : w ∈ wsX2_insert_r6) : w ∈ wsX2_insert := (List.mem_cons_of_mem _ (List.mem_append_left _ (List.mem_append_left _ (List.mem_append_left _ (List.mem_append_left _ (List.mem_append_left _ (List.mem_append_right _ (List.mem_append_right _ (List.mem_append_right _ (List.mem_append_right _ (List.mem_append_right _ (List.mem_append_left _ h))))))))))))
theorem mi_X2_insert_7 {w : Cond} (h : w ∈ wsX2_insert_r7) : w ∈ wsX2_insert := (List.mem_cons_of_mem _ (List.mem_append_left _ (List.mem_append_left _ (List.mem_append_left _ (List.mem_append_left _ (List.mem_append_left _ (List.mem_append_right _ (List.mem_append_right _ (List.mem_append_right _ (List.mem_append_right _ (List.mem_append_right _ (List.mem_append_right _ h))))))))))))
set_option maxRecDepth 20000 in
theorem gi_X2_insert_X2_addLate_0 : ∀ w ∈ wsX2_addLate_r1, w ∈ wsX2_insert := by
  unfold wsX2_addLate_r1
  exact (List.forall_mem_cons.mpr ⟨(mi_X2_insert_1 (List.mem_of_getElem? (i := 5) rfl)), (List.forall_mem_cons.mpr ⟨(mi_X2_insert_3 (List.mem_of_getElem? (i := 2) rfl)), (List.forall_mem_cons.mpr ⟨(mi_X2_insert_3 (List.mem_of_getElem? (i := 3) rfl)), (List.forall_mem_cons.mpr ⟨(mi_X2_insert_1 (List.mem_of_getElem? (i := 21) rfl)), (List.forall_mem_cons.mpr ⟨(mi_X2_insert_1 (List.mem_of_getElem? (i := 22) rfl)), (List.forall_mem_cons.mpr ⟨(mi_X2_insert_1 (List.mem_of_getElem? (i := 17) rfl)), (List.forall_mem_cons.mpr ⟨(mi_X2_insert_1 (List.mem_of_getElem? (i := 23) rfl)), (List.forall_mem_cons.mpr ⟨(mi_X2_insert_2 (List.mem_of_getElem? (i := 0) rfl)), (List.forall_mem_cons.mpr ⟨(mi_X2_insert_2 (List.mem_of_getElem? (i := 1) rfl)), (List.forall_mem_cons.mpr ⟨(mi_X2_insert_2 (List.mem_of_getElem? (i := 2) rfl)), (List.forall_mem_cons.mpr ⟨(mi_X2_insert_2 (List.mem_of_getElem? (i := 3) rfl)), (List.forall_mem_cons.mpr ⟨(mi_X2_insert_2 (List.mem_of_getElem? (i := 4) rfl)), (List.forall_mem_cons.mpr ⟨(mi_X2_insert_1 (List.mem_of_getElem? (i := 19) rfl)), (List.forall_mem_cons.mpr ⟨(mi_X2_insert_2 (List.mem_of_getElem? (i := 5) rfl)), (List.forall_mem_cons.mpr ⟨(mi_X2_insert_2 (List.mem_of_getElem? (i := 6) rfl)), (List.forall_mem_cons.mpr ⟨(mi_X2_insert_2 (List.mem_of_getElem? (i := 7) rfl)), (List.forall_mem_cons.mpr ⟨(mi_X2_insert_2 (List.mem_of_getElem? (i := 8) rfl)), (List.forall_mem_cons.mpr ⟨(mi_X2_insert_3 (List.mem_of_getElem? (i := 4) rfl)), (List.forall_mem_cons.mpr ⟨(mi_X2_insert_3 (List.mem_of_getElem? (i := 5) rfl)), (List.forall_mem_cons.mpr ⟨(mi_X2_insert_3 (List.mem_of_getElem? (i := 6) rfl)), (List.forall_mem_cons.mpr ⟨(mi_X2_insert_3 (List.mem_of_getElem? (i := 7) rfl)), (List.forall_mem_cons.mpr ⟨(mi_X2_insert_3 (List.mem_of_getElem? (i := 8) rfl)), (List.forall_mem_cons.mpr ⟨(mi_X2_insert_3 (List.mem_of_getElem? (i := 9) rfl)), (List.forall_mem_cons.mpr ⟨(mi_X2_insert_3 (List.mem_of_getElem? (i := 10) rfl)), (fun _ h => absurd h List.not_mem_nil)⟩)⟩)⟩)⟩)⟩)⟩)⟩)⟩)⟩)⟩)⟩)⟩)⟩)⟩)⟩)⟩)⟩)⟩)⟩)⟩)⟩)⟩)⟩)⟩)
set_option maxRecDepth 20000 in
theorem gi_X2_insert_X2_addLate_1 : ∀ w ∈ wsX2_addLate_r2, w ∈ wsX2_insert := by
  unfold wsX2_addLate_r2
  exact (List.forall_mem_cons.mpr ⟨(mi_X2_insert_3 (List.mem_of_getElem? (i := 11) rfl)), (List.forall_mem_cons.mpr ⟨(mi_X2_insert_3 (List.mem_of_getElem? (i := 12) rfl)), (List.forall_mem_cons.mpr ⟨(mi_X2_insert_3 (List.mem_of_getElem? (i := 13) rfl)), (List.forall_mem_cons.mpr ⟨(mi_X2_insert_3 (List.mem_of_getElem? (i := 14) rfl)), (List.forall_mem_cons.mpr ⟨(mi_X2_insert_3 (List.mem_of_getElem? (i := 15) rfl)), (List.forall_mem_cons.mpr ⟨(mi_X2_insert_2 (List.mem_of_getElem? (i := 18) rfl)), (List.forall_mem_cons.mpr ⟨(mi_X2_insert_2 (List.mem_of_getElem? (i := 19) rfl)), (List.forall_mem_cons.mpr ⟨(mi_X2_insert_2 (List.mem_of_getElem? (i := 20) rfl)), (List.forall_mem_cons.mpr ⟨(mi_X2_insert_2 (List.mem_of_getElem? (i := 21) rfl)), (List.forall_mem_cons.mpr ⟨(mi_X2_insert_3 (List.mem_of_getElem? (i := 16) rfl)), (List.forall_mem_cons.mpr ⟨(mi_X2_insert_3 (List.mem_of_getElem? (i := 17) rfl)), (List.forall_mem_cons.mpr ⟨(mi_X2_insert_3 (List.mem_of_getElem? (i := 18) rfl)), (List.forall_mem_cons.mpr ⟨(mi_X2_insert_1 (List.mem_of_getElem? (i := 8) rfl)), (List.forall_mem_cons.mpr ⟨(mi_X2_insert_3 (List.mem_of_getElem? (i := 19) rfl)), (List.forall_mem_cons.mpr ⟨(mi_X2_insert_3 (List.mem_of_getElem? (i := 20) rfl)), (List.forall_mem_cons.mpr ⟨(mi_X2_insert_3 (List.mem_of_getElem? (i := 21) rfl)), (List.forall_mem_cons.mpr ⟨(mi_X2_insert_3 (List.mem_of_getElem? (i := 22) rfl)), (List.forall_mem_cons.mpr ⟨(mi_X2_insert_1 (List.mem_of_getElem? (i := 2) rfl)), (List.forall_mem_cons.mpr ⟨(mi_X2_insert_1 (List.mem_of_getElem? (i := 3) rfl)), (List.forall_mem_cons.mpr ⟨(mi_X2_insert_3 (List.mem_of_getElem? (i := 23) rfl)), (List.forall_mem_cons.mpr ⟨(mi_X2_insert_4 (List.mem_of_getElem? (i := 0) rfl)), (List.forall_mem_cons.mpr ⟨(mi_X2_insert_4 (List.mem_of_getElem? (i := 1) rfl)), (List.forall_mem_cons.mpr ⟨(mi_X2_insert_4 (List.mem_of_getElem? (i := 2) rfl)), (List.forall_mem_cons.mpr ⟨(mi_X2_insert_4 (List.mem_of_getElem? (i := 3) rfl)), (fun _ h => absurd h List.not_mem_nil)⟩)⟩)⟩)⟩)⟩)⟩)⟩)⟩)⟩)⟩)⟩)⟩)⟩)⟩)⟩)⟩)⟩)⟩)⟩)⟩)⟩)⟩)⟩)⟩)
set_option maxRecDepth 20000 in
theorem gi_X2_insert_X2_addLate_2 : ∀ w ∈ wsX2_addLate_r3, w ∈ wsX2_insert := by
  unfold wsX2_addLate_r3
  exact (List.forall_mem_cons.mpr ⟨(mi_X2_insert_4 (List.mem_of_getElem? (i := 4) rfl)), (List.forall_mem_cons.mpr ⟨(mi_X2_insert_4 (List.mem_of_getElem? (i := 5) rfl)), (List.forall_mem_cons.mpr ⟨(mi_X2_insert_4 (List.mem_of_getElem? (i := 6) rfl)), (List.forall_mem_cons.mpr ⟨(mi_X2_insert_4 (List.mem_of_getElem? (i := 7) rfl)), (List.forall_mem_cons.mpr ⟨(mi_X2_insert_2 (List.mem_of_getElem? (i := 13) rfl)), (List.forall_mem_cons.mpr ⟨(mi_X2_insert_4 (List.mem_of_getElem? (i := 8) rfl)), (List.forall_mem_cons.mpr ⟨(mi_X2_insert_4 (List.mem_of_getElem? (i := 9) rfl)), (List.forall_mem_cons.mpr ⟨(mi_X2_insert_4 (List.mem_of_getElem? (i := 10) rfl)), (List.forall_mem_cons.mpr ⟨(mi_X2_insert_4 (List.mem_of_getElem? (i := 11) rfl)), (List.forall_mem_cons.mpr ⟨(mi_X2_insert_4 (List.mem_of_getElem? (i := 12) rfl)), (List.forall_mem_cons.mpr ⟨(mi_X2_insert_4 (List.mem_of_getElem? (i := 13) rfl)), (List.forall_mem_cons.mpr ⟨(mi_X2_insert_4 (List.mem_of_getElem? (i := 14) rfl)), (List.forall_mem_cons.mpr ⟨(mi_X2_insert_4 (List.mem_of_getElem? (i := 15) rfl)), (List.forall_mem_cons.mpr ⟨(mi_X2_insert_4 (List.mem_of_getElem? (i := 16) rfl)), (List.forall_mem_cons.mpr ⟨(mi_X2_insert_4 (List.mem_of_getElem? (i := 17) rfl)), (List.forall_mem_cons.mpr ⟨(mi_X2_insert_4 (List.mem_of_getElem? (i := 18) rfl)), (List.forall_mem_cons.mpr ⟨(mi_X2_insert_4 (List.mem_of_getElem? (i := 19) rfl)), (List.forall_mem_cons.mpr ⟨(mi_X2_insert_4 (List.mem_of_getElem? (i := 20) rfl)), (List.forall_mem_cons.mpr ⟨(mi_X2_insert_4 (List.mem_of_getElem? (i := 21) rfl)), (List.forall_mem_cons.mpr ⟨(mi_X2_insert_4 (List.mem_of_getElem? (i := 22) rfl)), (List.forall_mem_cons.mpr ⟨(mi_X2_insert_4 (List.mem_of_getElem? (i := 23) rfl)), (List.forall_mem_cons.mpr ⟨(mi_X2_insert_5 (List.mem_of_getElem? (i := 0) rfl)), (List.forall_mem_cons.mpr ⟨(mi_X2_insert_5 (List.mem_of_getElem? (i := 1) rfl)), (List.forall_mem_cons.mpr ⟨(mi_X2_insert_5 (List.mem_of_getElem? (i := 2) rfl)), (fun _ h => absurd h List.not_mem_nil)⟩)⟩)⟩)⟩)⟩)⟩)⟩)⟩)⟩)⟩)⟩)⟩)⟩)⟩)⟩)⟩)⟩)⟩)⟩)⟩)⟩)⟩)⟩)⟩)
set_option maxRecDepth 20000 in
theorem gi_X2_insert_X2_addLate_3 : ∀ w ∈ wsX2_addLate_r4, w ∈ wsX2_insert := by
  unfold wsX2_addLate_r4
  exact (List.forall_mem_cons.mpr ⟨(mi_X2_insert_5 (List.mem_of_getElem? (i := 3) rfl)), (List.forall_mem_cons.mpr ⟨(mi_X2_insert_5 (List.mem_of_getElem? (i := 4) rfl)), (List.forall_mem_cons.mpr ⟨(mi_X2_insert_5 (List.mem_of_getElem? (i := 5) rfl)), (List.forall_mem_cons.mpr ⟨(mi_X2_insert_5 (List.mem_of_getElem? (i := 6) rfl)), (List.forall_mem_cons.mpr ⟨(mi_X2_insert_5 (List.mem_of_getElem? (i := 7) rfl)), (List.forall_mem_cons.mpr ⟨(mi_X2_insert_5 (List.mem_of_getElem? (i := 8) rfl)), (List.forall_mem_cons.mpr ⟨(mi_X2_insert_5 (List.mem_of_getElem? (i := 9) rfl)), (List.forall_mem_cons.mpr ⟨(mi_X2_insert_5 (List.mem_of_getElem? (i := 10) rfl)), (List.forall_mem_cons.mpr ⟨(mi_X2_insert_5 (List.mem_of_getElem? (i := 11) rfl)), (List.forall_mem_cons.mpr ⟨(mi_X2_insert_5 (List.mem_of_getElem? (i := 12) rfl)), (List.forall_mem_cons.mpr ⟨(mi_X2_insert_5 (List.mem_of_getElem? (i := 13) rfl)), (List.forall_mem_cons.mpr ⟨(mi_X2_insert_5 (List.mem_of_getElem? (i := 14) rfl)), (List.forall_mem_cons.mpr ⟨(mi_X2_insert_5 (List.mem_of_getElem? (i := 15) rfl)), (List.forall_mem_cons.mpr ⟨(mi_X2_insert_5 (List.mem_of_getElem? (i := 16) rfl)), (List.forall_mem_cons.mpr ⟨(mi_X2_insert_5 (List.mem_of_getElem? (i := 17) rfl)), (List.forall_mem_cons.mpr ⟨(mi_X2_insert_5 (List.mem_of_getElem? (i := 18) rfl)), (List.forall_mem_cons.mpr ⟨(mi_X2_insert_5 (List.mem_of_getElem? (i := 19) rfl)), (List.forall_mem_cons.mpr ⟨(mi_X2_insert_5 (List.mem_of_getElem? (i := 20) rfl)), (List.forall_mem_cons.mpr ⟨(mi_X2_insert_5 (List.mem_of_getElem? (i := 21) rfl)), (List.forall_mem_cons.mpr ⟨(mi_X2_insert_5 (List.mem_of_getElem? (i := 22) rfl)), (List.forall_mem_cons.mpr ⟨(mi_X2_insert_5 (List.mem_of_getElem? (i := 23) rfl)), (List.forall_mem_cons.mpr ⟨(mi_X2_insert_6 (List.mem_of_getElem? (i := 0) rfl)), (List.forall_mem_cons.mpr ⟨(mi_X2_insert_6 (List.mem_of_getElem? (i := 1) rfl)), (List.forall_mem_cons.mpr ⟨(mi_X2_insert_1 (List.mem_of_getElem? (i := 4) rfl)), (fun _ h => absurd h List.not_mem_nil)⟩)⟩)⟩)⟩)⟩)⟩)⟩)⟩)⟩)⟩)⟩)⟩)⟩)⟩)⟩)⟩)⟩)⟩)⟩)⟩)⟩)⟩)⟩)⟩)
set_option maxRecDepth 20000 in
theorem gi_X2_insert_X2_addLate_4 : ∀ w ∈ wsX2_addLate_r5, w ∈ wsX2_insert := by
  unfold wsX2_addLate_r5
  exact (List.forall_mem_cons.mpr ⟨(mi_X2_insert_6 (List.mem_of_getElem? (i := 2) rfl)), (List.forall_mem_cons.mpr ⟨(mi_X2_insert_6 (List.mem_of_getElem? (i := 3) rfl)), (List.forall_mem_cons.mpr ⟨(mi_X2_insert_6 (List.mem_of_getElem? (i := 4) rfl)), (List.forall_mem_cons.mpr ⟨(mi_X2_insert_6 (List.mem_of_getElem? (i := 5) rfl)), (List.forall_mem_cons.mpr ⟨(mi_X2_insert_6 (List.mem_of_getElem? (i := 6) rfl)), (List.forall_mem_cons.mpr ⟨(mi_X2_insert_6 (List.mem_of_getElem? (i := 7) rfl)), (List.forall_mem_cons.mpr ⟨(mi_X2_insert_6 (List.mem_of_getElem? (i := 8) rfl)), (List.forall_mem_cons.mpr ⟨(mi_X2_insert_6 (List.mem_of_getElem? (i := 9) rfl)), (List.forall_mem_cons.mpr ⟨(mi_X2_insert_6 (List.mem_of_getElem? (i := 10) rfl)), (List.forall_mem_cons.mpr ⟨(mi_X2_insert_6 (List.mem_of_getElem? (i := 11) rfl)), (List.forall_mem_cons.mpr ⟨(mi_X2_insert_6 (List.mem_of_getElem? (i := 12) rfl)), (List.forall_mem_cons.mpr ⟨(mi_X2_insert_6 (List.mem_of_getElem? (i := 13) rfl)), (List.forall_mem_cons.mpr ⟨(mi_X2_insert_6 (List.mem_of_getElem? (i := 14) rfl)), (List.forall_mem_cons.mpr ⟨(mi_X2_insert_6 (List.mem_of_getElem? (i := 15) rfl)), (List.forall_mem_cons.mpr ⟨(mi_X2_insert_6 (List.mem_of_getElem? (i := 16) rfl)), (List.forall_mem_cons.mpr ⟨(mi_X2_insert_6 (List.mem_of_getElem? (i := 17) rfl)), (List.forall_mem_cons.mpr ⟨(mi_X2_insert_6 (List.mem_of_getElem? (i := 18) rfl)), (List.forall_mem_cons.mpr ⟨(mi_X2_insert_6 (List.mem_of_getElem? (i := 19) rfl)), (List.forall_mem_cons.mpr ⟨(mi_X2_insert_6 (List.mem_of_getElem? (i := 20) rfl)), (List.forall_mem_cons.mpr ⟨(mi_X2_insert_6 (List.mem_of_getElem? (i := 21) rfl)), (List.forall_mem_cons.mpr ⟨(mi_X2_insert_6 (List.mem_of_getElem? (i := 22) rfl)), (List.forall_mem_cons.mpr ⟨(mi_X2_insert_6 (List.mem_of_getElem? (i := 23) rfl)), (List.forall_mem_cons.mpr ⟨(mi_X2_insert_7 (List.mem_of_getElem? (i := 0) rfl)), (List.forall_mem_cons.mpr ⟨(mi_X2_insert_7 (List.mem_of_getElem? (i := 1) rfl)), (fun _ h => absurd h List.not_mem_nil)⟩)⟩)⟩)⟩)⟩)⟩)⟩)⟩)⟩)⟩)⟩)⟩)⟩)⟩)⟩)⟩)⟩)⟩)⟩)⟩)⟩)⟩)⟩)⟩)
set_option maxRecDepth 20000 in
theorem gi_X2_insert_X2_addLate_5 : ∀ w ∈ wsX2_addLate_r6, w ∈ wsX2_insert := by
  unfold wsX2_addLate_r6
  exact (List.forall_mem_cons.mpr ⟨(mi_X2_insert_7 (List.mem_of_getElem? (i := 2) rfl)), (List.forall_mem_cons.mpr ⟨(mi_X2_insert_7 (List.mem_of_getElem? (i := 3) rfl)), (List.forall_mem_cons.mpr ⟨(mi_X2_insert_7 (List.mem_of_getElem? (i := 4) rfl)), (List.forall_mem_cons.mpr ⟨(mi_X2_insert_7 (List.mem_of_getElem? (i := 5) rfl)), (List.forall_mem_cons.mpr ⟨(mi_X2_insert_7 (List.mem_of_getElem? (i := 6) rfl)), (List.forall_mem_cons.mpr ⟨(mi_X2_insert_7 (List.mem_of_getElem? (i := 7) rfl)), (List.forall_mem_cons.mpr ⟨(mi_X2_insert_7 (List.mem_of_getElem? (i := 8) rfl)), (List.forall_mem_cons.mpr ⟨(mi_X2_insert_7 (List.mem_of_getElem? (i := 9) rfl)), (List.forall_mem_cons.mpr ⟨(mi_X2_insert_7 (List.mem_of_getElem? (i := 10) rfl)), (List.forall_mem_cons.mpr ⟨(mi_X2_insert_7 (List.mem_of_getElem? (i := 11) rfl)), (List.forall_mem_cons.mpr ⟨(mi_X2_insert_7 (List.mem_of_getElem? (i := 12) rfl)), (List.forall_mem_cons.mpr ⟨(mi_X2_insert_7 (List.mem_of_getElem? (i := 13) rfl)), (fun _ h => absurd h List.not_mem_nil)⟩)⟩)⟩)⟩)⟩)⟩)⟩)⟩)⟩)⟩)⟩)⟩)
theorem gi_X2_insert_X2_addLate : GoodIn wsX2_insert (.code yX2_addLate cX2_addLate 2 none :: ((wsX2_addLate_r1 ++ (wsX2_addLate_r2 ++ (wsX2_addLate_r3 ++ (wsX2_addLate_r4 ++ (wsX2_addLate_r5 ++ wsX2_addLate_r6))))) ++ wsX20 ++ wsX00 ++ wsX10)) := goodIn_c (goodIn_sub (List.forall_mem_cons.mpr ⟨(mi_X2_insert_3 (List.mem_of_getElem? (i := 1) rfl)), fun _ h => absurd h List.not_mem_nil⟩) (by decide +kernel)) (goodIn_app (goodIn_app (goodIn_app (goodIn_app (goodIn_sub gi_X2_insert_X2_addLate_0 (by decide +kernel)) (goodIn_app (goodIn_sub gi_X2_insert_X2_addLate_1 (by decide +kernel)) (goodIn_app (goodIn_sub gi_X2_insert_X2_addLate_2 (by decide +kernel)) (goodIn_app (goodIn_sub gi_X2_insert_X2_addLate_3 (by decide +kernel)) (goodIn_app (goodIn_sub gi_X2_insert_X2_addLate_4 (by decide +kernel)) (goodIn_sub gi_X2_insert_X2_addLate_5 (by decide +kernel))))))) (goodIn_sub (fun _ h => (List.mem_cons_of_mem _ (List.mem_append_left _ (List.mem_append_left _ (List.mem_append_left _ (List.mem_append_left _ (List.mem_append_right _ h))))))) (by decide +kernel))) (goodIn_sub (fun _ h => (List.mem_cons_of_mem _ (List.mem_append_left _ (List.mem_append_left _ (List.mem_append_left _ (List.mem_append_right _ h)))))) (by decide +kernel))) (goodIn_sub (fun _ h => (List.mem_cons_of_mem _ (List.mem_append_left _ (List.mem_append_left _ (List.mem_append_right _ h))))) (by decide +kernel)))
set_option maxRecDepth 20000 in
theorem ggX2_insert_X2_addLate : GoodIn wsX2_insert wsX2_addLate := gi_X2_insert_X2_addLate
set_option maxRecDepth 20000 in
theorem gX2_insert_X2_addLate : GoodIn wsX2_insert (wsV RX2 103 RX2 yX2_addLate wsX2_addLate) := goodIn_app (goodIn_of _ (by decide +kernel)) ggX2_insert_X2_addLate
set_option maxRecDepth 20000 in
theorem ggX2_insert_X0_put : GoodIn wsX2_insert wsX0_put := goodIn_r _ [64, 20, 30, 31, 32, 18, 33, 25, 174, 175] (by decide +kernel) (by decide +kernel)
set_option maxRecDepth 20000 in
theorem gX2_insert_X0_put : GoodIn wsX2_insert (wsV RX2 106 RX0 yX0_put wsX0_put) := goodIn_app (goodIn_of _ (by decide +kernel)) ggX2_insert_X0_put
set_option maxRecDepth 20000 in
theorem ggX2_insert_X0_length : GoodIn wsX2_insert wsX0_length := goodIn_r _ [46, 25, 174, 175] (by decide +kernel) (by decide +kernel)
set_option maxRecDepth 20000 in
theorem gX2_insert_X0_length : GoodIn wsX2_insert (wsV RX2 76 RX0 yX0_length wsX0_length) := goodIn_app (goodIn_of _ (by decide +kernel)) ggX2_insert_X0_length
theorem dX2_insert_0 : decode cX2_insert 0 = .ok (.iload_n 1, 1) := by decide +kernel
theorem dX2_insert_1 : decode cX2_insert 1 = .ok (.i2l, 1) := by decide +kernel
theorem dX2_insert_2 : decode cX2_insert 2 = .ok (.invokestatic 65, 3) := by decide +kernel
theorem dX2_insert_5 : decode cX2_insert 5 = .ok (.aload_n 0, 1) := by decide +kernel
theorem dX2_insert_6 : decode cX2_insert 6 = .ok (.getfield 14, 3) := by decide +kernel
theorem dX2_insert_9 : decode cX2_insert 9 = .ok (.iload_n 1, 1) := by decide +kernel
theorem dX2_insert_10 : decode cX2_insert 10 = .ok (.invokevirtual 87, 3) := by decide +kernel
theorem dX2_insert_13 : decode cX2_insert 13 = .ok (.istore_n 2, 1) := by decide +kernel
theorem dX2_insert_14 : decode cX2_insert 14 = .ok (.aload_n 0, 1) := by decide +kernel
theorem dX2_insert_15 : decode cX2_insert 15 = .ok (.iload_n 1, 1) := by decide +kernel
theorem dX2_insert_16 : decode cX2_insert 16 = .ok (.invokevirtual 91, 3) := by decide +kernel
theorem dX2_insert_19 : decode cX2_insert 19 = .ok (.ifCond .ne 18, 3) := by decide +kernel
theorem dX2_insert_22 : decode cX2_insert 22 = .ok (.iload_n 2, 1) := by decide +kernel
theorem dX2_insert_23 : decode cX2_insert 23 = .ok (.iconst (-1), 1) := by decide +kernel
theorem dX2_insert_24 : decode cX2_insert 24 = .ok (.if_icmp .ne 23, 3) := by decide +kernel
theorem dX2_insert_27 : decode cX2_insert 27 = .ok (.aload_n 0, 1) := by decide +kernel
theorem dX2_insert_28 : decode cX2_insert 28 = .ok (.invokevirtual 95, 3) := by decide +kernel
theorem dX2_insert_31 : decode cX2_insert 31 = .ok (.sipush 256, 3) := by decide +kernel
theorem dX2_insert_34 : decode cX2_insert 34 = .ok (.if_icmp .lt 13, 3) := by decide +kernel
theorem dX2_insert_37 : decode cX2_insert 37 = .ok (.new 98, 3) := by decide +kernel
theorem dX2_insert_40 : decode cX2_insert 40 = .ok (.dup, 1) := by decide +kernel
theorem dX2_insert_41 : decode cX2_insert 41 = .ok (.ldc 100, 2) := by decide +kernel
theorem dX2_insert_43 : decode cX2_insert 43 = .ok (.invokespecial 102, 3) := by decide +kernel
theorem dX2_insert_46 : decode cX2_insert 46 = .ok (.athrow, 1) := by decide +kernel
theorem dX2_insert_47 : decode cX2_insert 47 = .ok (.iload_n 2, 1) := by decide +kernel
theorem dX2_insert_48 : decode cX2_insert 48 = .ok (.iconst (-1), 1) := by decide +kernel
theorem dX2_insert_49 : decode cX2_insert 49 = .ok (.if_icmp .ne 11, 3) := by decide +kernel
theorem dX2_insert_52 : decode cX2_insert 52 = .ok (.aload_n 0, 1) := by decide +kernel
theorem dX2_insert_53 : decode cX2_insert 53 = .ok (.iload_n 1, 1) := by decide +kernel
theorem dX2_insert_54 : decode cX2_insert 54 = .ok (.invokevirtual 103, 3) := by decide +kernel
theorem dX2_insert_57 : decode cX2_insert 57 = .ok (.goto 22, 3) := by decide +kernel
theorem dX2_insert_60 : decode cX2_insert 60 = .ok (.aload_n 0, 1) := by decide +kernel
theorem dX2_insert_61 : decode cX2_insert 61 = .ok (.getfield 18, 3) := by decide +kernel
theorem dX2_insert_64 : decode cX2_insert 64 = .ok (.iload_n 2, 1) := by decide +kernel
theorem dX2_insert_65 : decode cX2_insert 65 = .ok (.iconst 0, 1) := by decide +kernel
theorem dX2_insert_66 : decode cX2_insert 66 = .ok (.invokevirtual 106, 3) := by decide +kernel
theorem dX2_insert_69 : decode cX2_insert 69 = .ok (.aload_n 0, 1) := by decide +kernel
theorem dX2_insert_70 : decode cX2_insert 70 = .ok (.dup, 1) := by decide +kernel
theorem dX2_insert_71 : decode cX2_insert 71 = .ok (.getfield 53, 3) := by decide +kernel
theorem dX2_insert_74 : decode cX2_insert 74 = .ok (.iconst 1, 1) := by decide +kernel
theorem dX2_insert_75 : decode cX2_insert 75 = .ok (.isub, 1) := by decide +kernel
theorem dX2_insert_76 : decode cX2_insert 76 = .ok (.putfield 53, 3) := by decide +kernel
theorem dX2_insert_79 : decode cX2_insert 79 = .ok (.aload_n 0, 1) := by decide +kernel
theorem dX2_insert_80 : decode cX2_insert 80 = .ok (.getfield 21, 3) := by decide +kernel
theorem dX2_insert_83 : decode cX2_insert 83 = .ok (.invokevirtual 76, 3) := by decide +kernel
theorem dX2_insert_86 : decode cX2_insert 86 = .ok (.ireturn, 1) := by decide +kernel
set_option maxRecDepth 20000 in
theorem ggX2_remove_X2_isThere : GoodIn wsX2_remove wsX2_isThere := goodIn_r _ [11, 3, 4, 5, 12, 13, 14, 15, 16, 17, 18, 19, 20, 21, 22, 23, 24, 25, 26, 27, 28, 29, 30, 31, 54, 55, 56, 57, 58, 59, 60, 61, 62, 63, 64, 65, 66, 67, 68, 69, 70] (by decide +kernel) (by decide +kernel)
set_option maxRecDepth 20000 in
theorem gX2_remove_X2_isThere : GoodIn wsX2_remove (wsV RX2 91 RX2 yX2_isThere wsX2_isThere) := goodIn_app (goodIn_of _ (by decide +kernel)) ggX2_remove_X2_isThere
set_option maxRecDepth 20000 in
theorem ggX2_remove_X0_indexOf : GoodIn wsX2_remove wsX0_indexOf := goodIn_r _ [16, 17, 18, 19, 20, 15, 21, 22, 23, 24, 25, 26, 27, 28, 29, 30, 69, 70] (by decide +kernel) (by decide +kernel)
set_option maxRecDepth 20000 in
theorem gX2_remove_X0_indexOf : GoodIn wsX2_remove (wsV RX2 87 RX0 yX0_indexOf wsX0_indexOf) := goodIn_app (goodIn_of _ (by decide +kernel)) ggX2_remove_X0_indexOf
set_option maxRecDepth 20000 in
theorem ggX2_remove_X0_below : GoodIn wsX2_remove wsX0_below := goodIn_r _ [21, 22, 23, 24, 25, 15, 26, 17, 27, 28, 29, 30, 69, 70] (by decide +kernel) (by decide +kernel)
set_option maxRecDepth 20000 in
theorem gX2_remove_X0_below : GoodIn wsX2_remove (wsV RX2 114 RX0 yX0_below wsX0_below) := goodIn_app (goodIn_of _ (by decide +kernel)) ggX2_remove_X0_below
set_option maxRecDepth 20000 in
theorem ggX2_remove_X0_takeOut : GoodIn wsX2_remove wsX0_takeOut := goodIn_r _ [36, 22, 27, 28, 29, 15, 30, 17, 23, 24, 25, 26, 37, 38, 39, 40, 69, 70] (by decide +kernel) (by decide +kernel)
set_option maxRecDepth 20000 in
theorem gX2_remove_X0_takeOut : GoodIn wsX2_remove (wsV RX2 117 RX0 yX0_takeOut wsX0_takeOut) := goodIn_app (goodIn_of _ (by decide +kernel)) ggX2_remove_X0_takeOut
set_option maxRecDepth 20000 in
theorem ggX2_remove_X0_put : GoodIn wsX2_remove wsX0_put := goodIn_r _ [40, 17, 27, 28, 29, 15, 30, 22, 69, 70] (by decide +kernel) (by decide +kernel)
set_option maxRecDepth 20000 in
theorem gX2_remove_X0_put : GoodIn wsX2_remove (wsV RX2 106 RX0 yX0_put wsX0_put) := goodIn_app (goodIn_of _ (by decide +kernel)) ggX2_remove_X0_put
set_option maxRecDepth 20000 in
theorem ggX2_remove_X2_keysThere : GoodIn wsX2_remove wsX2_keysThere := goodIn_r _ [45, 6, 46, 47, 48, 10, 49, 3, 4, 50, 51, 52, 15, 53, 22, 54, 55, 56, 57, 58, 59, 60, 61, 62, 63, 64, 65, 66, 67, 68, 69, 70] (by decide +kernel) (by decide +kernel)
set_option maxRecDepth 20000 in
theorem gX2_remove_X2_keysThere : GoodIn wsX2_remove (wsV RX2 120 RX2 yX2_keysThere wsX2_keysThere) := goodIn_app (goodIn_of _ (by decide +kernel)) ggX2_remove_X2_keysThere
theorem dX2_remove_0 : decode cX2_remove 0 = .ok (.aload_n 0, 1) := by decide +kernel
theorem dX2_remove_1 : decode cX2_remove 1 = .ok (.iload_n 1, 1) := by decide +kernel
theorem dX2_remove_2 : decode cX2_remove 2 = .ok (.invokevirtual 91, 3) := by decide +kernel
theorem dX2_remove_5 : decode cX2_remove 5 = .ok (.ifCond .ne 13, 3) := by decide +kernel
theorem dX2_remove_8 : decode cX2_remove 8 = .ok (.new 109, 3) := by decide +kernel
theorem dX2_remove_11 : decode cX2_remove 11 = .ok (.dup, 1) := by decide +kernel
theorem dX2_remove_12 : decode cX2_remove 12 = .ok (.ldc 111, 2) := by decide +kernel
theorem dX2_remove_14 : decode cX2_remove 14 = .ok (.invokespecial 113, 3) := by decide +kernel
theorem dX2_remove_17 : decode cX2_remove 17 = .ok (.athrow, 1) := by decide +kernel
theorem dX2_remove_18 : decode cX2_remove 18 = .ok (.aload_n 0, 1) := by decide +kernel
theorem dX2_remove_19 : decode cX2_remove 19 = .ok (.getfield 14, 3) := by decide +kernel
theorem dX2_remove_22 : decode cX2_remove 22 = .ok (.iload_n 1, 1) := by decide +kernel
theorem dX2_remove_23 : decode cX2_remove 23 = .ok (.invokevirtual 87, 3) := by decide +kernel
theorem dX2_remove_26 : decode cX2_remove 26 = .ok (.istore_n 2, 1) := by decide +kernel
theorem dX2_remove_27 : decode cX2_remove 27 = .ok (.iload_n 2, 1) := by decide +kernel
theorem dX2_remove_28 : decode cX2_remove 28 = .ok (.iconst (-1), 1) := by decide +kernel
theorem dX2_remove_29 : decode cX2_remove 29 = .ok (.if_icmp .ne 21, 3) := by decide +kernel
theorem dX2_remove_32 : decode cX2_remove 32 = .ok (.aload_n 0, 1) := by decide +kernel
theorem dX2_remove_33 : decode cX2_remove 33 = .ok (.getfield 21, 3) := by decide +kernel
theorem dX2_remove_36 : decode cX2_remove 36 = .ok (.aload_n 0, 1) := by decide +kernel
theorem dX2_remove_37 : decode cX2_remove 37 = .ok (.getfield 21, 3) := by decide +kernel
theorem dX2_remove_40 : decode cX2_remove 40 = .ok (.iload_n 1, 1) := by decide +kernel
theorem dX2_remove_41 : decode cX2_remove 41 = .ok (.invokevirtual 114, 3) := by decide +kernel
theorem dX2_remove_44 : decode cX2_remove 44 = .ok (.invokevirtual 117, 3) := by decide +kernel
theorem dX2_remove_47 : decode cX2_remove 47 = .ok (.goto 22, 3) := by decide +kernel
theorem dX2_remove_50 : decode cX2_remove 50 = .ok (.aload_n 0, 1) := by decide +kernel
theorem dX2_remove_51 : decode cX2_remove 51 = .ok (.getfield 18, 3) := by decide +kernel
theorem dX2_remove_54 : decode cX2_remove 54 = .ok (.iload_n 2, 1) := by decide +kernel
theorem dX2_remove_55 : decode cX2_remove 55 = .ok (.iconst 1, 1) := by decide +kernel
theorem dX2_remove_56 : decode cX2_remove 56 = .ok (.invokevirtual 106, 3) := by decide +kernel
theorem dX2_remove_59 : decode cX2_remove 59 = .ok (.aload_n 0, 1) := by decide +kernel
theorem dX2_remove_60 : decode cX2_remove 60 = .ok (.dup, 1) := by decide +kernel
theorem dX2_remove_61 : decode cX2_remove 61 = .ok (.getfield 53, 3) := by decide +kernel
theorem dX2_remove_64 : decode cX2_remove 64 = .ok (.iconst 1, 1) := by decide +kernel
theorem dX2_remove_65 : decode cX2_remove 65 = .ok (.iadd, 1) := by decide +kernel
theorem dX2_remove_66 : decode cX2_remove 66 = .ok (.putfield 53, 3) := by decide +kernel
theorem dX2_remove_69 : decode cX2_remove 69 = .ok (.aload_n 0, 1) := by decide +kernel
theorem dX2_remove_70 : decode cX2_remove 70 = .ok (.invokevirtual 120, 3) := by decide +kernel
theorem dX2_remove_73 : decode cX2_remove 73 = .ok (.ireturn, 1) := by decide +kernel
theorem mi_X2_merge_1 {w : Cond} (h : w ∈ wsX2_merge_r1) : w ∈ wsX2_merge := (List.mem_cons_of_mem _ (List.mem_append_left _ (List.mem_append_left _ (List.mem_append_left _ (List.mem_append_left _ h)))))
theorem mi_X2_merge_2 {w : Cond} (h : w ∈ wsX2_merge_r2) : w ∈ wsX2_merge := (List.mem_cons_of_mem _ (List.mem_append_left _ (List.mem_append_left _ (List.mem_append_left _ (List.mem_append_right _ (List.mem_append_left _ h))))))
theorem mi_X2_merge_3 {w : Cond} (h : w ∈ wsX2_merge_r3) : w ∈ wsX2_merge := (List.mem_cons_of_mem _ (List.mem_append_left _ (List.mem_append_left _ (List.mem_append_left _ (List.mem_append_right _ (List.mem_append_right _ (List.mem_append_left _ h)))))))
theorem mi_X2_merge_4 {w : Cond} (h : w ∈ wsX2_merge_r4) : w ∈ wsX2_merge := (List.mem_cons_of_mem _ (List.mem_append_left _ (List.mem_append_left _ (List.mem_append_left _ (List.mem_append_right _ (List.mem_append_right _ (List.mem_append_right _ (List.mem_append_left _ h))))))))
theorem mi_X2_merge_5 {w : Cond} (h : w ∈ wsX2_merge_r5) : w ∈ wsX2_merge := (List.mem_cons_of_mem _ (List.mem_append_left _ (List.mem_append_left _ (List.mem_append_left _ (List.mem_append_right _ (List.mem_append_right _ (List.mem_append_right _ (List.mem_append_right _ (List.mem_append_left _ h)))))))))
theorem mi_X2_merge_6 {w : Cond} (h : w ∈ wsX2_merge_r6) : w ∈ wsX2_merge := (List.mem_cons_of_mem _ (List.mem_append_left _ (List.mem_append_left _ (List.mem_append_left _ (List.mem_append_right _ (List.mem_append_right _ (List.mem_append_right _ (List.mem_append_right _ (List.mem_append_right _ h)))))))))
set_option maxRecDepth 20000 in
theorem gi_X2_merge_X2_mergeAll_0 : ∀ w ∈ wsX2_mergeAll_r1, w ∈ wsX2_merge := by
  unfold wsX2_mergeAll_r1
  exact (List.forall_mem_cons.mpr ⟨(mi_X2_merge_1 (List.mem_of_getElem? (i := 6) rfl)), (List.forall_mem_cons.mpr ⟨(mi_X2_merge_1 (List.mem_of_getElem? (i := 7) rfl)), (List.forall_mem_cons.mpr ⟨(mi_X2_merge_1 (List.mem_of_getElem? (i := 0) rfl)), (List.forall_mem_cons.mpr ⟨(mi_X2_merge_1 (List.mem_of_getElem? (i := 8) rfl)), (List.forall_mem_cons.mpr ⟨(mi_X2_merge_1 (List.mem_of_getElem? (i := 9) rfl)), (List.forall_mem_cons.mpr ⟨(mi_X2_merge_1 (List.mem_of_getElem? (i := 10) rfl)), (List.forall_mem_cons.mpr ⟨(mi_X2_merge_1 (List.mem_of_getElem? (i := 11) rfl)), (List.forall_mem_cons.mpr ⟨(mi_X2_merge_1 (List.mem_of_getElem? (i := 12) rfl)), (List.forall_mem_cons.mpr ⟨(mi_X2_merge_1 (List.mem_of_getElem? (i := 13) rfl)), (List.forall_mem_cons.mpr ⟨(mi_X2_merge_1 (List.mem_of_getElem? (i := 14) rfl)), (List.forall_mem_cons.mpr ⟨(mi_X2_merge_1 (List.mem_of_getElem? (i := 15) rfl)), (List.forall_mem_cons.mpr ⟨(mi_X2_merge_1 (List.mem_of_getElem? (i := 16) rfl)), (List.forall_mem_cons.mpr ⟨(mi_X2_merge_1 (List.mem_of_getElem? (i := 17) rfl)), (List.forall_mem_cons.mpr ⟨(mi_X2_merge_1 (List.mem_of_getElem? (i := 18) rfl)), (List.forall_mem_cons.mpr ⟨(mi_X2_merge_1 (List.mem_of_getElem? (i := 19) rfl)), (List.forall_mem_cons.mpr ⟨(mi_X2_merge_1 (List.mem_of_getElem? (i := 20) rfl)), (List.forall_mem_cons.mpr ⟨(mi_X2_merge_1 (List.mem_of_getElem? (i := 21) rfl)), (List.forall_mem_cons.mpr ⟨(mi_X2_merge_1 (List.mem_of_getElem? (i := 22) rfl)), (List.forall_mem_cons.mpr ⟨(mi_X2_merge_1 (List.mem_of_getElem? (i := 23) rfl)), (List.forall_mem_cons.mpr ⟨(mi_X2_merge_2 (List.mem_of_getElem? (i := 0) rfl)), (List.forall_mem_cons.mpr ⟨(mi_X2_merge_1 (List.mem_of_getElem? (i := 4) rfl)), (List.forall_mem_cons.mpr ⟨(mi_X2_merge_2 (List.mem_of_getElem? (i := 1) rfl)), (List.forall_mem_cons.mpr ⟨(mi_X2_merge_2 (List.mem_of_getElem? (i := 2) rfl)), (List.forall_mem_cons.mpr ⟨(mi_X2_merge_2 (List.mem_of_getElem? (i := 3) rfl)), (fun _ h => absurd h List.not_mem_nil)⟩)⟩)⟩)⟩)⟩)⟩)⟩)⟩)⟩)⟩)⟩)⟩)⟩)⟩)⟩)⟩)⟩)⟩)⟩)⟩)⟩)⟩)⟩)⟩)
set_option maxRecDepth 20000 in
theorem gi_X2_merge_X2_mergeAll_1 : ∀ w ∈ wsX2_mergeAll_r2, w ∈ wsX2_merge := by
  unfold wsX2_mergeAll_r2
  exact (List.forall_mem_cons.mpr ⟨(mi_X2_merge_2 (List.mem_of_getElem? (i := 4) rfl)), (List.forall_mem_cons.mpr ⟨(mi_X2_merge_2 (List.mem_of_getElem? (i := 5) rfl)), (List.forall_mem_cons.mpr ⟨(mi_X2_merge_2 (List.mem_of_getElem? (i := 6) rfl)), (List.forall_mem_cons.mpr ⟨(mi_X2_merge_2 (List.mem_of_getElem? (i := 7) rfl)), (List.forall_mem_cons.mpr ⟨(mi_X2_merge_2 (List.mem_of_getElem? (i := 8) rfl)), (List.forall_mem_cons.mpr ⟨(mi_X2_merge_2 (List.mem_of_getElem? (i := 9) rfl)), (List.forall_mem_cons.mpr ⟨(mi_X2_merge_2 (List.mem_of_getElem? (i := 10) rfl)), (List.forall_mem_cons.mpr ⟨(mi_X2_merge_2 (List.mem_of_getElem? (i := 11) rfl)), (List.forall_mem_cons.mpr ⟨(mi_X2_merge_2 (List.mem_of_getElem? (i := 12) rfl)), (List.forall_mem_cons.mpr ⟨(mi_X2_merge_2 (List.mem_of_getElem? (i := 13) rfl)), (List.forall_mem_cons.mpr ⟨(mi_X2_merge_2 (List.mem_of_getElem? (i := 14) rfl)), (List.forall_mem_cons.mpr ⟨(mi_X2_merge_2 (List.mem_of_getElem? (i := 15) rfl)), (List.forall_mem_cons.mpr ⟨(mi_X2_merge_2 (List.mem_of_getElem? (i := 16) rfl)), (List.forall_mem_cons.mpr ⟨(mi_X2_merge_2 (List.mem_of_getElem? (i := 17) rfl)), (List.forall_mem_cons.mpr ⟨(mi_X2_merge_2 (List.mem_of_getElem? (i := 18) rfl)), (List.forall_mem_cons.mpr ⟨(mi_X2_merge_2 (List.mem_of_getElem? (i := 19) rfl)), (List.forall_mem_cons.mpr ⟨(mi_X2_merge_2 (List.mem_of_getElem? (i := 20) rfl)), (List.forall_mem_cons.mpr ⟨(mi_X2_merge_2 (List.mem_of_getElem? (i := 21) rfl)), (List.forall_mem_cons.mpr ⟨(mi_X2_merge_2 (List.mem_of_getElem? (i := 22) rfl)), (List.forall_mem_cons.mpr ⟨(mi_X2_merge_2 (List.mem_of_getElem? (i := 23) rfl)), (List.forall_mem_cons.mpr ⟨(mi_X2_merge_3 (List.mem_of_getElem? (i := 0) rfl)), (List.forall_mem_cons.mpr ⟨(mi_X2_merge_3 (List.mem_of_getElem? (i := 1) rfl)), (List.forall_mem_cons.mpr ⟨(mi_X2_merge_3 (List.mem_of_getElem? (i := 2) rfl)), (List.forall_mem_cons.mpr ⟨(mi_X2_merge_3 (List.mem_of_getElem? (i := 3) rfl)), (fun _ h => absurd h List.not_mem_nil)⟩)⟩)⟩)⟩)⟩)⟩)⟩)⟩)⟩)⟩)⟩)⟩)⟩)⟩)⟩)⟩)⟩)⟩)⟩)⟩)⟩)⟩)⟩)⟩)
set_option maxRecDepth 20000 in
theorem gi_X2_merge_X2_mergeAll_2 : ∀ w ∈ wsX2_mergeAll_r3, w ∈ wsX2_merge := by
  unfold wsX2_mergeAll_r3
  exact (List.forall_mem_cons.mpr ⟨(mi_X2_merge_3 (List.mem_of_getElem? (i := 4) rfl)), (List.forall_mem_cons.mpr ⟨(mi_X2_merge_3 (List.mem_of_getElem? (i := 5) rfl)), (List.forall_mem_cons.mpr ⟨(mi_X2_merge_3 (List.mem_of_getElem? (i := 6) rfl)), (List.forall_mem_cons.mpr ⟨(mi_X2_merge_3 (List.mem_of_getElem? (i := 7) rfl)), (List.forall_mem_cons.mpr ⟨(mi_X2_merge_3 (List.mem_of_getElem? (i := 8) rfl)), (List.forall_mem_cons.mpr ⟨(mi_X2_merge_3 (List.mem_of_getElem? (i := 9) rfl)), (List.forall_mem_cons.mpr ⟨(mi_X2_merge_3 (List.mem_of_getElem? (i := 10) rfl)), (List.forall_mem_cons.mpr ⟨(mi_X2_merge_3 (List.mem_of_getElem? (i := 11) rfl)), (List.forall_mem_cons.mpr ⟨(mi_X2_merge_3 (List.mem_of_getElem? (i := 12) rfl)), (List.forall_mem_cons.mpr ⟨(mi_X2_merge_3 (List.mem_of_getElem? (i := 13) rfl)), (List.forall_mem_cons.mpr ⟨(mi_X2_merge_3 (List.mem_of_getElem? (i := 14) rfl)), (List.forall_mem_cons.mpr ⟨(mi_X2_merge_3 (List.mem_of_getElem? (i := 15) rfl)), (List.forall_mem_cons.mpr ⟨(mi_X2_merge_3 (List.mem_of_getElem? (i := 16) rfl)), (List.forall_mem_cons.mpr ⟨(mi_X2_merge_3 (List.mem_of_getElem? (i := 17) rfl)), (List.forall_mem_cons.mpr ⟨(mi_X2_merge_3 (List.mem_of_getElem? (i := 18) rfl)), (List.forall_mem_cons.mpr ⟨(mi_X2_merge_3 (List.mem_of_getElem? (i := 19) rfl)), (List.forall_mem_cons.mpr ⟨(mi_X2_merge_3 (List.mem_of_getElem? (i := 20) rfl)), (List.forall_mem_cons.mpr ⟨(mi_X2_merge_3 (List.mem_of_getElem? (i := 21) rfl)), (List.forall_mem_cons.mpr ⟨(mi_X2_merge_3 (List.mem_of_getElem? (i := 22) rfl)), (List.forall_mem_cons.mpr ⟨(mi_X2_merge_3 (List.mem_of_getElem? (i := 23) rfl)), (List.forall_mem_cons.mpr ⟨(mi_X2_merge_4 (List.mem_of_getElem? (i := 0) rfl)), (List.forall_mem_cons.mpr ⟨(mi_X2_merge_4 (List.mem_of_getElem? (i := 1) rfl)), (List.forall_mem_cons.mpr ⟨(mi_X2_merge_4 (List.mem_of_getElem? (i := 2) rfl)), (List.forall_mem_cons.mpr ⟨(mi_X2_merge_4 (List.mem_of_getElem? (i := 3) rfl)), (fun _ h => absurd h List.not_mem_nil)⟩)⟩)⟩)⟩)⟩)⟩)⟩)⟩)⟩)⟩)⟩)⟩)⟩)⟩)⟩)⟩)⟩)⟩)⟩)⟩)⟩)⟩)⟩)⟩)
set_option maxRecDepth 20000 in
theorem gi_X2_merge_X2_mergeAll_3 : ∀ w ∈ wsX2_mergeAll_r4, w ∈ wsX2_merge := by
  unfold wsX2_mergeAll_r4
  exact (List.forall_mem_cons.mpr ⟨(mi_X2_merge_4 (List.mem_of_getElem? (i := 4) rfl)), (List.forall_mem_cons.mpr ⟨(mi_X2_merge_4 (List.mem_of_getElem? (i := 5) rfl)), (List.forall_mem_cons.mpr ⟨(mi_X2_merge_4 (List.mem_of_getElem? (i := 6) rfl)), (List.forall_mem_cons.mpr ⟨(mi_X2_merge_4 (List.mem_of_getElem? (i := 7) rfl)), (List.forall_mem_cons.mpr ⟨(mi_X2_merge_4 (List.mem_of_getElem? (i := 8) rfl)), (List.forall_mem_cons.mpr ⟨(mi_X2_merge_4 (List.mem_of_getElem? (i := 9) rfl)), (List.forall_mem_cons.mpr ⟨(mi_X2_merge_4 (List.mem_of_getElem? (i := 10) rfl)), (List.forall_mem_cons.mpr ⟨(mi_X2_merge_4 (List.mem_of_getElem? (i := 11) rfl)), (List.forall_mem_cons.mpr ⟨(mi_X2_merge_4 (List.mem_of_getElem? (i := 12) rfl)), (List.forall_mem_cons.mpr ⟨(mi_X2_merge_4 (List.mem_of_getElem? (i := 13) rfl)), (List.forall_mem_cons.mpr ⟨(mi_X2_merge_4 (List.mem_of_getElem? (i := 14) rfl)), (List.forall_mem_cons.mpr ⟨(mi_X2_merge_4 (List.mem_of_getElem? (i := 15) rfl)), (List.forall_mem_cons.mpr ⟨(mi_X2_merge_4 (List.mem_of_getElem? (i := 16) rfl)), (List.forall_mem_cons.mpr ⟨(mi_X2_merge_4 (List.mem_of_getElem? (i := 17) rfl)), (List.forall_mem_cons.mpr ⟨(mi_X2_merge_4 (List.mem_of_getElem? (i := 18) rfl)), (List.forall_mem_cons.mpr ⟨(mi_X2_merge_4 (List.mem_of_getElem? (i := 19) rfl)), (List.forall_mem_cons.mpr ⟨(mi_X2_merge_4 (List.mem_of_getElem? (i := 20) rfl)), (List.forall_mem_cons.mpr ⟨(mi_X2_merge_4 (List.mem_of_getElem? (i := 21) rfl)), (List.forall_mem_cons.mpr ⟨(mi_X2_merge_4 (List.mem_of_getElem? (i := 22) rfl)), (List.forall_mem_cons.mpr ⟨(mi_X2_merge_4 (List.mem_of_getElem? (i := 23) rfl)), (List.forall_mem_cons.mpr ⟨(mi_X2_merge_5 (List.mem_of_getElem? (i := 0) rfl)), (List.forall_mem_cons.mpr ⟨(mi_X2_merge_5 (List.mem_of_getElem? (i := 1) rfl)), (List.forall_mem_cons.mpr ⟨(mi_X2_merge_5 (List.mem_of_getElem? (i := 2) rfl)), (List.forall_mem_cons.mpr ⟨(mi_X2_merge_5 (List.mem_of_getElem? (i := 3) rfl)), (fun _ h => absurd h List.not_mem_nil)⟩)⟩)⟩)⟩)⟩)⟩)⟩)⟩)⟩)⟩)⟩)⟩)⟩)⟩)⟩)⟩)⟩)⟩)⟩)⟩)⟩)⟩)⟩)⟩)
set_option maxRecDepth 20000 in
theorem gi_X2_merge_X2_mergeAll_4 : ∀ w ∈ wsX2_mergeAll_r5, w ∈ wsX2_merge := by
  unfold wsX2_mergeAll_r5
  exact (List.forall_mem_cons.mpr ⟨(mi_X2_merge_5 (List.mem_of_getElem? (i := 4) rfl)), (List.forall_mem_cons.mpr ⟨(mi_X2_merge_5 (List.mem_of_getElem? (i := 5) rfl)), (List.forall_mem_cons.mpr ⟨(mi_X2_merge_5 (List.mem_of_getElem? (i := 6) rfl)), (List.forall_mem_cons.mpr ⟨(mi_X2_merge_5 (List.mem_of_getElem? (i := 7) rfl)), (List.forall_mem_cons.mpr ⟨(mi_X2_merge_5 (List.mem_of_getElem? (i := 8) rfl)), (List.forall_mem_cons.mpr ⟨(mi_X2_merge_5 (List.mem_of_getElem? (i := 9) rfl)), (List.forall_mem_cons.mpr ⟨(mi_X2_merge_5 (List.mem_of_getElem? (i := 10) rfl)), (List.forall_mem_cons.mpr ⟨(mi_X2_merge_5 (List.mem_of_getElem? (i := 11) rfl)), (List.forall_mem_cons.mpr ⟨(mi_X2_merge_5 (List.mem_of_getElem? (i := 12) rfl)), (List.forall_mem_cons.mpr ⟨(mi_X2_merge_5 (List.mem_of_getElem? (i := 13) rfl)), (List.forall_mem_cons.mpr ⟨(mi_X2_merge_5 (List.mem_of_getElem? (i := 14) rfl)), (List.forall_mem_cons.mpr ⟨(mi_X2_merge_5 (List.mem_of_getElem? (i := 15) rfl)), (List.forall_mem_cons.mpr ⟨(mi_X2_merge_5 (List.mem_of_getElem? (i := 16) rfl)), (List.forall_mem_cons.mpr ⟨(mi_X2_merge_5 (List.mem_of_getElem? (i := 17) rfl)), (List.forall_mem_cons.mpr ⟨(mi_X2_merge_5 (List.mem_of_getElem? (i := 18) rfl)), (List.forall_mem_cons.mpr ⟨(mi_X2_merge_5 (List.mem_of_getElem? (i := 19) rfl)), (List.forall_mem_cons.mpr ⟨(mi_X2_merge_5 (List.mem_of_getElem? (i := 20) rfl)), (List.forall_mem_cons.mpr ⟨(mi_X2_merge_5 (List.mem_of_getElem? (i := 21) rfl)), (List.forall_mem_cons.mpr ⟨(mi_X2_merge_5 (List.mem_of_getElem? (i := 22) rfl)), (List.forall_mem_cons.mpr ⟨(mi_X2_merge_5 (List.mem_of_getElem? (i := 23) rfl)), (List.forall_mem_cons.mpr ⟨(mi_X2_merge_6 (List.mem_of_getElem? (i := 0) rfl)), (List.forall_mem_cons.mpr ⟨(mi_X2_merge_6 (List.mem_of_getElem? (i := 1) rfl)), (List.forall_mem_cons.mpr ⟨(mi_X2_merge_6 (List.mem_of_getElem? (i := 2) rfl)), (List.forall_mem_cons.mpr ⟨(mi_X2_merge_6 (List.mem_of_getElem? (i := 3) rfl)), (fun _ h => absurd h List.not_mem_nil)⟩)⟩)⟩)⟩)⟩)⟩)⟩)⟩)⟩)⟩)⟩)⟩)⟩)⟩)⟩)⟩)⟩)⟩)⟩)⟩)⟩)⟩)⟩)⟩)
set_option maxRecDepth 20000 in
theorem gi_X2_merge_X2_mergeAll_5 : ∀ w ∈ wsX2_mergeAll_r6, w ∈ wsX2_merge := by
  unfold wsX2_mergeAll_r6
  exact (List.forall_mem_cons.mpr ⟨(mi_X2_merge_6 (List.mem_of_getElem? (i := 4) rfl)), (fun _ h => absurd h List.not_mem_nil)⟩)
theorem gi_X2_merge_X2_mergeAll : GoodIn wsX2_merge (.code yX2_mergeAll cX2_mergeAll 2 none :: ((wsX2_mergeAll_r1 ++ (wsX2_mergeAll_r2 ++ (wsX2_mergeAll_r3 ++ (wsX2_mergeAll_r4 ++ (wsX2_mergeAll_r5 ++ wsX2_mergeAll_r6))))) ++ wsX20 ++ wsX00 ++ wsX10)) := goodIn_c (goodIn_sub (List.forall_mem_cons.mpr ⟨(mi_X2_merge_1 (List.mem_of_getElem? (i := 5) rfl)), fun _ h => absurd h List.not_mem_nil⟩) (by decide +kernel)) (goodIn_app (goodIn_app (goodIn_app (goodIn_app (goodIn_sub gi_X2_merge_X2_mergeAll_0 (by decide +kernel)) (goodIn_app (goodIn_sub gi_X2_merge_X2_mergeAll_1 (by decide +kernel)) (goodIn_app (goodIn_sub gi_X2_merge_X2_mergeAll_2 (by decide +kernel)) (goodIn_app (goodIn_sub gi_X2_merge_X2_mergeAll_3 (by decide +kernel)) (goodIn_app (goodIn_sub gi_X2_merge_X2_mergeAll_4 (by decide +kernel)) (goodIn_sub gi_X2_merge_X2_mergeAll_5 (by decide +kernel))))))) (goodIn_sub (fun _ h => (List.mem_cons_of_mem _ (List.mem_append_left _ (List.mem_append_left _ (List.mem_append_right _ h))))) (by decide +kernel))) (goodIn_sub (fun _ h => (List.mem_cons_of_mem _ (List.mem_append_left _ (List.mem_append_right _ h)))) (by decide +kernel))) (goodIn_sub (fun _ h => (List.mem_cons_of_mem _ (List.mem_append_right _ h))) (by decide +kernel)))
set_option maxRecDepth 20000 in
theorem ggX2_merge_X2_mergeAll : GoodIn wsX2_merge wsX2_mergeAll := gi_X2_merge_X2_mergeAll
set_option maxRecDepth 20000 in
theorem gX2_merge_X2_mergeAll : GoodIn wsX2_merge (wsV RX2 123 RX2 yX2_mergeAll wsX2_mergeAll) := goodIn_app (goodIn_of _ (by decide +kernel)) ggX2_merge_X2_mergeAll
set_option maxRecDepth 20000 in
theorem ggX2_merge_X0_length : GoodIn wsX2_merge wsX0_length := goodIn_r _ [22, 18, 141, 142] (by decide +kernel) (by decide +kernel)
set_option maxRecDepth 20000 in
theorem gX2_merge_X0_length : GoodIn wsX2_merge (wsV RX2 76 RX0 yX0_length wsX0_length) := goodIn_app (goodIn_of _ (by decide +kernel)) ggX2_merge_X0_length
theorem dX2_merge_0 : decode cX2_merge 0 = .ok (.aload_n 0, 1) := by decide +kernel
theorem dX2_merge_1 : decode cX2_merge 1 = .ok (.invokevirtual 123, 3) := by decide +kernel
theorem dX2_merge_4 : decode cX2_merge 4 = .ok (.aload_n 0, 1) := by decide +kernel
theorem dX2_merge_5 : decode cX2_merge 5 = .ok (.getfield 24, 3) := by decide +kernel
theorem dX2_merge_8 : decode cX2_merge 8 = .ok (.invokevirtual 76, 3) := by decide +kernel
theorem dX2_merge_11 : decode cX2_merge 11 = .ok (.ireturn, 1) := by decide +kernel
set_option maxRecDepth 20000 in
theorem ggX2_rebuild_X2_gatherAll : GoodIn wsX2_rebuild wsX2_gatherAll := goodIn_r _ [11, 5, 12, 13, 14, 15, 16, 17, 18, 19, 20, 21, 22, 23, 24, 25, 26, 10, 27, 28, 29, 30, 31, 32, 33, 34, 35, 36, 37, 38, 39, 40, 41, 99, 100, 101, 102, 103, 104, 105, 106, 107, 108, 109, 110, 111, 112, 113, 114, 115] (by decide +kernel) (by decide +kernel)
set_option maxRecDepth 20000 in
theorem gX2_rebuild_X2_gatherAll : GoodIn wsX2_rebuild (wsV RX2 128 RX2 yX2_gatherAll wsX2_gatherAll) := goodIn_app (goodIn_of _ (by decide +kernel)) ggX2_rebuild_X2_gatherAll
set_option maxRecDepth 20000 in
theorem ggX2_rebuild_X2_clearRow : GoodIn wsX2_rebuild wsX2_clearRow := goodIn_r _ [45, 12, 28, 46, 13, 14, 15, 16, 17, 18, 19, 47, 48, 49, 10, 50, 6, 51, 52, 99, 100, 101, 102, 103, 104, 105, 106, 107, 108, 109, 110, 111, 112, 113, 114, 115] (by decide +kernel) (by decide +kernel)
set_option maxRecDepth 20000 in
theorem gX2_rebuild_X2_clearRow : GoodIn wsX2_rebuild (wsV RX2 131 RX2 yX2_clearRow wsX2_clearRow) := goodIn_app (goodIn_of _ (by decide +kernel)) ggX2_rebuild_X2_clearRow
set_option maxRecDepth 20000 in
theorem ggX2_rebuild_X0_length : GoodIn wsX2_rebuild wsX0_length := goodIn_r _ [23, 19, 114, 115] (by decide +kernel) (by decide +kernel)
set_option maxRecDepth 20000 in
theorem gX2_rebuild_X0_length : GoodIn wsX2_rebuild (wsV RX2 76 RX0 yX0_length wsX0_length) := goodIn_app (goodIn_of _ (by decide +kernel)) ggX2_rebuild_X0_length
set_option maxRecDepth 20000 in
theorem ggX2_rebuild_X0_at : GoodIn wsX2_rebuild wsX0_at := goodIn_r _ [32, 33, 34, 35, 36, 17, 37, 19, 114, 115] (by decide +kernel) (by decide +kernel)
set_option maxRecDepth 20000 in
theorem gX2_rebuild_X0_at : GoodIn wsX2_rebuild (wsV RX2 134 RX0 yX0_at wsX0_at) := goodIn_app (goodIn_of _ (by decide +kernel)) ggX2_rebuild_X0_at
theorem mi_X2_rebuild_1 {w : Cond} (h : w ∈ wsX2_rebuild_r1) : w ∈ wsX2_rebuild := (List.mem_cons_of_mem _ (List.mem_append_left _ (List.mem_append_left _ (List.mem_append_left _ (List.mem_append_left _ (List.mem_append_left _ h))))))
theorem mi_X2_rebuild_2 {w : Cond} (h : w ∈ wsX2_rebuild_r2) : w ∈ wsX2_rebuild := (List.mem_cons_of_mem _ (List.mem_append_left _ (List.mem_append_left _ (List.mem_append_left _ (List.mem_append_left _ (List.mem_append_right _ (List.mem_append_left _ h)))))))
theorem mi_X2_rebuild_3 {w : Cond} (h : w ∈ wsX2_rebuild_r3) : w ∈ wsX2_rebuild := (List.mem_cons_of_mem _ (List.mem_append_left _ (List.mem_append_left _ (List.mem_append_left _ (List.mem_append_left _ (List.mem_append_right _ (List.mem_append_right _ (List.mem_append_left _ h))))))))
theorem mi_X2_rebuild_4 {w : Cond} (h : w ∈ wsX2_rebuild_r4) : w ∈ wsX2_rebuild := (List.mem_cons_of_mem _ (List.mem_append_left _ (List.mem_append_left _ (List.mem_append_left _ (List.mem_append_left _ (List.mem_append_right _ (List.mem_append_right _ (List.mem_append_right _ (List.mem_append_left _ h)))))))))
theorem mi_X2_rebuild_5 {w : Cond} (h : w ∈ wsX2_rebuild_r5) : w ∈ wsX2_rebuild := (List.mem_cons_of_mem _ (List.mem_append_left _ (List.mem_append_left _ (List.mem_append_left _ (List.mem_append_left _ (List.mem_append_right _ (List.mem_append_right _ (List.mem_append_right _ (List.mem_append_right _ h)))))))))
set_option maxRecDepth 20000 in
theorem gi_X2_rebuild_X2_addLast_0 : ∀ w ∈ wsX2_addLast_r1, w ∈ wsX2_rebuild := by
  unfold wsX2_addLast_r1
  exact (List.forall_mem_cons.mpr ⟨(mi_X2_rebuild_1 (List.mem_of_getElem? (i := 11) rfl)), (List.forall_mem_cons.mpr ⟨(mi_X2_rebuild_2 (List.mem_of_getElem? (i := 3) rfl)), (List.forall_mem_cons.mpr ⟨(mi_X2_rebuild_1 (List.mem_of_getElem? (i := 5) rfl)), (List.forall_mem_cons.mpr ⟨(mi_X2_rebuild_3 (List.mem_of_getElem? (i := 8) rfl)), (List.forall_mem_cons.mpr ⟨(mi_X2_rebuild_1 (List.mem_of_getElem? (i := 19) rfl)), (List.forall_mem_cons.mpr ⟨(mi_X2_rebuild_1 (List.mem_of_getElem? (i := 20) rfl)), (List.forall_mem_cons.mpr ⟨(mi_X2_rebuild_1 (List.mem_of_getElem? (i := 21) rfl)), (List.forall_mem_cons.mpr ⟨(mi_X2_rebuild_1 (List.mem_of_getElem? (i := 16) rfl)), (List.forall_mem_cons.mpr ⟨(mi_X2_rebuild_1 (List.mem_of_getElem? (i := 22) rfl)), (List.forall_mem_cons.mpr ⟨(mi_X2_rebuild_1 (List.mem_of_getElem? (i := 18) rfl)), (List.forall_mem_cons.mpr ⟨(mi_X2_rebuild_2 (List.mem_of_getElem? (i := 13) rfl)), (List.forall_mem_cons.mpr ⟨(mi_X2_rebuild_2 (List.mem_of_getElem? (i := 14) rfl)), (List.forall_mem_cons.mpr ⟨(mi_X2_rebuild_2 (List.mem_of_getElem? (i := 15) rfl)), (List.forall_mem_cons.mpr ⟨(mi_X2_rebuild_2 (List.mem_of_getElem? (i := 16) rfl)), (List.forall_mem_cons.mpr ⟨(mi_X2_rebuild_2 (List.mem_of_getElem? (i := 8) rfl)), (List.forall_mem_cons.mpr ⟨(mi_X2_rebuild_3 (List.mem_of_getElem? (i := 9) rfl)), (List.forall_mem_cons.mpr ⟨(mi_X2_rebuild_3 (List.mem_of_getElem? (i := 10) rfl)), (List.forall_mem_cons.mpr ⟨(mi_X2_rebuild_3 (List.mem_of_getElem? (i := 11) rfl)), (List.forall_mem_cons.mpr ⟨(mi_X2_rebuild_3 (List.mem_of_getElem? (i := 12) rfl)), (List.forall_mem_cons.mpr ⟨(mi_X2_rebuild_3 (List.mem_of_getElem? (i := 13) rfl)), (List.forall_mem_cons.mpr ⟨(mi_X2_rebuild_3 (List.mem_of_getElem? (i := 14) rfl)), (List.forall_mem_cons.mpr ⟨(mi_X2_rebuild_3 (List.mem_of_getElem? (i := 15) rfl)), (List.forall_mem_cons.mpr ⟨(mi_X2_rebuild_3 (List.mem_of_getElem? (i := 16) rfl)), (List.forall_mem_cons.mpr ⟨(mi_X2_rebuild_3 (List.mem_of_getElem? (i := 17) rfl)), (fun _ h => absurd h List.not_mem_nil)⟩)⟩)⟩)⟩)⟩)⟩)⟩)⟩)⟩)⟩)⟩)⟩)⟩)⟩)⟩)⟩)⟩)⟩)⟩)⟩)⟩)⟩)⟩)⟩)
set_option maxRecDepth 20000 in
theorem gi_X2_rebuild_X2_addLast_1 : ∀ w ∈ wsX2_addLast_r2, w ∈ wsX2_rebuild := by
  unfold wsX2_addLast_r2
  exact (List.forall_mem_cons.mpr ⟨(mi_X2_rebuild_3 (List.mem_of_getElem? (i := 18) rfl)), (List.forall_mem_cons.mpr ⟨(mi_X2_rebuild_3 (List.mem_of_getElem? (i := 19) rfl)), (List.forall_mem_cons.mpr ⟨(mi_X2_rebuild_3 (List.mem_of_getElem? (i := 20) rfl)), (List.forall_mem_cons.mpr ⟨(mi_X2_rebuild_3 (List.mem_of_getElem? (i := 21) rfl)), (List.forall_mem_cons.mpr ⟨(mi_X2_rebuild_3 (List.mem_of_getElem? (i := 22) rfl)), (List.forall_mem_cons.mpr ⟨(mi_X2_rebuild_3 (List.mem_of_getElem? (i := 23) rfl)), (List.forall_mem_cons.mpr ⟨(mi_X2_rebuild_4 (List.mem_of_getElem? (i := 0) rfl)), (List.forall_mem_cons.mpr ⟨(mi_X2_rebuild_1 (List.mem_of_getElem? (i := 9) rfl)), (List.forall_mem_cons.mpr ⟨(mi_X2_rebuild_4 (List.mem_of_getElem? (i := 1) rfl)), (List.forall_mem_cons.mpr ⟨(mi_X2_rebuild_3 (List.mem_of_getElem? (i := 2) rfl)), (List.forall_mem_cons.mpr ⟨(mi_X2_rebuild_3 (List.mem_of_getElem? (i := 3) rfl)), (List.forall_mem_cons.mpr ⟨(mi_X2_rebuild_4 (List.mem_of_getElem? (i := 2) rfl)), (List.forall_mem_cons.mpr ⟨(mi_X2_rebuild_4 (List.mem_of_getElem? (i := 3) rfl)), (List.forall_mem_cons.mpr ⟨(mi_X2_rebuild_4 (List.mem_of_getElem? (i := 4) rfl)), (List.forall_mem_cons.mpr ⟨(mi_X2_rebuild_4 (List.mem_of_getElem? (i := 5) rfl)), (List.forall_mem_cons.mpr ⟨(mi_X2_rebuild_4 (List.mem_of_getElem? (i := 6) rfl)), (List.forall_mem_cons.mpr ⟨(mi_X2_rebuild_4 (List.mem_of_getElem? (i := 7) rfl)), (List.forall_mem_cons.mpr ⟨(mi_X2_rebuild_4 (List.mem_of_getElem? (i := 8) rfl)), (List.forall_mem_cons.mpr ⟨(mi_X2_rebuild_4 (List.mem_of_getElem? (i := 9) rfl)), (List.forall_mem_cons.mpr ⟨(mi_X2_rebuild_4 (List.mem_of_getElem? (i := 10) rfl)), (List.forall_mem_cons.mpr ⟨(mi_X2_rebuild_4 (List.mem_of_getElem? (i := 11) rfl)), (List.forall_mem_cons.mpr ⟨(mi_X2_rebuild_4 (List.mem_of_getElem? (i := 12) rfl)), (List.forall_mem_cons.mpr ⟨(mi_X2_rebuild_4 (List.mem_of_getElem? (i := 13) rfl)), (List.forall_mem_cons.mpr ⟨(mi_X2_rebuild_2 (List.mem_of_getElem? (i := 9) rfl)), (fun _ h => absurd h List.not_mem_nil)⟩)⟩)⟩)⟩)⟩)⟩)⟩)⟩)⟩)⟩)⟩)⟩)⟩)⟩)⟩)⟩)⟩)⟩)⟩)⟩)⟩)⟩)⟩)⟩)
set_option maxRecDepth 20000 in
theorem gi_X2_rebuild_X2_addLast_2 : ∀ w ∈ wsX2_addLast_r3, w ∈ wsX2_rebuild := by
  unfold wsX2_addLast_r3
  exact (List.forall_mem_cons.mpr ⟨(mi_X2_rebuild_2 (List.mem_of_getElem? (i := 10) rfl)), (List.forall_mem_cons.mpr ⟨(mi_X2_rebuild_2 (List.mem_of_getElem? (i := 11) rfl)), (List.forall_mem_cons.mpr ⟨(mi_X2_rebuild_2 (List.mem_of_getElem? (i := 12) rfl)), (List.forall_mem_cons.mpr ⟨(mi_X2_rebuild_4 (List.mem_of_getElem? (i := 14) rfl)), (List.forall_mem_cons.mpr ⟨(mi_X2_rebuild_4 (List.mem_of_getElem? (i := 15) rfl)), (List.forall_mem_cons.mpr ⟨(mi_X2_rebuild_4 (List.mem_of_getElem? (i := 16) rfl)), (List.forall_mem_cons.mpr ⟨(mi_X2_rebuild_4 (List.mem_of_getElem? (i := 17) rfl)), (List.forall_mem_cons.mpr ⟨(mi_X2_rebuild_4 (List.mem_of_getElem? (i := 18) rfl)), (List.forall_mem_cons.mpr ⟨(mi_X2_rebuild_4 (List.mem_of_getElem? (i := 19) rfl)), (List.forall_mem_cons.mpr ⟨(mi_X2_rebuild_4 (List.mem_of_getElem? (i := 20) rfl)), (List.forall_mem_cons.mpr ⟨(mi_X2_rebuild_4 (List.mem_of_getElem? (i := 21) rfl)), (List.forall_mem_cons.mpr ⟨(mi_X2_rebuild_1 (List.mem_of_getElem? (i := 2) rfl)), (List.forall_mem_cons.mpr ⟨(mi_X2_rebuild_4 (List.mem_of_getElem? (i := 22) rfl)), (List.forall_mem_cons.mpr ⟨(mi_X2_rebuild_4 (List.mem_of_getElem? (i := 23) rfl)), (List.forall_mem_cons.mpr ⟨(mi_X2_rebuild_5 (List.mem_of_getElem? (i := 0) rfl)), (List.forall_mem_cons.mpr ⟨(mi_X2_rebuild_5 (List.mem_of_getElem? (i := 1) rfl)), (fun _ h => absurd h List.not_mem_nil)⟩)⟩)⟩)⟩)⟩)⟩)⟩)⟩)⟩)⟩)⟩)⟩)⟩)⟩)⟩)⟩)
theorem gi_X2_rebuild_X2_addLast : GoodIn wsX2_rebuild (.code yX2_addLast cX2_addLast 3 none :: ((wsX2_addLast_r1 ++ (wsX2_addLast_r2 ++ wsX2_addLast_r3)) ++ wsX20 ++ wsX00 ++ wsX10)) := goodIn_c (goodIn_sub (List.forall_mem_cons.mpr ⟨(mi_X2_rebuild_3 (List.mem_of_getElem? (i := 7) rfl)), fun _ h => absurd h List.not_mem_nil⟩) (by decide +kernel)) (goodIn_app (goodIn_app (goodIn_app (goodIn_app (goodIn_sub gi_X2_rebuild_X2_addLast_0 (by decide +kernel)) (goodIn_app (goodIn_sub gi_X2_rebuild_X2_addLast_1 (by decide +kernel)) (goodIn_sub gi_X2_rebuild_X2_addLast_2 (by decide +kernel)))) (goodIn_sub (fun _ h => (List.mem_cons_of_mem _ (List.mem_append_left _ (List.mem_append_left _ (List.mem_append_left _ (List.mem_append_right _ h)))))) (by decide +kernel))) (goodIn_sub (fun _ h => (List.mem_cons_of_mem _ (List.mem_append_left _ (List.mem_append_left _ (List.mem_append_right _ h))))) (by decide +kernel))) (goodIn_sub (fun _ h => (List.mem_cons_of_mem _ (List.mem_append_left _ (List.mem_append_right _ h)))) (by decide +kernel)))
set_option maxRecDepth 20000 in
theorem ggX2_rebuild_X2_addLast : GoodIn wsX2_rebuild wsX2_addLast := gi_X2_rebuild_X2_addLast
set_option maxRecDepth 20000 in
theorem gX2_rebuild_X2_addLast : GoodIn wsX2_rebuild (wsV RX2 73 RX2 yX2_addLast wsX2_addLast) := goodIn_app (goodIn_of _ (by decide +kernel)) ggX2_rebuild_X2_addLast
theorem dX2_rebuild_0 : decode cX2_rebuild 0 = .ok (.iload_n 1, 1) := by decide +kernel
theorem dX2_rebuild_1 : decode cX2_rebuild 1 = .ok (.ifCond .lt 20, 3) := by decide +kernel
theorem dX2_rebuild_4 : decode cX2_rebuild 4 = .ok (.iload_n 1, 1) := by decide +kernel
theorem dX2_rebuild_5 : decode cX2_rebuild 5 = .ok (.bipush 20, 2) := by decide +kernel
theorem dX2_rebuild_7 : decode cX2_rebuild 7 = .ok (.if_icmp .gt 14, 3) := by decide +kernel
theorem dX2_rebuild_10 : decode cX2_rebuild 10 = .ok (.iload_n 2, 1) := by decide +kernel
theorem dX2_rebuild_11 : decode cX2_rebuild 11 = .ok (.iconst 1, 1) := by decide +kernel
theorem dX2_rebuild_12 : decode cX2_rebuild 12 = .ok (.if_icmp .lt 9, 3) := by decide +kernel
theorem dX2_rebuild_15 : decode cX2_rebuild 15 = .ok (.iload_n 2, 1) := by decide +kernel
theorem dX2_rebuild_16 : decode cX2_rebuild 16 = .ok (.bipush 16, 2) := by decide +kernel
theorem dX2_rebuild_18 : decode cX2_rebuild 18 = .ok (.if_icmp .le 13, 3) := by decide +kernel
theorem dX2_rebuild_21 : decode cX2_rebuild 21 = .ok (.new 80, 3) := by decide +kernel
theorem dX2_rebuild_24 : decode cX2_rebuild 24 = .ok (.dup, 1) := by decide +kernel
